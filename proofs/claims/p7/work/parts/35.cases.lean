set_option maxHeartbeats 4000000 in
set_option maxRecDepth 100000 in
theorem law_offer {p : Program} {l : Launch} {e : Env} {s : State} {m : MethodId} {below : List Frame} {meth : Method} {c : Code} {dC : Nat → ClassId} {dI : Nat → Nat → Nat} {cI cJ : ClassId} {h : Nat → Nat} {A : Nat → Prop} {b L0 : Nat} {xs : Nat → Int32} (C0 : lw_At p s m meth c b L0 xs) (hl0 : l.stackTraces = false) (hX : xX2 A s) (hK : va_K (dC, dI) classes [(cI, FieldType.int), (cJ, FieldType.long)] s) (hA : ∀ q : Nat, s.heap.size ≤ q → A q) (hbA : ¬ A b) (hL : L0 ≤ 3584) {z : Prop} {i cells slots : Nat} (hi : i + 7 ≤ L0) (hc : cells + 1 ≤ 1049) (hs : slots + 6 ≤ 30266)  (kk : law_at p l e s m below meth c dC dI cI cJ h A False b i (cells + 1) (slots + 6) 498) : law_at p l e s m below meth c dC dI cI cJ h A z b i cells slots 84 := by
  obtain ⟨hx, hb, hr, hml, hown0, hts0, hXs, hbl, hlocks, hgv⟩ := C0
  have hown : s.vm.findClass RL = some m.cls := hown0
  have hts : ∀ w ∈ Cond.initialized RL :: AW, w.before #[Value.ref b] s = true := fun w hw => (List.mem_cons.mp hw).elim (fun e9 => by rw [e9]; exact hts0 _ (aw_tbl aw_0)) (fun h9 => hts0 _ (aw_tbl h9))
  intro B P E S L N B2 P2 E2 S2 L2 n ed f cd kn0 Fz H locs ls hJ hz hP hD hS hl
  obtain ⟨hn, hed, hN, hR, hMI, hPI⟩ := id hJ
  refine lv_aload_n hx hb dL_law_84 rfl (lv_at hl 1 rfl) ?_
  refine lv_aload_n hx hb dL_law_85 rfl (lv_at hl 0 rfl) ?_
  refine lv_iload hx hb dL_law_86 (lv_at hl 4 rfl) ?_
  refine lv_iconst (v := nI 1) hx hb dL_law_88 (by decide +kernel) ?_
  refine lv_iadd hx hb dL_law_89 ?_
  refine xh_topi (z := nI (i + 1)) (nI_add i 1) ?_
  refine xh_sld hx hb hXs hbl hbA hS (k := i + 1) (by omega) (by omega) dL_law_90 ?_
  refine lv_i2l (v := (xs (i + 1)).toInt64) hx hb dL_law_91 rfl ?_
  refine lv_bipush (v := nI 32) hx hb dL_law_92 (by decide +kernel) ?_
  refine lv_lshl (v := ((xs (i + 1)).toInt64) <<< ((nI 32).toInt64 &&& 63)) hx hb dL_law_94 rfl ?_
  refine lv_aload_n hx hb dL_law_95 rfl (lv_at hl 0 rfl) ?_
  refine lv_iload hx hb dL_law_96 (lv_at hl 4 rfl) ?_
  refine lv_iconst (v := nI 2) hx hb dL_law_98 (by decide +kernel) ?_
  refine lv_iadd hx hb dL_law_99 ?_
  refine xh_topi (z := nI (i + 2)) (nI_add i 2) ?_
  refine xh_sld hx hb hXs hbl hbA hS (k := i + 2) (by omega) (by omega) dL_law_100 ?_
  refine lv_i2l (v := (xs (i + 2)).toInt64) hx hb dL_law_101 rfl ?_
  refine lv_ldc2 (v := 4294967295) hx hb hown (hts (.constantLong RL 40 4294967295) (mm aw_398)) dL_law_102 ?_
  refine lv_land hx hb dL_law_105 ?_
  refine lv_lor hx hb dL_law_106 ?_
  refine lv_topl (fun pr epr => ?_)
  refine lv_aload_n hx hb dL_law_107 rfl (lv_at hl 0 rfl) ?_
  refine lv_iload hx hb dL_law_108 (lv_at hl 4 rfl) ?_
  refine lv_iconst (v := nI 3) hx hb dL_law_110 (by decide +kernel) ?_
  refine lv_iadd hx hb dL_law_111 ?_
  refine xh_topi (z := nI (i + 3)) (nI_add i 3) ?_
  refine xh_sld hx hb hXs hbl hbA hS (k := i + 3) (by omega) (by omega) dL_law_112 ?_
  refine lv_aload_n hx hb dL_law_113 rfl (lv_at hl 0 rfl) ?_
  refine lv_iload hx hb dL_law_114 (lv_at hl 4 rfl) ?_
  refine lv_iconst (v := nI 4) hx hb dL_law_116 (by decide +kernel) ?_
  refine lv_iadd hx hb dL_law_117 ?_
  refine xh_topi (z := nI (i + 4)) (nI_add i 4) ?_
  refine xh_sld hx hb hXs hbl hbA hS (k := i + 4) (by omega) (by omega) dL_law_118 ?_
  refine lv_aload_n hx hb dL_law_119 rfl (lv_at hl 0 rfl) ?_
  refine lv_iload hx hb dL_law_120 (lv_at hl 4 rfl) ?_
  refine lv_iconst (v := nI 5) hx hb dL_law_122 (by decide +kernel) ?_
  refine lv_iadd hx hb dL_law_123 ?_
  refine xh_topi (z := nI (i + 5)) (nI_add i 5) ?_
  refine xh_sld hx hb hXs hbl hbA hS (k := i + 5) (by omega) (by omega) dL_law_124 ?_
  refine lv_aload_n hx hb dL_law_125 rfl (lv_at hl 3 rfl) ?_
  refine xh_calli (wc := wOut cJ h f ++ wPB h ++ wLog cI cJ h B P E S L N (nI n) (nI ed) ++ wKn cI h kn0 Fz) (wr := wMo cI cJ h B2 P2 E2 S2 L2 cd (nI n) (nI ed)) (w1 := fun (u : (Int32 × (Option (Nat × (Nat → Int32)) × Int32 × (Nat → Int32))) ⊕ (Int32 × (Nat → Int32))) => (fun (u : (Int32 × (Option (Nat × (Nat → Int32)) × Int32 × (Nat → Int32))) ⊕ (Int32 × (Nat → Int32))) => match u with | .inl z => wOut cJ h (vp_updL f 0 z.1.toInt64) ++ (fun (u : Option (Nat × (Nat → Int32)) × Int32 × (Nat → Int32)) => match u.1 with | none => wPB h ++ wLog cI cJ h B P E S L N (nI n) (nI ed) ++ wKn cI h u.2.1 u.2.2 | some x => wPB h ++ wLog cI cJ h (upd B n (nI ed)) (vp_updL P n pr) (upd E n (xs (i + 3))) (upd S n (xs (i + 4))) (upd L n (nI x.1)) x.2 (nI (n + 1)) (nI (ed + (x.1 + 1))) ++ wKn cI h u.2.1 u.2.2) z.2 | .inr z => wOut cJ h f ++ (fun (u : Int32 × (Nat → Int32)) => wPB h ++ wLog cI cJ h B P E S L N (nI n) (nI ed) ++ wKn cI h u.1 u.2) z) u) hP hD hS hA [6, 7, 8, 9, 10, 11, 12, 13, 14, 15, 16] [0, 1, 2, 3, 4, 5] rfl rfl (by decide) (by decide) (vx_runSW (As := [.ref (h 0), .long pr, .int (xs (i + 3)), .int (xs (i + 4)), .int (xs (i + 5)), .ref (h 30)]) (rest := []) ⟨hx, hb, hml, hown, hts⟩ (w_offer l dC dI cI cJ h H.size B P E S L N n ed Fz kn0 pr (xs (i + 3)) (xs (i + 4)) (xs (i + 5)) f hl0 hn hed hN) (vx_cwSW 6 hts (aw_SW aw_102 aw_103 aw_0 aw_104) rfl rfl rfl (by decide +kernel) ⟨Nat.le_of_ble_eq_true rfl, Nat.le_of_ble_eq_true rfl⟩) (xh_preSX hK hX hS (va_free hD hS hA [6, 7, 8, 9, 10, 11, 12, 13, 14, 15, 16] rfl) (hP.sub (ws' := wOut cJ h f ++ wPB h ++ wLog cI cJ h B P E S L N (nI n) (nI ed) ++ wKn cI h kn0 Fz) [6, 7, 8, 9, 10, 11, 12, 13, 14, 15, 16] rfl) (hD.sub (ws' := wOut cJ h f ++ wPB h ++ wLog cI cJ h B P E S L N (nI n) (nI ed) ++ wKn cI h kn0 Fz) [6, 7, 8, 9, 10, 11, 12, 13, 14, 15, 16] (by decide) rfl)) rfl rfl hl.1 rfl (lv_room (Nat.le_of_ble_eq_true rfl)) dL_law_126 ⟨hc, hs⟩) (fun k5 u H locs hw hP hD hS => ?_)
  have hans := pb_R_ans hR pr (xs (i + 3)) (xs (i + 4)) (xs (i + 5))
  rcases u with ⟨r9, o9, kn1, F1⟩ | ⟨kn1, F1⟩
  · obtain ⟨e5, hleg, hw⟩ := hw
    subst e5
    rcases o9 with _ | ⟨a, N3⟩
    · obtain ⟨h1, h2⟩ := hw
      have hP := hP.sub (ws' := wMo cI cJ h B2 P2 E2 S2 L2 cd (nI n) (nI ed) ++ wOut cJ h (vp_updL f 0 r9.toInt64) ++ wPB h ++ wLog cI cJ h B P E S L N (nI n) (nI ed) ++ wKn cI h kn1 F1) [0, 1, 2, 3, 4, 5, 6, 7, 8, 9, 10, 11, 12, 13, 14, 15, 16] rfl
      have hD := hD.sub (ws' := wMo cI cJ h B2 P2 E2 S2 L2 cd (nI n) (nI ed) ++ wOut cJ h (vp_updL f 0 r9.toInt64) ++ wPB h ++ wLog cI cJ h B P E S L N (nI n) (nI ed) ++ wKn cI h kn1 F1) [0, 1, 2, 3, 4, 5, 6, 7, 8, 9, 10, 11, 12, 13, 14, 15, 16] (by decide) rfl
      refine lv_istore (lv' := [(5, .int (nI 0)), (0, .ref b), (1, .ref (h 0)), (2, .ref (h 20)), (3, .ref (h 30)), (4, .int (nI i))]) hx hb dL_law_129 hl (by decide) rfl (fun ls hl => ?_)
      refine lv_aload_n hx hb dL_law_131 rfl (lv_at hl 3 rfl) ?_
      refine lv_aload_n hx hb dL_law_132 rfl (lv_at hl 1 rfl) ?_
      refine lv_iload hx hb dL_law_133 (lv_at hl 5 rfl) ?_
      refine lv_iconst (v := nI 1) hx hb dL_law_135 (by decide +kernel) ?_
      refine lv_iadd hx hb dL_law_136 ?_
      refine xh_topi (z := nI (i + 1)) (nI_add i 1) ?_
      refine xh_sld hx hb hXs hbl hbA hS (k := i + 1) (by omega) (by omega) dL_law_137 ?_
      refine lv_i2l (v := (xs (i + 1)).toInt64) hx hb dL_law_138 rfl ?_
      refine lv_bipush (v := nI 32) hx hb dL_law_139 (by decide +kernel) ?_
      refine lv_lshl (v := ((xs (i + 1)).toInt64) <<< ((nI 32).toInt64 &&& 63)) hx hb dL_law_141 rfl ?_
      refine lv_aload_n hx hb dL_law_142 rfl (lv_at hl 1 rfl) ?_
      refine lv_iload hx hb dL_law_143 (lv_at hl 5 rfl) ?_
      refine lv_iconst (v := nI 2) hx hb dL_law_145 (by decide +kernel) ?_
      refine lv_iadd hx hb dL_law_146 ?_
      refine xh_topi (z := nI (i + 2)) (nI_add i 2) ?_
      refine xh_sld hx hb hXs hbl hbA hS (k := i + 2) (by omega) (by omega) dL_law_147 ?_
      refine lv_i2l (v := (xs (i + 2)).toInt64) hx hb dL_law_148 rfl ?_
      refine lv_ldc2 (v := 4294967295) hx hb hown (hts (.constantLong RL 40 4294967295) (mm aw_398)) dL_law_149 ?_
      refine lv_land hx hb dL_law_152 ?_
      refine lv_lor hx hb dL_law_153 ?_
      refine xh_topl (z := pr) (epr.symm) ?_
      refine lv_aload_n hx hb dL_law_154 rfl (lv_at hl 1 rfl) ?_
      refine lv_iload hx hb dL_law_155 (lv_at hl 5 rfl) ?_
      refine lv_iconst (v := nI 3) hx hb dL_law_157 (by decide +kernel) ?_
      refine lv_iadd hx hb dL_law_158 ?_
      refine xh_topi (z := nI (i + 3)) (nI_add i 3) ?_
      refine xh_sld hx hb hXs hbl hbA hS (k := i + 3) (by omega) (by omega) dL_law_159 ?_
      refine lv_aload_n hx hb dL_law_160 rfl (lv_at hl 1 rfl) ?_
      refine lv_iload hx hb dL_law_161 (lv_at hl 5 rfl) ?_
      refine lv_iconst (v := nI 4) hx hb dL_law_163 (by decide +kernel) ?_
      refine lv_iadd hx hb dL_law_164 ?_
      refine xh_topi (z := nI (i + 4)) (nI_add i 4) ?_
      refine xh_sld hx hb hXs hbl hbA hS (k := i + 4) (by omega) (by omega) dL_law_165 ?_
      refine lv_aload_n hx hb dL_law_166 rfl (lv_at hl 1 rfl) ?_
      refine lv_iload hx hb dL_law_167 (lv_at hl 5 rfl) ?_
      refine lv_iconst (v := nI 5) hx hb dL_law_169 (by decide +kernel) ?_
      refine lv_iadd hx hb dL_law_170 ?_
      refine xh_topi (z := nI (i + 5)) (nI_add i 5) ?_
      refine xh_sld hx hb hXs hbl hbA hS (k := i + 5) (by omega) (by omega) dL_law_171 ?_
      refine xh_calli (wc := wMo cI cJ h B2 P2 E2 S2 L2 cd (nI n) (nI ed)) (wr := wOut cJ h (vp_updL f 0 r9.toInt64) ++ wPB h ++ wLog cI cJ h B P E S L N (nI n) (nI ed) ++ wKn cI h kn1 F1) (w1 := fun (u : Int32 × Option Nat) => (fun (u : Int32 × Option Nat) => match u.2 with | none => wMo cI cJ h B2 P2 E2 S2 L2 u.1 (nI n) (nI ed) | some a => wMo cI cJ h (upd B2 n (nI ed)) (vp_updL P2 n pr) (upd E2 n (xs (i + 3))) (upd S2 n (xs (i + 4))) (upd L2 n (nI a)) u.1 (nI (n + 1)) (nI (ed + (a + 1)))) u) hP hD hS hA [0, 1, 2, 3, 4, 5] [6, 7, 8, 9, 10, 11, 12, 13, 14, 15, 16] rfl rfl (by decide) (by decide) (va_runV (As := [.long pr, .int (xs (i + 3)), .int (xs (i + 4)), .int (xs (i + 5))]) (rest := []) ⟨hx, hb, hml, hown, hts⟩ (m_offer l dC dI cI cJ h H.size B2 P2 E2 S2 L2 cd n ed pr (xs (i + 3)) (xs (i + 4)) (xs (i + 5)) hn hMI hed) (cwV 4 hts (aw_V aw_337 aw_338 aw_339 aw_4 aw_340) rfl rfl rfl (by decide +kernel) ⟨Nat.le_of_ble_eq_true rfl, Nat.le_of_ble_eq_true rfl⟩) (xh_preV (r0 := 0) hK (hP.sub (ws' := wMo cI cJ h B2 P2 E2 S2 L2 cd (nI n) (nI ed)) [0, 1, 2, 3, 4, 5] rfl) (hD.sub (ws' := wMo cI cJ h B2 P2 E2 S2 L2 cd (nI n) (nI ed)) [0, 1, 2, 3, 4, 5] (by decide) rfl) rfl rfl rfl) rfl rfl hl.1 rfl (lv_room (Nat.le_of_ble_eq_true rfl)) dL_law_172 ⟨hc, hs⟩) (fun r8 u H locs hm hP hD hS => ?_)
      obtain ⟨cd1, o8⟩ := u
      rcases o8 with _ | a8
      · rcases hm with ⟨g1, g2⟩ | ⟨g1, g2, g3, g4⟩ | ⟨g1, g2, g3, a8, g4, g5, g6⟩
        · exact absurd hleg g1
        · subst g3
          have hP := hP.sub (ws' := wMo cI cJ h B2 P2 E2 S2 L2 (nI 0) (nI n) (nI ed) ++ wOut cJ h (vp_updL f 0 r9.toInt64) ++ wPB h ++ wLog cI cJ h B P E S L N (nI n) (nI ed) ++ wKn cI h kn1 F1) [11, 12, 13, 14, 15, 16, 0, 1, 2, 3, 4, 5, 6, 7, 8, 9, 10] rfl
          have hD := hD.sub (ws' := wMo cI cJ h B2 P2 E2 S2 L2 (nI 0) (nI n) (nI ed) ++ wOut cJ h (vp_updL f 0 r9.toInt64) ++ wPB h ++ wLog cI cJ h B P E S L N (nI n) (nI ed) ++ wKn cI h kn1 F1) [11, 12, 13, 14, 15, 16, 0, 1, 2, 3, 4, 5, 6, 7, 8, 9, 10] (by decide) rfl
          have eqr : r9 = r8 := h2.trans (hans.trans g4.symm)
          have hJ2 := hJ
          refine lv_istore (lv' := [(6, .int r8), (5, .int (nI 0)), (0, .ref b), (1, .ref (h 0)), (2, .ref (h 20)), (3, .ref (h 30)), (4, .int (nI i))]) hx hb dL_law_175 hl (by decide) rfl (fun ls hl => ?_)
          refine lv_goto (tgt := 498) hx hb dL_law_177 (by decide) ?_
          exact kk _ _ _ _ _ _ _ _ _ _ _ _ _ _ _ _ _ _ _ _ hJ2 False.elim hP hD hS (lv_sub hl [2, 3, 4, 5, 6] rfl)
        · exact absurd (hans.trans g2) h1
      · obtain ⟨g1, g2, g3, g4, g5, g6, g7⟩ := hm
        exact absurd (hans.trans g2) h1
    · obtain ⟨h1, ela, ha, hroom, h2, hN3⟩ := hw
      have hP := hP.sub (ws' := wMo cI cJ h B2 P2 E2 S2 L2 cd (nI n) (nI ed) ++ wOut cJ h (vp_updL f 0 r9.toInt64) ++ wPB h ++ wLog cI cJ h (upd B n (nI ed)) (vp_updL P n pr) (upd E n (xs (i + 3))) (upd S n (xs (i + 4))) (upd L n (nI a)) N3 (nI (n + 1)) (nI (ed + (a + 1))) ++ wKn cI h kn1 F1) [0, 1, 2, 3, 4, 5, 6, 7, 8, 9, 10, 11, 12, 13, 14, 15, 16] rfl
      have hD := hD.sub (ws' := wMo cI cJ h B2 P2 E2 S2 L2 cd (nI n) (nI ed) ++ wOut cJ h (vp_updL f 0 r9.toInt64) ++ wPB h ++ wLog cI cJ h (upd B n (nI ed)) (vp_updL P n pr) (upd E n (xs (i + 3))) (upd S n (xs (i + 4))) (upd L n (nI a)) N3 (nI (n + 1)) (nI (ed + (a + 1))) ++ wKn cI h kn1 F1) [0, 1, 2, 3, 4, 5, 6, 7, 8, 9, 10, 11, 12, 13, 14, 15, 16] (by decide) rfl
      refine lv_istore (lv' := [(5, .int (nI 0)), (0, .ref b), (1, .ref (h 0)), (2, .ref (h 20)), (3, .ref (h 30)), (4, .int (nI i))]) hx hb dL_law_129 hl (by decide) rfl (fun ls hl => ?_)
      refine lv_aload_n hx hb dL_law_131 rfl (lv_at hl 3 rfl) ?_
      refine lv_aload_n hx hb dL_law_132 rfl (lv_at hl 1 rfl) ?_
      refine lv_iload hx hb dL_law_133 (lv_at hl 5 rfl) ?_
      refine lv_iconst (v := nI 1) hx hb dL_law_135 (by decide +kernel) ?_
      refine lv_iadd hx hb dL_law_136 ?_
      refine xh_topi (z := nI (i + 1)) (nI_add i 1) ?_
      refine xh_sld hx hb hXs hbl hbA hS (k := i + 1) (by omega) (by omega) dL_law_137 ?_
      refine lv_i2l (v := (xs (i + 1)).toInt64) hx hb dL_law_138 rfl ?_
      refine lv_bipush (v := nI 32) hx hb dL_law_139 (by decide +kernel) ?_
      refine lv_lshl (v := ((xs (i + 1)).toInt64) <<< ((nI 32).toInt64 &&& 63)) hx hb dL_law_141 rfl ?_
      refine lv_aload_n hx hb dL_law_142 rfl (lv_at hl 1 rfl) ?_
      refine lv_iload hx hb dL_law_143 (lv_at hl 5 rfl) ?_
      refine lv_iconst (v := nI 2) hx hb dL_law_145 (by decide +kernel) ?_
      refine lv_iadd hx hb dL_law_146 ?_
      refine xh_topi (z := nI (i + 2)) (nI_add i 2) ?_
      refine xh_sld hx hb hXs hbl hbA hS (k := i + 2) (by omega) (by omega) dL_law_147 ?_
      refine lv_i2l (v := (xs (i + 2)).toInt64) hx hb dL_law_148 rfl ?_
      refine lv_ldc2 (v := 4294967295) hx hb hown (hts (.constantLong RL 40 4294967295) (mm aw_398)) dL_law_149 ?_
      refine lv_land hx hb dL_law_152 ?_
      refine lv_lor hx hb dL_law_153 ?_
      refine xh_topl (z := pr) (epr.symm) ?_
      refine lv_aload_n hx hb dL_law_154 rfl (lv_at hl 1 rfl) ?_
      refine lv_iload hx hb dL_law_155 (lv_at hl 5 rfl) ?_
      refine lv_iconst (v := nI 3) hx hb dL_law_157 (by decide +kernel) ?_
      refine lv_iadd hx hb dL_law_158 ?_
      refine xh_topi (z := nI (i + 3)) (nI_add i 3) ?_
      refine xh_sld hx hb hXs hbl hbA hS (k := i + 3) (by omega) (by omega) dL_law_159 ?_
      refine lv_aload_n hx hb dL_law_160 rfl (lv_at hl 1 rfl) ?_
      refine lv_iload hx hb dL_law_161 (lv_at hl 5 rfl) ?_
      refine lv_iconst (v := nI 4) hx hb dL_law_163 (by decide +kernel) ?_
      refine lv_iadd hx hb dL_law_164 ?_
      refine xh_topi (z := nI (i + 4)) (nI_add i 4) ?_
      refine xh_sld hx hb hXs hbl hbA hS (k := i + 4) (by omega) (by omega) dL_law_165 ?_
      refine lv_aload_n hx hb dL_law_166 rfl (lv_at hl 1 rfl) ?_
      refine lv_iload hx hb dL_law_167 (lv_at hl 5 rfl) ?_
      refine lv_iconst (v := nI 5) hx hb dL_law_169 (by decide +kernel) ?_
      refine lv_iadd hx hb dL_law_170 ?_
      refine xh_topi (z := nI (i + 5)) (nI_add i 5) ?_
      refine xh_sld hx hb hXs hbl hbA hS (k := i + 5) (by omega) (by omega) dL_law_171 ?_
      refine xh_calli (wc := wMo cI cJ h B2 P2 E2 S2 L2 cd (nI n) (nI ed)) (wr := wOut cJ h (vp_updL f 0 r9.toInt64) ++ wPB h ++ wLog cI cJ h (upd B n (nI ed)) (vp_updL P n pr) (upd E n (xs (i + 3))) (upd S n (xs (i + 4))) (upd L n (nI a)) N3 (nI (n + 1)) (nI (ed + (a + 1))) ++ wKn cI h kn1 F1) (w1 := fun (u : Int32 × Option Nat) => (fun (u : Int32 × Option Nat) => match u.2 with | none => wMo cI cJ h B2 P2 E2 S2 L2 u.1 (nI n) (nI ed) | some a => wMo cI cJ h (upd B2 n (nI ed)) (vp_updL P2 n pr) (upd E2 n (xs (i + 3))) (upd S2 n (xs (i + 4))) (upd L2 n (nI a)) u.1 (nI (n + 1)) (nI (ed + (a + 1)))) u) hP hD hS hA [0, 1, 2, 3, 4, 5] [6, 7, 8, 9, 10, 11, 12, 13, 14, 15, 16] rfl rfl (by decide) (by decide) (va_runV (As := [.long pr, .int (xs (i + 3)), .int (xs (i + 4)), .int (xs (i + 5))]) (rest := []) ⟨hx, hb, hml, hown, hts⟩ (m_offer l dC dI cI cJ h H.size B2 P2 E2 S2 L2 cd n ed pr (xs (i + 3)) (xs (i + 4)) (xs (i + 5)) hn hMI hed) (cwV 4 hts (aw_V aw_337 aw_338 aw_339 aw_4 aw_340) rfl rfl rfl (by decide +kernel) ⟨Nat.le_of_ble_eq_true rfl, Nat.le_of_ble_eq_true rfl⟩) (xh_preV (r0 := 0) hK (hP.sub (ws' := wMo cI cJ h B2 P2 E2 S2 L2 cd (nI n) (nI ed)) [0, 1, 2, 3, 4, 5] rfl) (hD.sub (ws' := wMo cI cJ h B2 P2 E2 S2 L2 cd (nI n) (nI ed)) [0, 1, 2, 3, 4, 5] (by decide) rfl) rfl rfl rfl) rfl rfl hl.1 rfl (lv_room (Nat.le_of_ble_eq_true rfl)) dL_law_172 ⟨hc, hs⟩) (fun r8 u H locs hm hP hD hS => ?_)
      obtain ⟨cd1, o8⟩ := u
      rcases o8 with _ | a8
      · rcases hm with ⟨g1, g2⟩ | ⟨g1, g2, g3, g4⟩ | ⟨g1, g2, g3, a8, g4, g5, g6⟩
        · exact absurd hleg g1
        · exact absurd (hans.symm.trans h1) g2
        · exact absurd (by rw [pb_nIi ha g5 ela g4]; exact hroom) g6
      · obtain ⟨g1, g2, g3, g4, g5, g6, g7⟩ := hm
        obtain rfl := pb_nIi ha g4 ela g3
        subst g6
        have hP := hP.sub (ws' := wMo cI cJ h (upd B2 n (nI ed)) (vp_updL P2 n pr) (upd E2 n (xs (i + 3))) (upd S2 n (xs (i + 4))) (upd L2 n (nI a8)) (nI 0) (nI (n + 1)) (nI (ed + (a8 + 1))) ++ wOut cJ h (vp_updL f 0 r9.toInt64) ++ wPB h ++ wLog cI cJ h (upd B n (nI ed)) (vp_updL P n pr) (upd E n (xs (i + 3))) (upd S n (xs (i + 4))) (upd L n (nI a8)) N3 (nI (n + 1)) (nI (ed + (a8 + 1))) ++ wKn cI h kn1 F1) [11, 12, 13, 14, 15, 16, 0, 1, 2, 3, 4, 5, 6, 7, 8, 9, 10] rfl
        have hD := hD.sub (ws' := wMo cI cJ h (upd B2 n (nI ed)) (vp_updL P2 n pr) (upd E2 n (xs (i + 3))) (upd S2 n (xs (i + 4))) (upd L2 n (nI a8)) (nI 0) (nI (n + 1)) (nI (ed + (a8 + 1))) ++ wOut cJ h (vp_updL f 0 r9.toInt64) ++ wPB h ++ wLog cI cJ h (upd B n (nI ed)) (vp_updL P n pr) (upd E n (xs (i + 3))) (upd S n (xs (i + 4))) (upd L n (nI a8)) N3 (nI (n + 1)) (nI (ed + (a8 + 1))) ++ wKn cI h kn1 F1) [11, 12, 13, 14, 15, 16, 0, 1, 2, 3, 4, 5, 6, 7, 8, 9, 10] (by decide) rfl
        have eqr : r9 = r8 := h2.trans g7.symm
        have hJ2 := pb_J_y hJ (ela ▸ hleg) ha hroom hN3
        refine lv_istore (lv' := [(6, .int r8), (5, .int (nI 0)), (0, .ref b), (1, .ref (h 0)), (2, .ref (h 20)), (3, .ref (h 30)), (4, .int (nI i))]) hx hb dL_law_175 hl (by decide) rfl (fun ls hl => ?_)
        refine lv_goto (tgt := 498) hx hb dL_law_177 (by decide) ?_
        exact kk _ _ _ _ _ _ _ _ _ _ _ _ _ _ _ _ _ _ _ _ hJ2 False.elim hP hD hS (lv_sub hl [2, 3, 4, 5, 6] rfl)
  · have hw9 := hw
    rcases hw with ⟨e5, ⟨_, hnl⟩ | ⟨e6, _⟩⟩ | ⟨e5, ⟨e6, _⟩ | ⟨_, hleg, h1, a9, ela9, ha9, hnr⟩⟩
    · subst e5
      have hP := hP.sub (ws' := wMo cI cJ h B2 P2 E2 S2 L2 cd (nI n) (nI ed) ++ wOut cJ h f ++ wPB h ++ wLog cI cJ h B P E S L N (nI n) (nI ed) ++ wKn cI h kn1 F1) [0, 1, 2, 3, 4, 5, 6, 7, 8, 9, 10, 11, 12, 13, 14, 15, 16] rfl
      have hD := hD.sub (ws' := wMo cI cJ h B2 P2 E2 S2 L2 cd (nI n) (nI ed) ++ wOut cJ h f ++ wPB h ++ wLog cI cJ h B P E S L N (nI n) (nI ed) ++ wKn cI h kn1 F1) [0, 1, 2, 3, 4, 5, 6, 7, 8, 9, 10, 11, 12, 13, 14, 15, 16] (by decide) rfl
      refine lv_istore (lv' := [(5, .int (nI 1)), (0, .ref b), (1, .ref (h 0)), (2, .ref (h 20)), (3, .ref (h 30)), (4, .int (nI i))]) hx hb dL_law_129 hl (by decide) rfl (fun ls hl => ?_)
      refine lv_aload_n hx hb dL_law_131 rfl (lv_at hl 3 rfl) ?_
      refine lv_aload_n hx hb dL_law_132 rfl (lv_at hl 1 rfl) ?_
      refine lv_iload hx hb dL_law_133 (lv_at hl 5 rfl) ?_
      refine lv_iconst (v := nI 1) hx hb dL_law_135 (by decide +kernel) ?_
      refine lv_iadd hx hb dL_law_136 ?_
      refine xh_topi (z := nI (i + 1)) (nI_add i 1) ?_
      refine xh_sld hx hb hXs hbl hbA hS (k := i + 1) (by omega) (by omega) dL_law_137 ?_
      refine lv_i2l (v := (xs (i + 1)).toInt64) hx hb dL_law_138 rfl ?_
      refine lv_bipush (v := nI 32) hx hb dL_law_139 (by decide +kernel) ?_
      refine lv_lshl (v := ((xs (i + 1)).toInt64) <<< ((nI 32).toInt64 &&& 63)) hx hb dL_law_141 rfl ?_
      refine lv_aload_n hx hb dL_law_142 rfl (lv_at hl 1 rfl) ?_
      refine lv_iload hx hb dL_law_143 (lv_at hl 5 rfl) ?_
      refine lv_iconst (v := nI 2) hx hb dL_law_145 (by decide +kernel) ?_
      refine lv_iadd hx hb dL_law_146 ?_
      refine xh_topi (z := nI (i + 2)) (nI_add i 2) ?_
      refine xh_sld hx hb hXs hbl hbA hS (k := i + 2) (by omega) (by omega) dL_law_147 ?_
      refine lv_i2l (v := (xs (i + 2)).toInt64) hx hb dL_law_148 rfl ?_
      refine lv_ldc2 (v := 4294967295) hx hb hown (hts (.constantLong RL 40 4294967295) (mm aw_398)) dL_law_149 ?_
      refine lv_land hx hb dL_law_152 ?_
      refine lv_lor hx hb dL_law_153 ?_
      refine xh_topl (z := pr) (epr.symm) ?_
      refine lv_aload_n hx hb dL_law_154 rfl (lv_at hl 1 rfl) ?_
      refine lv_iload hx hb dL_law_155 (lv_at hl 5 rfl) ?_
      refine lv_iconst (v := nI 3) hx hb dL_law_157 (by decide +kernel) ?_
      refine lv_iadd hx hb dL_law_158 ?_
      refine xh_topi (z := nI (i + 3)) (nI_add i 3) ?_
      refine xh_sld hx hb hXs hbl hbA hS (k := i + 3) (by omega) (by omega) dL_law_159 ?_
      refine lv_aload_n hx hb dL_law_160 rfl (lv_at hl 1 rfl) ?_
      refine lv_iload hx hb dL_law_161 (lv_at hl 5 rfl) ?_
      refine lv_iconst (v := nI 4) hx hb dL_law_163 (by decide +kernel) ?_
      refine lv_iadd hx hb dL_law_164 ?_
      refine xh_topi (z := nI (i + 4)) (nI_add i 4) ?_
      refine xh_sld hx hb hXs hbl hbA hS (k := i + 4) (by omega) (by omega) dL_law_165 ?_
      refine lv_aload_n hx hb dL_law_166 rfl (lv_at hl 1 rfl) ?_
      refine lv_iload hx hb dL_law_167 (lv_at hl 5 rfl) ?_
      refine lv_iconst (v := nI 5) hx hb dL_law_169 (by decide +kernel) ?_
      refine lv_iadd hx hb dL_law_170 ?_
      refine xh_topi (z := nI (i + 5)) (nI_add i 5) ?_
      refine xh_sld hx hb hXs hbl hbA hS (k := i + 5) (by omega) (by omega) dL_law_171 ?_
      refine xh_calli (wc := wMo cI cJ h B2 P2 E2 S2 L2 cd (nI n) (nI ed)) (wr := wOut cJ h f ++ wPB h ++ wLog cI cJ h B P E S L N (nI n) (nI ed) ++ wKn cI h kn1 F1) (w1 := fun (u : Int32 × Option Nat) => (fun (u : Int32 × Option Nat) => match u.2 with | none => wMo cI cJ h B2 P2 E2 S2 L2 u.1 (nI n) (nI ed) | some a => wMo cI cJ h (upd B2 n (nI ed)) (vp_updL P2 n pr) (upd E2 n (xs (i + 3))) (upd S2 n (xs (i + 4))) (upd L2 n (nI a)) u.1 (nI (n + 1)) (nI (ed + (a + 1)))) u) hP hD hS hA [0, 1, 2, 3, 4, 5] [6, 7, 8, 9, 10, 11, 12, 13, 14, 15, 16] rfl rfl (by decide) (by decide) (va_runV (As := [.long pr, .int (xs (i + 3)), .int (xs (i + 4)), .int (xs (i + 5))]) (rest := []) ⟨hx, hb, hml, hown, hts⟩ (m_offer l dC dI cI cJ h H.size B2 P2 E2 S2 L2 cd n ed pr (xs (i + 3)) (xs (i + 4)) (xs (i + 5)) hn hMI hed) (cwV 4 hts (aw_V aw_337 aw_338 aw_339 aw_4 aw_340) rfl rfl rfl (by decide +kernel) ⟨Nat.le_of_ble_eq_true rfl, Nat.le_of_ble_eq_true rfl⟩) (xh_preV (r0 := 0) hK (hP.sub (ws' := wMo cI cJ h B2 P2 E2 S2 L2 cd (nI n) (nI ed)) [0, 1, 2, 3, 4, 5] rfl) (hD.sub (ws' := wMo cI cJ h B2 P2 E2 S2 L2 cd (nI n) (nI ed)) [0, 1, 2, 3, 4, 5] (by decide) rfl) rfl rfl rfl) rfl rfl hl.1 rfl (lv_room (Nat.le_of_ble_eq_true rfl)) dL_law_172 ⟨hc, hs⟩) (fun r8 u H locs hm hP hD hS => ?_)
      obtain ⟨cd1, o8⟩ := u
      rcases o8 with _ | a8
      · rcases hm with ⟨g1, g2⟩ | ⟨g1, g2, g3, g4⟩ | ⟨g1, g2, g3, a8, g4, g5, g6⟩
        · subst g2
          have hP := hP.sub (ws' := wMo cI cJ h B2 P2 E2 S2 L2 (nI 1) (nI n) (nI ed) ++ wOut cJ h f ++ wPB h ++ wLog cI cJ h B P E S L N (nI n) (nI ed) ++ wKn cI h kn1 F1) [11, 12, 13, 14, 15, 16, 0, 1, 2, 3, 4, 5, 6, 7, 8, 9, 10] rfl
          have hD := hD.sub (ws' := wMo cI cJ h B2 P2 E2 S2 L2 (nI 1) (nI n) (nI ed) ++ wOut cJ h f ++ wPB h ++ wLog cI cJ h B P E S L N (nI n) (nI ed) ++ wKn cI h kn1 F1) [11, 12, 13, 14, 15, 16, 0, 1, 2, 3, 4, 5, 6, 7, 8, 9, 10] (by decide) rfl
          have hJ2 := hJ
          refine lv_istore (lv' := [(6, .int r8), (5, .int (nI 1)), (0, .ref b), (1, .ref (h 0)), (2, .ref (h 20)), (3, .ref (h 30)), (4, .int (nI i))]) hx hb dL_law_175 hl (by decide) rfl (fun ls hl => ?_)
          refine lv_goto (tgt := 498) hx hb dL_law_177 (by decide) ?_
          exact kk _ _ _ _ _ _ _ _ _ _ _ _ _ _ _ _ _ _ _ _ hJ2 False.elim hP hD hS (lv_sub hl [2, 3, 4, 5, 6] rfl)
        · exact absurd g1 hnl
        · exact absurd g1 hnl
      · obtain ⟨g1, g2, g3, g4, g5, g6, g7⟩ := hm
        exact absurd g1 hnl
    · exact absurd e6 (by decide)
    · exact absurd e6 (by decide)
    · subst e5
      have hP := hP.sub (ws' := wMo cI cJ h B2 P2 E2 S2 L2 cd (nI n) (nI ed) ++ wOut cJ h f ++ wPB h ++ wLog cI cJ h B P E S L N (nI n) (nI ed) ++ wKn cI h kn1 F1) [0, 1, 2, 3, 4, 5, 6, 7, 8, 9, 10, 11, 12, 13, 14, 15, 16] rfl
      have hD := hD.sub (ws' := wMo cI cJ h B2 P2 E2 S2 L2 cd (nI n) (nI ed) ++ wOut cJ h f ++ wPB h ++ wLog cI cJ h B P E S L N (nI n) (nI ed) ++ wKn cI h kn1 F1) [0, 1, 2, 3, 4, 5, 6, 7, 8, 9, 10, 11, 12, 13, 14, 15, 16] (by decide) rfl
      refine lv_istore (lv' := [(5, .int (nI 2)), (0, .ref b), (1, .ref (h 0)), (2, .ref (h 20)), (3, .ref (h 30)), (4, .int (nI i))]) hx hb dL_law_129 hl (by decide) rfl (fun ls hl => ?_)
      refine lv_aload_n hx hb dL_law_131 rfl (lv_at hl 3 rfl) ?_
      refine lv_aload_n hx hb dL_law_132 rfl (lv_at hl 1 rfl) ?_
      refine lv_iload hx hb dL_law_133 (lv_at hl 5 rfl) ?_
      refine lv_iconst (v := nI 1) hx hb dL_law_135 (by decide +kernel) ?_
      refine lv_iadd hx hb dL_law_136 ?_
      refine xh_topi (z := nI (i + 1)) (nI_add i 1) ?_
      refine xh_sld hx hb hXs hbl hbA hS (k := i + 1) (by omega) (by omega) dL_law_137 ?_
      refine lv_i2l (v := (xs (i + 1)).toInt64) hx hb dL_law_138 rfl ?_
      refine lv_bipush (v := nI 32) hx hb dL_law_139 (by decide +kernel) ?_
      refine lv_lshl (v := ((xs (i + 1)).toInt64) <<< ((nI 32).toInt64 &&& 63)) hx hb dL_law_141 rfl ?_
      refine lv_aload_n hx hb dL_law_142 rfl (lv_at hl 1 rfl) ?_
      refine lv_iload hx hb dL_law_143 (lv_at hl 5 rfl) ?_
      refine lv_iconst (v := nI 2) hx hb dL_law_145 (by decide +kernel) ?_
      refine lv_iadd hx hb dL_law_146 ?_
      refine xh_topi (z := nI (i + 2)) (nI_add i 2) ?_
      refine xh_sld hx hb hXs hbl hbA hS (k := i + 2) (by omega) (by omega) dL_law_147 ?_
      refine lv_i2l (v := (xs (i + 2)).toInt64) hx hb dL_law_148 rfl ?_
      refine lv_ldc2 (v := 4294967295) hx hb hown (hts (.constantLong RL 40 4294967295) (mm aw_398)) dL_law_149 ?_
      refine lv_land hx hb dL_law_152 ?_
      refine lv_lor hx hb dL_law_153 ?_
      refine xh_topl (z := pr) (epr.symm) ?_
      refine lv_aload_n hx hb dL_law_154 rfl (lv_at hl 1 rfl) ?_
      refine lv_iload hx hb dL_law_155 (lv_at hl 5 rfl) ?_
      refine lv_iconst (v := nI 3) hx hb dL_law_157 (by decide +kernel) ?_
      refine lv_iadd hx hb dL_law_158 ?_
      refine xh_topi (z := nI (i + 3)) (nI_add i 3) ?_
      refine xh_sld hx hb hXs hbl hbA hS (k := i + 3) (by omega) (by omega) dL_law_159 ?_
      refine lv_aload_n hx hb dL_law_160 rfl (lv_at hl 1 rfl) ?_
      refine lv_iload hx hb dL_law_161 (lv_at hl 5 rfl) ?_
      refine lv_iconst (v := nI 4) hx hb dL_law_163 (by decide +kernel) ?_
      refine lv_iadd hx hb dL_law_164 ?_
      refine xh_topi (z := nI (i + 4)) (nI_add i 4) ?_
      refine xh_sld hx hb hXs hbl hbA hS (k := i + 4) (by omega) (by omega) dL_law_165 ?_
      refine lv_aload_n hx hb dL_law_166 rfl (lv_at hl 1 rfl) ?_
      refine lv_iload hx hb dL_law_167 (lv_at hl 5 rfl) ?_
      refine lv_iconst (v := nI 5) hx hb dL_law_169 (by decide +kernel) ?_
      refine lv_iadd hx hb dL_law_170 ?_
      refine xh_topi (z := nI (i + 5)) (nI_add i 5) ?_
      refine xh_sld hx hb hXs hbl hbA hS (k := i + 5) (by omega) (by omega) dL_law_171 ?_
      refine xh_calli (wc := wMo cI cJ h B2 P2 E2 S2 L2 cd (nI n) (nI ed)) (wr := wOut cJ h f ++ wPB h ++ wLog cI cJ h B P E S L N (nI n) (nI ed) ++ wKn cI h kn1 F1) (w1 := fun (u : Int32 × Option Nat) => (fun (u : Int32 × Option Nat) => match u.2 with | none => wMo cI cJ h B2 P2 E2 S2 L2 u.1 (nI n) (nI ed) | some a => wMo cI cJ h (upd B2 n (nI ed)) (vp_updL P2 n pr) (upd E2 n (xs (i + 3))) (upd S2 n (xs (i + 4))) (upd L2 n (nI a)) u.1 (nI (n + 1)) (nI (ed + (a + 1)))) u) hP hD hS hA [0, 1, 2, 3, 4, 5] [6, 7, 8, 9, 10, 11, 12, 13, 14, 15, 16] rfl rfl (by decide) (by decide) (va_runV (As := [.long pr, .int (xs (i + 3)), .int (xs (i + 4)), .int (xs (i + 5))]) (rest := []) ⟨hx, hb, hml, hown, hts⟩ (m_offer l dC dI cI cJ h H.size B2 P2 E2 S2 L2 cd n ed pr (xs (i + 3)) (xs (i + 4)) (xs (i + 5)) hn hMI hed) (cwV 4 hts (aw_V aw_337 aw_338 aw_339 aw_4 aw_340) rfl rfl rfl (by decide +kernel) ⟨Nat.le_of_ble_eq_true rfl, Nat.le_of_ble_eq_true rfl⟩) (xh_preV (r0 := 0) hK (hP.sub (ws' := wMo cI cJ h B2 P2 E2 S2 L2 cd (nI n) (nI ed)) [0, 1, 2, 3, 4, 5] rfl) (hD.sub (ws' := wMo cI cJ h B2 P2 E2 S2 L2 cd (nI n) (nI ed)) [0, 1, 2, 3, 4, 5] (by decide) rfl) rfl rfl rfl) rfl rfl hl.1 rfl (lv_room (Nat.le_of_ble_eq_true rfl)) dL_law_172 ⟨hc, hs⟩) (fun r8 u H locs hm hP hD hS => ?_)
      obtain ⟨cd1, o8⟩ := u
      rcases o8 with _ | a8
      · rcases hm with ⟨g1, g2⟩ | ⟨g1, g2, g3, g4⟩ | ⟨g1, g2, g3, a8, g4, g5, g6⟩
        · exact absurd hleg g1
        · exact absurd (hans.symm.trans h1) g2
        · subst g3
          have hP := hP.sub (ws' := wMo cI cJ h B2 P2 E2 S2 L2 (nI 2) (nI n) (nI ed) ++ wOut cJ h f ++ wPB h ++ wLog cI cJ h B P E S L N (nI n) (nI ed) ++ wKn cI h kn1 F1) [11, 12, 13, 14, 15, 16, 0, 1, 2, 3, 4, 5, 6, 7, 8, 9, 10] rfl
          have hD := hD.sub (ws' := wMo cI cJ h B2 P2 E2 S2 L2 (nI 2) (nI n) (nI ed) ++ wOut cJ h f ++ wPB h ++ wLog cI cJ h B P E S L N (nI n) (nI ed) ++ wKn cI h kn1 F1) [11, 12, 13, 14, 15, 16, 0, 1, 2, 3, 4, 5, 6, 7, 8, 9, 10] (by decide) rfl
          have hJ2 := hJ
          refine lv_istore (lv' := [(6, .int r8), (5, .int (nI 2)), (0, .ref b), (1, .ref (h 0)), (2, .ref (h 20)), (3, .ref (h 30)), (4, .int (nI i))]) hx hb dL_law_175 hl (by decide) rfl (fun ls hl => ?_)
          refine lv_goto (tgt := 498) hx hb dL_law_177 (by decide) ?_
          exact kk _ _ _ _ _ _ _ _ _ _ _ _ _ _ _ _ _ _ _ _ hJ2 False.elim hP hD hS (lv_sub hl [2, 3, 4, 5, 6] rfl)
      · obtain ⟨g1, g2, g3, g4, g5, g6, g7⟩ := hm
        exact absurd (by rw [← pb_nIi ha9 g4 ela9 g3]; exact g5) hnr

set_option maxHeartbeats 4000000 in
set_option maxRecDepth 100000 in
theorem law_offers {p : Program} {l : Launch} {e : Env} {s : State} {m : MethodId} {below : List Frame} {meth : Method} {c : Code} {dC : Nat → ClassId} {dI : Nat → Nat → Nat} {cI cJ : ClassId} {h : Nat → Nat} {A : Nat → Prop} {b L0 : Nat} {xs : Nat → Int32} (C0 : lw_At p s m meth c b L0 xs) (hl0 : l.stackTraces = false) (hX : xX2 A s) (hK : va_K (dC, dI) classes [(cI, FieldType.int), (cJ, FieldType.long)] s) (hA : ∀ q : Nat, s.heap.size ≤ q → A q) (hbA : ¬ A b) (hL : L0 ≤ 3584) {z : Prop} {i cells slots : Nat} (hi : i + 7 ≤ L0) (hc : cells + 1 ≤ 1049) (hs : slots + 6 ≤ 30266)  (kk : law_at p l e s m below meth c dC dI cI cJ h A False b i (cells + 1) (slots + 6) 498) : law_at p l e s m below meth c dC dI cI cJ h A z b i cells slots 180 := by
  obtain ⟨hx, hb, hr, hml, hown0, hts0, hXs, hbl, hlocks, hgv⟩ := C0
  have hown : s.vm.findClass RL = some m.cls := hown0
  have hts : ∀ w ∈ Cond.initialized RL :: AW, w.before #[Value.ref b] s = true := fun w hw => (List.mem_cons.mp hw).elim (fun e9 => by rw [e9]; exact hts0 _ (aw_tbl aw_0)) (fun h9 => hts0 _ (aw_tbl h9))
  intro B P E S L N B2 P2 E2 S2 L2 n ed f cd kn0 Fz H locs ls hJ hz hP hD hS hl
  obtain ⟨hn, hed, hN, hR, hMI, hPI⟩ := id hJ
  refine lv_aload_n hx hb dL_law_180 rfl (lv_at hl 1 rfl) ?_
  refine lv_aload_n hx hb dL_law_181 rfl (lv_at hl 0 rfl) ?_
  refine lv_iload hx hb dL_law_182 (lv_at hl 4 rfl) ?_
  refine lv_iconst (v := nI 1) hx hb dL_law_184 (by decide +kernel) ?_
  refine lv_iadd hx hb dL_law_185 ?_
  refine xh_topi (z := nI (i + 1)) (nI_add i 1) ?_
  refine xh_sld hx hb hXs hbl hbA hS (k := i + 1) (by omega) (by omega) dL_law_186 ?_
  refine lv_aload_n hx hb dL_law_187 rfl (lv_at hl 0 rfl) ?_
  refine lv_iload hx hb dL_law_188 (lv_at hl 4 rfl) ?_
  refine lv_iconst (v := nI 2) hx hb dL_law_190 (by decide +kernel) ?_
  refine lv_iadd hx hb dL_law_191 ?_
  refine xh_topi (z := nI (i + 2)) (nI_add i 2) ?_
  refine xh_sld hx hb hXs hbl hbA hS (k := i + 2) (by omega) (by omega) dL_law_192 ?_
  refine lv_i2l (v := (xs (i + 2)).toInt64) hx hb dL_law_193 rfl ?_
  refine lv_bipush (v := nI 32) hx hb dL_law_194 (by decide +kernel) ?_
  refine lv_lshl (v := ((xs (i + 2)).toInt64) <<< ((nI 32).toInt64 &&& 63)) hx hb dL_law_196 rfl ?_
  refine lv_aload_n hx hb dL_law_197 rfl (lv_at hl 0 rfl) ?_
  refine lv_iload hx hb dL_law_198 (lv_at hl 4 rfl) ?_
  refine lv_iconst (v := nI 3) hx hb dL_law_200 (by decide +kernel) ?_
  refine lv_iadd hx hb dL_law_201 ?_
  refine xh_topi (z := nI (i + 3)) (nI_add i 3) ?_
  refine xh_sld hx hb hXs hbl hbA hS (k := i + 3) (by omega) (by omega) dL_law_202 ?_
  refine lv_i2l (v := (xs (i + 3)).toInt64) hx hb dL_law_203 rfl ?_
  refine lv_ldc2 (v := 4294967295) hx hb hown (hts (.constantLong RL 40 4294967295) (mm aw_398)) dL_law_204 ?_
  refine lv_land hx hb dL_law_207 ?_
  refine lv_lor hx hb dL_law_208 ?_
  refine lv_topl (fun pr epr => ?_)
  refine lv_aload_n hx hb dL_law_209 rfl (lv_at hl 0 rfl) ?_
  refine lv_iload hx hb dL_law_210 (lv_at hl 4 rfl) ?_
  refine lv_iconst (v := nI 4) hx hb dL_law_212 (by decide +kernel) ?_
  refine lv_iadd hx hb dL_law_213 ?_
  refine xh_topi (z := nI (i + 4)) (nI_add i 4) ?_
  refine xh_sld hx hb hXs hbl hbA hS (k := i + 4) (by omega) (by omega) dL_law_214 ?_
  refine lv_aload_n hx hb dL_law_215 rfl (lv_at hl 0 rfl) ?_
  refine lv_iload hx hb dL_law_216 (lv_at hl 4 rfl) ?_
  refine lv_iconst (v := nI 5) hx hb dL_law_218 (by decide +kernel) ?_
  refine lv_iadd hx hb dL_law_219 ?_
  refine xh_topi (z := nI (i + 5)) (nI_add i 5) ?_
  refine xh_sld hx hb hXs hbl hbA hS (k := i + 5) (by omega) (by omega) dL_law_220 ?_
  refine lv_aload_n hx hb dL_law_221 rfl (lv_at hl 0 rfl) ?_
  refine lv_iload hx hb dL_law_222 (lv_at hl 4 rfl) ?_
  refine lv_bipush (v := nI 6) hx hb dL_law_224 (by decide +kernel) ?_
  refine lv_iadd hx hb dL_law_226 ?_
  refine xh_topi (z := nI (i + 6)) (nI_add i 6) ?_
  refine xh_sld hx hb hXs hbl hbA hS (k := i + 6) (by omega) (by omega) dL_law_227 ?_
  refine lv_aload_n hx hb dL_law_228 rfl (lv_at hl 3 rfl) ?_
  refine xh_calli (wc := wOut cJ h f ++ wPB h ++ wLog cI cJ h B P E S L N (nI n) (nI ed) ++ wKn cI h kn0 Fz) (wr := wMo cI cJ h B2 P2 E2 S2 L2 cd (nI n) (nI ed)) (w1 := fun (u : (Int32 × (pb_St × (Nat → Int32) × Int32 × (Nat → Int32))) ⊕ (Unit)) => (fun (u : (Int32 × (pb_St × (Nat → Int32) × Int32 × (Nat → Int32))) ⊕ (Unit)) => match u with | .inl z => wOut cJ h (vp_updL f 0 z.1.toInt64) ++ (fun (u : pb_St × (Nat → Int32) × Int32 × (Nat → Int32)) => wPB h ++ wLog cI cJ h u.1.1 u.1.2.1 u.1.2.2.1 u.1.2.2.2.1 u.1.2.2.2.2.1 u.2.1 (nI u.1.2.2.2.2.2.1) (nI u.1.2.2.2.2.2.2) ++ wKn cI h u.2.2.1 u.2.2.2) z.2 | .inr z => wOut cJ h f ++ (fun (_ : Unit) => wPB h ++ wLog cI cJ h B P E S L N (nI n) (nI ed) ++ wKn cI h kn0 Fz) z) u) hP hD hS hA [6, 7, 8, 9, 10, 11, 12, 13, 14, 15, 16] [0, 1, 2, 3, 4, 5] rfl rfl (by decide) (by decide) (vx_runSW (As := [.ref (h 0), .int (xs (i + 1)), .long pr, .int (xs (i + 4)), .int (xs (i + 5)), .int (xs (i + 6)), .ref (h 30)]) (rest := []) ⟨hx, hb, hml, hown, hts⟩ (w_offers l dC dI cI cJ h H.size B P E S L N n ed Fz kn0 (xs (i + 1)) pr (xs (i + 4)) (xs (i + 5)) (xs (i + 6)) f hl0 hn hed hN) (vx_cwSW 7 hts (aw_SW aw_244 aw_245 aw_0 aw_246) rfl rfl rfl (by decide +kernel) ⟨Nat.le_of_ble_eq_true rfl, Nat.le_of_ble_eq_true rfl⟩) (xh_preSX hK hX hS (va_free hD hS hA [6, 7, 8, 9, 10, 11, 12, 13, 14, 15, 16] rfl) (hP.sub (ws' := wOut cJ h f ++ wPB h ++ wLog cI cJ h B P E S L N (nI n) (nI ed) ++ wKn cI h kn0 Fz) [6, 7, 8, 9, 10, 11, 12, 13, 14, 15, 16] rfl) (hD.sub (ws' := wOut cJ h f ++ wPB h ++ wLog cI cJ h B P E S L N (nI n) (nI ed) ++ wKn cI h kn0 Fz) [6, 7, 8, 9, 10, 11, 12, 13, 14, 15, 16] (by decide) rfl)) rfl rfl hl.1 rfl (lv_room (Nat.le_of_ble_eq_true rfl)) dL_law_229 ⟨hc, hs⟩) (fun k5 u H locs hw hP hD hS => ?_)
  rcases u with ⟨r9, st9, N3, kn1, F1⟩ | _
  · obtain ⟨e5, hleg, c9, a, ec, hc1, hc2, ela, ha, hroom, hst, h2, ⟨hb1, hb2, hb3⟩, hN3⟩ := hw
    subst e5
    have hl1 := pb_x1 ec hc1
    have hl2 := pb_x5 ec hc2
    obtain ⟨B3, P3, E3, S3, L3, n3, e3, t3, B4, P4, E4, S4, L4, t4, hs1, hs2, hR3, _, hPI3⟩ := pb_it_R (ed := ed) (ep := xs (i + 4)) (sq := xs (i + 5)) (a := a) hR (pb_legp hleg) hPI c9
    rw [hs1] at hst
    subst hst
    have hP := hP.sub (ws' := wMo cI cJ h B2 P2 E2 S2 L2 cd (nI n) (nI ed) ++ wOut cJ h (vp_updL f 0 r9.toInt64) ++ wPB h ++ wLog cI cJ h B3 P3 E3 S3 L3 N3 (nI n3) (nI e3) ++ wKn cI h kn1 F1) [0, 1, 2, 3, 4, 5, 6, 7, 8, 9, 10, 11, 12, 13, 14, 15, 16] rfl
    have hD := hD.sub (ws' := wMo cI cJ h B2 P2 E2 S2 L2 cd (nI n) (nI ed) ++ wOut cJ h (vp_updL f 0 r9.toInt64) ++ wPB h ++ wLog cI cJ h B3 P3 E3 S3 L3 N3 (nI n3) (nI e3) ++ wKn cI h kn1 F1) [0, 1, 2, 3, 4, 5, 6, 7, 8, 9, 10, 11, 12, 13, 14, 15, 16] (by decide) rfl
    refine lv_istore (lv' := [(5, .int (nI 0)), (0, .ref b), (1, .ref (h 0)), (2, .ref (h 20)), (3, .ref (h 30)), (4, .int (nI i))]) hx hb dL_law_232 hl (by decide) rfl (fun ls hl => ?_)
    refine lv_aload_n hx hb dL_law_234 rfl (lv_at hl 3 rfl) ?_
    refine lv_aload_n hx hb dL_law_235 rfl (lv_at hl 1 rfl) ?_
    refine lv_iload hx hb dL_law_236 (lv_at hl 5 rfl) ?_
    refine lv_iconst (v := nI 1) hx hb dL_law_238 (by decide +kernel) ?_
    refine lv_iadd hx hb dL_law_239 ?_
    refine xh_topi (z := nI (i + 1)) (nI_add i 1) ?_
    refine xh_sld hx hb hXs hbl hbA hS (k := i + 1) (by omega) (by omega) dL_law_240 ?_
    refine lv_aload_n hx hb dL_law_241 rfl (lv_at hl 1 rfl) ?_
    refine lv_iload hx hb dL_law_242 (lv_at hl 5 rfl) ?_
    refine lv_iconst (v := nI 2) hx hb dL_law_244 (by decide +kernel) ?_
    refine lv_iadd hx hb dL_law_245 ?_
    refine xh_topi (z := nI (i + 2)) (nI_add i 2) ?_
    refine xh_sld hx hb hXs hbl hbA hS (k := i + 2) (by omega) (by omega) dL_law_246 ?_
    refine lv_i2l (v := (xs (i + 2)).toInt64) hx hb dL_law_247 rfl ?_
    refine lv_bipush (v := nI 32) hx hb dL_law_248 (by decide +kernel) ?_
    refine lv_lshl (v := ((xs (i + 2)).toInt64) <<< ((nI 32).toInt64 &&& 63)) hx hb dL_law_250 rfl ?_
    refine lv_aload_n hx hb dL_law_251 rfl (lv_at hl 1 rfl) ?_
    refine lv_iload hx hb dL_law_252 (lv_at hl 5 rfl) ?_
    refine lv_iconst (v := nI 3) hx hb dL_law_254 (by decide +kernel) ?_
    refine lv_iadd hx hb dL_law_255 ?_
    refine xh_topi (z := nI (i + 3)) (nI_add i 3) ?_
    refine xh_sld hx hb hXs hbl hbA hS (k := i + 3) (by omega) (by omega) dL_law_256 ?_
    refine lv_i2l (v := (xs (i + 3)).toInt64) hx hb dL_law_257 rfl ?_
    refine lv_ldc2 (v := 4294967295) hx hb hown (hts (.constantLong RL 40 4294967295) (mm aw_398)) dL_law_258 ?_
    refine lv_land hx hb dL_law_261 ?_
    refine lv_lor hx hb dL_law_262 ?_
    refine xh_topl (z := pr) (epr.symm) ?_
    refine lv_aload_n hx hb dL_law_263 rfl (lv_at hl 1 rfl) ?_
    refine lv_iload hx hb dL_law_264 (lv_at hl 5 rfl) ?_
    refine lv_iconst (v := nI 4) hx hb dL_law_266 (by decide +kernel) ?_
    refine lv_iadd hx hb dL_law_267 ?_
    refine xh_topi (z := nI (i + 4)) (nI_add i 4) ?_
    refine xh_sld hx hb hXs hbl hbA hS (k := i + 4) (by omega) (by omega) dL_law_268 ?_
    refine lv_aload_n hx hb dL_law_269 rfl (lv_at hl 1 rfl) ?_
    refine lv_iload hx hb dL_law_270 (lv_at hl 5 rfl) ?_
    refine lv_iconst (v := nI 5) hx hb dL_law_272 (by decide +kernel) ?_
    refine lv_iadd hx hb dL_law_273 ?_
    refine xh_topi (z := nI (i + 5)) (nI_add i 5) ?_
    refine xh_sld hx hb hXs hbl hbA hS (k := i + 5) (by omega) (by omega) dL_law_274 ?_
    refine lv_aload_n hx hb dL_law_275 rfl (lv_at hl 1 rfl) ?_
    refine lv_iload hx hb dL_law_276 (lv_at hl 5 rfl) ?_
    refine lv_bipush (v := nI 6) hx hb dL_law_278 (by decide +kernel) ?_
    refine lv_iadd hx hb dL_law_280 ?_
    refine xh_topi (z := nI (i + 6)) (nI_add i 6) ?_
    refine xh_sld hx hb hXs hbl hbA hS (k := i + 6) (by omega) (by omega) dL_law_281 ?_
    refine xh_calli (wc := wMo cI cJ h B2 P2 E2 S2 L2 cd (nI n) (nI ed)) (wr := wOut cJ h (vp_updL f 0 r9.toInt64) ++ wPB h ++ wLog cI cJ h B3 P3 E3 S3 L3 N3 (nI n3) (nI e3) ++ wKn cI h kn1 F1) (w1 := fun (u : Int32 × Option pb_St) => (fun (u : Int32 × Option pb_St) => match u.2 with | none => wMo cI cJ h B2 P2 E2 S2 L2 u.1 (nI n) (nI ed) | some y => wMo cI cJ h y.1 y.2.1 y.2.2.1 y.2.2.2.1 y.2.2.2.2.1 u.1 (nI y.2.2.2.2.2.1) (nI y.2.2.2.2.2.2)) u) hP hD hS hA [0, 1, 2, 3, 4, 5] [6, 7, 8, 9, 10, 11, 12, 13, 14, 15, 16] rfl rfl (by decide) (by decide) (va_runV (As := [.int (xs (i + 1)), .long pr, .int (xs (i + 4)), .int (xs (i + 5)), .int (xs (i + 6))]) (rest := []) ⟨hx, hb, hml, hown, hts⟩ (m_offers l dC dI cI cJ h H.size B2 P2 E2 S2 L2 cd n ed (xs (i + 1)) pr (xs (i + 4)) (xs (i + 5)) (xs (i + 6)) hn hMI hed) (cwV 5 hts (aw_V aw_362 aw_363 aw_364 aw_4 aw_365) rfl rfl rfl (by decide +kernel) ⟨Nat.le_of_ble_eq_true rfl, Nat.le_of_ble_eq_true rfl⟩) (xh_preV (r0 := 0) hK (hP.sub (ws' := wMo cI cJ h B2 P2 E2 S2 L2 cd (nI n) (nI ed)) [0, 1, 2, 3, 4, 5] rfl) (hD.sub (ws' := wMo cI cJ h B2 P2 E2 S2 L2 cd (nI n) (nI ed)) [0, 1, 2, 3, 4, 5] (by decide) rfl) rfl rfl rfl) rfl rfl hl.1 rfl (lv_room (Nat.le_of_ble_eq_true rfl)) dL_law_282 ⟨hc, hs⟩) (fun r8 u H locs hm hP hD hS => ?_)
    obtain ⟨cd1, o8⟩ := u
    rcases o8 with _ | y8
    · rcases hm with ⟨g1, g2⟩ | ⟨g1, g2, c8, a8, g3, g4, g5, g6, g7⟩
      · exact absurd ⟨hl1, hl2, hleg⟩ g1
      · exact absurd (by rw [pb_nIi ha g6 ela g5, pb_nIc hc2 g4 ec g3]; exact hroom) g7
    · obtain ⟨g1, g2, c8, a8, g3, g4, g5, g6, g7, g8, g9, g10, g11⟩ := hm
      have ea := pb_nIi ha g7 ela g6
      have ec8 := pb_nIc hc2 g5 ec g3
      subst ea
      subst ec8
      rw [hs2] at g9
      subst g9
      subst g2
      have hP := hP.sub (ws' := wMo cI cJ h B4 P4 E4 S4 L4 (nI 0) (nI n3) (nI e3) ++ wOut cJ h (vp_updL f 0 r9.toInt64) ++ wPB h ++ wLog cI cJ h B3 P3 E3 S3 L3 N3 (nI n3) (nI e3) ++ wKn cI h kn1 F1) [11, 12, 13, 14, 15, 16, 0, 1, 2, 3, 4, 5, 6, 7, 8, 9, 10] rfl
      have hD := hD.sub (ws' := wMo cI cJ h B4 P4 E4 S4 L4 (nI 0) (nI n3) (nI e3) ++ wOut cJ h (vp_updL f 0 r9.toInt64) ++ wPB h ++ wLog cI cJ h B3 P3 E3 S3 L3 N3 (nI n3) (nI e3) ++ wKn cI h kn1 F1) [11, 12, 13, 14, 15, 16, 0, 1, 2, 3, 4, 5, 6, 7, 8, 9, 10] (by decide) rfl
      have eqr : r9 = r8 := h2.trans g10.symm
      have hJ2 := (⟨hb2, hb3, hN3, hR3, g11, hPI3⟩ : pb_J n3 e3 B3 P3 E3 S3 L3 N3 B4 P4 E4 S4 L4)
      refine lv_istore (lv' := [(6, .int r8), (5, .int (nI 0)), (0, .ref b), (1, .ref (h 0)), (2, .ref (h 20)), (3, .ref (h 30)), (4, .int (nI i))]) hx hb dL_law_285 hl (by decide) rfl (fun ls hl => ?_)
      refine lv_goto (tgt := 498) hx hb dL_law_287 (by decide) ?_
      exact kk _ _ _ _ _ _ _ _ _ _ _ _ _ _ _ _ _ _ _ _ hJ2 False.elim hP hD hS (lv_sub hl [2, 3, 4, 5, 6] rfl)
  · have hw9 := hw
    rcases hw with ⟨e5, ⟨_, hnl⟩ | ⟨e6, _⟩⟩ | ⟨e5, ⟨e6, _⟩ | ⟨_, hlg, c9, a9, ec9, hc9, ela9, ha9, hnr⟩⟩
    · subst e5
      have hP := hP.sub (ws' := wMo cI cJ h B2 P2 E2 S2 L2 cd (nI n) (nI ed) ++ wOut cJ h f ++ wPB h ++ wLog cI cJ h B P E S L N (nI n) (nI ed) ++ wKn cI h kn0 Fz) [0, 1, 2, 3, 4, 5, 6, 7, 8, 9, 10, 11, 12, 13, 14, 15, 16] rfl
      have hD := hD.sub (ws' := wMo cI cJ h B2 P2 E2 S2 L2 cd (nI n) (nI ed) ++ wOut cJ h f ++ wPB h ++ wLog cI cJ h B P E S L N (nI n) (nI ed) ++ wKn cI h kn0 Fz) [0, 1, 2, 3, 4, 5, 6, 7, 8, 9, 10, 11, 12, 13, 14, 15, 16] (by decide) rfl
      refine lv_istore (lv' := [(5, .int (nI 1)), (0, .ref b), (1, .ref (h 0)), (2, .ref (h 20)), (3, .ref (h 30)), (4, .int (nI i))]) hx hb dL_law_232 hl (by decide) rfl (fun ls hl => ?_)
      refine lv_aload_n hx hb dL_law_234 rfl (lv_at hl 3 rfl) ?_
      refine lv_aload_n hx hb dL_law_235 rfl (lv_at hl 1 rfl) ?_
      refine lv_iload hx hb dL_law_236 (lv_at hl 5 rfl) ?_
      refine lv_iconst (v := nI 1) hx hb dL_law_238 (by decide +kernel) ?_
      refine lv_iadd hx hb dL_law_239 ?_
      refine xh_topi (z := nI (i + 1)) (nI_add i 1) ?_
      refine xh_sld hx hb hXs hbl hbA hS (k := i + 1) (by omega) (by omega) dL_law_240 ?_
      refine lv_aload_n hx hb dL_law_241 rfl (lv_at hl 1 rfl) ?_
      refine lv_iload hx hb dL_law_242 (lv_at hl 5 rfl) ?_
      refine lv_iconst (v := nI 2) hx hb dL_law_244 (by decide +kernel) ?_
      refine lv_iadd hx hb dL_law_245 ?_
      refine xh_topi (z := nI (i + 2)) (nI_add i 2) ?_
      refine xh_sld hx hb hXs hbl hbA hS (k := i + 2) (by omega) (by omega) dL_law_246 ?_
      refine lv_i2l (v := (xs (i + 2)).toInt64) hx hb dL_law_247 rfl ?_
      refine lv_bipush (v := nI 32) hx hb dL_law_248 (by decide +kernel) ?_
      refine lv_lshl (v := ((xs (i + 2)).toInt64) <<< ((nI 32).toInt64 &&& 63)) hx hb dL_law_250 rfl ?_
      refine lv_aload_n hx hb dL_law_251 rfl (lv_at hl 1 rfl) ?_
      refine lv_iload hx hb dL_law_252 (lv_at hl 5 rfl) ?_
      refine lv_iconst (v := nI 3) hx hb dL_law_254 (by decide +kernel) ?_
      refine lv_iadd hx hb dL_law_255 ?_
      refine xh_topi (z := nI (i + 3)) (nI_add i 3) ?_
      refine xh_sld hx hb hXs hbl hbA hS (k := i + 3) (by omega) (by omega) dL_law_256 ?_
      refine lv_i2l (v := (xs (i + 3)).toInt64) hx hb dL_law_257 rfl ?_
      refine lv_ldc2 (v := 4294967295) hx hb hown (hts (.constantLong RL 40 4294967295) (mm aw_398)) dL_law_258 ?_
      refine lv_land hx hb dL_law_261 ?_
      refine lv_lor hx hb dL_law_262 ?_
      refine xh_topl (z := pr) (epr.symm) ?_
      refine lv_aload_n hx hb dL_law_263 rfl (lv_at hl 1 rfl) ?_
      refine lv_iload hx hb dL_law_264 (lv_at hl 5 rfl) ?_
      refine lv_iconst (v := nI 4) hx hb dL_law_266 (by decide +kernel) ?_
      refine lv_iadd hx hb dL_law_267 ?_
      refine xh_topi (z := nI (i + 4)) (nI_add i 4) ?_
      refine xh_sld hx hb hXs hbl hbA hS (k := i + 4) (by omega) (by omega) dL_law_268 ?_
      refine lv_aload_n hx hb dL_law_269 rfl (lv_at hl 1 rfl) ?_
      refine lv_iload hx hb dL_law_270 (lv_at hl 5 rfl) ?_
      refine lv_iconst (v := nI 5) hx hb dL_law_272 (by decide +kernel) ?_
      refine lv_iadd hx hb dL_law_273 ?_
      refine xh_topi (z := nI (i + 5)) (nI_add i 5) ?_
      refine xh_sld hx hb hXs hbl hbA hS (k := i + 5) (by omega) (by omega) dL_law_274 ?_
      refine lv_aload_n hx hb dL_law_275 rfl (lv_at hl 1 rfl) ?_
      refine lv_iload hx hb dL_law_276 (lv_at hl 5 rfl) ?_
      refine lv_bipush (v := nI 6) hx hb dL_law_278 (by decide +kernel) ?_
      refine lv_iadd hx hb dL_law_280 ?_
      refine xh_topi (z := nI (i + 6)) (nI_add i 6) ?_
      refine xh_sld hx hb hXs hbl hbA hS (k := i + 6) (by omega) (by omega) dL_law_281 ?_
      refine xh_calli (wc := wMo cI cJ h B2 P2 E2 S2 L2 cd (nI n) (nI ed)) (wr := wOut cJ h f ++ wPB h ++ wLog cI cJ h B P E S L N (nI n) (nI ed) ++ wKn cI h kn0 Fz) (w1 := fun (u : Int32 × Option pb_St) => (fun (u : Int32 × Option pb_St) => match u.2 with | none => wMo cI cJ h B2 P2 E2 S2 L2 u.1 (nI n) (nI ed) | some y => wMo cI cJ h y.1 y.2.1 y.2.2.1 y.2.2.2.1 y.2.2.2.2.1 u.1 (nI y.2.2.2.2.2.1) (nI y.2.2.2.2.2.2)) u) hP hD hS hA [0, 1, 2, 3, 4, 5] [6, 7, 8, 9, 10, 11, 12, 13, 14, 15, 16] rfl rfl (by decide) (by decide) (va_runV (As := [.int (xs (i + 1)), .long pr, .int (xs (i + 4)), .int (xs (i + 5)), .int (xs (i + 6))]) (rest := []) ⟨hx, hb, hml, hown, hts⟩ (m_offers l dC dI cI cJ h H.size B2 P2 E2 S2 L2 cd n ed (xs (i + 1)) pr (xs (i + 4)) (xs (i + 5)) (xs (i + 6)) hn hMI hed) (cwV 5 hts (aw_V aw_362 aw_363 aw_364 aw_4 aw_365) rfl rfl rfl (by decide +kernel) ⟨Nat.le_of_ble_eq_true rfl, Nat.le_of_ble_eq_true rfl⟩) (xh_preV (r0 := 0) hK (hP.sub (ws' := wMo cI cJ h B2 P2 E2 S2 L2 cd (nI n) (nI ed)) [0, 1, 2, 3, 4, 5] rfl) (hD.sub (ws' := wMo cI cJ h B2 P2 E2 S2 L2 cd (nI n) (nI ed)) [0, 1, 2, 3, 4, 5] (by decide) rfl) rfl rfl rfl) rfl rfl hl.1 rfl (lv_room (Nat.le_of_ble_eq_true rfl)) dL_law_282 ⟨hc, hs⟩) (fun r8 u H locs hm hP hD hS => ?_)
      obtain ⟨cd1, o8⟩ := u
      rcases o8 with _ | y8
      · rcases hm with ⟨g1, g2⟩ | ⟨g1, g2, c8, a8, g3, g4, g5, g6, g7⟩
        · subst g2
          have hP := hP.sub (ws' := wMo cI cJ h B2 P2 E2 S2 L2 (nI 1) (nI n) (nI ed) ++ wOut cJ h f ++ wPB h ++ wLog cI cJ h B P E S L N (nI n) (nI ed) ++ wKn cI h kn0 Fz) [11, 12, 13, 14, 15, 16, 0, 1, 2, 3, 4, 5, 6, 7, 8, 9, 10] rfl
          have hD := hD.sub (ws' := wMo cI cJ h B2 P2 E2 S2 L2 (nI 1) (nI n) (nI ed) ++ wOut cJ h f ++ wPB h ++ wLog cI cJ h B P E S L N (nI n) (nI ed) ++ wKn cI h kn0 Fz) [11, 12, 13, 14, 15, 16, 0, 1, 2, 3, 4, 5, 6, 7, 8, 9, 10] (by decide) rfl
          have hJ2 := hJ
          refine lv_istore (lv' := [(6, .int r8), (5, .int (nI 1)), (0, .ref b), (1, .ref (h 0)), (2, .ref (h 20)), (3, .ref (h 30)), (4, .int (nI i))]) hx hb dL_law_285 hl (by decide) rfl (fun ls hl => ?_)
          refine lv_goto (tgt := 498) hx hb dL_law_287 (by decide) ?_
          exact kk _ _ _ _ _ _ _ _ _ _ _ _ _ _ _ _ _ _ _ _ hJ2 False.elim hP hD hS (lv_sub hl [2, 3, 4, 5, 6] rfl)
        · exact absurd g1 hnl
      · obtain ⟨g1, g2, c8, a8, g3, g4, g5, g6, g7, g8, g9, g10, g11⟩ := hm
        exact absurd ⟨pb_x1 g3 g4, pb_x5 g3 g5, g1⟩ hnl
    · exact absurd e6 (by decide)
    · exact absurd e6 (by decide)
    · subst e5
      have hP := hP.sub (ws' := wMo cI cJ h B2 P2 E2 S2 L2 cd (nI n) (nI ed) ++ wOut cJ h f ++ wPB h ++ wLog cI cJ h B P E S L N (nI n) (nI ed) ++ wKn cI h kn0 Fz) [0, 1, 2, 3, 4, 5, 6, 7, 8, 9, 10, 11, 12, 13, 14, 15, 16] rfl
      have hD := hD.sub (ws' := wMo cI cJ h B2 P2 E2 S2 L2 cd (nI n) (nI ed) ++ wOut cJ h f ++ wPB h ++ wLog cI cJ h B P E S L N (nI n) (nI ed) ++ wKn cI h kn0 Fz) [0, 1, 2, 3, 4, 5, 6, 7, 8, 9, 10, 11, 12, 13, 14, 15, 16] (by decide) rfl
      refine lv_istore (lv' := [(5, .int (nI 2)), (0, .ref b), (1, .ref (h 0)), (2, .ref (h 20)), (3, .ref (h 30)), (4, .int (nI i))]) hx hb dL_law_232 hl (by decide) rfl (fun ls hl => ?_)
      refine lv_aload_n hx hb dL_law_234 rfl (lv_at hl 3 rfl) ?_
      refine lv_aload_n hx hb dL_law_235 rfl (lv_at hl 1 rfl) ?_
      refine lv_iload hx hb dL_law_236 (lv_at hl 5 rfl) ?_
      refine lv_iconst (v := nI 1) hx hb dL_law_238 (by decide +kernel) ?_
      refine lv_iadd hx hb dL_law_239 ?_
      refine xh_topi (z := nI (i + 1)) (nI_add i 1) ?_
      refine xh_sld hx hb hXs hbl hbA hS (k := i + 1) (by omega) (by omega) dL_law_240 ?_
      refine lv_aload_n hx hb dL_law_241 rfl (lv_at hl 1 rfl) ?_
      refine lv_iload hx hb dL_law_242 (lv_at hl 5 rfl) ?_
      refine lv_iconst (v := nI 2) hx hb dL_law_244 (by decide +kernel) ?_
      refine lv_iadd hx hb dL_law_245 ?_
      refine xh_topi (z := nI (i + 2)) (nI_add i 2) ?_
      refine xh_sld hx hb hXs hbl hbA hS (k := i + 2) (by omega) (by omega) dL_law_246 ?_
      refine lv_i2l (v := (xs (i + 2)).toInt64) hx hb dL_law_247 rfl ?_
      refine lv_bipush (v := nI 32) hx hb dL_law_248 (by decide +kernel) ?_
      refine lv_lshl (v := ((xs (i + 2)).toInt64) <<< ((nI 32).toInt64 &&& 63)) hx hb dL_law_250 rfl ?_
      refine lv_aload_n hx hb dL_law_251 rfl (lv_at hl 1 rfl) ?_
      refine lv_iload hx hb dL_law_252 (lv_at hl 5 rfl) ?_
      refine lv_iconst (v := nI 3) hx hb dL_law_254 (by decide +kernel) ?_
      refine lv_iadd hx hb dL_law_255 ?_
      refine xh_topi (z := nI (i + 3)) (nI_add i 3) ?_
      refine xh_sld hx hb hXs hbl hbA hS (k := i + 3) (by omega) (by omega) dL_law_256 ?_
      refine lv_i2l (v := (xs (i + 3)).toInt64) hx hb dL_law_257 rfl ?_
      refine lv_ldc2 (v := 4294967295) hx hb hown (hts (.constantLong RL 40 4294967295) (mm aw_398)) dL_law_258 ?_
      refine lv_land hx hb dL_law_261 ?_
      refine lv_lor hx hb dL_law_262 ?_
      refine xh_topl (z := pr) (epr.symm) ?_
      refine lv_aload_n hx hb dL_law_263 rfl (lv_at hl 1 rfl) ?_
      refine lv_iload hx hb dL_law_264 (lv_at hl 5 rfl) ?_
      refine lv_iconst (v := nI 4) hx hb dL_law_266 (by decide +kernel) ?_
      refine lv_iadd hx hb dL_law_267 ?_
      refine xh_topi (z := nI (i + 4)) (nI_add i 4) ?_
      refine xh_sld hx hb hXs hbl hbA hS (k := i + 4) (by omega) (by omega) dL_law_268 ?_
      refine lv_aload_n hx hb dL_law_269 rfl (lv_at hl 1 rfl) ?_
      refine lv_iload hx hb dL_law_270 (lv_at hl 5 rfl) ?_
      refine lv_iconst (v := nI 5) hx hb dL_law_272 (by decide +kernel) ?_
      refine lv_iadd hx hb dL_law_273 ?_
      refine xh_topi (z := nI (i + 5)) (nI_add i 5) ?_
      refine xh_sld hx hb hXs hbl hbA hS (k := i + 5) (by omega) (by omega) dL_law_274 ?_
      refine lv_aload_n hx hb dL_law_275 rfl (lv_at hl 1 rfl) ?_
      refine lv_iload hx hb dL_law_276 (lv_at hl 5 rfl) ?_
      refine lv_bipush (v := nI 6) hx hb dL_law_278 (by decide +kernel) ?_
      refine lv_iadd hx hb dL_law_280 ?_
      refine xh_topi (z := nI (i + 6)) (nI_add i 6) ?_
      refine xh_sld hx hb hXs hbl hbA hS (k := i + 6) (by omega) (by omega) dL_law_281 ?_
      refine xh_calli (wc := wMo cI cJ h B2 P2 E2 S2 L2 cd (nI n) (nI ed)) (wr := wOut cJ h f ++ wPB h ++ wLog cI cJ h B P E S L N (nI n) (nI ed) ++ wKn cI h kn0 Fz) (w1 := fun (u : Int32 × Option pb_St) => (fun (u : Int32 × Option pb_St) => match u.2 with | none => wMo cI cJ h B2 P2 E2 S2 L2 u.1 (nI n) (nI ed) | some y => wMo cI cJ h y.1 y.2.1 y.2.2.1 y.2.2.2.1 y.2.2.2.2.1 u.1 (nI y.2.2.2.2.2.1) (nI y.2.2.2.2.2.2)) u) hP hD hS hA [0, 1, 2, 3, 4, 5] [6, 7, 8, 9, 10, 11, 12, 13, 14, 15, 16] rfl rfl (by decide) (by decide) (va_runV (As := [.int (xs (i + 1)), .long pr, .int (xs (i + 4)), .int (xs (i + 5)), .int (xs (i + 6))]) (rest := []) ⟨hx, hb, hml, hown, hts⟩ (m_offers l dC dI cI cJ h H.size B2 P2 E2 S2 L2 cd n ed (xs (i + 1)) pr (xs (i + 4)) (xs (i + 5)) (xs (i + 6)) hn hMI hed) (cwV 5 hts (aw_V aw_362 aw_363 aw_364 aw_4 aw_365) rfl rfl rfl (by decide +kernel) ⟨Nat.le_of_ble_eq_true rfl, Nat.le_of_ble_eq_true rfl⟩) (xh_preV (r0 := 0) hK (hP.sub (ws' := wMo cI cJ h B2 P2 E2 S2 L2 cd (nI n) (nI ed)) [0, 1, 2, 3, 4, 5] rfl) (hD.sub (ws' := wMo cI cJ h B2 P2 E2 S2 L2 cd (nI n) (nI ed)) [0, 1, 2, 3, 4, 5] (by decide) rfl) rfl rfl rfl) rfl rfl hl.1 rfl (lv_room (Nat.le_of_ble_eq_true rfl)) dL_law_282 ⟨hc, hs⟩) (fun r8 u H locs hm hP hD hS => ?_)
      obtain ⟨cd1, o8⟩ := u
      rcases o8 with _ | y8
      · rcases hm with ⟨g1, g2⟩ | ⟨g1, g2, c8, a8, g3, g4, g5, g6, g7⟩
        · exact absurd hlg g1
        · subst g2
          have hP := hP.sub (ws' := wMo cI cJ h B2 P2 E2 S2 L2 (nI 2) (nI n) (nI ed) ++ wOut cJ h f ++ wPB h ++ wLog cI cJ h B P E S L N (nI n) (nI ed) ++ wKn cI h kn0 Fz) [11, 12, 13, 14, 15, 16, 0, 1, 2, 3, 4, 5, 6, 7, 8, 9, 10] rfl
          have hD := hD.sub (ws' := wMo cI cJ h B2 P2 E2 S2 L2 (nI 2) (nI n) (nI ed) ++ wOut cJ h f ++ wPB h ++ wLog cI cJ h B P E S L N (nI n) (nI ed) ++ wKn cI h kn0 Fz) [11, 12, 13, 14, 15, 16, 0, 1, 2, 3, 4, 5, 6, 7, 8, 9, 10] (by decide) rfl
          have hJ2 := hJ
          refine lv_istore (lv' := [(6, .int r8), (5, .int (nI 2)), (0, .ref b), (1, .ref (h 0)), (2, .ref (h 20)), (3, .ref (h 30)), (4, .int (nI i))]) hx hb dL_law_285 hl (by decide) rfl (fun ls hl => ?_)
          refine lv_goto (tgt := 498) hx hb dL_law_287 (by decide) ?_
          exact kk _ _ _ _ _ _ _ _ _ _ _ _ _ _ _ _ _ _ _ _ hJ2 False.elim hP hD hS (lv_sub hl [2, 3, 4, 5, 6] rfl)
      · obtain ⟨g1, g2, c8, a8, g3, g4, g5, g6, g7, g8, g9, g10, g11⟩ := hm
        exact absurd (by rw [← pb_nIi ha9 g7 ela9 g6, ← pb_nIc hc9 g5 ec9 g3]; exact g8) hnr

set_option maxHeartbeats 4000000 in
set_option maxRecDepth 100000 in
theorem law_drop {p : Program} {l : Launch} {e : Env} {s : State} {m : MethodId} {below : List Frame} {meth : Method} {c : Code} {dC : Nat → ClassId} {dI : Nat → Nat → Nat} {cI cJ : ClassId} {h : Nat → Nat} {A : Nat → Prop} {b L0 : Nat} {xs : Nat → Int32} (C0 : lw_At p s m meth c b L0 xs) (hl0 : l.stackTraces = false) (hX : xX2 A s) (hK : va_K (dC, dI) classes [(cI, FieldType.int), (cJ, FieldType.long)] s) (hA : ∀ q : Nat, s.heap.size ≤ q → A q) (hbA : ¬ A b) (hL : L0 ≤ 3584) {z : Prop} {i cells slots : Nat} (hi : i + 7 ≤ L0) (hc : cells + 1 ≤ 1049) (hs : slots + 6 ≤ 30266)  (kk : law_at p l e s m below meth c dC dI cI cJ h A False b i (cells + 1) (slots + 6) 498) : law_at p l e s m below meth c dC dI cI cJ h A z b i cells slots 290 := by
  obtain ⟨hx, hb, hr, hml, hown0, hts0, hXs, hbl, hlocks, hgv⟩ := C0
  have hown : s.vm.findClass RL = some m.cls := hown0
  have hts : ∀ w ∈ Cond.initialized RL :: AW, w.before #[Value.ref b] s = true := fun w hw => (List.mem_cons.mp hw).elim (fun e9 => by rw [e9]; exact hts0 _ (aw_tbl aw_0)) (fun h9 => hts0 _ (aw_tbl h9))
  intro B P E S L N B2 P2 E2 S2 L2 n ed f cd kn0 Fz H locs ls hJ hz hP hD hS hl
  obtain ⟨hn, hed, hN, hR, hMI, hPI⟩ := id hJ
  refine lv_aload_n hx hb dL_law_290 rfl (lv_at hl 1 rfl) ?_
  refine lv_aload_n hx hb dL_law_291 rfl (lv_at hl 0 rfl) ?_
  refine lv_iload hx hb dL_law_292 (lv_at hl 4 rfl) ?_
  refine lv_iconst (v := nI 1) hx hb dL_law_294 (by decide +kernel) ?_
  refine lv_iadd hx hb dL_law_295 ?_
  refine xh_topi (z := nI (i + 1)) (nI_add i 1) ?_
  refine xh_sld hx hb hXs hbl hbA hS (k := i + 1) (by omega) (by omega) dL_law_296 ?_
  refine lv_aload_n hx hb dL_law_297 rfl (lv_at hl 3 rfl) ?_
  refine xh_calli (wc := wOut cJ h f ++ wPB h ++ wLog cI cJ h B P E S L N (nI n) (nI ed) ++ wKn cI h kn0 Fz) (wr := wMo cI cJ h B2 P2 E2 S2 L2 cd (nI n) (nI ed)) (w1 := fun (u : (Int32 × (Nat)) ⊕ (Unit)) => (fun (u : (Int32 × (Nat)) ⊕ (Unit)) => match u with | .inl z => wOut cJ h (vp_updL f 0 z.1.toInt64) ++ (fun (g : Nat) => wPB h ++ wLog cI cJ h (va_cpy B B (min g n) 0 (n - min g n)) (va_cpy P P (min g n) 0 (n - min g n)) (va_cpy E E (min g n) 0 (n - min g n)) (va_cpy S S (min g n) 0 (n - min g n)) (va_cpy L L (min g n) 0 (n - min g n)) (va_cpy N N (min g n) 0 (n - min g n)) (nI (n - min g n)) (nI ed) ++ wKn cI h kn0 Fz) z.2 | .inr z => wOut cJ h f ++ (fun (_ : Unit) => wPB h ++ wLog cI cJ h B P E S L N (nI n) (nI ed) ++ wKn cI h kn0 Fz) z) u) hP hD hS hA [6, 7, 8, 9, 10, 11, 12, 13, 14, 15, 16] [0, 1, 2, 3, 4, 5] rfl rfl (by decide) (by decide) (vx_runSW (As := [.ref (h 0), .int (xs (i + 1)), .ref (h 30)]) (rest := []) ⟨hx, hb, hml, hown, hts⟩ (w_drop l dC dI cI cJ h H.size B P E S L N n ed Fz kn0 (xs (i + 1)) f hl0 hn hed hN) (vx_cwSW 3 hts (aw_SW aw_254 aw_255 aw_0 aw_256) rfl rfl rfl (by decide +kernel) ⟨Nat.le_of_ble_eq_true rfl, Nat.le_of_ble_eq_true rfl⟩) (xh_preSX hK hX hS (va_free hD hS hA [6, 7, 8, 9, 10, 11, 12, 13, 14, 15, 16] rfl) (hP.sub (ws' := wOut cJ h f ++ wPB h ++ wLog cI cJ h B P E S L N (nI n) (nI ed) ++ wKn cI h kn0 Fz) [6, 7, 8, 9, 10, 11, 12, 13, 14, 15, 16] rfl) (hD.sub (ws' := wOut cJ h f ++ wPB h ++ wLog cI cJ h B P E S L N (nI n) (nI ed) ++ wKn cI h kn0 Fz) [6, 7, 8, 9, 10, 11, 12, 13, 14, 15, 16] (by decide) rfl)) rfl rfl hl.1 rfl (lv_room (Nat.le_of_ble_eq_true rfl)) dL_law_298 ⟨hc, hs⟩) (fun k5 u H locs hw hP hD hS => ?_)
  rcases u with ⟨r9, g⟩ | _
  · obtain ⟨e5, eg, hg, h2⟩ := hw
    subst e5
    have hP := hP.sub (ws' := wMo cI cJ h B2 P2 E2 S2 L2 cd (nI n) (nI ed) ++ wOut cJ h (vp_updL f 0 r9.toInt64) ++ wPB h ++ wLog cI cJ h (va_cpy B B (min g n) 0 (n - min g n)) (va_cpy P P (min g n) 0 (n - min g n)) (va_cpy E E (min g n) 0 (n - min g n)) (va_cpy S S (min g n) 0 (n - min g n)) (va_cpy L L (min g n) 0 (n - min g n)) (va_cpy N N (min g n) 0 (n - min g n)) (nI (n - min g n)) (nI ed) ++ wKn cI h kn0 Fz) [0, 1, 2, 3, 4, 5, 6, 7, 8, 9, 10, 11, 12, 13, 14, 15, 16] rfl
    have hD := hD.sub (ws' := wMo cI cJ h B2 P2 E2 S2 L2 cd (nI n) (nI ed) ++ wOut cJ h (vp_updL f 0 r9.toInt64) ++ wPB h ++ wLog cI cJ h (va_cpy B B (min g n) 0 (n - min g n)) (va_cpy P P (min g n) 0 (n - min g n)) (va_cpy E E (min g n) 0 (n - min g n)) (va_cpy S S (min g n) 0 (n - min g n)) (va_cpy L L (min g n) 0 (n - min g n)) (va_cpy N N (min g n) 0 (n - min g n)) (nI (n - min g n)) (nI ed) ++ wKn cI h kn0 Fz) [0, 1, 2, 3, 4, 5, 6, 7, 8, 9, 10, 11, 12, 13, 14, 15, 16] (by decide) rfl
    refine lv_istore (lv' := [(5, .int (nI 0)), (0, .ref b), (1, .ref (h 0)), (2, .ref (h 20)), (3, .ref (h 30)), (4, .int (nI i))]) hx hb dL_law_301 hl (by decide) rfl (fun ls hl => ?_)
    refine lv_aload_n hx hb dL_law_303 rfl (lv_at hl 3 rfl) ?_
    refine lv_aload_n hx hb dL_law_304 rfl (lv_at hl 1 rfl) ?_
    refine lv_iload hx hb dL_law_305 (lv_at hl 5 rfl) ?_
    refine lv_iconst (v := nI 1) hx hb dL_law_307 (by decide +kernel) ?_
    refine lv_iadd hx hb dL_law_308 ?_
    refine xh_topi (z := nI (i + 1)) (nI_add i 1) ?_
    refine xh_sld hx hb hXs hbl hbA hS (k := i + 1) (by omega) (by omega) dL_law_309 ?_
    refine xh_calli (wc := wMo cI cJ h B2 P2 E2 S2 L2 cd (nI n) (nI ed)) (wr := wOut cJ h (vp_updL f 0 r9.toInt64) ++ wPB h ++ wLog cI cJ h (va_cpy B B (min g n) 0 (n - min g n)) (va_cpy P P (min g n) 0 (n - min g n)) (va_cpy E E (min g n) 0 (n - min g n)) (va_cpy S S (min g n) 0 (n - min g n)) (va_cpy L L (min g n) 0 (n - min g n)) (va_cpy N N (min g n) 0 (n - min g n)) (nI (n - min g n)) (nI ed) ++ wKn cI h kn0 Fz) (w1 := fun (u : Option (Nat × (Nat → Int32) × (Nat → Int64) × (Nat → Int32) × (Nat → Int32) × (Nat → Int32))) => (fun (u : Option (Nat × (Nat → Int32) × (Nat → Int64) × (Nat → Int32) × (Nat → Int32) × (Nat → Int32))) => match u with | none => wMo cI cJ h B2 P2 E2 S2 L2 (nI 1) (nI n) (nI ed) | some y => wMo cI cJ h y.2.1 y.2.2.1 y.2.2.2.1 y.2.2.2.2.1 y.2.2.2.2.2 (nI 0) (nI (n - min y.1 n)) (nI ed)) u) hP hD hS hA [0, 1, 2, 3, 4, 5] [6, 7, 8, 9, 10, 11, 12, 13, 14, 15, 16] rfl rfl (by decide) (by decide) (va_runV (As := [.int (xs (i + 1))]) (rest := []) ⟨hx, hb, hml, hown, hts⟩ (m_drop l dC dI cI cJ h H.size B2 P2 E2 S2 L2 cd n ed (xs (i + 1)) hn) (cwV 1 hts (aw_V aw_366 aw_367 aw_368 aw_4 aw_369) rfl rfl rfl (by decide +kernel) ⟨Nat.le_of_ble_eq_true rfl, Nat.le_of_ble_eq_true rfl⟩) (xh_preV (r0 := 0) hK (hP.sub (ws' := wMo cI cJ h B2 P2 E2 S2 L2 cd (nI n) (nI ed)) [0, 1, 2, 3, 4, 5] rfl) (hD.sub (ws' := wMo cI cJ h B2 P2 E2 S2 L2 cd (nI n) (nI ed)) [0, 1, 2, 3, 4, 5] (by decide) rfl) rfl rfl rfl) rfl rfl hl.1 rfl (lv_room (Nat.le_of_ble_eq_true rfl)) dL_law_310 ⟨hc, hs⟩) (fun r8 u H locs hm hP hD hS => ?_)
    rcases u with _ | ⟨g8, B4, P4, E4, S4, L4⟩
    · exact absurd ⟨by rw [eg]; exact nI_pos (by omega), by rw [eg]; exact nI_le hg (by decide)⟩ hm
    · obtain ⟨g1, g2, g3, d1, d2, d3, d4, d5⟩ := hm
      obtain rfl : g8 = g := (nI_eq (by omega) (by omega)).mp (g1.symm.trans eg)
      have hP := hP.sub (ws' := wMo cI cJ h B4 P4 E4 S4 L4 (nI 0) (nI (n - min g8 n)) (nI ed) ++ wOut cJ h (vp_updL f 0 r9.toInt64) ++ wPB h ++ wLog cI cJ h (va_cpy B B (min g8 n) 0 (n - min g8 n)) (va_cpy P P (min g8 n) 0 (n - min g8 n)) (va_cpy E E (min g8 n) 0 (n - min g8 n)) (va_cpy S S (min g8 n) 0 (n - min g8 n)) (va_cpy L L (min g8 n) 0 (n - min g8 n)) (va_cpy N N (min g8 n) 0 (n - min g8 n)) (nI (n - min g8 n)) (nI ed) ++ wKn cI h kn0 Fz) [11, 12, 13, 14, 15, 16, 0, 1, 2, 3, 4, 5, 6, 7, 8, 9, 10] rfl
      have hD := hD.sub (ws' := wMo cI cJ h B4 P4 E4 S4 L4 (nI 0) (nI (n - min g8 n)) (nI ed) ++ wOut cJ h (vp_updL f 0 r9.toInt64) ++ wPB h ++ wLog cI cJ h (va_cpy B B (min g8 n) 0 (n - min g8 n)) (va_cpy P P (min g8 n) 0 (n - min g8 n)) (va_cpy E E (min g8 n) 0 (n - min g8 n)) (va_cpy S S (min g8 n) 0 (n - min g8 n)) (va_cpy L L (min g8 n) 0 (n - min g8 n)) (va_cpy N N (min g8 n) 0 (n - min g8 n)) (nI (n - min g8 n)) (nI ed) ++ wKn cI h kn0 Fz) [11, 12, 13, 14, 15, 16, 0, 1, 2, 3, 4, 5, 6, 7, 8, 9, 10] (by decide) rfl
      have eqr : r9 = r8 := h2.trans g3.symm
      have hJ2 := pb_J_drop hJ d1 d2 d3 d4 d5
      refine lv_istore (lv' := [(6, .int r8), (5, .int (nI 0)), (0, .ref b), (1, .ref (h 0)), (2, .ref (h 20)), (3, .ref (h 30)), (4, .int (nI i))]) hx hb dL_law_313 hl (by decide) rfl (fun ls hl => ?_)
      refine lv_goto (tgt := 498) hx hb dL_law_315 (by decide) ?_
      exact kk _ _ _ _ _ _ _ _ _ _ _ _ _ _ _ _ _ _ _ _ hJ2 False.elim hP hD hS (lv_sub hl [2, 3, 4, 5, 6] rfl)
  · obtain ⟨e5, _, hnl⟩ := hw
    subst e5
    have hP := hP.sub (ws' := wMo cI cJ h B2 P2 E2 S2 L2 cd (nI n) (nI ed) ++ wOut cJ h f ++ wPB h ++ wLog cI cJ h B P E S L N (nI n) (nI ed) ++ wKn cI h kn0 Fz) [0, 1, 2, 3, 4, 5, 6, 7, 8, 9, 10, 11, 12, 13, 14, 15, 16] rfl
    have hD := hD.sub (ws' := wMo cI cJ h B2 P2 E2 S2 L2 cd (nI n) (nI ed) ++ wOut cJ h f ++ wPB h ++ wLog cI cJ h B P E S L N (nI n) (nI ed) ++ wKn cI h kn0 Fz) [0, 1, 2, 3, 4, 5, 6, 7, 8, 9, 10, 11, 12, 13, 14, 15, 16] (by decide) rfl
    refine lv_istore (lv' := [(5, .int (nI 1)), (0, .ref b), (1, .ref (h 0)), (2, .ref (h 20)), (3, .ref (h 30)), (4, .int (nI i))]) hx hb dL_law_301 hl (by decide) rfl (fun ls hl => ?_)
    refine lv_aload_n hx hb dL_law_303 rfl (lv_at hl 3 rfl) ?_
    refine lv_aload_n hx hb dL_law_304 rfl (lv_at hl 1 rfl) ?_
    refine lv_iload hx hb dL_law_305 (lv_at hl 5 rfl) ?_
    refine lv_iconst (v := nI 1) hx hb dL_law_307 (by decide +kernel) ?_
    refine lv_iadd hx hb dL_law_308 ?_
    refine xh_topi (z := nI (i + 1)) (nI_add i 1) ?_
    refine xh_sld hx hb hXs hbl hbA hS (k := i + 1) (by omega) (by omega) dL_law_309 ?_
    refine xh_calli (wc := wMo cI cJ h B2 P2 E2 S2 L2 cd (nI n) (nI ed)) (wr := wOut cJ h f ++ wPB h ++ wLog cI cJ h B P E S L N (nI n) (nI ed) ++ wKn cI h kn0 Fz) (w1 := fun (u : Option (Nat × (Nat → Int32) × (Nat → Int64) × (Nat → Int32) × (Nat → Int32) × (Nat → Int32))) => (fun (u : Option (Nat × (Nat → Int32) × (Nat → Int64) × (Nat → Int32) × (Nat → Int32) × (Nat → Int32))) => match u with | none => wMo cI cJ h B2 P2 E2 S2 L2 (nI 1) (nI n) (nI ed) | some y => wMo cI cJ h y.2.1 y.2.2.1 y.2.2.2.1 y.2.2.2.2.1 y.2.2.2.2.2 (nI 0) (nI (n - min y.1 n)) (nI ed)) u) hP hD hS hA [0, 1, 2, 3, 4, 5] [6, 7, 8, 9, 10, 11, 12, 13, 14, 15, 16] rfl rfl (by decide) (by decide) (va_runV (As := [.int (xs (i + 1))]) (rest := []) ⟨hx, hb, hml, hown, hts⟩ (m_drop l dC dI cI cJ h H.size B2 P2 E2 S2 L2 cd n ed (xs (i + 1)) hn) (cwV 1 hts (aw_V aw_366 aw_367 aw_368 aw_4 aw_369) rfl rfl rfl (by decide +kernel) ⟨Nat.le_of_ble_eq_true rfl, Nat.le_of_ble_eq_true rfl⟩) (xh_preV (r0 := 0) hK (hP.sub (ws' := wMo cI cJ h B2 P2 E2 S2 L2 cd (nI n) (nI ed)) [0, 1, 2, 3, 4, 5] rfl) (hD.sub (ws' := wMo cI cJ h B2 P2 E2 S2 L2 cd (nI n) (nI ed)) [0, 1, 2, 3, 4, 5] (by decide) rfl) rfl rfl rfl) rfl rfl hl.1 rfl (lv_room (Nat.le_of_ble_eq_true rfl)) dL_law_310 ⟨hc, hs⟩) (fun r8 u H locs hm hP hD hS => ?_)
    rcases u with _ | ⟨g8, B4, P4, E4, S4, L4⟩
    · have hm9 := hm
      have hP := hP.sub (ws' := wMo cI cJ h B2 P2 E2 S2 L2 (nI 1) (nI n) (nI ed) ++ wOut cJ h f ++ wPB h ++ wLog cI cJ h B P E S L N (nI n) (nI ed) ++ wKn cI h kn0 Fz) [11, 12, 13, 14, 15, 16, 0, 1, 2, 3, 4, 5, 6, 7, 8, 9, 10] rfl
      have hD := hD.sub (ws' := wMo cI cJ h B2 P2 E2 S2 L2 (nI 1) (nI n) (nI ed) ++ wOut cJ h f ++ wPB h ++ wLog cI cJ h B P E S L N (nI n) (nI ed) ++ wKn cI h kn0 Fz) [11, 12, 13, 14, 15, 16, 0, 1, 2, 3, 4, 5, 6, 7, 8, 9, 10] (by decide) rfl
      have hJ2 := hJ
      refine lv_istore (lv' := [(6, .int r8), (5, .int (nI 1)), (0, .ref b), (1, .ref (h 0)), (2, .ref (h 20)), (3, .ref (h 30)), (4, .int (nI i))]) hx hb dL_law_313 hl (by decide) rfl (fun ls hl => ?_)
      refine lv_goto (tgt := 498) hx hb dL_law_315 (by decide) ?_
      exact kk _ _ _ _ _ _ _ _ _ _ _ _ _ _ _ _ _ _ _ _ hJ2 False.elim hP hD hS (lv_sub hl [2, 3, 4, 5, 6] rfl)
    · obtain ⟨g1, g2, g3, d1, d2, d3, d4, d5⟩ := hm
      exact absurd ⟨by rw [g1]; exact nI_pos (by omega), by rw [g1]; exact nI_le g2 (by decide)⟩ hnl

set_option maxHeartbeats 4000000 in
set_option maxRecDepth 100000 in
theorem law_thin {p : Program} {l : Launch} {e : Env} {s : State} {m : MethodId} {below : List Frame} {meth : Method} {c : Code} {dC : Nat → ClassId} {dI : Nat → Nat → Nat} {cI cJ : ClassId} {h : Nat → Nat} {A : Nat → Prop} {b L0 : Nat} {xs : Nat → Int32} (C0 : lw_At p s m meth c b L0 xs) (hl0 : l.stackTraces = false) (hX : xX2 A s) (hK : va_K (dC, dI) classes [(cI, FieldType.int), (cJ, FieldType.long)] s) (hA : ∀ q : Nat, s.heap.size ≤ q → A q) (hbA : ¬ A b) (hL : L0 ≤ 3584) {z : Prop} {i cells slots : Nat} (hi : i + 7 ≤ L0) (hc : cells + 1 ≤ 1049) (hs : slots + 6 ≤ 30266)  (kk : law_at p l e s m below meth c dC dI cI cJ h A False b i (cells + 1) (slots + 6) 498) : law_at p l e s m below meth c dC dI cI cJ h A z b i cells slots 318 := by
  obtain ⟨hx, hb, hr, hml, hown0, hts0, hXs, hbl, hlocks, hgv⟩ := C0
  have hown : s.vm.findClass RL = some m.cls := hown0
  have hts : ∀ w ∈ Cond.initialized RL :: AW, w.before #[Value.ref b] s = true := fun w hw => (List.mem_cons.mp hw).elim (fun e9 => by rw [e9]; exact hts0 _ (aw_tbl aw_0)) (fun h9 => hts0 _ (aw_tbl h9))
  intro B P E S L N B2 P2 E2 S2 L2 n ed f cd kn0 Fz H locs ls hJ hz hP hD hS hl
  obtain ⟨hn, hed, hN, hR, hMI, hPI⟩ := id hJ
  refine lv_aload_n hx hb dL_law_318 rfl (lv_at hl 1 rfl) ?_
  refine xh_calli (wc := wPB h ++ wLog cI cJ h B P E S L N (nI n) (nI ed) ++ wKn cI h kn0 Fz) (wr := wMo cI cJ h B2 P2 E2 S2 L2 cd (nI n) (nI ed) ++ wOut cJ h f) (w1 := fun (u3 : (Nat → Int32) × (Nat → Int64) × (Nat → Int32) × (Nat → Int32) × (Nat → Int32) × (Nat → Int32)) => wPB h ++ wLog cI cJ h u3.1 u3.2.1 u3.2.2.1 u3.2.2.2.1 u3.2.2.2.2.1 u3.2.2.2.2.2 (nI (pb_kn N n)) (nI ed) ++ wKn cI h kn0 Fz) hP hD hS hA [7, 8, 9, 10, 11, 12, 13, 14, 15, 16] [0, 1, 2, 3, 4, 5, 6] rfl rfl (by decide) (by decide) (va_runV (As := []) (rest := []) ⟨hx, hb, hml, hown, hts⟩ (c_PB_thin l dC dI cI cJ h H.size B P E S L N n ed Fz kn0 hn) (cwV 0 hts (aw_V aw_83 aw_84 aw_85 aw_1 aw_86) rfl rfl rfl (by decide +kernel) ⟨Nat.le_of_ble_eq_true rfl, Nat.le_of_ble_eq_true rfl⟩) (xh_preV (r0 := 0) hK (hP.sub (ws' := wPB h ++ wLog cI cJ h B P E S L N (nI n) (nI ed) ++ wKn cI h kn0 Fz) [7, 8, 9, 10, 11, 12, 13, 14, 15, 16] rfl) (hD.sub (ws' := wPB h ++ wLog cI cJ h B P E S L N (nI n) (nI ed) ++ wKn cI h kn0 Fz) [7, 8, 9, 10, 11, 12, 13, 14, 15, 16] (by decide) rfl) rfl rfl rfl) rfl rfl hl.1 rfl (lv_room (Nat.le_of_ble_eq_true rfl)) dL_law_319 ⟨Nat.le_of_succ_le hc, Nat.le_trans (Nat.le_add_right _ 6) hs⟩) (fun r_1 u3 H locs hw hP hD hS => ?_)
  have hP : va_P (dC, dI) classes (wMo cI cJ h B2 P2 E2 S2 L2 cd (nI n) (nI ed) ++ wOut cJ h f ++ wPB h ++ wLog cI cJ h u3.1 u3.2.1 u3.2.2.1 u3.2.2.2.1 u3.2.2.2.2.1 u3.2.2.2.2.2 (nI (pb_kn N n)) (nI ed) ++ wKn cI h kn0 Fz) H := hP
  have hD : va_D A (wMo cI cJ h B2 P2 E2 S2 L2 cd (nI n) (nI ed) ++ wOut cJ h f ++ wPB h ++ wLog cI cJ h u3.1 u3.2.1 u3.2.2.1 u3.2.2.2.1 u3.2.2.2.2.1 u3.2.2.2.2.2 (nI (pb_kn N n)) (nI ed) ++ wKn cI h kn0 Fz) := hD
  obtain ⟨h2, c1, c2, c3, c4, c5, c6⟩ := hw
  refine lv_pop hx hb dL_law_322 rfl ?_
  refine lv_aload_n hx hb dL_law_323 rfl (lv_at hl 2 rfl) ?_
  refine xh_calli (wc := wMo cI cJ h B2 P2 E2 S2 L2 cd (nI n) (nI ed)) (wr := wOut cJ h f ++ wPB h ++ wLog cI cJ h u3.1 u3.2.1 u3.2.2.1 u3.2.2.2.1 u3.2.2.2.2.1 u3.2.2.2.2.2 (nI (pb_kn N n)) (nI ed) ++ wKn cI h kn0 Fz) (w1 := fun (u : (Nat → Int32) × (Nat → Int64) × (Nat → Int32) × (Nat → Int32) × (Nat → Int32)) => (fun (u : (Nat → Int32) × (Nat → Int64) × (Nat → Int32) × (Nat → Int32) × (Nat → Int32)) => wMo cI cJ h u.1 u.2.1 u.2.2.1 u.2.2.2.1 u.2.2.2.2 (nI 0) (nI (pb_kn (fun k => nI (pb_nv P2 n k)) n)) (nI ed)) u) hP hD hS hA [0, 1, 2, 3, 4, 5] [6, 7, 8, 9, 10, 11, 12, 13, 14, 15, 16] rfl rfl (by decide) (by decide) (va_runV (As := []) (rest := []) ⟨hx, hb, hml, hown, hts⟩ (m_thin l dC dI cI cJ h H.size B2 P2 E2 S2 L2 cd n ed  hn hPI) (cwV 0 hts (aw_V aw_374 aw_375 aw_376 aw_4 aw_377) rfl rfl rfl (by decide +kernel) ⟨Nat.le_of_ble_eq_true rfl, Nat.le_of_ble_eq_true rfl⟩) (xh_preV (r0 := 0) hK (hP.sub (ws' := wMo cI cJ h B2 P2 E2 S2 L2 cd (nI n) (nI ed)) [0, 1, 2, 3, 4, 5] rfl) (hD.sub (ws' := wMo cI cJ h B2 P2 E2 S2 L2 cd (nI n) (nI ed)) [0, 1, 2, 3, 4, 5] (by decide) rfl) rfl rfl rfl) rfl rfl hl.1 rfl (lv_room (Nat.le_of_ble_eq_true rfl)) dL_law_324 ⟨Nat.le_of_succ_le hc, Nat.le_trans (Nat.le_add_right _ 6) hs⟩) (fun r8 u H locs hm hP hD hS => ?_)
  obtain ⟨B4, P4, E4, S4, L4⟩ := u
  obtain ⟨g1, d1, d2, d3, d4, d5⟩ := hm
  obtain ⟨ek, hJ2⟩ := pb_J_thin hJ rfl c1 c2 c3 c4 c5 c6 d1 d2 d3 d4 d5
  rw [ek] at hP hD g1
  have hP := hP.sub (ws' := wMo cI cJ h B4 P4 E4 S4 L4 (nI 0) (nI (pb_kn N n)) (nI ed) ++ wOut cJ h f ++ wPB h ++ wLog cI cJ h u3.1 u3.2.1 u3.2.2.1 u3.2.2.2.1 u3.2.2.2.2.1 u3.2.2.2.2.2 (nI (pb_kn N n)) (nI ed) ++ wKn cI h kn0 Fz) [11, 12, 13, 14, 15, 16, 0, 1, 2, 3, 4, 5, 6, 7, 8, 9, 10] rfl
  have hD := hD.sub (ws' := wMo cI cJ h B4 P4 E4 S4 L4 (nI 0) (nI (pb_kn N n)) (nI ed) ++ wOut cJ h f ++ wPB h ++ wLog cI cJ h u3.1 u3.2.1 u3.2.2.1 u3.2.2.2.1 u3.2.2.2.2.1 u3.2.2.2.2.2 (nI (pb_kn N n)) (nI ed) ++ wKn cI h kn0 Fz) [11, 12, 13, 14, 15, 16, 0, 1, 2, 3, 4, 5, 6, 7, 8, 9, 10] (by decide) rfl
  refine lv_pop hx hb dL_law_327 rfl ?_
  refine lv_goto (tgt := 498) hx hb dL_law_328 (by decide) ?_
  refine W.widen (k := cells + 1) (n := slots + 6) (Nat.le_succ _) (Nat.le_add_right _ _) ?_
  exact kk _ _ _ _ _ _ _ _ _ _ _ _ _ _ _ _ _ _ _ _ hJ2 False.elim hP hD hS (lv_sub hl [0, 1, 2, 3, 4] rfl)

set_option maxHeartbeats 4000000 in
set_option maxRecDepth 100000 in
theorem law_known {p : Program} {l : Launch} {e : Env} {s : State} {m : MethodId} {below : List Frame} {meth : Method} {c : Code} {dC : Nat → ClassId} {dI : Nat → Nat → Nat} {cI cJ : ClassId} {h : Nat → Nat} {A : Nat → Prop} {b L0 : Nat} {xs : Nat → Int32} (C0 : lw_At p s m meth c b L0 xs) (hl0 : l.stackTraces = false) (hX : xX2 A s) (hK : va_K (dC, dI) classes [(cI, FieldType.int), (cJ, FieldType.long)] s) (hA : ∀ q : Nat, s.heap.size ≤ q → A q) (hbA : ¬ A b) (hL : L0 ≤ 3584) {z : Prop} {i cells slots : Nat} (hi : i + 7 ≤ L0) (hc : cells + 1 ≤ 1049) (hs : slots + 6 ≤ 30266)  (kk : law_at p l e s m below meth c dC dI cI cJ h A False b i (cells + 1) (slots + 6) 498) : law_at p l e s m below meth c dC dI cI cJ h A z b i cells slots 331 := by
  obtain ⟨hx, hb, hr, hml, hown0, hts0, hXs, hbl, hlocks, hgv⟩ := C0
  have hown : s.vm.findClass RL = some m.cls := hown0
  have hts : ∀ w ∈ Cond.initialized RL :: AW, w.before #[Value.ref b] s = true := fun w hw => (List.mem_cons.mp hw).elim (fun e9 => by rw [e9]; exact hts0 _ (aw_tbl aw_0)) (fun h9 => hts0 _ (aw_tbl h9))
  intro B P E S L N B2 P2 E2 S2 L2 n ed f cd kn0 Fz H locs ls hJ hz hP hD hS hl
  obtain ⟨hn, hed, hN, hR, hMI, hPI⟩ := id hJ
  refine lv_aload_n hx hb dL_law_331 rfl (lv_at hl 1 rfl) ?_
  refine lv_aload_n hx hb dL_law_332 rfl (lv_at hl 0 rfl) ?_
  refine lv_iload hx hb dL_law_333 (lv_at hl 4 rfl) ?_
  refine lv_iconst (v := nI 1) hx hb dL_law_335 (by decide +kernel) ?_
  refine lv_iadd hx hb dL_law_336 ?_
  refine xh_topi (z := nI (i + 1)) (nI_add i 1) ?_
  refine xh_sld hx hb hXs hbl hbA hS (k := i + 1) (by omega) (by omega) dL_law_337 ?_
  refine lv_i2l (v := (xs (i + 1)).toInt64) hx hb dL_law_338 rfl ?_
  refine lv_bipush (v := nI 32) hx hb dL_law_339 (by decide +kernel) ?_
  refine lv_lshl (v := ((xs (i + 1)).toInt64) <<< ((nI 32).toInt64 &&& 63)) hx hb dL_law_341 rfl ?_
  refine lv_aload_n hx hb dL_law_342 rfl (lv_at hl 0 rfl) ?_
  refine lv_iload hx hb dL_law_343 (lv_at hl 4 rfl) ?_
  refine lv_iconst (v := nI 2) hx hb dL_law_345 (by decide +kernel) ?_
  refine lv_iadd hx hb dL_law_346 ?_
  refine xh_topi (z := nI (i + 2)) (nI_add i 2) ?_
  refine xh_sld hx hb hXs hbl hbA hS (k := i + 2) (by omega) (by omega) dL_law_347 ?_
  refine lv_i2l (v := (xs (i + 2)).toInt64) hx hb dL_law_348 rfl ?_
  refine lv_ldc2 (v := 4294967295) hx hb hown (hts (.constantLong RL 40 4294967295) (mm aw_398)) dL_law_349 ?_
  refine lv_land hx hb dL_law_352 ?_
  refine lv_lor hx hb dL_law_353 ?_
  refine lv_topl (fun pr epr => ?_)
  refine lv_aload_n hx hb dL_law_354 rfl (lv_at hl 0 rfl) ?_
  refine lv_iload hx hb dL_law_355 (lv_at hl 4 rfl) ?_
  refine lv_iconst (v := nI 3) hx hb dL_law_357 (by decide +kernel) ?_
  refine lv_iadd hx hb dL_law_358 ?_
  refine xh_topi (z := nI (i + 3)) (nI_add i 3) ?_
  refine xh_sld hx hb hXs hbl hbA hS (k := i + 3) (by omega) (by omega) dL_law_359 ?_
  refine lv_aload_n hx hb dL_law_360 rfl (lv_at hl 3 rfl) ?_
  refine xh_calli (wc := wOut cJ h f ++ wPB h ++ wLog cI cJ h B P E S L N (nI n) (nI ed) ++ wKn cI h kn0 Fz) (wr := wMo cI cJ h B2 P2 E2 S2 L2 cd (nI n) (nI ed)) (w1 := fun (u : (Int32 × (Nat × Int32 × (Nat → Int32))) ⊕ (Unit)) => (fun (u : (Int32 × (Nat × Int32 × (Nat → Int32))) ⊕ (Unit)) => match u with | .inl z => wOut cJ h (vp_updL f 0 z.1.toInt64) ++ (fun (u : Nat × Int32 × (Nat → Int32)) => wPB h ++ wLog cI cJ h B P E S L N (nI n) (nI ed) ++ wKn cI h u.2.1 u.2.2) z.2 | .inr z => wOut cJ h f ++ (fun (_ : Unit) => wPB h ++ wLog cI cJ h B P E S L N (nI n) (nI ed) ++ wKn cI h kn0 Fz) z) u) hP hD hS hA [6, 7, 8, 9, 10, 11, 12, 13, 14, 15, 16] [0, 1, 2, 3, 4, 5] rfl rfl (by decide) (by decide) (vx_runSW (As := [.ref (h 0), .long pr, .int (xs (i + 3)), .ref (h 30)]) (rest := []) ⟨hx, hb, hml, hown, hts⟩ (w_known l dC dI cI cJ h H.size B P E S L N n ed Fz kn0 pr (xs (i + 3)) f hl0 hn hed hN) (vx_cwSW 4 hts (aw_SW aw_269 aw_270 aw_0 aw_271) rfl rfl rfl (by decide +kernel) ⟨Nat.le_of_ble_eq_true rfl, Nat.le_of_ble_eq_true rfl⟩) (xh_preSX hK hX hS (va_free hD hS hA [6, 7, 8, 9, 10, 11, 12, 13, 14, 15, 16] rfl) (hP.sub (ws' := wOut cJ h f ++ wPB h ++ wLog cI cJ h B P E S L N (nI n) (nI ed) ++ wKn cI h kn0 Fz) [6, 7, 8, 9, 10, 11, 12, 13, 14, 15, 16] rfl) (hD.sub (ws' := wOut cJ h f ++ wPB h ++ wLog cI cJ h B P E S L N (nI n) (nI ed) ++ wKn cI h kn0 Fz) [6, 7, 8, 9, 10, 11, 12, 13, 14, 15, 16] (by decide) rfl)) rfl rfl hl.1 rfl (lv_room (Nat.le_of_ble_eq_true rfl)) dL_law_361 ⟨hc, hs⟩) (fun k5 u H locs hw hP hD hS => ?_)
  rcases u with ⟨r9, y9, kn1, F1⟩ | _
  · obtain ⟨e5, hq0, ey, hy, h2⟩ := hw
    subst e5
    have hy : y9 ≤ 4 := hy
    have hP := hP.sub (ws' := wMo cI cJ h B2 P2 E2 S2 L2 cd (nI n) (nI ed) ++ wOut cJ h (vp_updL f 0 r9.toInt64) ++ wPB h ++ wLog cI cJ h B P E S L N (nI n) (nI ed) ++ wKn cI h kn1 F1) [0, 1, 2, 3, 4, 5, 6, 7, 8, 9, 10, 11, 12, 13, 14, 15, 16] rfl
    have hD := hD.sub (ws' := wMo cI cJ h B2 P2 E2 S2 L2 cd (nI n) (nI ed) ++ wOut cJ h (vp_updL f 0 r9.toInt64) ++ wPB h ++ wLog cI cJ h B P E S L N (nI n) (nI ed) ++ wKn cI h kn1 F1) [0, 1, 2, 3, 4, 5, 6, 7, 8, 9, 10, 11, 12, 13, 14, 15, 16] (by decide) rfl
    refine lv_istore (lv' := [(5, .int (nI 0)), (0, .ref b), (1, .ref (h 0)), (2, .ref (h 20)), (3, .ref (h 30)), (4, .int (nI i))]) hx hb dL_law_364 hl (by decide) rfl (fun ls hl => ?_)
    refine lv_aload_n hx hb dL_law_366 rfl (lv_at hl 3 rfl) ?_
    refine lv_aload_n hx hb dL_law_367 rfl (lv_at hl 1 rfl) ?_
    refine lv_iload hx hb dL_law_368 (lv_at hl 5 rfl) ?_
    refine lv_iconst (v := nI 1) hx hb dL_law_370 (by decide +kernel) ?_
    refine lv_iadd hx hb dL_law_371 ?_
    refine xh_topi (z := nI (i + 1)) (nI_add i 1) ?_
    refine xh_sld hx hb hXs hbl hbA hS (k := i + 1) (by omega) (by omega) dL_law_372 ?_
    refine lv_i2l (v := (xs (i + 1)).toInt64) hx hb dL_law_373 rfl ?_
    refine lv_bipush (v := nI 32) hx hb dL_law_374 (by decide +kernel) ?_
    refine lv_lshl (v := ((xs (i + 1)).toInt64) <<< ((nI 32).toInt64 &&& 63)) hx hb dL_law_376 rfl ?_
    refine lv_aload_n hx hb dL_law_377 rfl (lv_at hl 1 rfl) ?_
    refine lv_iload hx hb dL_law_378 (lv_at hl 5 rfl) ?_
    refine lv_iconst (v := nI 2) hx hb dL_law_380 (by decide +kernel) ?_
    refine lv_iadd hx hb dL_law_381 ?_
    refine xh_topi (z := nI (i + 2)) (nI_add i 2) ?_
    refine xh_sld hx hb hXs hbl hbA hS (k := i + 2) (by omega) (by omega) dL_law_382 ?_
    refine lv_i2l (v := (xs (i + 2)).toInt64) hx hb dL_law_383 rfl ?_
    refine lv_ldc2 (v := 4294967295) hx hb hown (hts (.constantLong RL 40 4294967295) (mm aw_398)) dL_law_384 ?_
    refine lv_land hx hb dL_law_387 ?_
    refine lv_lor hx hb dL_law_388 ?_
    refine xh_topl (z := pr) (epr.symm) ?_
    refine lv_aload_n hx hb dL_law_389 rfl (lv_at hl 1 rfl) ?_
    refine lv_iload hx hb dL_law_390 (lv_at hl 5 rfl) ?_
    refine lv_iconst (v := nI 3) hx hb dL_law_392 (by decide +kernel) ?_
    refine lv_iadd hx hb dL_law_393 ?_
    refine xh_topi (z := nI (i + 3)) (nI_add i 3) ?_
    refine xh_sld hx hb hXs hbl hbA hS (k := i + 3) (by omega) (by omega) dL_law_394 ?_
    refine xh_calli (wc := wMo cI cJ h B2 P2 E2 S2 L2 cd (nI n) (nI ed)) (wr := wOut cJ h (vp_updL f 0 r9.toInt64) ++ wPB h ++ wLog cI cJ h B P E S L N (nI n) (nI ed) ++ wKn cI h kn1 F1) (w1 := fun (u : Option Nat) => (fun (u : Option Nat) => match u with | none => wMo cI cJ h B2 P2 E2 S2 L2 (nI 1) (nI n) (nI ed) | some _ => wMo cI cJ h B2 P2 E2 S2 L2 (nI 0) (nI n) (nI ed)) u) hP hD hS hA [0, 1, 2, 3, 4, 5] [6, 7, 8, 9, 10, 11, 12, 13, 14, 15, 16] rfl rfl (by decide) (by decide) (va_runV (As := [.long pr, .int (xs (i + 3))]) (rest := []) ⟨hx, hb, hml, hown, hts⟩ (m_known l dC dI cI cJ h H.size B2 P2 E2 S2 L2 cd n ed pr (xs (i + 3)) hn hMI) (cwV 2 hts (aw_V aw_386 aw_387 aw_388 aw_4 aw_389) rfl rfl rfl (by decide +kernel) ⟨Nat.le_of_ble_eq_true rfl, Nat.le_of_ble_eq_true rfl⟩) (xh_preV (r0 := 0) hK (hP.sub (ws' := wMo cI cJ h B2 P2 E2 S2 L2 cd (nI n) (nI ed)) [0, 1, 2, 3, 4, 5] rfl) (hD.sub (ws' := wMo cI cJ h B2 P2 E2 S2 L2 cd (nI n) (nI ed)) [0, 1, 2, 3, 4, 5] (by decide) rfl) rfl rfl rfl) rfl rfl hl.1 rfl (lv_room (Nat.le_of_ble_eq_true rfl)) dL_law_395 ⟨hc, hs⟩) (fun r8 u H locs hm hP hD hS => ?_)
    rcases u with _ | y8
    · exact absurd ⟨hq0, by rw [ey]; exact nI_pos (by omega), by rw [ey]; exact nI_le hy (by decide)⟩ hm
    · obtain ⟨g0, g1, g2, g3⟩ := hm
      have ey8 : y8 = y9 := (nI_eq (by omega) (by omega)).mp (g1.symm.trans ey)
      rw [ey8] at g3
      have hP := hP.sub (ws' := wMo cI cJ h B2 P2 E2 S2 L2 (nI 0) (nI n) (nI ed) ++ wOut cJ h (vp_updL f 0 r9.toInt64) ++ wPB h ++ wLog cI cJ h B P E S L N (nI n) (nI ed) ++ wKn cI h kn1 F1) [11, 12, 13, 14, 15, 16, 0, 1, 2, 3, 4, 5, 6, 7, 8, 9, 10] rfl
      have hD := hD.sub (ws' := wMo cI cJ h B2 P2 E2 S2 L2 (nI 0) (nI n) (nI ed) ++ wOut cJ h (vp_updL f 0 r9.toInt64) ++ wPB h ++ wLog cI cJ h B P E S L N (nI n) (nI ed) ++ wKn cI h kn1 F1) [11, 12, 13, 14, 15, 16, 0, 1, 2, 3, 4, 5, 6, 7, 8, 9, 10] (by decide) rfl
      have eqr : r9 = r8 := h2.trans ((pb_R_kno hR pr y9).trans g3.symm)
      have hJ2 := hJ
      refine lv_istore (lv' := [(6, .int r8), (5, .int (nI 0)), (0, .ref b), (1, .ref (h 0)), (2, .ref (h 20)), (3, .ref (h 30)), (4, .int (nI i))]) hx hb dL_law_398 hl (by decide) rfl (fun ls hl => ?_)
      refine lv_goto (tgt := 498) hx hb dL_law_400 (by decide) ?_
      exact kk _ _ _ _ _ _ _ _ _ _ _ _ _ _ _ _ _ _ _ _ hJ2 False.elim hP hD hS (lv_sub hl [2, 3, 4, 5, 6] rfl)
  · obtain ⟨e5, _, hnl⟩ := hw
    subst e5
    have hP := hP.sub (ws' := wMo cI cJ h B2 P2 E2 S2 L2 cd (nI n) (nI ed) ++ wOut cJ h f ++ wPB h ++ wLog cI cJ h B P E S L N (nI n) (nI ed) ++ wKn cI h kn0 Fz) [0, 1, 2, 3, 4, 5, 6, 7, 8, 9, 10, 11, 12, 13, 14, 15, 16] rfl
    have hD := hD.sub (ws' := wMo cI cJ h B2 P2 E2 S2 L2 cd (nI n) (nI ed) ++ wOut cJ h f ++ wPB h ++ wLog cI cJ h B P E S L N (nI n) (nI ed) ++ wKn cI h kn0 Fz) [0, 1, 2, 3, 4, 5, 6, 7, 8, 9, 10, 11, 12, 13, 14, 15, 16] (by decide) rfl
    refine lv_istore (lv' := [(5, .int (nI 1)), (0, .ref b), (1, .ref (h 0)), (2, .ref (h 20)), (3, .ref (h 30)), (4, .int (nI i))]) hx hb dL_law_364 hl (by decide) rfl (fun ls hl => ?_)
    refine lv_aload_n hx hb dL_law_366 rfl (lv_at hl 3 rfl) ?_
    refine lv_aload_n hx hb dL_law_367 rfl (lv_at hl 1 rfl) ?_
    refine lv_iload hx hb dL_law_368 (lv_at hl 5 rfl) ?_
    refine lv_iconst (v := nI 1) hx hb dL_law_370 (by decide +kernel) ?_
    refine lv_iadd hx hb dL_law_371 ?_
    refine xh_topi (z := nI (i + 1)) (nI_add i 1) ?_
    refine xh_sld hx hb hXs hbl hbA hS (k := i + 1) (by omega) (by omega) dL_law_372 ?_
    refine lv_i2l (v := (xs (i + 1)).toInt64) hx hb dL_law_373 rfl ?_
    refine lv_bipush (v := nI 32) hx hb dL_law_374 (by decide +kernel) ?_
    refine lv_lshl (v := ((xs (i + 1)).toInt64) <<< ((nI 32).toInt64 &&& 63)) hx hb dL_law_376 rfl ?_
    refine lv_aload_n hx hb dL_law_377 rfl (lv_at hl 1 rfl) ?_
    refine lv_iload hx hb dL_law_378 (lv_at hl 5 rfl) ?_
    refine lv_iconst (v := nI 2) hx hb dL_law_380 (by decide +kernel) ?_
    refine lv_iadd hx hb dL_law_381 ?_
    refine xh_topi (z := nI (i + 2)) (nI_add i 2) ?_
    refine xh_sld hx hb hXs hbl hbA hS (k := i + 2) (by omega) (by omega) dL_law_382 ?_
    refine lv_i2l (v := (xs (i + 2)).toInt64) hx hb dL_law_383 rfl ?_
    refine lv_ldc2 (v := 4294967295) hx hb hown (hts (.constantLong RL 40 4294967295) (mm aw_398)) dL_law_384 ?_
    refine lv_land hx hb dL_law_387 ?_
    refine lv_lor hx hb dL_law_388 ?_
    refine xh_topl (z := pr) (epr.symm) ?_
    refine lv_aload_n hx hb dL_law_389 rfl (lv_at hl 1 rfl) ?_
    refine lv_iload hx hb dL_law_390 (lv_at hl 5 rfl) ?_
    refine lv_iconst (v := nI 3) hx hb dL_law_392 (by decide +kernel) ?_
    refine lv_iadd hx hb dL_law_393 ?_
    refine xh_topi (z := nI (i + 3)) (nI_add i 3) ?_
    refine xh_sld hx hb hXs hbl hbA hS (k := i + 3) (by omega) (by omega) dL_law_394 ?_
    refine xh_calli (wc := wMo cI cJ h B2 P2 E2 S2 L2 cd (nI n) (nI ed)) (wr := wOut cJ h f ++ wPB h ++ wLog cI cJ h B P E S L N (nI n) (nI ed) ++ wKn cI h kn0 Fz) (w1 := fun (u : Option Nat) => (fun (u : Option Nat) => match u with | none => wMo cI cJ h B2 P2 E2 S2 L2 (nI 1) (nI n) (nI ed) | some _ => wMo cI cJ h B2 P2 E2 S2 L2 (nI 0) (nI n) (nI ed)) u) hP hD hS hA [0, 1, 2, 3, 4, 5] [6, 7, 8, 9, 10, 11, 12, 13, 14, 15, 16] rfl rfl (by decide) (by decide) (va_runV (As := [.long pr, .int (xs (i + 3))]) (rest := []) ⟨hx, hb, hml, hown, hts⟩ (m_known l dC dI cI cJ h H.size B2 P2 E2 S2 L2 cd n ed pr (xs (i + 3)) hn hMI) (cwV 2 hts (aw_V aw_386 aw_387 aw_388 aw_4 aw_389) rfl rfl rfl (by decide +kernel) ⟨Nat.le_of_ble_eq_true rfl, Nat.le_of_ble_eq_true rfl⟩) (xh_preV (r0 := 0) hK (hP.sub (ws' := wMo cI cJ h B2 P2 E2 S2 L2 cd (nI n) (nI ed)) [0, 1, 2, 3, 4, 5] rfl) (hD.sub (ws' := wMo cI cJ h B2 P2 E2 S2 L2 cd (nI n) (nI ed)) [0, 1, 2, 3, 4, 5] (by decide) rfl) rfl rfl rfl) rfl rfl hl.1 rfl (lv_room (Nat.le_of_ble_eq_true rfl)) dL_law_395 ⟨hc, hs⟩) (fun r8 u H locs hm hP hD hS => ?_)
    rcases u with _ | y8
    · have hm9 := hm
      have hP := hP.sub (ws' := wMo cI cJ h B2 P2 E2 S2 L2 (nI 1) (nI n) (nI ed) ++ wOut cJ h f ++ wPB h ++ wLog cI cJ h B P E S L N (nI n) (nI ed) ++ wKn cI h kn0 Fz) [11, 12, 13, 14, 15, 16, 0, 1, 2, 3, 4, 5, 6, 7, 8, 9, 10] rfl
      have hD := hD.sub (ws' := wMo cI cJ h B2 P2 E2 S2 L2 (nI 1) (nI n) (nI ed) ++ wOut cJ h f ++ wPB h ++ wLog cI cJ h B P E S L N (nI n) (nI ed) ++ wKn cI h kn0 Fz) [11, 12, 13, 14, 15, 16, 0, 1, 2, 3, 4, 5, 6, 7, 8, 9, 10] (by decide) rfl
      have hJ2 := hJ
      refine lv_istore (lv' := [(6, .int r8), (5, .int (nI 1)), (0, .ref b), (1, .ref (h 0)), (2, .ref (h 20)), (3, .ref (h 30)), (4, .int (nI i))]) hx hb dL_law_398 hl (by decide) rfl (fun ls hl => ?_)
      refine lv_goto (tgt := 498) hx hb dL_law_400 (by decide) ?_
      exact kk _ _ _ _ _ _ _ _ _ _ _ _ _ _ _ _ _ _ _ _ hJ2 False.elim hP hD hS (lv_sub hl [2, 3, 4, 5, 6] rfl)
    · obtain ⟨g0, g1, g2, g3⟩ := hm
      exact absurd ⟨g0, by rw [g1]; exact nI_pos (by omega), by rw [g1]; exact nI_le g2 (by decide)⟩ hnl

set_option maxHeartbeats 4000000 in
set_option maxRecDepth 100000 in
theorem law_batch {p : Program} {l : Launch} {e : Env} {s : State} {m : MethodId} {below : List Frame} {meth : Method} {c : Code} {dC : Nat → ClassId} {dI : Nat → Nat → Nat} {cI cJ : ClassId} {h : Nat → Nat} {A : Nat → Prop} {b L0 : Nat} {xs : Nat → Int32} (C0 : lw_At p s m meth c b L0 xs) (hl0 : l.stackTraces = false) (hX : xX2 A s) (hK : va_K (dC, dI) classes [(cI, FieldType.int), (cJ, FieldType.long)] s) (hA : ∀ q : Nat, s.heap.size ≤ q → A q) (hbA : ¬ A b) (hL : L0 ≤ 3584) {z : Prop} {i cells slots : Nat} (hi : i + 7 ≤ L0) (hc : cells + 1 ≤ 1049) (hs : slots + 6 ≤ 30266) (hopen : ∀ (n ed : Nat) (B : Nat → Int32) (P : Nat → Int64) (E S L N B2 : Nat → Int32) (P2 : Nat → Int64) (E2 S2 L2 : Nat → Int32), pb_J n ed B P E S L N B2 P2 E2 S2 L2 → ∀ k, k < n → S k = S2 k) (kk : law_at p l e s m below meth c dC dI cI cJ h A False b i (cells + 1) (slots + 6) 498) : law_at p l e s m below meth c dC dI cI cJ h A z b i cells slots 403 := by
  obtain ⟨hx, hb, hr, hml, hown0, hts0, hXs, hbl, hlocks, hgv⟩ := C0
  have hown : s.vm.findClass RL = some m.cls := hown0
  have hts : ∀ w ∈ Cond.initialized RL :: AW, w.before #[Value.ref b] s = true := fun w hw => (List.mem_cons.mp hw).elim (fun e9 => by rw [e9]; exact hts0 _ (aw_tbl aw_0)) (fun h9 => hts0 _ (aw_tbl h9))
  intro B P E S L N B2 P2 E2 S2 L2 n ed f cd kn0 Fz H locs ls hJ hz hP hD hS hl
  obtain ⟨hn, hed, hN, hR, hMI, hPI⟩ := id hJ
  refine lv_aload_n hx hb dL_law_403 rfl (lv_at hl 1 rfl) ?_
  refine lv_aload_n hx hb dL_law_404 rfl (lv_at hl 0 rfl) ?_
  refine lv_iload hx hb dL_law_405 (lv_at hl 4 rfl) ?_
  refine lv_iconst (v := nI 1) hx hb dL_law_407 (by decide +kernel) ?_
  refine lv_iadd hx hb dL_law_408 ?_
  refine xh_topi (z := nI (i + 1)) (nI_add i 1) ?_
  refine xh_sld hx hb hXs hbl hbA hS (k := i + 1) (by omega) (by omega) dL_law_409 ?_
  refine lv_aload_n hx hb dL_law_410 rfl (lv_at hl 0 rfl) ?_
  refine lv_iload hx hb dL_law_411 (lv_at hl 4 rfl) ?_
  refine lv_iconst (v := nI 2) hx hb dL_law_413 (by decide +kernel) ?_
  refine lv_iadd hx hb dL_law_414 ?_
  refine xh_topi (z := nI (i + 2)) (nI_add i 2) ?_
  refine xh_sld hx hb hXs hbl hbA hS (k := i + 2) (by omega) (by omega) dL_law_415 ?_
  refine lv_aload_n hx hb dL_law_416 rfl (lv_at hl 3 rfl) ?_
  refine xh_calli (wc := wOut cJ h f ++ wPB h ++ wLog cI cJ h B P E S L N (nI n) (nI ed) ++ wKn cI h kn0 Fz) (wr := wMo cI cJ h B2 P2 E2 S2 L2 cd (nI n) (nI ed)) (w1 := fun (u : (Int64 × (Nat × Nat)) ⊕ (Unit)) => (fun (u : (Int64 × (Nat × Nat)) ⊕ (Unit)) => match u with | .inl z => wOut cJ h (vp_updL f 0 z.1) ++ (fun (_ : Nat × Nat) => wPB h ++ wLog cI cJ h B P E S L N (nI n) (nI ed) ++ wKn cI h kn0 Fz) z.2 | .inr z => wOut cJ h f ++ (fun (_ : Unit) => wPB h ++ wLog cI cJ h B P E S L N (nI n) (nI ed) ++ wKn cI h kn0 Fz) z) u) hP hD hS hA [6, 7, 8, 9, 10, 11, 12, 13, 14, 15, 16] [0, 1, 2, 3, 4, 5] rfl rfl (by decide) (by decide) (vx_runSW (As := [.ref (h 0), .int (xs (i + 1)), .int (xs (i + 2)), .ref (h 30)]) (rest := []) ⟨hx, hb, hml, hown, hts⟩ (w_batch l dC dI cI cJ h H.size B P E S L N n ed Fz kn0 (xs (i + 1)) (xs (i + 2)) f hl0 hn hed hN) (vx_cwSW 4 hts (aw_SW aw_281 aw_282 aw_0 aw_283) rfl rfl rfl (by decide +kernel) ⟨Nat.le_of_ble_eq_true rfl, Nat.le_of_ble_eq_true rfl⟩) (xh_preSX hK hX hS (va_free hD hS hA [6, 7, 8, 9, 10, 11, 12, 13, 14, 15, 16] rfl) (hP.sub (ws' := wOut cJ h f ++ wPB h ++ wLog cI cJ h B P E S L N (nI n) (nI ed) ++ wKn cI h kn0 Fz) [6, 7, 8, 9, 10, 11, 12, 13, 14, 15, 16] rfl) (hD.sub (ws' := wOut cJ h f ++ wPB h ++ wLog cI cJ h B P E S L N (nI n) (nI ed) ++ wKn cI h kn0 Fz) [6, 7, 8, 9, 10, 11, 12, 13, 14, 15, 16] (by decide) rfl)) rfl rfl hl.1 rfl (lv_room (Nat.le_of_ble_eq_true rfl)) dL_law_417 ⟨hc, hs⟩) (fun k5 u H locs hw hP hD hS => ?_)
  rcases u with ⟨r9, k9, y9⟩ | _
  · obtain ⟨e5, ek, hk, ey, hy, h2⟩ := hw
    subst e5
    have hk : k9 < n := hk
    have hy : y9 ≤ 5 := hy
    have hP := hP.sub (ws' := wMo cI cJ h B2 P2 E2 S2 L2 cd (nI n) (nI ed) ++ wOut cJ h (vp_updL f 0 r9) ++ wPB h ++ wLog cI cJ h B P E S L N (nI n) (nI ed) ++ wKn cI h kn0 Fz) [0, 1, 2, 3, 4, 5, 6, 7, 8, 9, 10, 11, 12, 13, 14, 15, 16] rfl
    have hD := hD.sub (ws' := wMo cI cJ h B2 P2 E2 S2 L2 cd (nI n) (nI ed) ++ wOut cJ h (vp_updL f 0 r9) ++ wPB h ++ wLog cI cJ h B P E S L N (nI n) (nI ed) ++ wKn cI h kn0 Fz) [0, 1, 2, 3, 4, 5, 6, 7, 8, 9, 10, 11, 12, 13, 14, 15, 16] (by decide) rfl
    refine lv_istore (lv' := [(5, .int (nI 0)), (0, .ref b), (1, .ref (h 0)), (2, .ref (h 20)), (3, .ref (h 30)), (4, .int (nI i))]) hx hb dL_law_420 hl (by decide) rfl (fun ls hl => ?_)
    refine lv_aload_n hx hb dL_law_422 rfl (lv_at hl 3 rfl) ?_
    refine lv_aload_n hx hb dL_law_423 rfl (lv_at hl 1 rfl) ?_
    refine lv_iload hx hb dL_law_424 (lv_at hl 5 rfl) ?_
    refine lv_iconst (v := nI 1) hx hb dL_law_426 (by decide +kernel) ?_
    refine lv_iadd hx hb dL_law_427 ?_
    refine xh_topi (z := nI (i + 1)) (nI_add i 1) ?_
    refine xh_sld hx hb hXs hbl hbA hS (k := i + 1) (by omega) (by omega) dL_law_428 ?_
    refine lv_aload_n hx hb dL_law_429 rfl (lv_at hl 1 rfl) ?_
    refine lv_iload hx hb dL_law_430 (lv_at hl 5 rfl) ?_
    refine lv_iconst (v := nI 2) hx hb dL_law_432 (by decide +kernel) ?_
    refine lv_iadd hx hb dL_law_433 ?_
    refine xh_topi (z := nI (i + 2)) (nI_add i 2) ?_
    refine xh_sld hx hb hXs hbl hbA hS (k := i + 2) (by omega) (by omega) dL_law_434 ?_
    refine xh_calll (wc := wMo cI cJ h B2 P2 E2 S2 L2 cd (nI n) (nI ed)) (wr := wOut cJ h (vp_updL f 0 r9) ++ wPB h ++ wLog cI cJ h B P E S L N (nI n) (nI ed) ++ wKn cI h kn0 Fz) (w1 := fun (u : Option (Nat × Nat)) => (fun (u : Option (Nat × Nat)) => match u with | none => wMo cI cJ h B2 P2 E2 S2 L2 (nI 1) (nI n) (nI ed) | some _ => wMo cI cJ h B2 P2 E2 S2 L2 (nI 0) (nI n) (nI ed)) u) hP hD hS hA [0, 1, 2, 3, 4, 5] [6, 7, 8, 9, 10, 11, 12, 13, 14, 15, 16] rfl rfl (by decide) (by decide) (va_runV (As := [.int (xs (i + 1)), .int (xs (i + 2))]) (rest := []) ⟨hx, hb, hml, hown, hts⟩ (m_batch l dC dI cI cJ h H.size B2 P2 E2 S2 L2 cd n ed (xs (i + 1)) (xs (i + 2)) hn hPI) (cwV 2 hts (aw_V aw_390 aw_391 aw_392 aw_4 aw_393) rfl rfl rfl (by decide +kernel) ⟨Nat.le_of_ble_eq_true rfl, Nat.le_of_ble_eq_true rfl⟩) (xh_preV (r0 := 0) hK (hP.sub (ws' := wMo cI cJ h B2 P2 E2 S2 L2 cd (nI n) (nI ed)) [0, 1, 2, 3, 4, 5] rfl) (hD.sub (ws' := wMo cI cJ h B2 P2 E2 S2 L2 cd (nI n) (nI ed)) [0, 1, 2, 3, 4, 5] (by decide) rfl) rfl rfl rfl) rfl rfl hl.1 rfl (lv_room (Nat.le_of_ble_eq_true rfl)) dL_law_435 ⟨hc, hs⟩) (fun r8 u H locs hm hP hD hS => ?_)
    rcases u with _ | ⟨k8, y8⟩
    · exact absurd ⟨by rw [ek]; exact nI_pos (by omega), by rw [ek]; exact nI_ge hk (by omega), by rw [ey]; exact nI_pos (by omega), by rw [ey]; exact nI_le hy (by decide)⟩ hm
    · obtain ⟨g0, g00, g1, g2, g3⟩ := hm
      have g00 : k8 < n := g00
      have g2 : y8 ≤ 5 := g2
      have ey8 : y8 = y9 := (nI_eq (by omega) (by omega)).mp (g1.symm.trans ey)
      have ek8 : k8 = k9 := (nI_eq (by omega) (by omega)).mp (g0.symm.trans ek)
      have g3 : r8 = pb_bat B2 P2 E2 S2 L2 n k8 y8 := g3
      rw [ey8, ek8] at g3
      have hP := hP.sub (ws' := wMo cI cJ h B2 P2 E2 S2 L2 (nI 0) (nI n) (nI ed) ++ wOut cJ h (vp_updL f 0 r9) ++ wPB h ++ wLog cI cJ h B P E S L N (nI n) (nI ed) ++ wKn cI h kn0 Fz) [11, 12, 13, 14, 15, 16, 0, 1, 2, 3, 4, 5, 6, 7, 8, 9, 10] rfl
      have hD := hD.sub (ws' := wMo cI cJ h B2 P2 E2 S2 L2 (nI 0) (nI n) (nI ed) ++ wOut cJ h (vp_updL f 0 r9) ++ wPB h ++ wLog cI cJ h B P E S L N (nI n) (nI ed) ++ wKn cI h kn0 Fz) [11, 12, 13, 14, 15, 16, 0, 1, 2, 3, 4, 5, 6, 7, 8, 9, 10] (by decide) rfl
      have eqr : r9 = r8 := h2.trans ((pb_R_bat hR hk hy (fun _ => hopen _ _ _ _ _ _ _ _ _ _ _ _ _ hJ k9 hk)).trans g3.symm)
      have hJ2 := hJ
      refine lv_lstore (lv' := [(6, .long r8), (5, .int (nI 0)), (0, .ref b), (1, .ref (h 0)), (2, .ref (h 20)), (3, .ref (h 30)), (4, .int (nI i))]) hx hb dL_law_438 hl (by decide) rfl (fun ls hl => ?_)
      refine lv_aload_n hx hb dL_law_440 rfl (lv_at hl 4 rfl) ?_
      refine xh_calli (wc := wMo cI cJ h B2 P2 E2 S2 L2 (nI 0) (nI n) (nI ed)) (wr := wOut cJ h (vp_updL f 0 r9) ++ wPB h ++ wLog cI cJ h B P E S L N (nI n) (nI ed) ++ wKn cI h kn0 Fz) (w1 := fun (u : Unit) => wMo cI cJ h B2 P2 E2 S2 L2 (nI 0) (nI n) (nI ed)) hP hD hS hA [0, 1, 2, 3, 4, 5] [6, 7, 8, 9, 10, 11, 12, 13, 14, 15, 16] rfl rfl (by decide) (by decide) (va_runV (As := []) (rest := []) ⟨hx, hb, hml, hown, hts⟩ (m_thrown l dC dI cI cJ h H.size B2 P2 E2 S2 L2 (nI 0) n ed) (cwV 0 hts (aw_V aw_333 aw_334 aw_335 aw_4 aw_336) rfl rfl rfl (by decide +kernel) ⟨Nat.le_of_ble_eq_true rfl, Nat.le_of_ble_eq_true rfl⟩) (xh_preV (r0 := 0) hK (hP.sub (ws' := wMo cI cJ h B2 P2 E2 S2 L2 (nI 0) (nI n) (nI ed)) [0, 1, 2, 3, 4, 5] rfl) (hD.sub (ws' := wMo cI cJ h B2 P2 E2 S2 L2 (nI 0) (nI n) (nI ed)) [0, 1, 2, 3, 4, 5] (by decide) rfl) rfl rfl rfl) rfl rfl hl.1 rfl (lv_room (Nat.le_of_ble_eq_true rfl)) dL_law_441 ⟨hc, hs⟩) (fun r_1 u H locs hw hP hD hS => ?_)
      have hP := hP.sub (ws' := wMo cI cJ h B2 P2 E2 S2 L2 (nI 0) (nI n) (nI ed) ++ wOut cJ h (vp_updL f 0 r9) ++ wPB h ++ wLog cI cJ h B P E S L N (nI n) (nI ed) ++ wKn cI h kn0 Fz) [11, 12, 13, 14, 15, 16, 0, 1, 2, 3, 4, 5, 6, 7, 8, 9, 10] rfl
      have hD := hD.sub (ws' := wMo cI cJ h B2 P2 E2 S2 L2 (nI 0) (nI n) (nI ed) ++ wOut cJ h (vp_updL f 0 r9) ++ wPB h ++ wLog cI cJ h B P E S L N (nI n) (nI ed) ++ wKn cI h kn0 Fz) [11, 12, 13, 14, 15, 16, 0, 1, 2, 3, 4, 5, 6, 7, 8, 9, 10] (by decide) rfl
      have hP : va_P (dC, dI) classes (wMo cI cJ h B2 P2 E2 S2 L2 (nI 0) (nI n) (nI ed) ++ wOut cJ h (vp_updL f 0 r9) ++ wPB h ++ wLog cI cJ h B P E S L N (nI n) (nI ed) ++ wKn cI h kn0 Fz) H := hP
      have hD : va_D A (wMo cI cJ h B2 P2 E2 S2 L2 (nI 0) (nI n) (nI ed) ++ wOut cJ h (vp_updL f 0 r9) ++ wPB h ++ wLog cI cJ h B P E S L N (nI n) (nI ed) ++ wKn cI h kn0 Fz) := hD
      refine xh_topi (z := nI 0) (hw) ?_
      refine lv_iload hx hb dL_law_444 (lv_at hl 1 rfl) ?_
      refine lv_icmp_eq (tgt := 451) hx hb dL_law_446 (by decide) (fun c_446 => ?_) (fun c_446 => ?_)
      · refine lv_iload hx hb dL_law_451 (lv_at hl 1 rfl) ?_
        refine lv_if_ne (tgt := 467) hx hb dL_law_453 (by decide) (fun c_453 => ?_) (fun c_453 => ?_)
        · exact absurd (show nI 0 = 0 by decide) c_453
        · refine lv_aload_n hx hb dL_law_456 rfl (lv_at hl 5 rfl) ?_
          refine lv_iconst (v := nI 0) hx hb dL_law_457 (by decide +kernel) ?_
          refine xh_lald hx hb hK hP 6 1 rfl rfl (k := 0) (by decide) (by decide) dL_law_458 ?_
          refine xh_topl (z := r9) (pk_uLs) ?_
          refine lv_lload hx hb dL_law_459 (lv_at hl 0 rfl) ?_
          refine W.lcmp hx hb dL_law_461 ?_
          refine lv_if_eq (tgt := 467) hx hb dL_law_462 (by decide) (fun c_462 => ?_) (fun c_462 => ?_)
          · refine lv_goto (tgt := 498) hx hb dL_law_467 (by decide) ?_
            exact kk _ _ _ _ _ _ _ _ _ _ _ _ _ _ _ _ _ _ _ _ hJ2 False.elim hP hD hS (lv_sub hl [2, 3, 4, 5, 6] rfl)
          · exact absurd ((lg_cmp_eq _ _).mpr (eqr)) c_462
      · exact absurd rfl c_446
  · obtain ⟨e5, _, hnl⟩ := hw
    subst e5
    have hP := hP.sub (ws' := wMo cI cJ h B2 P2 E2 S2 L2 cd (nI n) (nI ed) ++ wOut cJ h f ++ wPB h ++ wLog cI cJ h B P E S L N (nI n) (nI ed) ++ wKn cI h kn0 Fz) [0, 1, 2, 3, 4, 5, 6, 7, 8, 9, 10, 11, 12, 13, 14, 15, 16] rfl
    have hD := hD.sub (ws' := wMo cI cJ h B2 P2 E2 S2 L2 cd (nI n) (nI ed) ++ wOut cJ h f ++ wPB h ++ wLog cI cJ h B P E S L N (nI n) (nI ed) ++ wKn cI h kn0 Fz) [0, 1, 2, 3, 4, 5, 6, 7, 8, 9, 10, 11, 12, 13, 14, 15, 16] (by decide) rfl
    refine lv_istore (lv' := [(5, .int (nI 1)), (0, .ref b), (1, .ref (h 0)), (2, .ref (h 20)), (3, .ref (h 30)), (4, .int (nI i))]) hx hb dL_law_420 hl (by decide) rfl (fun ls hl => ?_)
    refine lv_aload_n hx hb dL_law_422 rfl (lv_at hl 3 rfl) ?_
    refine lv_aload_n hx hb dL_law_423 rfl (lv_at hl 1 rfl) ?_
    refine lv_iload hx hb dL_law_424 (lv_at hl 5 rfl) ?_
    refine lv_iconst (v := nI 1) hx hb dL_law_426 (by decide +kernel) ?_
    refine lv_iadd hx hb dL_law_427 ?_
    refine xh_topi (z := nI (i + 1)) (nI_add i 1) ?_
    refine xh_sld hx hb hXs hbl hbA hS (k := i + 1) (by omega) (by omega) dL_law_428 ?_
    refine lv_aload_n hx hb dL_law_429 rfl (lv_at hl 1 rfl) ?_
    refine lv_iload hx hb dL_law_430 (lv_at hl 5 rfl) ?_
    refine lv_iconst (v := nI 2) hx hb dL_law_432 (by decide +kernel) ?_
    refine lv_iadd hx hb dL_law_433 ?_
    refine xh_topi (z := nI (i + 2)) (nI_add i 2) ?_
    refine xh_sld hx hb hXs hbl hbA hS (k := i + 2) (by omega) (by omega) dL_law_434 ?_
    refine xh_calll (wc := wMo cI cJ h B2 P2 E2 S2 L2 cd (nI n) (nI ed)) (wr := wOut cJ h f ++ wPB h ++ wLog cI cJ h B P E S L N (nI n) (nI ed) ++ wKn cI h kn0 Fz) (w1 := fun (u : Option (Nat × Nat)) => (fun (u : Option (Nat × Nat)) => match u with | none => wMo cI cJ h B2 P2 E2 S2 L2 (nI 1) (nI n) (nI ed) | some _ => wMo cI cJ h B2 P2 E2 S2 L2 (nI 0) (nI n) (nI ed)) u) hP hD hS hA [0, 1, 2, 3, 4, 5] [6, 7, 8, 9, 10, 11, 12, 13, 14, 15, 16] rfl rfl (by decide) (by decide) (va_runV (As := [.int (xs (i + 1)), .int (xs (i + 2))]) (rest := []) ⟨hx, hb, hml, hown, hts⟩ (m_batch l dC dI cI cJ h H.size B2 P2 E2 S2 L2 cd n ed (xs (i + 1)) (xs (i + 2)) hn hPI) (cwV 2 hts (aw_V aw_390 aw_391 aw_392 aw_4 aw_393) rfl rfl rfl (by decide +kernel) ⟨Nat.le_of_ble_eq_true rfl, Nat.le_of_ble_eq_true rfl⟩) (xh_preV (r0 := 0) hK (hP.sub (ws' := wMo cI cJ h B2 P2 E2 S2 L2 cd (nI n) (nI ed)) [0, 1, 2, 3, 4, 5] rfl) (hD.sub (ws' := wMo cI cJ h B2 P2 E2 S2 L2 cd (nI n) (nI ed)) [0, 1, 2, 3, 4, 5] (by decide) rfl) rfl rfl rfl) rfl rfl hl.1 rfl (lv_room (Nat.le_of_ble_eq_true rfl)) dL_law_435 ⟨hc, hs⟩) (fun r8 u H locs hm hP hD hS => ?_)
    rcases u with _ | ⟨k8, y8⟩
    · have hm9 := hm
      have hP := hP.sub (ws' := wMo cI cJ h B2 P2 E2 S2 L2 (nI 1) (nI n) (nI ed) ++ wOut cJ h f ++ wPB h ++ wLog cI cJ h B P E S L N (nI n) (nI ed) ++ wKn cI h kn0 Fz) [11, 12, 13, 14, 15, 16, 0, 1, 2, 3, 4, 5, 6, 7, 8, 9, 10] rfl
      have hD := hD.sub (ws' := wMo cI cJ h B2 P2 E2 S2 L2 (nI 1) (nI n) (nI ed) ++ wOut cJ h f ++ wPB h ++ wLog cI cJ h B P E S L N (nI n) (nI ed) ++ wKn cI h kn0 Fz) [11, 12, 13, 14, 15, 16, 0, 1, 2, 3, 4, 5, 6, 7, 8, 9, 10] (by decide) rfl
      have hJ2 := hJ
      refine lv_lstore (lv' := [(6, .long r8), (5, .int (nI 1)), (0, .ref b), (1, .ref (h 0)), (2, .ref (h 20)), (3, .ref (h 30)), (4, .int (nI i))]) hx hb dL_law_438 hl (by decide) rfl (fun ls hl => ?_)
      refine lv_aload_n hx hb dL_law_440 rfl (lv_at hl 4 rfl) ?_
      refine xh_calli (wc := wMo cI cJ h B2 P2 E2 S2 L2 (nI 1) (nI n) (nI ed)) (wr := wOut cJ h f ++ wPB h ++ wLog cI cJ h B P E S L N (nI n) (nI ed) ++ wKn cI h kn0 Fz) (w1 := fun (u : Unit) => wMo cI cJ h B2 P2 E2 S2 L2 (nI 1) (nI n) (nI ed)) hP hD hS hA [0, 1, 2, 3, 4, 5] [6, 7, 8, 9, 10, 11, 12, 13, 14, 15, 16] rfl rfl (by decide) (by decide) (va_runV (As := []) (rest := []) ⟨hx, hb, hml, hown, hts⟩ (m_thrown l dC dI cI cJ h H.size B2 P2 E2 S2 L2 (nI 1) n ed) (cwV 0 hts (aw_V aw_333 aw_334 aw_335 aw_4 aw_336) rfl rfl rfl (by decide +kernel) ⟨Nat.le_of_ble_eq_true rfl, Nat.le_of_ble_eq_true rfl⟩) (xh_preV (r0 := 0) hK (hP.sub (ws' := wMo cI cJ h B2 P2 E2 S2 L2 (nI 1) (nI n) (nI ed)) [0, 1, 2, 3, 4, 5] rfl) (hD.sub (ws' := wMo cI cJ h B2 P2 E2 S2 L2 (nI 1) (nI n) (nI ed)) [0, 1, 2, 3, 4, 5] (by decide) rfl) rfl rfl rfl) rfl rfl hl.1 rfl (lv_room (Nat.le_of_ble_eq_true rfl)) dL_law_441 ⟨hc, hs⟩) (fun r_2 u H locs hw hP hD hS => ?_)
      have hP := hP.sub (ws' := wMo cI cJ h B2 P2 E2 S2 L2 (nI 1) (nI n) (nI ed) ++ wOut cJ h f ++ wPB h ++ wLog cI cJ h B P E S L N (nI n) (nI ed) ++ wKn cI h kn0 Fz) [11, 12, 13, 14, 15, 16, 0, 1, 2, 3, 4, 5, 6, 7, 8, 9, 10] rfl
      have hD := hD.sub (ws' := wMo cI cJ h B2 P2 E2 S2 L2 (nI 1) (nI n) (nI ed) ++ wOut cJ h f ++ wPB h ++ wLog cI cJ h B P E S L N (nI n) (nI ed) ++ wKn cI h kn0 Fz) [11, 12, 13, 14, 15, 16, 0, 1, 2, 3, 4, 5, 6, 7, 8, 9, 10] (by decide) rfl
      have hP : va_P (dC, dI) classes (wMo cI cJ h B2 P2 E2 S2 L2 (nI 1) (nI n) (nI ed) ++ wOut cJ h f ++ wPB h ++ wLog cI cJ h B P E S L N (nI n) (nI ed) ++ wKn cI h kn0 Fz) H := hP
      have hD : va_D A (wMo cI cJ h B2 P2 E2 S2 L2 (nI 1) (nI n) (nI ed) ++ wOut cJ h f ++ wPB h ++ wLog cI cJ h B P E S L N (nI n) (nI ed) ++ wKn cI h kn0 Fz) := hD
      refine xh_topi (z := nI 1) (hw) ?_
      refine lv_iload hx hb dL_law_444 (lv_at hl 1 rfl) ?_
      refine lv_icmp_eq (tgt := 451) hx hb dL_law_446 (by decide) (fun c_446 => ?_) (fun c_446 => ?_)
      · refine lv_iload hx hb dL_law_451 (lv_at hl 1 rfl) ?_
        refine lv_if_ne (tgt := 467) hx hb dL_law_453 (by decide) (fun c_453 => ?_) (fun c_453 => ?_)
        · refine lv_goto (tgt := 498) hx hb dL_law_467 (by decide) ?_
          exact kk _ _ _ _ _ _ _ _ _ _ _ _ _ _ _ _ _ _ _ _ hJ2 False.elim hP hD hS (lv_sub hl [2, 3, 4, 5, 6] rfl)
        · exact absurd c_453 (by decide)
      · exact absurd rfl c_446
    · obtain ⟨g0, g00, g1, g2, g3⟩ := hm
      have g00 : k8 < n := g00
      have g2 : y8 ≤ 5 := g2
      exact absurd ⟨by rw [g0]; exact nI_pos (by omega), by rw [g0]; exact nI_ge g00 (by omega), by rw [g1]; exact nI_pos (by omega), by rw [g1]; exact nI_le g2 (by decide)⟩ hnl

set_option maxHeartbeats 4000000 in
set_option maxRecDepth 100000 in
theorem law_count {p : Program} {l : Launch} {e : Env} {s : State} {m : MethodId} {below : List Frame} {meth : Method} {c : Code} {dC : Nat → ClassId} {dI : Nat → Nat → Nat} {cI cJ : ClassId} {h : Nat → Nat} {A : Nat → Prop} {b L0 : Nat} {xs : Nat → Int32} (C0 : lw_At p s m meth c b L0 xs) (hl0 : l.stackTraces = false) (hX : xX2 A s) (hK : va_K (dC, dI) classes [(cI, FieldType.int), (cJ, FieldType.long)] s) (hA : ∀ q : Nat, s.heap.size ≤ q → A q) (hbA : ¬ A b) (hL : L0 ≤ 3584) {z : Prop} {i cells slots : Nat} (hi : i + 7 ≤ L0) (hc : cells + 1 ≤ 1049) (hs : slots + 6 ≤ 30266)  (kk : law_at p l e s m below meth c dC dI cI cJ h A False b i (cells + 1) (slots + 6) 498) : law_at p l e s m below meth c dC dI cI cJ h A z b i cells slots 470 := by
  obtain ⟨hx, hb, hr, hml, hown0, hts0, hXs, hbl, hlocks, hgv⟩ := C0
  have hown : s.vm.findClass RL = some m.cls := hown0
  have hts : ∀ w ∈ Cond.initialized RL :: AW, w.before #[Value.ref b] s = true := fun w hw => (List.mem_cons.mp hw).elim (fun e9 => by rw [e9]; exact hts0 _ (aw_tbl aw_0)) (fun h9 => hts0 _ (aw_tbl h9))
  intro B P E S L N B2 P2 E2 S2 L2 n ed f cd kn0 Fz H locs ls hJ hz hP hD hS hl
  obtain ⟨hn, hed, hN, hR, hMI, hPI⟩ := id hJ
  refine lv_aload_n hx hb dL_law_470 rfl (lv_at hl 1 rfl) ?_
  refine lv_aload_n hx hb dL_law_471 rfl (lv_at hl 0 rfl) ?_
  refine lv_iload hx hb dL_law_472 (lv_at hl 4 rfl) ?_
  refine lv_iconst (v := nI 1) hx hb dL_law_474 (by decide +kernel) ?_
  refine lv_iadd hx hb dL_law_475 ?_
  refine xh_topi (z := nI (i + 1)) (nI_add i 1) ?_
  refine xh_sld hx hb hXs hbl hbA hS (k := i + 1) (by omega) (by omega) dL_law_476 ?_
  refine lv_aload_n hx hb dL_law_477 rfl (lv_at hl 3 rfl) ?_
  refine xh_calli (wc := wOut cJ h f ++ wPB h ++ wLog cI cJ h B P E S L N (nI n) (nI ed) ++ wKn cI h kn0 Fz) (wr := wMo cI cJ h B2 P2 E2 S2 L2 cd (nI n) (nI ed)) (w1 := fun (u : (Int32 × (Unit)) ⊕ (Unit)) => (fun (u : (Int32 × (Unit)) ⊕ (Unit)) => match u with | .inl z => wOut cJ h (vp_updL f 0 z.1.toInt64) ++ (fun (_ : Unit) => wPB h ++ wLog cI cJ h B P E S L N (nI n) (nI ed) ++ wKn cI h kn0 Fz) z.2 | .inr z => wOut cJ h f ++ (fun (_ : Unit) => wPB h ++ wLog cI cJ h B P E S L N (nI n) (nI ed) ++ wKn cI h kn0 Fz) z) u) hP hD hS hA [6, 7, 8, 9, 10, 11, 12, 13, 14, 15, 16] [0, 1, 2, 3, 4, 5] rfl rfl (by decide) (by decide) (vx_runSW (As := [.ref (h 0), .int (xs (i + 1)), .ref (h 30)]) (rest := []) ⟨hx, hb, hml, hown, hts⟩ (w_count l dC dI cI cJ h H.size B P E S L N n ed Fz kn0 (xs (i + 1)) f hl0 hn hed hN) (vx_cwSW 3 hts (aw_SW aw_290 aw_291 aw_0 aw_292) rfl rfl rfl (by decide +kernel) ⟨Nat.le_of_ble_eq_true rfl, Nat.le_of_ble_eq_true rfl⟩) (xh_preSX hK hX hS (va_free hD hS hA [6, 7, 8, 9, 10, 11, 12, 13, 14, 15, 16] rfl) (hP.sub (ws' := wOut cJ h f ++ wPB h ++ wLog cI cJ h B P E S L N (nI n) (nI ed) ++ wKn cI h kn0 Fz) [6, 7, 8, 9, 10, 11, 12, 13, 14, 15, 16] rfl) (hD.sub (ws' := wOut cJ h f ++ wPB h ++ wLog cI cJ h B P E S L N (nI n) (nI ed) ++ wKn cI h kn0 Fz) [6, 7, 8, 9, 10, 11, 12, 13, 14, 15, 16] (by decide) rfl)) rfl rfl hl.1 rfl (lv_room (Nat.le_of_ble_eq_true rfl)) dL_law_478 ⟨hc, hs⟩) (fun k5 u H locs hw hP hD hS => ?_)
  rcases u with ⟨r9, _⟩ | _
  · obtain ⟨e5, hw⟩ := hw
    subst e5
    have hP := hP.sub (ws' := wMo cI cJ h B2 P2 E2 S2 L2 cd (nI n) (nI ed) ++ wOut cJ h (vp_updL f 0 r9.toInt64) ++ wPB h ++ wLog cI cJ h B P E S L N (nI n) (nI ed) ++ wKn cI h kn0 Fz) [0, 1, 2, 3, 4, 5, 6, 7, 8, 9, 10, 11, 12, 13, 14, 15, 16] rfl
    have hD := hD.sub (ws' := wMo cI cJ h B2 P2 E2 S2 L2 cd (nI n) (nI ed) ++ wOut cJ h (vp_updL f 0 r9.toInt64) ++ wPB h ++ wLog cI cJ h B P E S L N (nI n) (nI ed) ++ wKn cI h kn0 Fz) [0, 1, 2, 3, 4, 5, 6, 7, 8, 9, 10, 11, 12, 13, 14, 15, 16] (by decide) rfl
    refine lv_istore (lv' := [(5, .int (nI 0)), (0, .ref b), (1, .ref (h 0)), (2, .ref (h 20)), (3, .ref (h 30)), (4, .int (nI i))]) hx hb dL_law_481 hl (by decide) rfl (fun ls hl => ?_)
    refine lv_aload_n hx hb dL_law_483 rfl (lv_at hl 3 rfl) ?_
    refine lv_aload_n hx hb dL_law_484 rfl (lv_at hl 1 rfl) ?_
    refine lv_iload hx hb dL_law_485 (lv_at hl 5 rfl) ?_
    refine lv_iconst (v := nI 1) hx hb dL_law_487 (by decide +kernel) ?_
    refine lv_iadd hx hb dL_law_488 ?_
    refine xh_topi (z := nI (i + 1)) (nI_add i 1) ?_
    refine xh_sld hx hb hXs hbl hbA hS (k := i + 1) (by omega) (by omega) dL_law_489 ?_
    refine xh_calli (wc := wMo cI cJ h B2 P2 E2 S2 L2 cd (nI n) (nI ed)) (wr := wOut cJ h (vp_updL f 0 r9.toInt64) ++ wPB h ++ wLog cI cJ h B P E S L N (nI n) (nI ed) ++ wKn cI h kn0 Fz) (w1 := fun (u : Option Unit) => (fun (u : Option Unit) => match u with | none => wMo cI cJ h B2 P2 E2 S2 L2 (nI 1) (nI n) (nI ed) | some _ => wMo cI cJ h B2 P2 E2 S2 L2 (nI 0) (nI n) (nI ed)) u) hP hD hS hA [0, 1, 2, 3, 4, 5] [6, 7, 8, 9, 10, 11, 12, 13, 14, 15, 16] rfl rfl (by decide) (by decide) (va_runV (As := [.int (xs (i + 1))]) (rest := []) ⟨hx, hb, hml, hown, hts⟩ (m_count l dC dI cI cJ h H.size B2 P2 E2 S2 L2 cd n ed (xs (i + 1)) hn hPI) (cwV 1 hts (aw_V aw_394 aw_395 aw_396 aw_4 aw_397) rfl rfl rfl (by decide +kernel) ⟨Nat.le_of_ble_eq_true rfl, Nat.le_of_ble_eq_true rfl⟩) (xh_preV (r0 := 0) hK (hP.sub (ws' := wMo cI cJ h B2 P2 E2 S2 L2 cd (nI n) (nI ed)) [0, 1, 2, 3, 4, 5] rfl) (hD.sub (ws' := wMo cI cJ h B2 P2 E2 S2 L2 cd (nI n) (nI ed)) [0, 1, 2, 3, 4, 5] (by decide) rfl) rfl rfl rfl) rfl rfl hl.1 rfl (lv_room (Nat.le_of_ble_eq_true rfl)) dL_law_490 ⟨hc, hs⟩) (fun r8 u H locs hm hP hD hS => ?_)
    rcases u with _ | _
    · exact absurd hw (fun g => g.elim (fun g => hm.1 g.1) (fun g => g.elim (fun g => hm.2.1 g.1) (fun g => hm.2.2 g.1)))
    · have eC : pb_c0 N n = pb_c0 (fun k => nI (pb_nv P2 n k)) n := pb_c0_congr (fun k hk => by rw [hN k hk, pb_R_nv hR hk])
      have hP := hP.sub (ws' := wMo cI cJ h B2 P2 E2 S2 L2 (nI 0) (nI n) (nI ed) ++ wOut cJ h (vp_updL f 0 r9.toInt64) ++ wPB h ++ wLog cI cJ h B P E S L N (nI n) (nI ed) ++ wKn cI h kn0 Fz) [11, 12, 13, 14, 15, 16, 0, 1, 2, 3, 4, 5, 6, 7, 8, 9, 10] rfl
      have hD := hD.sub (ws' := wMo cI cJ h B2 P2 E2 S2 L2 (nI 0) (nI n) (nI ed) ++ wOut cJ h (vp_updL f 0 r9.toInt64) ++ wPB h ++ wLog cI cJ h B P E S L N (nI n) (nI ed) ++ wKn cI h kn0 Fz) [11, 12, 13, 14, 15, 16, 0, 1, 2, 3, 4, 5, 6, 7, 8, 9, 10] (by decide) rfl
      have eqr : r9 = r8 := pb_cnt hw hm eC
      have hJ2 := hJ
      refine lv_istore (lv' := [(6, .int r8), (5, .int (nI 0)), (0, .ref b), (1, .ref (h 0)), (2, .ref (h 20)), (3, .ref (h 30)), (4, .int (nI i))]) hx hb dL_law_493 hl (by decide) rfl (fun ls hl => ?_)
      refine lv_goto (tgt := 498) hx hb dL_law_495 (by decide) ?_
      exact kk _ _ _ _ _ _ _ _ _ _ _ _ _ _ _ _ _ _ _ _ hJ2 False.elim hP hD hS (lv_sub hl [2, 3, 4, 5, 6] rfl)
  · obtain ⟨e5, _, hnl⟩ := hw
    subst e5
    have hP := hP.sub (ws' := wMo cI cJ h B2 P2 E2 S2 L2 cd (nI n) (nI ed) ++ wOut cJ h f ++ wPB h ++ wLog cI cJ h B P E S L N (nI n) (nI ed) ++ wKn cI h kn0 Fz) [0, 1, 2, 3, 4, 5, 6, 7, 8, 9, 10, 11, 12, 13, 14, 15, 16] rfl
    have hD := hD.sub (ws' := wMo cI cJ h B2 P2 E2 S2 L2 cd (nI n) (nI ed) ++ wOut cJ h f ++ wPB h ++ wLog cI cJ h B P E S L N (nI n) (nI ed) ++ wKn cI h kn0 Fz) [0, 1, 2, 3, 4, 5, 6, 7, 8, 9, 10, 11, 12, 13, 14, 15, 16] (by decide) rfl
    refine lv_istore (lv' := [(5, .int (nI 1)), (0, .ref b), (1, .ref (h 0)), (2, .ref (h 20)), (3, .ref (h 30)), (4, .int (nI i))]) hx hb dL_law_481 hl (by decide) rfl (fun ls hl => ?_)
    refine lv_aload_n hx hb dL_law_483 rfl (lv_at hl 3 rfl) ?_
    refine lv_aload_n hx hb dL_law_484 rfl (lv_at hl 1 rfl) ?_
    refine lv_iload hx hb dL_law_485 (lv_at hl 5 rfl) ?_
    refine lv_iconst (v := nI 1) hx hb dL_law_487 (by decide +kernel) ?_
    refine lv_iadd hx hb dL_law_488 ?_
    refine xh_topi (z := nI (i + 1)) (nI_add i 1) ?_
    refine xh_sld hx hb hXs hbl hbA hS (k := i + 1) (by omega) (by omega) dL_law_489 ?_
    refine xh_calli (wc := wMo cI cJ h B2 P2 E2 S2 L2 cd (nI n) (nI ed)) (wr := wOut cJ h f ++ wPB h ++ wLog cI cJ h B P E S L N (nI n) (nI ed) ++ wKn cI h kn0 Fz) (w1 := fun (u : Option Unit) => (fun (u : Option Unit) => match u with | none => wMo cI cJ h B2 P2 E2 S2 L2 (nI 1) (nI n) (nI ed) | some _ => wMo cI cJ h B2 P2 E2 S2 L2 (nI 0) (nI n) (nI ed)) u) hP hD hS hA [0, 1, 2, 3, 4, 5] [6, 7, 8, 9, 10, 11, 12, 13, 14, 15, 16] rfl rfl (by decide) (by decide) (va_runV (As := [.int (xs (i + 1))]) (rest := []) ⟨hx, hb, hml, hown, hts⟩ (m_count l dC dI cI cJ h H.size B2 P2 E2 S2 L2 cd n ed (xs (i + 1)) hn hPI) (cwV 1 hts (aw_V aw_394 aw_395 aw_396 aw_4 aw_397) rfl rfl rfl (by decide +kernel) ⟨Nat.le_of_ble_eq_true rfl, Nat.le_of_ble_eq_true rfl⟩) (xh_preV (r0 := 0) hK (hP.sub (ws' := wMo cI cJ h B2 P2 E2 S2 L2 cd (nI n) (nI ed)) [0, 1, 2, 3, 4, 5] rfl) (hD.sub (ws' := wMo cI cJ h B2 P2 E2 S2 L2 cd (nI n) (nI ed)) [0, 1, 2, 3, 4, 5] (by decide) rfl) rfl rfl rfl) rfl rfl hl.1 rfl (lv_room (Nat.le_of_ble_eq_true rfl)) dL_law_490 ⟨hc, hs⟩) (fun r8 u H locs hm hP hD hS => ?_)
    rcases u with _ | _
    · have hm9 := hm
      have hP := hP.sub (ws' := wMo cI cJ h B2 P2 E2 S2 L2 (nI 1) (nI n) (nI ed) ++ wOut cJ h f ++ wPB h ++ wLog cI cJ h B P E S L N (nI n) (nI ed) ++ wKn cI h kn0 Fz) [11, 12, 13, 14, 15, 16, 0, 1, 2, 3, 4, 5, 6, 7, 8, 9, 10] rfl
      have hD := hD.sub (ws' := wMo cI cJ h B2 P2 E2 S2 L2 (nI 1) (nI n) (nI ed) ++ wOut cJ h f ++ wPB h ++ wLog cI cJ h B P E S L N (nI n) (nI ed) ++ wKn cI h kn0 Fz) [11, 12, 13, 14, 15, 16, 0, 1, 2, 3, 4, 5, 6, 7, 8, 9, 10] (by decide) rfl
      have hJ2 := hJ
      refine lv_istore (lv' := [(6, .int r8), (5, .int (nI 1)), (0, .ref b), (1, .ref (h 0)), (2, .ref (h 20)), (3, .ref (h 30)), (4, .int (nI i))]) hx hb dL_law_493 hl (by decide) rfl (fun ls hl => ?_)
      refine lv_goto (tgt := 498) hx hb dL_law_495 (by decide) ?_
      exact kk _ _ _ _ _ _ _ _ _ _ _ _ _ _ _ _ _ _ _ _ hJ2 False.elim hP hD hS (lv_sub hl [2, 3, 4, 5, 6] rfl)
    · exact absurd hm (fun g => g.elim (fun g => hnl.1 g.1) (fun g => g.elim (fun g => hnl.2.1 g.1) (fun g => hnl.2.2 g.1)))
