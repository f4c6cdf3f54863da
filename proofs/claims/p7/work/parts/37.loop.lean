set_option maxHeartbeats 4000000 in
set_option maxRecDepth 100000 in
theorem law_loop {p : Program} {l : Launch} {e : Env} {s : State} {m : MethodId} {below : List Frame} {meth : Method} {c : Code} {dC : Nat → ClassId} {dI : Nat → Nat → Nat} {cI cJ : ClassId} {h : Nat → Nat} {A : Nat → Prop} {b L0 : Nat} {xs : Nat → Int32} (C0 : lw_At p s m meth c b L0 xs) (hl0 : l.stackTraces = false) (hX : xX2 A s) (hK : va_K (dC, dI) classes [(cI, FieldType.int), (cJ, FieldType.long)] s) (hA : ∀ q : Nat, s.heap.size ≤ q → A q) (hbA : ¬ A b) (hL : L0 ≤ 3584) (hA2 : ∀ q : Nat, A q → s.heap.size ≤ q) (hopen : ∀ (n ed : Nat) (B : Nat → Int32) (P : Nat → Int64) (E S L N B2 : Nat → Int32) (P2 : Nat → Int64) (E2 S2 L2 : Nat → Int32), pb_J n ed B P E S L N B2 P2 E2 S2 L2 → ∀ k, k < n → S k = S2 k) : ∀ fuel k : Nat, 7 * k ≤ L0 → L0 - 7 * k < fuel → law_at p l e s m below meth c dC dI cI cJ h A (k = 0) b (7 * k) (17 + k) (22026 + 6 * k) 23 := by
  obtain ⟨hx, hb, hr, hml, hown0, hts0, hXs, hbl, hlocks, hgv⟩ := id C0
  intro fuel
  induction fuel with
  | zero => intro k _ h; exact absurd h (Nat.not_lt_zero _)
  | succ fuel ih =>
    intro k hk hfu
    have step : 7 * k + 7 ≤ L0 → law_at p l e s m below meth c dC dI cI cJ h A False b (7 * k) (17 + k + 1) (22026 + 6 * k + 6) 498 := by
      intro hk7 B P E S L N B2 P2 E2 S2 L2 n ed f cd kn0 Fz H locs ls hJ hz hP hD hS hl
      refine lv_iinc (v := nI (7 * (k + 1))) (lv' := [(4, .int (nI (7 * (k + 1)))), (0, .ref b), (1, .ref (h 0)), (2, .ref (h 20)), (3, .ref (h 30))]) hx hb dL_law_498 hl (k := 4) rfl (by exact nI_add (7 * k) 7) (by decide) rfl (fun ls hl => ?_)
      refine lv_goto (tgt := 23) hx hb dL_law_501 (by decide) ?_
      refine W.widen (k := 17 + (k + 1)) (n := 22026 + 6 * (k + 1)) (by omega) (by omega) ?_
      exact ih (k + 1) (by omega) (by omega) B P E S L N B2 P2 E2 S2 L2 n ed f cd kn0 Fz _ _ _ hJ (fun h9 => absurd h9 (Nat.succ_ne_zero k)) hP hD hS (lv_sub hl [1, 2, 3, 4, 0] rfl)
    intro B P E S L N B2 P2 E2 S2 L2 n ed f cd kn0 Fz H locs ls hJ hz hP hD hS hl
    refine lv_iload hx hb dL_law_23 (lv_at hl 4 rfl) ?_
    refine lv_aload_n hx hb dL_law_25 rfl (lv_at hl 0 rfl) ?_
    refine va_slen hx hb hXs hbl hbA hS dL_law_26 ?_
    refine lv_bipush (v := nI 7) hx hb dL_law_27 (by decide +kernel) ?_
    refine lv_isub hx hb dL_law_29 ?_
    refine lv_icmp_gt (tgt := 504) hx hb dL_law_30 (by decide) (fun c_30 => ?_) (fun c_30 => ?_)
    · refine lv_iconst (v := 1) hx hb dL_law_504 (by decide +kernel) ?_
      refine va_forget (fun q hq => hA2 _ (hS.2.2 q hq)) ?_
      refine W.widen (k := 1049) (n := 30266) (by omega) (by omega) ?_
      exact lw_ret hx hb hr hlocks dL_law_505
    · have hk7 : 7 * k + 7 ≤ L0 := pb_head hL (by omega) c_30
      refine lv_aload_n hx hb dL_law_33 rfl (lv_at hl 0 rfl) ?_
      refine lv_iload hx hb dL_law_34 (lv_at hl 4 rfl) ?_
      refine xh_sld hx hb hXs hbl hbA hS (k := 7 * k) (by omega) (by omega) dL_law_36 ?_
      refine lv_bipush (v := nI 7) hx hb dL_law_37 (by decide +kernel) ?_
      refine lv_iand hx hb dL_law_39 ?_
      obtain ⟨j, hj, ej⟩ := pk_andE (xs (7 * k)) (m := nI 7) 3 (by decide)
      refine xh_topi (z := nI j) ej ?_
      rcases (show j = 0 ∨ j = 1 ∨ j = 2 ∨ j = 3 ∨ j = 4 ∨ j = 5 ∨ j = 6 ∨ j = 7 by omega) with g | g | g | g | g | g | g | g
      · subst g
        refine lv_tableIn (off := 44) (tgt := 84) hx hb dL_law_40 (by decide) (by decide) (by decide) (by decide) ?_
        exact law_offer C0 hl0 hX hK hA hbA hL (i := 7 * k) hk7 (by omega) (by omega) (step hk7) B P E S L N B2 P2 E2 S2 L2 n ed f cd kn0 Fz _ _ _ hJ hz hP hD hS hl
      · subst g
        refine lv_tableIn (off := 140) (tgt := 180) hx hb dL_law_40 (by decide) (by decide) (by decide) (by decide) ?_
        exact law_offers C0 hl0 hX hK hA hbA hL (i := 7 * k) hk7 (by omega) (by omega) (step hk7) B P E S L N B2 P2 E2 S2 L2 n ed f cd kn0 Fz _ _ _ hJ hz hP hD hS hl
      · subst g
        refine lv_tableIn (off := 250) (tgt := 290) hx hb dL_law_40 (by decide) (by decide) (by decide) (by decide) ?_
        exact law_drop C0 hl0 hX hK hA hbA hL (i := 7 * k) hk7 (by omega) (by omega) (step hk7) B P E S L N B2 P2 E2 S2 L2 n ed f cd kn0 Fz _ _ _ hJ hz hP hD hS hl
      · subst g
        refine lv_tableIn (off := 278) (tgt := 318) hx hb dL_law_40 (by decide) (by decide) (by decide) (by decide) ?_
        exact law_thin C0 hl0 hX hK hA hbA hL (i := 7 * k) hk7 (by omega) (by omega) (step hk7) B P E S L N B2 P2 E2 S2 L2 n ed f cd kn0 Fz _ _ _ hJ hz hP hD hS hl
      · subst g
        refine lv_tableIn (off := 291) (tgt := 331) hx hb dL_law_40 (by decide) (by decide) (by decide) (by decide) ?_
        exact law_known C0 hl0 hX hK hA hbA hL (i := 7 * k) hk7 (by omega) (by omega) (step hk7) B P E S L N B2 P2 E2 S2 L2 n ed f cd kn0 Fz _ _ _ hJ hz hP hD hS hl
      · subst g
        refine lv_tableIn (off := 363) (tgt := 403) hx hb dL_law_40 (by decide) (by decide) (by decide) (by decide) ?_
        exact law_batch C0 hl0 hX hK hA hbA hL (i := 7 * k) hk7 (by omega) (by omega) hopen (step hk7) B P E S L N B2 P2 E2 S2 L2 n ed f cd kn0 Fz _ _ _ hJ hz hP hD hS hl
      · subst g
        refine lv_tableIn (off := 430) (tgt := 470) hx hb dL_law_40 (by decide) (by decide) (by decide) (by decide) ?_
        exact law_count C0 hl0 hX hK hA hbA hL (i := 7 * k) hk7 (by omega) (by omega) (step hk7) B P E S L N B2 P2 E2 S2 L2 n ed f cd kn0 Fz _ _ _ hJ hz hP hD hS hl
      · subst g
        refine lv_tableOut (tgt := 498) hx hb dL_law_40 (by decide) (by decide) ?_
        refine W.widen (k := 17 + k + 1) (n := 22026 + 6 * k + 6) (by omega) (by omega) ?_
        exact step hk7 B P E S L N B2 P2 E2 S2 L2 n ed f cd kn0 Fz _ _ _ hJ False.elim hP hD hS hl
