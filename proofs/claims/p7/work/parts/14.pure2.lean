/-! Pure rows: what stays true of the counts when a batch comes in. -/
theorem pb_ne1 {n : Nat} (h : n < 2 ^ 31) : ¬ nI n = -1 := fun e => nI_pos h (by rw [e]; decide)
theorem pb_hF {P : Nat → Int64} {n : Nat} {pr : Int64} {F1 : Nat → Int32} (hn : n ≤ 2000) (h : ∀ j, j < pb_kc P n pr → F1 j = nI (pb_ix P pr n j)) : ∀ j, j < pb_kc P n pr → F1 j = nI (pb_ix P pr n j) ∧ pb_ix P pr n j < 2000 := by
  intro j hj
  have a := pb_ix_at (pb_kc_lt hj).2.2
  exact ⟨h j hj, by have := a.1; omega⟩
theorem pb_inc_out {N : Nat → Int32} {ks : Nat → Nat} {k : Nat} : ∀ {q : Nat}, (∀ j, j < q → ks j ≠ k) → pb_inc N ks q k = N k := by
  intro q
  induction q with
  | zero => intro _; rfl
  | succ q ih =>
    intro h
    show upd (pb_inc N ks q) (ks q) _ k = N k
    rw [pk_un (fun e => h q (by omega) e.symm)]
    exact ih (fun j hj => h j (by omega))
theorem pb_inc_in {N : Nat → Int32} {ks : Nat → Nat} : ∀ {q : Nat}, (∀ i j, i < q → j < q → ks i = ks j → i = j) → ∀ j, j < q → pb_inc N ks q (ks j) = N (ks j) + nI 1 := by
  intro q
  induction q with
  | zero => intro _ j h; exact absurd h (Nat.not_lt_zero j)
  | succ q ih =>
    intro h j hj
    show upd (pb_inc N ks q) (ks q) _ (ks j) = _
    by_cases e : j = q
    · rw [e, pk_us, pb_inc_out (fun i hi c => absurd (h i q (by omega) (by omega) c) (by omega))]
    · rw [pk_un (fun c => e (h j q hj (by omega) c))]
      exact ih (fun i j hi hj => h i j (by omega) (by omega)) j (by omega)
theorem pb_ix_inj {P : Nat → Int64} {n : Nat} {pr : Int64} {i j : Nat} (hi : i < pb_cn P pr n) (hj : j < pb_cn P pr n) (e : pb_ix P pr n i = pb_ix P pr n j) : i = j := by
  have a := (pb_ix_at hi).2.2
  have b := (pb_ix_at hj).2.2
  rw [e] at a
  omega
theorem pb_N2 {P : Nat → Int64} {N : Nat → Int32} {n : Nat} {pr : Int64} (hN : ∀ k, k < n → N k = nI (pb_nv P n k)) : ∀ k, k < n + 1 → (if pr = -1 then upd N n (nI 5) else upd (pb_inc N (pb_ix P pr n) (pb_kc P n pr)) n (nI 0)) k = nI (pb_nv (vp_updL P n pr) (n + 1) k) := by
  intro k hk
  have hPn : vp_updL P n pr n = pr := pk_uLs
  by_cases hkn : k = n
  · subst hkn
    unfold pb_nv
    rw [hPn]
    by_cases h1 : pr = -1
    · rw [if_pos h1, if_pos h1, pk_us]
    · rw [if_neg h1, if_neg h1, pk_us, Nat.sub_self]; rfl
  · have hk' : k < n := by omega
    have hPk : vp_updL P n pr k = P k := pk_uLn hkn
    have hnv : pb_nv (vp_updL P n pr) (n + 1) k = if P k = -1 then 5 else min 5 (pb_cn (vp_updL P n pr) (P k) (n + 1) - pb_cn P (P k) (k + 1)) := by
      unfold pb_nv; rw [hPk, pb_cn_upd P (P k) pr (show k + 1 ≤ n by omega)]
    rw [hnv]
    have hold := hN k hk'
    by_cases h1 : pr = -1
    · rw [if_pos h1, pk_un hkn, hold]
      unfold pb_nv
      by_cases h2 : P k = -1
      · rw [if_pos h2, if_pos h2]
      · rw [if_neg h2, if_neg h2]
        rw [pb_cn_n (show ¬ vp_updL P n pr n = P k by rw [hPn, h1]; exact fun e => h2 e.symm), pb_cn_upd P (P k) pr (Nat.le_refl n)]
    · rw [if_neg h1, pk_un hkn]
      by_cases h3 : P k = pr
      · -- of the same producer
        obtain ⟨j, hj⟩ := pb_at_of hk' h3
        have hy : pb_cn P pr (k + 1) = pb_cn P pr k + 1 := pb_cn_y h3
        have hjc : j < pb_cn P pr n := by have := hj.2.2; omega
        have e1 : pb_cn (vp_updL P n pr) (P k) (n + 1) = pb_cn P pr n + 1 := by rw [h3, pb_cn_y hPn, pb_cn_upd P pr pr (Nat.le_refl n)]
        rw [if_neg (show ¬ P k = -1 by rw [h3]; exact h1), e1, h3]
        have hnk : N k = nI (min 5 j) := by rw [hold, pb_nv_at hj h1]
        have hq : pb_kc P n pr = min 5 (pb_cn P pr n) := by unfold pb_kc; rw [if_neg h1]
        by_cases h5 : j < 5
        · have hix := pb_ix_eq hj
          have hin := pb_inc_in (N := N) (ks := pb_ix P pr n) (q := pb_kc P n pr) (fun a b ha hb e => pb_ix_inj (by omega) (by omega) e) j (by omega)
          rw [hix] at hin
          rw [hin, hnk, nI_add]
          congr 1
          have := hj.2.2
          omega
        · rw [pb_inc_out (fun i hi e => ?_), hnk]
          · congr 1
            have := hj.2.2
            omega
          · have a := (pb_ix_at (P := P) (p := pr) (n := n) (j := i) (by omega)).2.2
            rw [e] at a
            have := hj.2.2
            omega
      · rw [pb_inc_out (fun i hi e => ?_), hold]
        · unfold pb_nv
          by_cases h2 : P k = -1
          · rw [if_pos h2, if_pos h2]
          · rw [if_neg h2, if_neg h2]
            rw [pb_cn_n (show ¬ vp_updL P n pr n = P k by rw [hPn]; exact fun e => h3 e.symm), pb_cn_upd P (P k) pr (Nat.le_refl n)]
        · have a := (pb_ix_at (pb_kc_lt hi).2.2).2.1
          rw [e] at a
          exact h3 a
theorem pb_out3 {x : Int32} (h0 : ¬ x = nI 0) (h1 : ¬ x = nI 1) (h2 : ¬ x = nI 2) : x.toInt < 0 ∨ 2 < x.toInt := by
  have e : ∀ k : Nat, k < 3 → x.toInt = (k : Int) → x = nI k := fun k hk e => Int32.toInt_inj.mp (by rw [e, nI_toInt (by omega)])
  rcases Int.lt_or_le x.toInt 0 with g | g
  · exact Or.inl g
  · rcases Int.lt_or_le 2 x.toInt with g2 | g2
    · exact Or.inr g2
    · rcases (show x.toInt = 0 ∨ x.toInt = 1 ∨ x.toInt = 2 by omega) with a | a | a
      · exact absurd (e 0 (by decide) a) h0
      · exact absurd (e 1 (by decide) a) h1
      · exact absurd (e 2 (by decide) a) h2
/-- what batch() says of place k -/
def pb_bat (B : Nat → Int32) (P : Nat → Int64) (E S L : Nat → Int32) (n k : Nat) : Nat → Int64
  | 0 => (B k).toInt64
  | 1 => P k
  | 2 => (E k).toInt64
  | 3 => (S k).toInt64
  | 4 => (L k).toInt64
  | _ => if pb_nv P n k < 5 then 1 else 0
theorem pb_bat5k (B : Nat → Int32) {P : Nat → Int64} (E S L : Nat → Int32) {n k : Nat} (h : ¬ nI 5 ≤ nI (pb_nv P n k)) : pb_bat B P E S L n k 5 = 1 := by
  show (if pb_nv P n k < 5 then (1 : Int64) else 0) = 1
  have := pb_nv_le P n k
  rw [if_pos (Nat.lt_of_not_le fun g => h (nI_le g (by omega)))]
theorem pb_bat5u (B : Nat → Int32) {P : Nat → Int64} (E S L : Nat → Int32) {n k : Nat} (h : nI 5 ≤ nI (pb_nv P n k)) : pb_bat B P E S L n k 5 = 0 := by
  show (if pb_nv P n k < 5 then (1 : Int64) else 0) = 0
  have := pb_nv_le P n k
  have := (nI_leI (by decide) (by omega)).mp h
  rw [if_neg (by omega)]
/-- what known() says of pr -/
def pb_kno (B : Nat → Int32) (P : Nat → Int64) (E S L : Nat → Int32) (n : Nat) (pr : Int64) (y : Nat) : Int32 :=
  if y = 0 then nI (pb_kc P n pr) else if pb_kc P n pr = 0 then -1
  else if y = 1 then E (pb_ix P pr n 0) else if y = 2 then pb_nx (S (pb_ix P pr n 0)) (L (pb_ix P pr n 0)) else if y = 3 then B (pb_ix P pr n 0) else B (pb_ix P pr n (pb_kc P n pr - 1))
section
variable {B E S L : Nat → Int32} {P : Nat → Int64} {n : Nat} {pr : Int64} {y : Nat}
theorem pb_kno0 (h : ¬ y = 0) (h0 : pb_kc P n pr = 0) : pb_kno B P E S L n pr y = -1 := by unfold pb_kno; rw [if_neg h, if_pos h0]
theorem pb_kno1 (h0 : ¬ pb_kc P n pr = 0) : pb_kno B P E S L n pr 1 = E (pb_ix P pr n 0) := by unfold pb_kno; rw [if_neg (by decide), if_neg h0, if_pos rfl]
theorem pb_kno2 (h0 : ¬ pb_kc P n pr = 0) : pb_kno B P E S L n pr 2 = pb_nx (S (pb_ix P pr n 0)) (L (pb_ix P pr n 0)) := by unfold pb_kno; rw [if_neg (by decide), if_neg h0, if_neg (by decide), if_pos rfl]
theorem pb_kno3 (h0 : ¬ pb_kc P n pr = 0) : pb_kno B P E S L n pr 3 = B (pb_ix P pr n 0) := by unfold pb_kno; rw [if_neg (by decide), if_neg h0, if_neg (by decide), if_neg (by decide), if_pos rfl]
theorem pb_kno4 (h0 : ¬ pb_kc P n pr = 0) : pb_kno B P E S L n pr 4 = B (pb_ix P pr n (pb_kc P n pr - 1)) := by unfold pb_kno; rw [if_neg (by decide), if_neg h0, if_neg (by decide), if_neg (by decide), if_neg (by decide)]
end
theorem pb_of500 {x : Int32} (h1 : ¬ x < nI 1) (h2 : ¬ nI 500 < x) : ∃ c : Nat, 1 ≤ c ∧ c ≤ 500 ∧ x = nI c := by
  obtain ⟨j, hj, e⟩ := nI_of (x := x) (fun g => h1 (Int32.lt_of_lt_of_le g (by decide)))
  subst e
  exact ⟨j, Nat.le_of_not_lt fun g => h1 ((nI_ltI hj (by decide)).mpr g), Nat.le_of_not_lt fun g => h2 ((nI_ltI (by decide) hj).mpr g), rfl⟩
abbrev pb_St : Type := (Nat → Int32) × (Nat → Int64) × (Nat → Int32) × (Nat → Int32) × (Nat → Int32) × Nat × Nat
/-- one batch more, where the known ones let it come -/
def pb_on (pr : Int64) (ep : Int32) (a : Nat) (σ : pb_St) (sq : Int32) : pb_St := match σ with
  | (B, P, E, S, L, n, ed) => if pb_ans B E S L (pb_kc P n pr) (pb_ix P pr n) ep sq (nI a) = -1 then (upd B n (nI ed), vp_updL P n pr, upd E n ep, upd S n sq, upd L n (nI a), n + 1, ed + (a + 1)) else (B, P, E, S, L, n, ed)
def pb_it (nx : Int32 → Int32) (pr : Int64) (ep : Int32) (a : Nat) (σ : pb_St) (sq : Int32) : Nat → pb_St × Int32
  | 0 => (σ, sq)
  | i + 1 => (pb_on pr ep a (pb_it nx pr ep a σ sq i).1 (pb_it nx pr ep a σ sq i).2, nx (pb_it nx pr ep a σ sq i).2)
section
variable {nx : Int32 → Int32} {pr : Int64} {ep : Int32} {a : Nat} {σ : pb_St} {sq s2 : Int32} {i : Nat} {B E S L : Nat → Int32} {P : Nat → Int64} {n ed : Nat}
theorem pb_it_n (h : pb_it nx pr ep a σ sq i = ((B, P, E, S, L, n, ed), s2)) (ha : ¬ pb_ans B E S L (pb_kc P n pr) (pb_ix P pr n) ep s2 (nI a) = -1) : pb_it nx pr ep a σ sq (i + 1) = ((B, P, E, S, L, n, ed), nx s2) := by
  show (pb_on pr ep a (pb_it nx pr ep a σ sq i).1 (pb_it nx pr ep a σ sq i).2, nx (pb_it nx pr ep a σ sq i).2) = _
  rw [h]
  show ((if pb_ans B E S L (pb_kc P n pr) (pb_ix P pr n) ep s2 (nI a) = -1 then _ else _), nx s2) = _
  rw [if_neg ha]
theorem pb_it_y (h : pb_it nx pr ep a σ sq i = ((B, P, E, S, L, n, ed), s2)) (ha : pb_ans B E S L (pb_kc P n pr) (pb_ix P pr n) ep s2 (nI a) = -1) : pb_it nx pr ep a σ sq (i + 1) = ((upd B n (nI ed), vp_updL P n pr, upd E n ep, upd S n s2, upd L n (nI a), n + 1, ed + (a + 1)), nx s2) := by
  show (pb_on pr ep a (pb_it nx pr ep a σ sq i).1 (pb_it nx pr ep a σ sq i).2, nx (pb_it nx pr ep a σ sq i).2) = _
  rw [h]
  show ((if pb_ans B E S L (pb_kc P n pr) (pb_ix P pr n) ep s2 (nI a) = -1 then _ else _), nx s2) = _
  rw [if_pos ha]
end
theorem pb_kc_s (P : Nat → Int64) (n : Nat) (pr : Int64) : (if pr = -1 then (pb_kc P n pr) else min 5 ((pb_kc P n pr) + 1)) = pb_kc (vp_updL P n pr) (n + 1) pr := by
  unfold pb_kc
  by_cases h : pr = -1
  · rw [if_pos h, if_pos h, if_pos h]
  · rw [if_neg h, if_neg h, if_neg h, pb_cn_y (show vp_updL P n pr n = pr from pk_uLs), pb_cn_upd P pr pr (Nat.le_refl n)]
    omega
theorem pb_ix_congr {P P2 : Nat → Int64} (p : Int64) : ∀ {n : Nat}, (∀ k, k < n → P k = P2 k) → ∀ j, pb_ix P p n j = pb_ix P2 p n j := by
  intro n
  induction n with
  | zero => intro _ j; rfl
  | succ n ih =>
    intro h j
    have e := h n (by omega)
    have f := ih (fun k hk => h k (by omega))
    simp only [pb_ix, e, f]
theorem pb_F2 {P : Nat → Int64} {n : Nat} {pr : Int64} {F G : Nat → Int32} (hF : ∀ j, j < pb_kc P n pr → F j = nI (pb_ix P pr n j)) (hG : pr ≠ -1 → G 0 = nI n ∧ ∀ j, 0 < j → j < min 5 (pb_kc P n pr + 1) → G j = F (j - 1)) : ∀ j, j < pb_kc (vp_updL P n pr) (n + 1) pr → G j = nI (pb_ix (vp_updL P n pr) pr (n + 1) j) := by
  intro j hj
  have hp := (pb_kc_lt hj).1
  rw [← pb_kc_s P n pr, if_neg hp] at hj
  obtain ⟨h0, h1⟩ := hG hp
  have hPn : vp_updL P n pr n = pr := pk_uLs
  by_cases e : j = 0
  · subst e
    rw [h0]
    simp [pb_ix, hPn]
  · have e2 : pb_ix (vp_updL P n pr) pr (n + 1) j = pb_ix P pr n (j - 1) := by
      have : pb_ix (vp_updL P n pr) pr (n + 1) j = pb_ix (vp_updL P n pr) pr n (j - 1) := by simp [pb_ix, hPn, e]
      rw [this]
      exact pb_ix_congr pr (fun k hk => pk_uLn (by omega)) (j - 1)
    rw [e2, h1 j (by omega) hj]
    exact hF (j - 1) (by omega)
