/-! The relation behind offers, drop and thin. -/
theorem pb_it_R {n ed : Nat} {B E S L B2 E2 S2 L2 : Nat → Int32} {P P2 : Nat → Int64} {pr : Int64} {ep sq : Int32} {a : Nat} (h : pb_R n B P E S L B2 P2 E2 S2 L2) (hp : pr = -1 ∨ ¬ pr < 0) (hPI : ∀ k, k < n → P2 k = -1 ∨ ¬ P2 k < 0) :
    ∀ i : Nat, ∃ (B3 : Nat → Int32) (P3 : Nat → Int64) (E3 S3 L3 : Nat → Int32) (n3 e3 : Nat) (t3 : Int32) (B4 : Nat → Int32) (P4 : Nat → Int64) (E4 S4 L4 : Nat → Int32) (t4 : Int32), pb_it (fun z => pb_nx z (nI a)) pr ep a (B, P, E, S, L, n, ed) sq i = ((B3, P3, E3, S3, L3, n3, e3), t3) ∧ pb_it (fun z => if pr < 0 then -1 else pb_nx z (nI a)) pr ep a (B2, P2, E2, S2, L2, n, ed) sq i = ((B4, P4, E4, S4, L4, n3, e3), t4) ∧ pb_R n3 B3 P3 E3 S3 L3 B4 P4 E4 S4 L4 ∧ (pr = -1 ∨ t3 = t4) ∧ ∀ k, k < n3 → P4 k = -1 ∨ ¬ P4 k < 0 := by
  intro i
  induction i with
  | zero => exact ⟨B, P, E, S, L, n, ed, sq, B2, P2, E2, S2, L2, sq, rfl, rfl, h, Or.inr rfl, hPI⟩
  | succ i ih =>
    obtain ⟨B3, P3, E3, S3, L3, n3, e3, t3, B4, P4, E4, S4, L4, t4, h1, h2, h3, h4, h5⟩ := ih
    have hans : pb_ans B3 E3 S3 L3 (pb_kc P3 n3 pr) (pb_ix P3 pr n3) ep t3 (nI a) = pb_ans B4 E4 S4 L4 (pb_kc P4 n3 pr) (pb_ix P4 pr n3) ep t4 (nI a) := by
      rcases h4 with g | g
      · have q3 : pb_kc P3 n3 pr = 0 := by unfold pb_kc; rw [if_pos g]
        have q4 : pb_kc P4 n3 pr = 0 := by unfold pb_kc; rw [if_pos g]
        rw [pb_ans0 q3, pb_ans0 q4]
      · rw [g]; exact pb_R_ans h3 pr ep t4 (nI a)
    have hn : pr = -1 ∨ pb_nx t3 (nI a) = (if pr < 0 then -1 else pb_nx t4 (nI a)) := by
      rcases h4 with g | g
      · exact Or.inl g
      · rcases hp with k | k
        · exact Or.inl k
        · rw [if_neg k, g]; exact Or.inr rfl
    by_cases c : pb_ans B3 E3 S3 L3 (pb_kc P3 n3 pr) (pb_ix P3 pr n3) ep t3 (nI a) = -1
    · refine ⟨_, _, _, _, _, _, _, _, _, _, _, _, _, _, pb_it_y h1 c, pb_it_y h2 (hans.symm.trans c), pb_R_y h3 _ _ _ _ _ _ h4, hn, fun k hk => ?_⟩
      by_cases e : k = n3
      · subst e; rw [pk_uLs]; exact hp
      · rw [pk_uLn e]; exact h5 k (by omega)
    · exact ⟨B3, P3, E3, S3, L3, n3, e3, _, B4, P4, E4, S4, L4, _, pb_it_n h1 c, pb_it_n h2 (fun z => c (hans.trans z)), h3, hn, h5⟩
/-- the counts behind a drop of g -/
theorem pb_nv_drop {P P2 : Nat → Int64} {n g k : Nat} (hk : g + k < n) (h : ∀ i, g + i < n → P2 i = P (g + i)) : pb_nv P2 (n - g) k = pb_nv P n (g + k) := by
  have c : ∀ (p : Int64) (m : Nat), g + m ≤ n → pb_cn P2 p m + pb_cn P p g = pb_cn P p (g + m) := fun p m hm => by
    rw [← pb_cn_shift P p g m, pb_cn_congr p (P' := fun k => P (g + k)) (fun i hi => h i (by omega))]
  have e := h k hk
  have c1 := c (P (g + k)) (n - g) (by omega)
  have c2 := c (P (g + k)) (k + 1) (by omega)
  rw [show g + (n - g) = n by omega] at c1
  rw [show g + (k + 1) = g + k + 1 by omega] at c2
  unfold pb_nv
  rw [e]
  by_cases q : P (g + k) = -1
  · rw [if_pos q, if_pos q]
  · rw [if_neg q, if_neg q]
    congr 1
    omega
theorem pb_cpyd {α : Type} {X : Nat → α} {g n i : Nat} (h : g + i < n) : va_cpy X X g 0 (n - g) i = X (g + i) := by
  rw [pk_cpy_in (Nat.zero_le _) (by omega), Nat.sub_zero]
theorem pb_J_drop {n ed g : Nat} {B E S L N B2 E2 S2 L2 B4 E4 S4 L4 : Nat → Int32} {P P2 P4 : Nat → Int64} (h : pb_J n ed B P E S L N B2 P2 E2 S2 L2) (d1 : pb_dr g n B2 B4) (d2 : pb_dr g n P2 P4) (d3 : pb_dr g n E2 E4) (d4 : pb_dr g n S2 S4) (d5 : pb_dr g n L2 L4) :
    pb_J (n - g) ed (va_cpy B B g 0 (n - g)) (va_cpy P P g 0 (n - g)) (va_cpy E E g 0 (n - g)) (va_cpy S S g 0 (n - g)) (va_cpy L L g 0 (n - g)) (va_cpy N N g 0 (n - g)) B4 P4 E4 S4 L4 := by
  obtain ⟨h1, h2, h3, h4, h5, h6⟩ := h
  refine ⟨by omega, h2, fun k hk => ?_, fun k hk => ?_, fun k hk => ?_, fun k hk => ?_⟩
  · rw [pb_cpyd (by omega), h3 _ (by omega), pb_nv_drop (by omega) (fun i hi => pb_cpyd hi)]
  · rw [pb_cpyd (by omega), pb_cpyd (by omega), pb_cpyd (by omega), pb_cpyd (by omega), pb_cpyd (by omega), d1 k (by omega), d2 k (by omega), d3 k (by omega), d4 k (by omega), d5 k (by omega)]
    exact h4 (g + k) (by omega)
  · rw [d1 k (by omega), d2 k (by omega), d4 k (by omega), d5 k (by omega)]
    exact h5 (g + k) (by omega)
  · rw [d2 k (by omega)]
    exact h6 (g + k) (by omega)
theorem pb_kn_ex {N : Nat → Int32} : ∀ {n j : Nat}, j < pb_kn N n → ∃ k, k < n ∧ ¬ nI 5 ≤ N k ∧ pb_kn N k = j := by
  intro n
  induction n with
  | zero => intro j h; exact absurd h (Nat.not_lt_zero j)
  | succ n ih =>
    intro j h
    by_cases g : nI 5 ≤ N n
    · rw [pb_kn_n g] at h
      obtain ⟨k, h1, h2, h3⟩ := ih h
      exact ⟨k, by omega, h2, h3⟩
    · rw [pb_kn_y g] at h
      by_cases e : j = pb_kn N n
      · exact ⟨n, by omega, g, e.symm⟩
      · obtain ⟨k, h1, h2, h3⟩ := ih (j := j) (by omega)
        exact ⟨k, by omega, h2, h3⟩
/-- the counts behind a thinning -/
theorem pb_nv_thin {P P2 : Nat → Int64} {N : Nat → Int32} {n k : Nat} (hN : ∀ k, k < n → N k = nI (pb_nv P n k)) (hP : pb_cm N n P P2) (hk : k < n) (h5 : ¬ nI 5 ≤ N k) : pb_nv P2 (pb_kn N n) (pb_kn N k) = pb_nv P n k := by
  have e : P2 (pb_kn N k) = P k := hP.1 k hk h5
  have hnv : pb_nv P n k < 5 := Nat.lt_of_not_le fun g => h5 (by rw [hN k hk]; exact nI_le g (by have := pb_nv_le P n k; omega))
  have hp : ¬ P k = -1 := fun g => by unfold pb_nv at hnv; rw [if_pos g] at hnv; omega
  have hy := pb_kn_y h5
  have keep : ∀ i, k < i → i < n → P i = P k → ¬ nI 5 ≤ N i := by
    intro i h1 h2 h3 g
    rw [hN i h2] at g
    have := (nI_leI (by decide) (by have := pb_nv_le P n i; omega)).mp g
    have m1 := pb_cn_mono P (P k) (show k + 1 ≤ i + 1 by omega)
    unfold pb_nv at this hnv
    rw [h3, if_neg hp] at this
    rw [if_neg hp] at hnv
    omega
  have key : ∀ i, k + 1 ≤ i → i ≤ n → pb_cn P2 (P k) (pb_kn N i) + pb_cn P (P k) (k + 1) = pb_cn P (P k) i + pb_cn P2 (P k) (pb_kn N (k + 1)) := by
    intro i
    induction i with
    | zero => intro h; exact absurd h (by omega)
    | succ i ih =>
      intro h1 h2
      by_cases e1 : i = k
      · rw [e1]; omega
      · have := ih (by omega) (by omega)
        by_cases g : nI 5 ≤ N i
        · have ne : ¬ P i = P k := fun z => keep i (by omega) (by omega) z g
          rw [pb_kn_n g, pb_cn_n ne]; omega
        · have e2 : P2 (pb_kn N i) = P i := hP.1 i (by omega) g
          rw [pb_kn_y g]
          by_cases z : P i = P k
          · rw [pb_cn_y z, pb_cn_y (e2.trans z)]; omega
          · rw [pb_cn_n z, pb_cn_n (fun w => z (e2.symm.trans w))]; omega
  have k1 := key n (by omega) (Nat.le_refl n)
  have m1 := pb_cn_mono P (P k) (show k + 1 ≤ n by omega)
  have m2 := pb_cn_mono P2 (P k) (pb_kn_mono N (show k + 1 ≤ n by omega))
  rw [hy] at k1 m2
  unfold pb_nv
  rw [e, if_neg hp, if_neg hp]
  congr 1
  omega
theorem pb_J_thin {n ed : Nat} {B E S L N B2 E2 S2 L2 B3 E3 S3 L3 N3 B4 E4 S4 L4 N0 : Nat → Int32} {P P2 P3 P4 : Nat → Int64} (h : pb_J n ed B P E S L N B2 P2 E2 S2 L2) (h0 : N0 = fun k => nI (pb_nv P2 n k)) (c1 : pb_cm N n B B3) (c2 : pb_cm N n P P3) (c3 : pb_cm N n E E3) (c4 : pb_cm N n S S3) (c5 : pb_cm N n L L3) (c6 : pb_cm N n N N3) (d1 : pb_cm N0 n B2 B4) (d2 : pb_cm N0 n P2 P4) (d3 : pb_cm N0 n E2 E4) (d4 : pb_cm N0 n S2 S4) (d5 : pb_cm N0 n L2 L4) :
    pb_kn N0 n = pb_kn N n ∧ pb_J (pb_kn N n) ed B3 P3 E3 S3 L3 N3 B4 P4 E4 S4 L4 := by
  obtain ⟨h1, h2, h3, h4, h5, h6⟩ := h
  have eN : ∀ k, k < n → N0 k = N k := fun k hk => by rw [h0, h3 k hk]; show nI (pb_nv P2 n k) = _; rw [pb_R_nv h4 hk]
  have ek : ∀ k, k ≤ n → pb_kn N0 k = pb_kn N k := fun k hk => pb_kn_congr (fun i hi => eN i (by omega))
  have at4 : ∀ {α : Type} {X X4 : Nat → α}, pb_cm N0 n X X4 → ∀ k, k < n → ¬ nI 5 ≤ N k → X4 (pb_kn N k) = X k := fun hX k hk g => by
    rw [← ek k (by omega)]; exact hX.1 k hk (by rw [eN k hk]; exact g)
  have hle := pb_kn_le N n
  refine ⟨ek n (Nat.le_refl n), by omega, h2, fun j hj => ?_, fun j hj => ?_, fun j hj => ?_, fun j hj => ?_⟩
  · obtain ⟨k, hk, g, e⟩ := pb_kn_ex hj
    rw [← e, c6.1 k hk g, h3 k hk, pb_nv_thin h3 c2 hk g]
  · obtain ⟨k, hk, g, e⟩ := pb_kn_ex hj
    rw [← e, c1.1 k hk g, c2.1 k hk g, c3.1 k hk g, c4.1 k hk g, c5.1 k hk g, at4 d1 k hk g, at4 d2 k hk g, at4 d3 k hk g, at4 d4 k hk g, at4 d5 k hk g]
    exact h4 k hk
  · obtain ⟨k, hk, g, e⟩ := pb_kn_ex hj
    rw [← e, at4 d1 k hk g, at4 d2 k hk g, at4 d4 k hk g, at4 d5 k hk g]
    exact h5 k hk
  · obtain ⟨k, hk, g, e⟩ := pb_kn_ex hj
    rw [← e, at4 d2 k hk g]
    exact h6 k hk
