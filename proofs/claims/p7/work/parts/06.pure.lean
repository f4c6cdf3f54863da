/-! Counting the batches of a producer: pure rows. -/
def pb_cn (P : Nat → Int64) (p : Int64) : Nat → Nat
  | 0 => 0
  | n + 1 => pb_cn P p n + (if P n = p then 1 else 0)
theorem pb_cn_y {P : Nat → Int64} {p : Int64} {n : Nat} (h : P n = p) : pb_cn P p (n + 1) = pb_cn P p n + 1 := by
  simp [pb_cn, h]
theorem pb_cn_n {P : Nat → Int64} {p : Int64} {n : Nat} (h : ¬ P n = p) : pb_cn P p (n + 1) = pb_cn P p n := by
  simp [pb_cn, h]
theorem pb_cn_s (P : Nat → Int64) (p : Int64) (n : Nat) : pb_cn P p n ≤ pb_cn P p (n + 1) ∧ pb_cn P p (n + 1) ≤ pb_cn P p n + 1 := by
  by_cases h : P n = p
  · rw [pb_cn_y h]; omega
  · rw [pb_cn_n h]; omega
theorem pb_cn_le (P : Nat → Int64) (p : Int64) (n : Nat) : pb_cn P p n ≤ n := by
  induction n with
  | zero => exact Nat.le_refl 0
  | succ n ih => have := pb_cn_s P p n; omega
theorem pb_cn_mono (P : Nat → Int64) (p : Int64) {a b : Nat} (h : a ≤ b) : pb_cn P p a ≤ pb_cn P p b := by
  induction b with
  | zero => have : a = 0 := by omega
            rw [this]; exact Nat.le_refl _
  | succ b ih =>
    rcases Nat.lt_or_ge b a with q | q
    · have : a = b + 1 := by omega
      rw [this]; exact Nat.le_refl _
    · exact Nat.le_trans (ih q) (pb_cn_s P p b).1
theorem pb_cn_congr {P P' : Nat → Int64} (p : Int64) {n : Nat} (h : ∀ k, k < n → P k = P' k) : pb_cn P p n = pb_cn P' p n := by
  induction n with
  | zero => rfl
  | succ n ih =>
    have h1 := ih (fun k hk => h k (by omega))
    have h2 := h n (by omega)
    simp [pb_cn, h1, h2]
theorem pb_cn_upd (P : Nat → Int64) (p x : Int64) {n k : Nat} (h : k ≤ n) : pb_cn (vp_updL P n x) p k = pb_cn P p k :=
  pb_cn_congr p (fun j hj => pk_uLn (by omega))
theorem pb_cn_shift (P : Nat → Int64) (p : Int64) (g n : Nat) : pb_cn (fun k => P (g + k)) p n + pb_cn P p g = pb_cn P p (g + n) := by
  induction n with
  | zero => show 0 + pb_cn P p g = pb_cn P p g
            omega
  | succ n ih =>
    show pb_cn (fun k => P (g + k)) p n + (if P (g + n) = p then 1 else 0) + pb_cn P p g = pb_cn P p (g + n) + (if P (g + n) = p then 1 else 0)
    omega
/-- place k is the (j + 1)-th from the end among the batches of p in the first n -/
def pb_at (P : Nat → Int64) (n : Nat) (p : Int64) (j k : Nat) : Prop := k < n ∧ P k = p ∧ pb_cn P p n = pb_cn P p (k + 1) + j
theorem pb_at_uniq {P : Nat → Int64} {n : Nat} {p : Int64} {j k k' : Nat} (h : pb_at P n p j k) (h' : pb_at P n p j k') : k = k' := by
  obtain ⟨h1, h2, h3⟩ := h
  obtain ⟨g1, g2, g3⟩ := h'
  rcases Nat.lt_trichotomy k k' with q | q | q
  · have a := pb_cn_mono P p (show k + 1 ≤ k' by omega)
    have b := pb_cn_y g2
    omega
  · exact q
  · have a := pb_cn_mono P p (show k' + 1 ≤ k by omega)
    have b := pb_cn_y h2
    omega
theorem pb_at_ex {P : Nat → Int64} {p : Int64} : ∀ {n j : Nat}, j < pb_cn P p n → ∃ k, pb_at P n p j k := by
  intro n
  induction n with
  | zero => intro j h; exact absurd h (Nat.not_lt_zero j)
  | succ n ih =>
    intro j h
    by_cases hp : P n = p
    · have hy := pb_cn_y hp
      cases j with
      | zero => exact ⟨n, by omega, hp, by omega⟩
      | succ j =>
        obtain ⟨k, h1, h2, h3⟩ := ih (j := j) (by omega)
        exact ⟨k, by omega, h2, by omega⟩
    · have hn := pb_cn_n hp
      obtain ⟨k, h1, h2, h3⟩ := ih (j := j) (by omega)
      exact ⟨k, by omega, h2, by omega⟩
theorem pb_at_of {P : Nat → Int64} {p : Int64} {n k : Nat} (hk : k < n) (hp : P k = p) : ∃ j, pb_at P n p j k := by
  have := pb_cn_mono P p (show k + 1 ≤ n by omega)
  exact ⟨pb_cn P p n - pb_cn P p (k + 1), hk, hp, by omega⟩
/-- how many of its producer's are behind batch k, 5 for all that is not known -/
def pb_nv (P : Nat → Int64) (n k : Nat) : Nat := if P k = -1 then 5 else min 5 (pb_cn P (P k) n - pb_cn P (P k) (k + 1))
theorem pb_nv_le (P : Nat → Int64) (n k : Nat) : pb_nv P n k ≤ 5 := by
  unfold pb_nv; split <;> omega
theorem pb_nv_at {P : Nat → Int64} {n : Nat} {p : Int64} {j k : Nat} (h : pb_at P n p j k) (hp : p ≠ -1) : pb_nv P n k = min 5 j := by
  obtain ⟨h1, h2, h3⟩ := h
  unfold pb_nv
  rw [h2, if_neg hp]
  congr 1
  omega
theorem pb_sh1 {F G : Nat → Int32} {i q : Nat} (hlo : ∀ j, j ≤ i + 1 → G j = F j) (hG : ∀ j, i + 1 < j → j < min 5 (q + 1) → G j = F (j - 1)) : ∀ j, i < j → j < min 5 (q + 1) → upd G (i + 1) (G i) j = F (j - 1) := by
  intro j h1 h2
  by_cases g : j = i + 1
  · rw [g, pk_us]; exact hlo i (by omega)
  · rw [pk_un g]; exact hG j (by omega) h2
theorem pb_m1 (i : Nat) : nI i - nI 1 = nI i + (-1) := by
  rw [Int32.sub_eq_add_neg]; rfl
/-- the (j + 1)-th place from the end -/
def pb_ix (P : Nat → Int64) (p : Int64) : Nat → Nat → Nat
  | 0, _ => 0
  | n + 1, j => if P n = p then (if j = 0 then n else pb_ix P p n (j - 1)) else pb_ix P p n j
/-- how many batches are known of p -/
def pb_kc (P : Nat → Int64) (n : Nat) (p : Int64) : Nat := if p = -1 then 0 else min 5 (pb_cn P p n)
theorem pb_ix_at {P : Nat → Int64} {p : Int64} : ∀ {n j : Nat}, j < pb_cn P p n → pb_at P n p j (pb_ix P p n j) := by
  intro n
  induction n with
  | zero => intro j h; exact absurd h (Nat.not_lt_zero j)
  | succ n ih =>
    intro j h
    by_cases hp : P n = p
    · have hy := pb_cn_y hp
      by_cases h0 : j = 0
      · subst h0
        have e : pb_ix P p (n + 1) 0 = n := by simp [pb_ix, hp]
        rw [e]
        exact ⟨by omega, hp, by omega⟩
      · have e : pb_ix P p (n + 1) j = pb_ix P p n (j - 1) := by simp [pb_ix, hp, h0]
        rw [e]
        obtain ⟨h1, h2, h3⟩ := ih (j := j - 1) (by omega)
        exact ⟨by omega, h2, by omega⟩
    · have hn := pb_cn_n hp
      have e : pb_ix P p (n + 1) j = pb_ix P p n j := by simp [pb_ix, hp]
      rw [e]
      obtain ⟨h1, h2, h3⟩ := ih (j := j) (by omega)
      exact ⟨by omega, h2, by omega⟩
theorem pb_ix_eq {P : Nat → Int64} {p : Int64} {n j k : Nat} (h : pb_at P n p j k) : pb_ix P p n j = k := by
  have : pb_cn P p (k + 1) = pb_cn P p k + 1 := pb_cn_y h.2.1
  exact pb_at_uniq (pb_ix_at (by have := h.2.2; omega)) h
theorem pb_kc_le (P : Nat → Int64) (n : Nat) (p : Int64) : pb_kc P n p ≤ 5 := by
  unfold pb_kc; split <;> omega
theorem pb_kc_lt {P : Nat → Int64} {n : Nat} {p : Int64} {j : Nat} (h : j < pb_kc P n p) : p ≠ -1 ∧ j < 5 ∧ j < pb_cn P p n := by
  unfold pb_kc at h
  split at h
  · exact absurd h (Nat.not_lt_zero j)
  · rename_i g; exact ⟨g, by omega, by omega⟩
theorem pb_rec1 (P : Nat → Int64) (p : Int64) (n : Nat) : (p = -1 ∧ 0 = 0) ∨ (p ≠ -1 ∧ 0 + pb_cn P p n = pb_cn P p n) := by
  by_cases h : p = -1
  · exact Or.inl ⟨h, rfl⟩
  · exact Or.inr ⟨h, Nat.zero_add _⟩
theorem pb_rec0 {P : Nat → Int64} {p : Int64} {n q : Nat} (h5 : q ≤ 5) (h : (p = -1 ∧ q = 0) ∨ (p ≠ -1 ∧ q + pb_cn P p 0 = pb_cn P p n)) : q = pb_kc P n p := by
  unfold pb_kc
  rcases h with ⟨h1, h2⟩ | ⟨h1, h2⟩
  · rw [if_pos h1]; exact h2
  · rw [if_neg h1]
    have : pb_cn P p 0 = 0 := rfl
    omega
theorem pb_rec5 {P : Nat → Int64} {p : Int64} {n q i : Nat} (h : 5 ≤ q) (h5 : q ≤ 5) (hq : (p = -1 ∧ q = 0) ∨ (p ≠ -1 ∧ q + pb_cn P p i = pb_cn P p n)) : q = pb_kc P n p := by
  unfold pb_kc
  rcases hq with ⟨h1, h2⟩ | ⟨h1, h2⟩
  · omega
  · rw [if_neg h1]; omega
theorem pb_recN {P : Nat → Int64} {p : Int64} {n q i : Nat} (hq : (p = -1 ∧ q = 0) ∨ (p ≠ -1 ∧ q + pb_cn P p (i + 1) = pb_cn P p n)) (hp : ¬ P i = p) : (p = -1 ∧ q = 0) ∨ (p ≠ -1 ∧ q + pb_cn P p i = pb_cn P p n) := by
  rw [pb_cn_n hp] at hq; exact hq
theorem pb_rec_nv {P : Nat → Int64} {p : Int64} {n q i : Nat} (hq : (p = -1 ∧ q = 0) ∨ (p ≠ -1 ∧ q + pb_cn P p (i + 1) = pb_cn P p n)) (hp : P i = p) (hi : i + 1 ≤ n) : (p = -1 ∧ pb_nv P n i = 5) ∨ (p ≠ -1 ∧ pb_at P n p q i ∧ pb_nv P n i = min 5 q) := by
  rcases hq with ⟨h1, h2⟩ | ⟨h1, h2⟩
  · refine Or.inl ⟨h1, ?_⟩
    unfold pb_nv
    rw [hp, if_pos h1]
  · have a : pb_at P n p q i := ⟨by omega, hp, by omega⟩
    exact Or.inr ⟨h1, a, pb_nv_at a h1⟩
theorem pb_recK {P : Nat → Int64} {p : Int64} {n q i : Nat} (hq : (p = -1 ∧ q = 0) ∨ (p ≠ -1 ∧ q + pb_cn P p (i + 1) = pb_cn P p n)) (hp : P i = p) (hk : ¬ nI 5 ≤ nI (pb_nv P n i)) (hn : n ≤ 2000) (hi : i + 1 ≤ n) : (p = -1 ∧ q + 1 = 0) ∨ (p ≠ -1 ∧ q + 1 + pb_cn P p i = pb_cn P p n) := by
  have hy := pb_cn_y hp
  rcases pb_rec_nv hq hp hi with ⟨h1, h2⟩ | ⟨h1, h2, h3⟩
  · rw [h2] at hk; exact absurd (nI_le (Nat.le_refl 5) (by decide)) hk
  · rcases hq with ⟨g1, g2⟩ | ⟨g1, g2⟩
    · exact absurd g1 h1
    · exact Or.inr ⟨h1, by omega⟩
theorem pb_recG {P : Nat → Int64} {p : Int64} {n q i : Nat} {G : Nat → Int32} (hq : (p = -1 ∧ q = 0) ∨ (p ≠ -1 ∧ q + pb_cn P p (i + 1) = pb_cn P p n)) (hp : P i = p) (hk : ¬ nI 5 ≤ nI (pb_nv P n i)) (hi : i + 1 ≤ n) (hG : ∀ j, j < q → G j = nI (pb_ix P p n j)) : ∀ j, j < q + 1 → upd G q (nI i) j = nI (pb_ix P p n j) := by
  intro j hj
  rcases pb_rec_nv hq hp hi with ⟨h1, h2⟩ | ⟨h1, h2, h3⟩
  · rw [h2] at hk; exact absurd (nI_le (Nat.le_refl 5) (by decide)) hk
  · by_cases e : j = q
    · rw [e, pk_us, pb_ix_eq h2]
    · rw [pk_un e]; exact hG j (by omega)
theorem pb_recU {P : Nat → Int64} {p : Int64} {n q i : Nat} (hq : (p = -1 ∧ q = 0) ∨ (p ≠ -1 ∧ q + pb_cn P p (i + 1) = pb_cn P p n)) (h5 : q < 5) (hp : P i = p) (hk : nI 5 ≤ nI (pb_nv P n i)) (hi : i + 1 ≤ n) : (p = -1 ∧ q = 0) ∨ (p ≠ -1 ∧ q + pb_cn P p i = pb_cn P p n) := by
  rcases pb_rec_nv hq hp hi with ⟨h1, h2⟩ | ⟨h1, h2, h3⟩
  · rcases hq with ⟨g1, g2⟩ | ⟨g1, g2⟩
    · exact Or.inl ⟨g1, g2⟩
    · exact absurd h1 g1
  · rw [h3] at hk
    have := (nI_leI (by decide) (by omega)).mp hk
    omega
/-- the first of r places from j on that has the mark, its value; -1 without any -/
def pb_sc (m : Nat → Bool) (v : Nat → Int32) : Nat → Nat → Int32
  | 0, _ => -1
  | r + 1, j => if m j = true then v j else pb_sc m v r (j + 1)
theorem pb_sc_hit {m : Nat → Bool} {v : Nat → Int32} {q i : Nat} (h : i < q) (hm : m i = true) : pb_sc m v (q - i) i = v i := by
  have e : q - i = (q - i - 1) + 1 := by omega
  rw [e]
  show (if m i = true then v i else pb_sc m v (q - i - 1) (i + 1)) = v i
  rw [if_pos hm]
theorem pb_sc_miss {m : Nat → Bool} {v : Nat → Int32} {q i : Nat} (h : i < q) (hm : m i = false) : pb_sc m v (q - i) i = pb_sc m v (q - (i + 1)) (i + 1) := by
  have e : q - i = (q - (i + 1)) + 1 := by omega
  rw [e]
  show (if m i = true then v i else pb_sc m v (q - (i + 1)) (i + 1)) = _
  rw [hm]; rfl
def pb_c0 (N : Nat → Int32) : Nat → Nat
  | 0 => 0
  | n + 1 => pb_c0 N n + (if N n = 0 then 1 else 0)
theorem pb_c0_y {N : Nat → Int32} {n : Nat} (h : N n = 0) : pb_c0 N (n + 1) = pb_c0 N n + 1 := by simp [pb_c0, h]
theorem pb_c0_n {N : Nat → Int32} {n : Nat} (h : ¬ N n = 0) : pb_c0 N (n + 1) = pb_c0 N n := by simp [pb_c0, h]
theorem pb_min {g n : Nat} (hg : g < 2 ^ 31) (hn : n < 2 ^ 31) : (if nI n < nI g then nI n else nI g) = nI (min g n) := by
  by_cases h : n < g
  · rw [if_pos ((nI_ltI hn hg).mpr h), Nat.min_eq_right (by omega)]
  · rw [if_neg (fun q => h ((nI_ltI hn hg).mp q)), Nat.min_eq_left (by omega)]
theorem pb_cpy0 {α : Type} (f : Nat → α) (n : Nat) : f = va_cpy f f 0 0 (n - 0) := by
  funext k
  unfold va_cpy
  split
  · congr 1; omega
  · rfl
/-- one more at the first i of the places ks -/
def pb_inc (N : Nat → Int32) (ks : Nat → Nat) : Nat → Nat → Int32
  | 0 => N
  | i + 1 => upd (pb_inc N ks i) (ks i) (pb_inc N ks i (ks i) + nI 1)
/-- how many of the first n stay when the others go -/
def pb_kn (N : Nat → Int32) : Nat → Nat
  | 0 => 0
  | n + 1 => pb_kn N n + (if nI 5 ≤ N n then 0 else 1)
theorem pb_kn_y {N : Nat → Int32} {n : Nat} (h : ¬ nI 5 ≤ N n) : pb_kn N (n + 1) = pb_kn N n + 1 := by simp [pb_kn, h]
theorem pb_kn_n {N : Nat → Int32} {n : Nat} (h : nI 5 ≤ N n) : pb_kn N (n + 1) = pb_kn N n := by simp [pb_kn, h]
theorem pb_kn_s (N : Nat → Int32) (n : Nat) : pb_kn N n ≤ pb_kn N (n + 1) ∧ pb_kn N (n + 1) ≤ pb_kn N n + 1 := by
  by_cases h : nI 5 ≤ N n
  · rw [pb_kn_n h]; omega
  · rw [pb_kn_y h]; omega
theorem pb_kn_le (N : Nat → Int32) (n : Nat) : pb_kn N n ≤ n := by
  induction n with
  | zero => exact Nat.le_refl 0
  | succ n ih => have := pb_kn_s N n; omega
theorem pb_kn_mono (N : Nat → Int32) {a b : Nat} (h : a ≤ b) : pb_kn N a ≤ pb_kn N b := by
  induction b with
  | zero => have : a = 0 := by omega
            rw [this]; exact Nat.le_refl _
  | succ b ih =>
    rcases Nat.lt_or_ge b a with q | q
    · have : a = b + 1 := by omega
      rw [this]; exact Nat.le_refl _
    · exact Nat.le_trans (ih q) (pb_kn_s N b).1
/-- a row X2 in which the first k of X have been thinned -/
def pb_cm {α : Type} (N : Nat → Int32) (k : Nat) (X X2 : Nat → α) : Prop := (∀ i, i < k → ¬ nI 5 ≤ N i → X2 (pb_kn N i) = X i) ∧ ∀ i, k ≤ i → X2 i = X i
theorem pb_cm_0 {α : Type} (N : Nat → Int32) (X : Nat → α) : pb_cm N 0 X X := ⟨fun i h => absurd h (Nat.not_lt_zero i), fun _ _ => rfl⟩
theorem pb_cm_un {α : Type} {N : Nat → Int32} {k : Nat} {X X2 : Nat → α} (h : pb_cm N k X X2) (hk : nI 5 ≤ N k) : pb_cm N (k + 1) X X2 := by
  refine ⟨fun i hi h5 => ?_, fun i hi => h.2 i (by omega)⟩
  by_cases e : i = k
  · rw [e] at h5; exact absurd hk h5
  · exact h.1 i (by omega) h5
theorem pb_cm_same {α : Type} {N : Nat → Int32} {k : Nat} {X X2 : Nat → α} (h : pb_cm N k X X2) (hk : pb_kn N k = k) : pb_cm N (k + 1) X X2 := by
  refine ⟨fun i hi h5 => ?_, fun i hi => h.2 i (by omega)⟩
  by_cases e : i = k
  · rw [e, hk]; exact h.2 k (Nat.le_refl k)
  · exact h.1 i (by omega) h5
theorem pb_cm_mv {α : Type} {N : Nat → Int32} {k : Nat} {X X2 : Nat → α} (h : pb_cm N k X X2) (hk : ¬ nI 5 ≤ N k) : pb_cm N (k + 1) X (va_cpy X2 X2 k (pb_kn N k) 1) := by
  have hl := pb_kn_le N k
  refine ⟨fun i hi h5 => ?_, fun i hi => ?_⟩
  · by_cases e : i = k
    · rw [e, pk_cpy_in (Nat.le_refl _) (by omega), Nat.sub_self]; exact h.2 k (Nat.le_refl k)
    · have := pb_kn_mono N (show i + 1 ≤ k by omega)
      have := pb_kn_y h5
      rw [pk_cpy_out (by omega)]; exact h.1 i (by omega) h5
  · rw [pk_cpy_out (by omega)]; exact h.2 i (by omega)
def pb_nx (x y : Int32) : Int32 := (x + y + nI 1) &&& nI 2147483647
def pb_leg (pr : Int64) (ep sq la : Int32) : Prop := ¬ la < 0 ∧ la ≤ nI 999 ∧ ((pr = -1 ∧ ep = -1 ∧ sq = -1) ∨ (¬ pr = -1 ∧ ¬ pr < 0 ∧ ¬ ep < 0 ∧ ¬ nI 32767 < ep ∧ ¬ sq < 0))
/-- the answer of the known batches, -1 if they let it come -/
def pb_ans (B E S L : Nat → Int32) (q : Nat) (ks : Nat → Nat) (ep sq la : Int32) : Int32 :=
  if q = 0 then -1 else if ep < E (ks 0) then -6
  else if ¬ pb_sc (fun j => (E (ks j) == ep && S (ks j) == sq && L (ks j) == la)) (fun j => B (ks j)) q 0 = -1 then pb_sc (fun j => (E (ks j) == ep && S (ks j) == sq && L (ks j) == la)) (fun j => B (ks j)) q 0
  else if sq = (if ep = E (ks 0) then pb_nx (S (ks 0)) (L (ks 0)) else nI 0) then -1 else -7
section
variable {B E S L : Nat → Int32} {q : Nat} {ks : Nat → Nat} {ep sq la bs : Int32}
theorem pb_ans0 (h : q = 0) : pb_ans B E S L q ks ep sq la = -1 := by unfold pb_ans; rw [if_pos h]
theorem pb_ans1 (h : ¬ q = 0) (h1 : ep < E (ks 0)) : pb_ans B E S L q ks ep sq la = -6 := by unfold pb_ans; rw [if_neg h, if_pos h1]
theorem pb_ans2 (h : ¬ q = 0) (h1 : ¬ ep < E (ks 0)) (h2 : ¬ pb_sc (fun j => (E (ks j) == ep && S (ks j) == sq && L (ks j) == la)) (fun j => B (ks j)) q 0 = -1) (e : bs = pb_sc (fun j => (E (ks j) == ep && S (ks j) == sq && L (ks j) == la)) (fun j => B (ks j)) q 0) : pb_ans B E S L q ks ep sq la = bs := by unfold pb_ans; rw [if_neg h, if_neg h1, if_pos h2, e]
theorem pb_ans3e (h : ¬ q = 0) (h1 : ¬ ep < E (ks 0)) (h2 : pb_sc (fun j => (E (ks j) == ep && S (ks j) == sq && L (ks j) == la)) (fun j => B (ks j)) q 0 = -1) (h3 : ep = E (ks 0)) (h4 : sq = pb_nx (S (ks 0)) (L (ks 0))) : pb_ans B E S L q ks ep sq la = -1 := by unfold pb_ans; rw [if_neg h, if_neg h1, if_neg (not_not_intro h2), if_pos h3, if_pos h4]
theorem pb_ans4e (h : ¬ q = 0) (h1 : ¬ ep < E (ks 0)) (h2 : pb_sc (fun j => (E (ks j) == ep && S (ks j) == sq && L (ks j) == la)) (fun j => B (ks j)) q 0 = -1) (h3 : ep = E (ks 0)) (h4 : ¬ sq = pb_nx (S (ks 0)) (L (ks 0))) : pb_ans B E S L q ks ep sq la = -7 := by unfold pb_ans; rw [if_neg h, if_neg h1, if_neg (not_not_intro h2), if_pos h3, if_neg h4]
theorem pb_ans3n (h : ¬ q = 0) (h1 : ¬ ep < E (ks 0)) (h2 : pb_sc (fun j => (E (ks j) == ep && S (ks j) == sq && L (ks j) == la)) (fun j => B (ks j)) q 0 = -1) (h3 : ¬ ep = E (ks 0)) (h4 : sq = nI 0) : pb_ans B E S L q ks ep sq la = -1 := by unfold pb_ans; rw [if_neg h, if_neg h1, if_neg (not_not_intro h2), if_neg h3, if_pos h4]
theorem pb_ans4n (h : ¬ q = 0) (h1 : ¬ ep < E (ks 0)) (h2 : pb_sc (fun j => (E (ks j) == ep && S (ks j) == sq && L (ks j) == la)) (fun j => B (ks j)) q 0 = -1) (h3 : ¬ ep = E (ks 0)) (h4 : ¬ sq = nI 0) : pb_ans B E S L q ks ep sq la = -7 := by unfold pb_ans; rw [if_neg h, if_neg h1, if_neg (not_not_intro h2), if_neg h3, if_neg h4]
end
