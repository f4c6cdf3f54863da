/-! How the class's rows and the reference's hang together. -/
def pb_R (n : Nat) (B : Nat → Int32) (P : Nat → Int64) (E S L : Nat → Int32) (B2 : Nat → Int32) (P2 : Nat → Int64) (E2 S2 L2 : Nat → Int32) : Prop := ∀ k, k < n → B k = B2 k ∧ P k = P2 k ∧ E k = E2 k ∧ L k = L2 k ∧ (P k ≠ -1 → S k = S2 k)
section
variable {n : Nat} {B E S L B2 E2 S2 L2 : Nat → Int32} {P P2 : Nat → Int64}
theorem pb_R_kc (h : pb_R n B P E S L B2 P2 E2 S2 L2) (pr : Int64) : pb_kc P n pr = pb_kc P2 n pr := by
  unfold pb_kc; rw [pb_cn_congr pr (fun k hk => (h k hk).2.1)]
theorem pb_R_ix (h : pb_R n B P E S L B2 P2 E2 S2 L2) (pr : Int64) : ∀ j, pb_ix P pr n j = pb_ix P2 pr n j := pb_ix_congr pr (fun k hk => (h k hk).2.1)
theorem pb_R_at (h : pb_R n B P E S L B2 P2 E2 S2 L2) {pr : Int64} {j : Nat} (hj : j < pb_kc P n pr) : B (pb_ix P pr n j) = B2 (pb_ix P pr n j) ∧ E (pb_ix P pr n j) = E2 (pb_ix P pr n j) ∧ S (pb_ix P pr n j) = S2 (pb_ix P pr n j) ∧ L (pb_ix P pr n j) = L2 (pb_ix P pr n j) := by
  have a := pb_ix_at (pb_kc_lt hj).2.2
  obtain ⟨h1, h2, h3, h4, h5⟩ := h _ a.1
  exact ⟨h1, h3, h5 (by rw [a.2.1]; exact (pb_kc_lt hj).1), h4⟩
theorem pb_sc_congr {m m2 : Nat → Bool} {v v2 : Nat → Int32} : ∀ (r i : Nat), (∀ j, i ≤ j → j < i + r → m j = m2 j ∧ v j = v2 j) → pb_sc m v r i = pb_sc m2 v2 r i := by
  intro r
  induction r with
  | zero => intro i _; rfl
  | succ r ih =>
    intro i h
    obtain ⟨h1, h2⟩ := h i (Nat.le_refl i) (by omega)
    have h3 := ih (i + 1) (fun j a b => h j (by omega) (by omega))
    show (if m i = true then v i else pb_sc m v r (i + 1)) = (if m2 i = true then v2 i else pb_sc m2 v2 r (i + 1))
    rw [h1, h2, h3]
theorem pb_R_ans (h : pb_R n B P E S L B2 P2 E2 S2 L2) (pr : Int64) (ep sq la : Int32) : pb_ans B E S L (pb_kc P n pr) (pb_ix P pr n) ep sq la = pb_ans B2 E2 S2 L2 (pb_kc P2 n pr) (pb_ix P2 pr n) ep sq la := by
  have e1 := pb_R_kc h pr
  have e2 : pb_ix P2 pr n = pb_ix P pr n := funext fun j => (pb_R_ix h pr j).symm
  rw [← e1, e2]
  by_cases q0 : pb_kc P n pr = 0
  · rw [pb_ans0 q0, pb_ans0 q0]
  · obtain ⟨a1, a2, a3, a4⟩ := pb_R_at h (pr := pr) (j := 0) (by omega)
    have e3 : pb_sc (fun j => (E (pb_ix P pr n j) == ep && S (pb_ix P pr n j) == sq && L (pb_ix P pr n j) == la)) (fun j => B (pb_ix P pr n j)) (pb_kc P n pr) 0 = pb_sc (fun j => (E2 (pb_ix P pr n j) == ep && S2 (pb_ix P pr n j) == sq && L2 (pb_ix P pr n j) == la)) (fun j => B2 (pb_ix P pr n j)) (pb_kc P n pr) 0 := by
      refine pb_sc_congr _ _ (fun j _ hj => ?_)
      obtain ⟨b1, b2, b3, b4⟩ := pb_R_at h (pr := pr) (j := j) (by omega)
      exact ⟨by rw [b2, b3, b4], b1⟩
    unfold pb_ans
    rw [e3, a2, a3, a4]
theorem pb_R_kno (h : pb_R n B P E S L B2 P2 E2 S2 L2) (pr : Int64) (y : Nat) : pb_kno B P E S L n pr y = pb_kno B2 P2 E2 S2 L2 n pr y := by
  have e1 := pb_R_kc h pr
  have e2 : pb_ix P2 pr n = pb_ix P pr n := funext fun j => (pb_R_ix h pr j).symm
  unfold pb_kno
  rw [← e1, e2]
  by_cases q0 : pb_kc P n pr = 0
  · rw [if_pos q0, if_pos q0]
  · obtain ⟨a1, a2, a3, a4⟩ := pb_R_at h (pr := pr) (j := 0) (by omega)
    obtain ⟨b1, b2, b3, b4⟩ := pb_R_at h (pr := pr) (j := pb_kc P n pr - 1) (by omega)
    rw [if_neg q0, if_neg q0, a1, a2, a3, a4, b1]
theorem pb_R_nv (h : pb_R n B P E S L B2 P2 E2 S2 L2) {k : Nat} (hk : k < n) : pb_nv P n k = pb_nv P2 n k := by
  have e := (h k hk).2.1
  unfold pb_nv
  rw [e, pb_cn_congr (P2 k) (n := n) (fun k hk => (h k hk).2.1), pb_cn_congr (P2 k) (n := k + 1) (fun j hj => (h j (by omega)).2.1)]
theorem pb_R_bat (h : pb_R n B P E S L B2 P2 E2 S2 L2) {k : Nat} (hk : k < n) {y : Nat} (hy : y ≤ 5) (h3 : y = 3 → S k = S2 k) : pb_bat B P E S L n k y = pb_bat B2 P2 E2 S2 L2 n k y := by
  obtain ⟨a1, a2, a3, a4, a5⟩ := h k hk
  rcases (show y = 0 ∨ y = 1 ∨ y = 2 ∨ y = 3 ∨ y = 4 ∨ y = 5 by omega) with e | e | e | e | e | e
  · subst e; show (B k).toInt64 = (B2 k).toInt64; rw [a1]
  · subst e; exact a2
  · subst e; show (E k).toInt64 = (E2 k).toInt64; rw [a3]
  · subst e; show (S k).toInt64 = (S2 k).toInt64; rw [h3 rfl]
  · subst e; show (L k).toInt64 = (L2 k).toInt64; rw [a4]
  · subst e; show (if pb_nv P n k < 5 then (1 : Int64) else 0) = (if pb_nv P2 n k < 5 then (1 : Int64) else 0); rw [pb_R_nv h hk]
theorem pb_R_y (h : pb_R n B P E S L B2 P2 E2 S2 L2) (v : Int32) (pr : Int64) (ep sq sq2 la : Int32) (hs : pr = -1 ∨ sq = sq2) : pb_R (n + 1) (upd B n v) (vp_updL P n pr) (upd E n ep) (upd S n sq) (upd L n la) (upd B2 n v) (vp_updL P2 n pr) (upd E2 n ep) (upd S2 n sq2) (upd L2 n la) := by
  intro k hk
  by_cases e : k = n
  · subst e
    rw [pk_us, pk_us, pk_us, pk_us, pk_us, pk_us, pk_us, pk_us, pk_uLs, pk_uLs]
    exact ⟨rfl, rfl, rfl, rfl, fun g => hs.elim (fun z => absurd z g) id⟩
  · rw [pk_un e, pk_un e, pk_un e, pk_un e, pk_un e, pk_un e, pk_un e, pk_un e, pk_uLn e, pk_uLn e]
    exact h k (by omega)
theorem pb_c0_congr {N N2 : Nat → Int32} {n : Nat} (h : ∀ k, k < n → N k = N2 k) : pb_c0 N n = pb_c0 N2 n := by
  induction n with
  | zero => rfl
  | succ n ih => simp only [pb_c0, ih (fun k hk => h k (by omega)), h n (by omega)]
theorem pb_kn_congr {N N2 : Nat → Int32} {n : Nat} (h : ∀ k, k < n → N k = N2 k) : pb_kn N n = pb_kn N2 n := by
  induction n with
  | zero => rfl
  | succ n ih => simp only [pb_kn, ih (fun k hk => h k (by omega)), h n (by omega)]
/-- what holds between the calls -/
def pb_J (n ed : Nat) (B : Nat → Int32) (P : Nat → Int64) (E S L N B2 : Nat → Int32) (P2 : Nat → Int64) (E2 S2 L2 : Nat → Int32) : Prop :=
  n ≤ 2000 ∧ ed ≤ 1000000 ∧ (∀ k, k < n → N k = nI (pb_nv P n k)) ∧ pb_R n B P E S L B2 P2 E2 S2 L2 ∧ pb_MI B2 P2 S2 L2 n ∧ ∀ k, k < n → P2 k = -1 ∨ ¬ P2 k < 0
theorem pb_J0 {f g : Nat → Int32} : pb_J 0 0 f (fun _ => 0) f f f f f (fun _ => 0) f f f := ⟨by omega, by omega, fun k h => absurd h (Nat.not_lt_zero k), fun k h => absurd h (Nat.not_lt_zero k), fun k h => absurd h (Nat.not_lt_zero k), fun k h => absurd h (Nat.not_lt_zero k)⟩
variable {ed : Nat} {N : Nat → Int32}
theorem pb_J_y (h : pb_J n ed B P E S L N B2 P2 E2 S2 L2) {pr : Int64} {ep sq : Int32} {a : Nat} {N3 : Nat → Int32} (hl : pb_leg pr ep sq (nI a)) (ha : a ≤ 999) (hr : n + 1 ≤ 2000 ∧ ed + (a + 1) ≤ 1000000) (hN3 : ∀ k, k < n + 1 → N3 k = nI (pb_nv (vp_updL P n pr) (n + 1) k)) :
    pb_J (n + 1) (ed + (a + 1)) (upd B n (nI ed)) (vp_updL P n pr) (upd E n ep) (upd S n sq) (upd L n (nI a)) N3 (upd B2 n (nI ed)) (vp_updL P2 n pr) (upd E2 n ep) (upd S2 n sq) (upd L2 n (nI a)) := by
  obtain ⟨h1, h2, h3, h4, h5, h6⟩ := h
  refine ⟨hr.1, hr.2, hN3, pb_R_y h4 _ _ _ _ _ _ (Or.inr rfl), pb_MI_y h5 (by omega) ha (fun k => (pb_legs hl).elim (fun z => absurd (pb_legp hl) (fun q => q.elim k (fun q => q z))) id), fun k hk => ?_⟩
  by_cases e : k = n
  · subst e; rw [pk_uLs]; exact pb_legp hl
  · rw [pk_uLn e]; exact h6 k (by omega)
end
