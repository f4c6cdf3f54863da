/-! Pure rows for the reference: counting, and what a batch that comes keeps. -/
theorem pb_no3 {x : Int32} (h : ¬ (¬ x < 0 ∧ x ≤ nI 2)) : ¬ x = nI 0 ∧ ¬ x = nI 1 ∧ ¬ x = nI 2 :=
  ⟨fun e => h (by rw [e]; exact ⟨by decide, by decide⟩), fun e => h (by rw [e]; exact ⟨by decide, by decide⟩), fun e => h (by rw [e]; exact ⟨by decide, by decide⟩)⟩
theorem pb_is2 {x : Int32} (h1 : ¬ x < 0) (h2 : x ≤ nI 2) (h3 : ¬ x = nI 1) (h4 : ¬ x = 0) : x = nI 2 := by
  obtain ⟨j, hj, e⟩ := nI_of2 (M := nI 2) (n := 2) (by decide) h1 h2
  subst e
  rcases (show j = 0 ∨ j = 1 ∨ j = 2 by omega) with g | g | g
  · subst g; exact absurd nI_0 h4
  · subst g; exact absurd rfl h3
  · rw [g]
theorem pb_z0 {P : Nat → Int64} {n k : Nat} (hq : ¬ P k < 0) (h : nI (pb_cn P (P k) n - pb_cn P (P k) (k + 1)) = 0) (hb : pb_cn P (P k) n < 2 ^ 31) : nI (pb_nv P n k) = 0 := by
  have e : ¬ P k = -1 := fun g => hq (by rw [g]; decide)
  have z : pb_cn P (P k) n - pb_cn P (P k) (k + 1) = 0 := (nI_eq (by omega) (by decide)).mp (h.trans nI_0.symm)
  unfold pb_nv; rw [if_neg e, z]; exact nI_0
theorem pb_z1 {P : Nat → Int64} {n k : Nat} (hp : P k = -1 ∨ ¬ P k < 0) (hq : P k < 0) : ¬ nI (pb_nv P n k) = 0 := by
  have e : P k = -1 := hp.elim id (fun g => absurd hq g)
  unfold pb_nv; rw [if_pos e]; decide
theorem pb_z2 {P : Nat → Int64} {n k : Nat} (hq : ¬ P k < 0) (h : ¬ nI (pb_cn P (P k) n - pb_cn P (P k) (k + 1)) = 0) (hb : pb_cn P (P k) n < 2 ^ 31) : ¬ nI (pb_nv P n k) = 0 := by
  have e : ¬ P k = -1 := fun g => hq (by rw [g]; decide)
  have z : ¬ pb_cn P (P k) n - pb_cn P (P k) (k + 1) = 0 := fun g => h (by rw [g]; exact nI_0)
  have := pb_nv_le P n k
  intro g
  have g2 : pb_nv P n k = 0 := (nI_eq (by omega) (by decide)).mp (g.trans nI_0.symm)
  unfold pb_nv at g2
  rw [if_neg e] at g2
  omega
theorem pb_nx0 (x y : Int32) : ¬ pb_nx x y < 0 := by
  unfold pb_nx
  obtain ⟨j, hj, e⟩ := pk_andE (x + y + nI 1) (m := nI 2147483647) 31 (by decide)
  rw [e]; exact nI_pos hj
theorem pb_legs {pr : Int64} {ep sq la : Int32} (h : pb_leg pr ep sq la) : pr < 0 ∨ ¬ sq < 0 := h.2.2.elim (fun k => Or.inl (by rw [k.1]; decide)) (fun k => Or.inr k.2.2.2.2)
theorem pb_MI_y {B : Nat → Int32} {P : Nat → Int64} {S L : Nat → Int32} {n ed a : Nat} {pr : Int64} {sq : Int32} (h : pb_MI B P S L n) (hed : ed < 2 ^ 31) (ha : a ≤ 999) (hs : pr ≠ -1 → ¬ sq < 0) : pb_MI (upd B n (nI ed)) (vp_updL P n pr) (upd S n sq) (upd L n (nI a)) (n + 1) := by
  intro k hk
  by_cases e : k = n
  · subst e
    rw [pk_us, pk_us, pk_us, pk_uLs]
    exact ⟨nI_pos hed, nI_pos (by omega), nI_le ha (by decide), hs⟩
  · rw [pk_un e, pk_un e, pk_un e, pk_uLn e]
    exact h k (by omega)
