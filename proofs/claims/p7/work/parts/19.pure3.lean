/-! Pure rows for the reference. -/
theorem pb_ge0 {p : Int64} (h : ¬ p = -1) (g : -1 ≤ p) : ¬ p < 0 := by
  intro k
  have a := Int64.le_iff_toInt_le.mp g
  have b := Int64.lt_iff_toInt_lt.mp k
  have e1 : (-1 : Int64).toInt = -1 := by decide
  have e0 : (0 : Int64).toInt = 0 := by decide
  exact h (Int64.toInt_inj.mp (by omega))
theorem pb_lt1a {p : Int64} (h : p < -1) (e : p = -1) : False := by
  rw [e] at h; exact absurd h (by decide)
theorem pb_lt1b {p : Int64} (h : p < -1) : p < 0 := by
  have a := Int64.lt_iff_toInt_lt.mp h
  have e1 : (-1 : Int64).toInt = -1 := by decide
  have e0 : (0 : Int64).toInt = 0 := by decide
  exact Int64.lt_iff_toInt_lt.mpr (by omega)
theorem pb_legp {pr : Int64} {ep sq la : Int32} (h : pb_leg pr ep sq la) : pr = -1 ∨ ¬ pr < 0 := h.2.2.elim (fun k => Or.inl k.1) (fun k => Or.inr k.2.1)
theorem pb_k1 {P : Nat → Int64} {n j k : Nat} {pr : Int64} (h5 : j < 5) (hp : ¬ pr < 0) (h : pb_at P n pr j k) : (if j < pb_kc P n pr then nI (pb_ix P pr n j) else -1) = nI k := by
  have h1 : ¬ pr = -1 := fun e => hp (by rw [e]; decide)
  have hy : pb_cn P pr (k + 1) = pb_cn P pr k + 1 := pb_cn_y h.2.1
  have hc := h.2.2
  rw [if_pos (by unfold pb_kc; rw [if_neg h1]; omega), pb_ix_eq h]
theorem pb_nxN {b a : Nat} (h : b + a + 1 < 2 ^ 32) : nI ((b + a + 1) % 2147483648) = pb_nx (nI b) (nI a) := by
  unfold pb_nx
  rw [nI_add, nI_add, pk_andN h 31 (by decide)]
theorem pb_sc_over {m : Nat → Bool} {v : Nat → Int32} {q i : Nat} (h : ¬ i < q) : pb_sc m v (q - i) i = pb_sc m v (q - (i + 1)) (i + 1) := by
  rw [show q - i = 0 by omega, show q - (i + 1) = 0 by omega]; rfl
/-- what holds of the numbers in the log -/
def pb_MI (B : Nat → Int32) (P : Nat → Int64) (S L : Nat → Int32) (n : Nat) : Prop := ∀ k, k < n → ¬ B k < 0 ∧ ¬ L k < 0 ∧ L k ≤ nI 999 ∧ (P k ≠ -1 → ¬ S k < 0)
