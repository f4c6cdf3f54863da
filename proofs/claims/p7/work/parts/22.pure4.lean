/-! Pure rows for the reference: known or not, moving down, thinning. -/
theorem pb_nvA {P : Nat → Int64} {n k : Nat} (h : P k = -1 ∨ ¬ P k < 0) (hq : P k < 0) : ¬ pb_nv P n k < 5 := by
  have e : P k = -1 := h.elim id (fun g => absurd hq g)
  unfold pb_nv; rw [if_pos e]; omega
theorem pb_nvB {P : Nat → Int64} {n k : Nat} (hq : ¬ P k < 0) : pb_nv P n k < 5 ↔ pb_cn P (P k) n - pb_cn P (P k) (k + 1) < 5 := by
  have e : ¬ P k = -1 := fun g => hq (by rw [g]; decide)
  unfold pb_nv; rw [if_neg e]; omega
theorem pb_cn_tail {P P2 : Nat → Int64} (p : Int64) {k : Nat} (h : ∀ i, k ≤ i → P2 i = P i) : ∀ {n : Nat}, k ≤ n → pb_cn P2 p n + pb_cn P p k = pb_cn P p n + pb_cn P2 p k := by
  intro n
  induction n with
  | zero => intro hk
            have : k = 0 := by omega
            rw [this]
            omega
  | succ n ih =>
    intro hk
    rcases Nat.lt_or_ge n k with q | q
    · have : k = n + 1 := by omega
      rw [this]; omega
    · have := ih q
      have e := h n q
      by_cases g : P n = p
      · rw [pb_cn_y g, pb_cn_y (e.trans g)]; omega
      · rw [pb_cn_n g, pb_cn_n (fun z => g (e.symm.trans z))]; omega
theorem pb_nv_tail {P P2 : Nat → Int64} {n k : Nat} (h : ∀ i, k ≤ i → P2 i = P i) (hk : k < n) : pb_nv P2 n k = pb_nv P n k := by
  have e := h k (Nat.le_refl k)
  have a := pb_cn_tail (P k) (k := k + 1) (fun i hi => h i (by omega)) (n := n) hk
  have b := pb_cn_mono P (P k) (show k + 1 ≤ n by omega)
  have c := pb_cn_mono P2 (P k) (show k + 1 ≤ n by omega)
  unfold pb_nv
  rw [e]
  by_cases g : P k = -1
  · rw [if_pos g, if_pos g]
  · rw [if_neg g, if_neg g]
    congr 1
    omega
theorem pb_n0y {P : Nat → Int64} {n k : Nat} (h : pb_nv P n k < 5) : ¬ nI 5 ≤ nI (pb_nv P n k) := nI_ge h (by decide)
theorem pb_n0n {P : Nat → Int64} {n k : Nat} (h : ¬ pb_nv P n k < 5) : nI 5 ≤ nI (pb_nv P n k) := nI_le (by omega) (by have := pb_nv_le P n k; omega)
theorem pb_cm_up {N : Nat → Int32} {k : Nat} {X X2 : Nat → Int32} (h : pb_cm N k X X2) (hk : ¬ nI 5 ≤ N k) : pb_cm N (k + 1) X (upd X2 (pb_kn N k) (X2 k)) := by
  have hl := pb_kn_le N k
  refine ⟨fun i hi h5 => ?_, fun i hi => ?_⟩
  · by_cases e : i = k
    · rw [e, pk_us]; exact h.2 k (Nat.le_refl k)
    · have := pb_kn_mono N (show i + 1 ≤ k by omega)
      have := pb_kn_y h5
      rw [pk_un (by omega)]; exact h.1 i (by omega) h5
  · rw [pk_un (by omega)]; exact h.2 i (by omega)
theorem pb_cm_upL {N : Nat → Int32} {k : Nat} {X X2 : Nat → Int64} (h : pb_cm N k X X2) (hk : ¬ nI 5 ≤ N k) : pb_cm N (k + 1) X (vp_updL X2 (pb_kn N k) (X2 k)) := by
  have hl := pb_kn_le N k
  refine ⟨fun i hi h5 => ?_, fun i hi => ?_⟩
  · by_cases e : i = k
    · rw [e, pk_uLs]; exact h.2 k (Nat.le_refl k)
    · have := pb_kn_mono N (show i + 1 ≤ k by omega)
      have := pb_kn_y h5
      rw [pk_uLn (by omega)]; exact h.1 i (by omega) h5
  · rw [pk_uLn (by omega)]; exact h.2 i (by omega)
/-- the first g are gone: the others stand g places lower -/
def pb_dr {α : Type} (g n : Nat) (X X2 : Nat → α) : Prop := ∀ i, g + i < n → X2 i = X (g + i)
def pb_dq {α : Type} (g k : Nat) (X X2 : Nat → α) : Prop := (∀ i, g + i < k → X2 i = X (g + i)) ∧ ∀ i, k ≤ g + i → X2 i = X i
theorem pb_dq_0 {α : Type} (g : Nat) (X : Nat → α) : pb_dq g g X X := ⟨fun i h => absurd h (by omega), fun _ _ => rfl⟩
theorem pb_dr_e {α : Type} {g k n : Nat} {X X2 : Nat → α} (h : pb_dq g k X X2) (e : k = n) : pb_dr g n X X2 := by
  subst e; exact h.1
theorem pb_dr_s {g k : Nat} {X X2 : Nat → Int32} (h : pb_dq g k X X2) (hg : g ≤ k) : pb_dq g (k + 1) X (upd X2 (k - g) (X2 k)) := by
  refine ⟨fun i hi => ?_, fun i hi => ?_⟩
  · by_cases e : i = k - g
    · rw [e, pk_us, h.2 k (by omega), show g + (k - g) = k by omega]
    · rw [pk_un e]; exact h.1 i (by omega)
  · rw [pk_un (by omega)]; exact h.2 i (by omega)
theorem pb_dr_sL {g k : Nat} {X X2 : Nat → Int64} (h : pb_dq g k X X2) (hg : g ≤ k) : pb_dq g (k + 1) X (vp_updL X2 (k - g) (X2 k)) := by
  refine ⟨fun i hi => ?_, fun i hi => ?_⟩
  · by_cases e : i = k - g
    · rw [e, pk_uLs, h.2 k (by omega), show g + (k - g) = k by omega]
    · rw [pk_uLn e]; exact h.1 i (by omega)
  · rw [pk_uLn (by omega)]; exact h.2 i (by omega)
