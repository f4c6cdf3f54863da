/-! THE CLAIM OUT OF ONE WALK OF THE LAW'S BODY. Your part is whole_start (and what it stands on); all else here is the same for every law, but numbers. -/
def R_law : String := "ProducerBookLaw"
def lw_P (b : Addr) (xs : List Int32) (args : Array Value) (s : State) : Prop := args = #[.ref b] ∧ s.IntsAt b xs ∧ xs.length ≤ 3584 ∧ (Jvm.Cond.and given_1 narrow_1).before args s = true
def lw_Q (_ : Array Value) (s : State) (o : Outcome) (t : State) : Prop := o = .returned (some (.int 1)) ∧ Framed s o t [] 1049 30266
def lw_Z (below : List Frame) (a : Array Value) (s : State) : State → Prop := fun t => ∃ o, t.status = .running ∧ Ended t below o ∧ lw_Q a s o t
/-- the law's own end, with 1 on the stack, nothing written that was there before, its room as the claim has it -/
theorem lw_ret {p : Program} {l : Launch} {e : Env} {s : State} {m : MethodId} {below : List Frame} {meth : Method} {c : Code} {b : Nat} (hx : p.tables.exec = Jvm.exec) (hb : c.code = code) (hr : meth.sig.returnType = ret) (hlocks : meth.locks = false) {pc : Nat} {H : Heap} {ls : Array Slot} (hdg : decode code pc = .ok (.ireturn, 1)) : W p l e room_1 s m #[Value.ref b] below meth c H [] 1049 30266 (lw_Z below #[Value.ref b] s) (F0 m pc ls [.int 1]) := by
  intro T hT X
  obtain ⟨fs, hret, hrun, hended, hW, hframe⟩ := X.leave (v := some (.int 1)) (hlocks := hlocks) (fun h => by rw [hr] at h; cases h)
  have hmeth' : T.vm.method? m = some meth := X.method'
  refine ⟨T.setFrames fs, ?_, .returned (some (.int 1)), hrun, hended, rfl, ⟨_, rfl⟩, hW, hframe⟩
  jvm_step X.here [X.here.top, hx, hb, hdg, hmeth', hr, ret, narrow_b1]
  (try refine ⟨rfl, ?_⟩); (try refine ⟨rfl, ?_⟩)
  first | (intro acts; rw [hret _ acts rfl rfl rfl]) | rw [hret _ _ rfl rfl rfl]
  exact Steps.refl _
/-- what holds at the law's entry: the machine, the code, the tables' words (any of lw_tbl by 'hts w (by decide +kernel)'), the script of L ints xs at the cell b, what the Statement gives of the start (any of its parts by flat_of_before) -/
def lw_At (p : Program) (s : State) (m : MethodId) (meth : Method) (c : Code) (b L : Nat) (xs : Nat → Int32) : Prop :=
  p.tables.exec = Jvm.exec ∧ c.code = code ∧ meth.sig.returnType = ret ∧ c.maxLocals = 8 ∧ s.vm.findClass R_law = some m.cls ∧ (∀ w ∈ lw_tbl, w.before #[Value.ref b] s = true) ∧ va_X b L xs s s.heap ∧ b < s.heap.size ∧ meth.locks = false ∧ (Jvm.Cond.and given_1 narrow_1).before #[Value.ref b] s = true
/-! The law's own reads, and what holds at the head of a round. -/
section XL
variable {p : Program} {l : Launch} {e : Env} {R : Room} {s : State} {m : MethodId} {args : Array Value} {below : List Frame} {meth : Method} {c : Code} {H : Heap} {locs : List Loc} {cells slots : Nat} {Q : State → Prop} {cc : ByteArray} {pc : Nat} {ls : Array Slot} {rest : List Value} {A : Nat → Prop} {H0 : Heap}
theorem xh_sld (hx : p.tables.exec = Jvm.exec) (hb : c.code = cc) {b L : Nat} {xs : Nat → Int32} (hX : va_X b L xs s H0) (hbl : b < H0.size) (hbA : ¬ A b) (hS : va_S A H0 H locs) {k : Nat} (hk : k < L) (hL : L < 2 ^ 31) (hdg : decode cc pc = .ok (.iaload, 1))
    (kk : W p l e R s m args below meth c H locs cells slots Q (F0 m (pc + 1) ls (.int (xs k) :: rest))) : W p l e R s m args below meth c H locs cells slots Q (F0 m pc ls (.int (nI k) :: .ref b :: rest)) := by
  refine va_sld hx hb hX hbl hbA hS (vp_in_nI hk hL) hdg ?_
  rw [nI_clamp (Nat.lt_trans hk hL)]; exact kk
end XL
theorem pb_nIi {a b : Nat} {x : Int32} (ha : a ≤ 999) (hb : b ≤ 999) (h1 : x = nI a) (h2 : x = nI b) : b = a := (nI_eq (by omega) (by omega)).mp (h2.symm.trans h1)
theorem pb_head {L i : Nat} (hL : L ≤ 3584) (hi : i ≤ 3584) (h : ¬ nI L - nI 7 < nI i) : i + 7 ≤ L := by
  rcases Nat.lt_or_ge L 7 with g | g
  · exact absurd (Int32.lt_of_lt_of_le (pk_sneg (by omega) g) (nI_pos' (by omega))) h
  · rw [pk_sub g] at h
    have := Nat.le_of_not_lt fun k => h ((nI_ltI (by omega) (by omega)).mpr k)
    omega
/-- what the law owes at pc, between two calls: for all rows that hang together -/
def law_at (p : Program) (l : Launch) (e : Env) (s : State) (m : MethodId) (below : List Frame) (meth : Method) (c : Code) (dC : Nat → ClassId) (dI : Nat → Nat → Nat) (cI cJ : ClassId) (h : Nat → Nat) (A : Nat → Prop) (z : Prop) (b i cells slots pc : Nat) : Prop :=
  ∀ (B : Nat → Int32) (P : Nat → Int64) (E S L N B2 : Nat → Int32) (P2 : Nat → Int64) (E2 S2 L2 : Nat → Int32) (n ed : Nat) (f : Nat → Int64) (cd kn0 : Int32) (Fz : Nat → Int32) (H : Heap) (locs : List Loc) (ls : Array Slot), pb_J n ed B P E S L N B2 P2 E2 S2 L2 → (z → n = 0) →
    va_P (dC, dI) classes (wMo cI cJ h B2 P2 E2 S2 L2 cd (nI n) (nI ed) ++ wOut cJ h f ++ wPB h ++ wLog cI cJ h B P E S L N (nI n) (nI ed) ++ wKn cI h kn0 Fz) H → va_D A (wMo cI cJ h B2 P2 E2 S2 L2 cd (nI n) (nI ed) ++ wOut cJ h f ++ wPB h ++ wLog cI cJ h B P E S L N (nI n) (nI ed) ++ wKn cI h kn0 Fz) → va_S A s.heap H locs →
    lv_has ls 8 [(0, .ref b), (1, .ref (h 0)), (2, .ref (h 20)), (3, .ref (h 30)), (4, .int (nI i))] → W p l e room_1 s m #[Value.ref b] below meth c H locs cells slots (lw_Z below #[Value.ref b] s) (F0 m pc ls [])
theorem pb_nIc {a b : Nat} {x : Int32} (ha : a ≤ 500) (hb : b ≤ 500) (h1 : x = nI a) (h2 : x = nI b) : b = a := (nI_eq (by omega) (by omega)).mp (h2.symm.trans h1)
theorem pb_x1 {x : Int32} {c : Nat} (h : x = nI c) (h1 : 1 ≤ c) (h2 : c ≤ 500 := by assumption) : ¬ x < nI 1 := by rw [h]; exact nI_nlt h1 (by omega)
theorem pb_x5 {x : Int32} {c : Nat} (h : x = nI c) (h1 : c ≤ 500) : ¬ nI 500 < x := by rw [h]; exact nI_nlt h1 (by decide)
theorem pb_cnt {x r9 r8 : Int32} {n a b ed : Nat} (h : (x = nI 0 ∧ r9 = nI n) ∨ (x = nI 1 ∧ r9 = nI a) ∨ (x = nI 2 ∧ r9 = nI ed)) (g : (x = nI 0 ∧ r8 = nI n) ∨ (x = nI 1 ∧ r8 = nI b) ∨ (x = nI 2 ∧ r8 = nI ed)) (e : a = b) : r9 = r8 := by
  subst e
  rcases h with ⟨h1, h2⟩ | ⟨h1, h2⟩ | ⟨h1, h2⟩ <;> rcases g with ⟨g1, g2⟩ | ⟨g1, g2⟩ | ⟨g1, g2⟩ <;> first | exact h2.trans g2.symm | exact absurd (h1.symm.trans g1) (by decide)
theorem pb_J0z : pb_J 0 0 (fun _ => 0) (fun _ => 0) (fun _ => 0) (fun _ => 0) (fun _ => 0) (fun _ => 0) (fun _ => 0) (fun _ => 0) (fun _ => 0) (fun _ => 0) (fun _ => 0) := ⟨by omega, by omega, fun k h => absurd h (Nat.not_lt_zero k), fun k h => absurd h (Nat.not_lt_zero k), fun k h => absurd h (Nat.not_lt_zero k), fun k h => absurd h (Nat.not_lt_zero k)⟩
