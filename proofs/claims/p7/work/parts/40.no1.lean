/-! WHOLE (AND p7) ARE FALSE of this class: the run of the script no_script, offers(2, -1, -1, -1, 0) and batch(1, 3), comes to its end with false. -/
def no_script : List Int32 := [1, 2, (-1), (-1), (-1), (-1), 0, 5, 1, 3, 0, 0, 0, 0]
def no_Q (_ : Array Value) (s : State) (o : Outcome) (t : State) : Prop := o = .returned (some (.int 0)) ∧ Framed s o t [] 1049 30266
def no_Z (below : List Frame) (a : Array Value) (s : State) : State → Prop := fun t => ∃ o, t.status = .running ∧ Ended t below o ∧ no_Q a s o t
/-- the law's own end, with 0 on the stack, nothing written that was there before, its room as the claim has it -/
theorem no_ret {p : Program} {l : Launch} {e : Env} {s : State} {m : MethodId} {below : List Frame} {meth : Method} {c : Code} {b : Nat} (hx : p.tables.exec = Jvm.exec) (hb : c.code = code) (hr : meth.sig.returnType = ret) (hlocks : meth.locks = false) {pc : Nat} {H : Heap} {ls : Array Slot} (hdg : decode code pc = .ok (.ireturn, 1)) : W p l e room_1 s m #[Value.ref b] below meth c H [] 1049 30266 (no_Z below #[Value.ref b] s) (F0 m pc ls [.int 0]) := by
  intro T hT X
  obtain ⟨fs, hret, hrun, hended, hW, hframe⟩ := X.leave (v := some (.int 0)) (hlocks := hlocks) (fun h => by rw [hr] at h; cases h)
  have hmeth' : T.vm.method? m = some meth := X.method'
  refine ⟨T.setFrames fs, ?_, .returned (some (.int 0)), hrun, hended, rfl, ⟨_, rfl⟩, hW, hframe⟩
  jvm_step X.here [X.here.top, hx, hb, hdg, hmeth', hr, ret, narrow_b0]
  (try refine ⟨rfl, ?_⟩); (try refine ⟨rfl, ?_⟩)
  first | (intro acts; rw [hret _ acts rfl rfl rfl]) | rw [hret _ _ rfl rfl rfl]
  exact Steps.refl _
/-- nothing yet -/
abbrev no_g0 (n ed : Nat) (_ _ : Nat → Int32) : Prop := n = 0 ∧ ed = 0
/-- two batches, the sequences of the second differ -/
abbrev no_g2 (n _ : Nat) (S S2 : Nat → Int32) : Prop := n = 2 ∧ S 1 = 0 ∧ S2 1 = -1
abbrev no_xs (xs : Nat → Int32) : Prop := xs 0 = nI 1 ∧ xs 1 = nI 2 ∧ xs 2 = -1 ∧ xs 3 = -1 ∧ xs 4 = -1 ∧ xs 5 = -1 ∧ xs 6 = nI 0 ∧ xs 7 = nI 5 ∧ xs 8 = nI 1 ∧ xs 9 = nI 3
def law_no (p : Program) (l : Launch) (e : Env) (s : State) (m : MethodId) (below : List Frame) (meth : Method) (c : Code) (dC : Nat → ClassId) (dI : Nat → Nat → Nat) (cI cJ : ClassId) (h : Nat → Nat) (A : Nat → Prop) (g : Nat → Nat → (Nat → Int32) → (Nat → Int32) → Prop) (b i cells slots pc : Nat) : Prop :=
  ∀ (B : Nat → Int32) (P : Nat → Int64) (E S L N B2 : Nat → Int32) (P2 : Nat → Int64) (E2 S2 L2 : Nat → Int32) (n ed : Nat) (f : Nat → Int64) (cd kn0 : Int32) (Fz : Nat → Int32) (H : Heap) (locs : List Loc) (ls : Array Slot), pb_J n ed B P E S L N B2 P2 E2 S2 L2 → g n ed S S2 →
    va_P (dC, dI) classes (wMo cI cJ h B2 P2 E2 S2 L2 cd (nI n) (nI ed) ++ wOut cJ h f ++ wPB h ++ wLog cI cJ h B P E S L N (nI n) (nI ed) ++ wKn cI h kn0 Fz) H → va_D A (wMo cI cJ h B2 P2 E2 S2 L2 cd (nI n) (nI ed) ++ wOut cJ h f ++ wPB h ++ wLog cI cJ h B P E S L N (nI n) (nI ed) ++ wKn cI h kn0 Fz) → va_S A s.heap H locs →
    lv_has ls 8 [(0, .ref b), (1, .ref (h 0)), (2, .ref (h 20)), (3, .ref (h 30)), (4, .int (nI i))] → W p l e room_1 s m #[Value.ref b] below meth c H locs cells slots (no_Z below #[Value.ref b] s) (F0 m pc ls [])
theorem no_leg {pr : Int64} {ep sq la : Int32} (h1 : pr = -1) (h2 : ep = -1) (h3 : sq = -1) (h4 : la = nI 0) : pb_leg pr ep sq la := by
  subst h1; subst h2; subst h3; subst h4
  exact ⟨by decide, by decide, Or.inl ⟨rfl, rfl, rfl⟩⟩
theorem no_room {n ed c a : Nat} (n0 : n = 0) (e0 : ed = 0) (hc : c ≤ 500) (ha : a ≤ 999) : n + c ≤ 2000 ∧ ed + c * (a + 1) ≤ 1000000 := by
  have h : c * (a + 1) ≤ 500 * 1000 := Nat.mul_le_mul hc (by omega)
  exact ⟨by omega, by omega⟩
theorem no_kc (P : Nat → Int64) (n : Nat) : pb_kc P n (-1) = 0 := by unfold pb_kc; rw [if_pos rfl]
theorem no_two {nx : Int32 → Int32} {ep sq : Int32} {a ed n3 e3 : Nat} {B E S L B3 E3 S3 L3 : Nat → Int32} {P P3 : Nat → Int64} {t3 : Int32} (h : pb_it nx (-1) ep a (B, P, E, S, L, 0, ed) sq 2 = ((B3, P3, E3, S3, L3, n3, e3), t3)) : n3 = 2 ∧ S3 1 = nx sq := by
  have a1 := pb_it_y (nx := nx) (pr := -1) (ep := ep) (a := a) (σ := (B, P, E, S, L, 0, ed)) (sq := sq) (i := 0) rfl (pb_ans0 (no_kc _ _))
  have a2 := pb_it_y a1 (pb_ans0 (no_kc _ _))
  have h9 := a2.symm.trans h
  have e1 := congrArg (fun z : pb_St × Int32 => z.1.2.2.2.1 1) h9
  have e2 := congrArg (fun z : pb_St × Int32 => z.1.2.2.2.2.2.1) h9
  refine ⟨e2.symm, e1.symm.trans ?_⟩
  show upd (upd S 0 sq) 1 (nx sq) 1 = nx sq
  rw [pk_us]
theorem no_it {pr : Int64} {ep sq : Int32} {a n ed c9 n3 e3 : Nat} {B E S L B2 E2 S2 L2 B3 E3 S3 L3 B4 E4 S4 L4 : Nat → Int32} {P P2 P3 P4 : Nat → Int64} {t3 t4 : Int32} (n0 : n = 0) (hc : c9 = 2) (hpr : pr = -1) (hsq : sq = -1) (ha : a = 0)
    (h1 : pb_it (fun z => pb_nx z (nI a)) pr ep a (B, P, E, S, L, n, ed) sq c9 = ((B3, P3, E3, S3, L3, n3, e3), t3)) (h2 : pb_it (fun z => if pr < 0 then -1 else pb_nx z (nI a)) pr ep a (B2, P2, E2, S2, L2, n, ed) sq c9 = ((B4, P4, E4, S4, L4, n3, e3), t4)) : no_g2 n3 e3 S3 S4 := by
  subst n0; subst hc; subst hpr; subst hsq; subst ha
  obtain ⟨k1, k2⟩ := no_two h1
  obtain ⟨_, k3⟩ := no_two h2
  exact ⟨k1, k2.trans (by decide), k3.trans (by decide)⟩
