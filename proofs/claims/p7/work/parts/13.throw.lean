/-! Exceptions of the class: what a throw needs of the start (xX), the two throws, the end of a body that throws. -/
abbrev xIA : String := "java/lang/IllegalArgumentException"
abbrev xIS : String := "java/lang/IllegalStateException"
abbrev xNm : List String := ["java/lang/RuntimeException", "java/lang/Exception"]
abbrev xDc (C : String) : Cond := .declares ⟨C, "<init>", "(Ljava/lang/String;)V"⟩
def xTX : List (Nat × String) := [(29, "a number of the batch is out of its bounds"), (44, "the log has no room for the batch"), (47, "a number of the batches is out of its bounds"), (53, "the log has no room for all the batches"), (63, "n is not 0 .. 2000"), (73, "the producer is below 0, or what is not 0 .. 4"), (95, "there is no such batch, or what is not 0 .. 5"), (111, "what is not 0 .. 2")]
def xX (A : Nat → Prop) (U : State) : Prop := vx_Zq Bundle.tN "UNASSIGNED_STACK" Bundle.steD A U U.heap ∧ vx_Zq Bundle.tN "SUPPRESSED_SENTINEL" Bundle.listD A U U.heap ∧ (va_Nw (.castable xIA xIA) U ∧ va_Nw (.castable xIS xIS) U ∧ va_Nw (xDc "java/lang/RuntimeException") U ∧ va_Nw (xDc "java/lang/Exception") U ∧ va_Nw (xDc "java/lang/Throwable") U) ∧ ∀ q ∈ xTX, ∃ sa : Nat, vk_R RX2 q.1 q.2 sa U
theorem xX.step {A A1 : Nat → Prop} {s U : State} {H : Heap} {locs : List Loc} (h : xX A s) (hS : va_S A s.heap H locs) (hA : ∀ q, A1 q → A q) (hU : U.heap = H) (hW : s.WarmedH U.vm) : xX A1 U := by
  obtain ⟨h1, h2, ⟨h3, h4, h7, h8, h9⟩, h5⟩ := h
  refine ⟨?_, ?_, ⟨va_Nw.warmC hW h3, va_Nw.warmC hW h4, va_Nw.warmD hW h7, va_Nw.warmD hW h8, va_Nw.warmD hW h9⟩, fun q hq => ?_⟩
  · rw [hU]; exact ((h1.moved hW.alike).kept (fun a ha hn => hS.2.1 a ha hn)).narrow hA
  · rw [hU]; exact ((h2.moved hW.alike).kept (fun a ha hn => hS.2.1 a ha hn)).narrow hA
  · obtain ⟨sa, h⟩ := h5 q hq
    exact ⟨sa, vk_R.warm hW h⟩
theorem xX.call {A : Nat → Prop} {U : State} (h : xX A U) (g : JFrame) (mk : MethodId) (a : Array Value) : xX A (U.calling g mk a) := by
  obtain ⟨h1, h2, ⟨h3, h4, h7, h8, h9⟩, h5⟩ := h
  exact ⟨vx_Zq.moved (u := U) (U := U.calling g mk a) (Vm.Alike.refl U.vm) h1, vx_Zq.moved (u := U) (U := U.calling g mk a) (Vm.Alike.refl U.vm) h2, ⟨va_Nw.same (u := U) (U := U.calling g mk a) rfl rfl h3, va_Nw.same (u := U) (U := U.calling g mk a) rfl rfl h4, va_Nw.same (u := U) (U := U.calling g mk a) rfl rfl h7, va_Nw.same (u := U) (U := U.calling g mk a) rfl rfl h8, va_Nw.same (u := U) (U := U.calling g mk a) rfl rfl h9⟩, fun q hq => (h5 q hq).elim (fun sa h => ⟨sa, vk_R.same (u := U) (U := U.calling g mk a) rfl h⟩)⟩
set_option maxRecDepth 20000 in
theorem xa_A0 : ∀ w ∈ (vx_atS RX2 31 xIA xNm).filter goodWord, w ∈ lw_tbl := by decide +kernel
set_option maxRecDepth 20000 in
theorem xa_S0 : ∀ w ∈ (vx_atS RX2 46 xIS xNm).filter goodWord, w ∈ lw_tbl := by decide +kernel
theorem xa_A1 : ∀ w ∈ (vx_atS RX2 31 xIA xNm).filter (fun w => !goodWord w), w ∈ [Cond.castable xIA xIA, xDc "java/lang/RuntimeException", xDc "java/lang/Exception", xDc "java/lang/Throwable"] := by decide +kernel
theorem xa_S1 : ∀ w ∈ (vx_atS RX2 46 xIS xNm).filter (fun w => !goodWord w), w ∈ [Cond.castable xIS xIS, xDc "java/lang/RuntimeException", xDc "java/lang/Exception", xDc "java/lang/Throwable"] := by decide +kernel
theorem xa_A2 : ∀ w ∈ Cond.classLink RX2 27 xIA :: Cond.initialized xIA :: vx_atS RX2 31 xIA xNm, vx_ot w = true := by decide +kernel
theorem xa_S2 : ∀ w ∈ Cond.classLink RX2 42 xIS :: Cond.initialized xIS :: vx_atS RX2 46 xIS xNm, vx_ot w = true := by decide +kernel
section XT
variable {p : Program} {l : Launch} {e : Env} {R : Room} {s : State} {m : MethodId} {args : Array Value} {below : List Frame} {meth : Method} {c : Code} {H : Heap} {locs : List Loc} {cells slots : Nat} {cc : ByteArray} {pc : Nat} {ls : Array Slot} {rest : List Value} {A : Nat → Prop} {w0 : Cond} {free : Addr → Prop} {mc ms is : Nat} {text : String}
  {Qc : Array Value → State → Outcome → State → Prop} {XC : String → State → State → Prop}
theorem xh_thrA (hx : p.tables.exec = Jvm.exec) (hb : c.code = cc) (hl : l.stackTraces = false) (hts : ∀ w ∈ w0 :: AW, w.before args s = true) (hown : s.vm.findClass RX2 = some m.cls) (hX : xX A s) (ht : (is, text) ∈ xTX) (hS : va_S A s.heap H locs) (hsize : ls.size = c.maxLocals)
    (d0 : decode cc pc = .ok (.new 27, 3)) (d3 : decode cc (pc + 3) = .ok (.dup, 1)) (d4 : decode cc (pc + 4) = .ok (.ldc is, 2)) (d6 : decode cc (pc + 6) = .ok (.invokespecial 31, 3)) (d9 : decode cc (pc + 9) = .ok (.athrow, 1))
    (hout : ∀ x ∈ c.exceptionTable.toList, False) (hRf : 5 < R.frames) (hRl : (rest.map fun v => v.category).sum + 82 ≤ R.locals) (hRc : cells + 1 ≤ R.cells) (hRs : slots + 6 ≤ R.slots) (hlocks : meth.locks = false)
    (hxc : ∀ t : State, s.vm.Alike t.vm → H.size ≤ t.heap.size → (∀ q : Nat, q < H.size → t.heap[q]? = H[q]?) → XC xIA s t) (hf : ∀ z ∈ locs, free z.base) (hc : cells + 1 ≤ mc) (hs : slots + 6 ≤ ms) :
    W p l e R s m args below meth c H locs cells slots (vx_MQ below Qc XC args s mc ms free) (F0 m pc ls rest) := by
  obtain ⟨h1, h2, ⟨h3, h4, h7, h8, h9⟩, h5⟩ := hX
  obtain ⟨sa, h6⟩ := h5 _ ht
  exact vx_throwS (names := xNm) hx hb hl hown (by decide +kernel) (by decide +kernel) (hts (.classLink RX2 27 xIA) (mm aw_115)) (hts (.initialized xIA) (mm aw_8)) h6
    (vx_hat (fun w h => hts w (mm (List.mem_filter.mpr ⟨xa_A0 w h, (List.mem_filter.mp h).2⟩))) xa_A1 (vx_c (va_Nw.use rfl h3) (vx_c (va_Nw.use rfl h7) (vx_c (va_Nw.use rfl h8) (vx_c (va_Nw.use rfl h9) vx_n))))) xa_A2 h1 h2 hS hsize d0 d3 d4 d6 d9 (fun x h => (hout x h).elim) hRf hRl hRc hRs hlocks hxc hf hc hs
theorem xh_thrS (hx : p.tables.exec = Jvm.exec) (hb : c.code = cc) (hl : l.stackTraces = false) (hts : ∀ w ∈ w0 :: AW, w.before args s = true) (hown : s.vm.findClass RX2 = some m.cls) (hX : xX A s) (ht : (is, text) ∈ xTX) (hS : va_S A s.heap H locs) (hsize : ls.size = c.maxLocals)
    (d0 : decode cc pc = .ok (.new 42, 3)) (d3 : decode cc (pc + 3) = .ok (.dup, 1)) (d4 : decode cc (pc + 4) = .ok (.ldc is, 2)) (d6 : decode cc (pc + 6) = .ok (.invokespecial 46, 3)) (d9 : decode cc (pc + 9) = .ok (.athrow, 1))
    (hout : ∀ x ∈ c.exceptionTable.toList, False) (hRf : 5 < R.frames) (hRl : (rest.map fun v => v.category).sum + 82 ≤ R.locals) (hRc : cells + 1 ≤ R.cells) (hRs : slots + 6 ≤ R.slots) (hlocks : meth.locks = false)
    (hxc : ∀ t : State, s.vm.Alike t.vm → H.size ≤ t.heap.size → (∀ q : Nat, q < H.size → t.heap[q]? = H[q]?) → XC xIS s t) (hf : ∀ z ∈ locs, free z.base) (hc : cells + 1 ≤ mc) (hs : slots + 6 ≤ ms) :
    W p l e R s m args below meth c H locs cells slots (vx_MQ below Qc XC args s mc ms free) (F0 m pc ls rest) := by
  obtain ⟨h1, h2, ⟨h3, h4, h7, h8, h9⟩, h5⟩ := hX
  obtain ⟨sa, h6⟩ := h5 _ ht
  exact vx_throwS (names := xNm) hx hb hl hown (by decide +kernel) (by decide +kernel) (hts (.classLink RX2 42 xIS) (mm aw_228)) (hts (.initialized xIS) (mm aw_9)) h6
    (vx_hat (fun w h => hts w (mm (List.mem_filter.mpr ⟨xa_S0 w h, (List.mem_filter.mp h).2⟩))) xa_S1 (vx_c (va_Nw.use rfl h4) (vx_c (va_Nw.use rfl h7) (vx_c (va_Nw.use rfl h8) (vx_c (va_Nw.use rfl h9) vx_n))))) xa_S2 h1 h2 hS hsize d0 d3 d4 d6 d9 (fun x h => (hout x h).elim) hRf hRl hRc hRs hlocks hxc hf hc hs
/-- the world where a throw leaves it -/
theorem xh_xc {D : va_G} {cl : List vw_C} {tys : List (ClassId × FieldType)} {ws : va_W} {t : State} (hP : va_P D cl ws H) (hK : va_K D cl tys s) (hD : va_D A ws) (hS : va_S A s.heap H locs) (hvm : s.vm.Alike t.vm) (hz : H.size ≤ t.heap.size) (hq : ∀ q : Nat, q < H.size → t.heap[q]? = H[q]?) : xB D cl tys A ws t ∧ va_F A s t :=
  ⟨⟨hP.kept (fun k q hk => hq q.1 (vx_lt hP hk)), va_K.moved hvm hK, hD⟩, Nat.le_trans hS.1 hz, fun q h1 h2 => (hq q (Nat.lt_of_lt_of_le h1 hS.1)).trans (hS.2.1 q h1 h2)⟩
end XT
/-- what a throwing method says where it throws: the exception's name, a reason, its world -/
abbrev xXC {S : Type} (D : va_G) (cl : List vw_C) (tys : List (ClassId × FieldType)) (A : Nat → Prop) (px : String → S → Prop) (w1 : S → va_W) : String → State → State → Prop := vx_X (fun _ : S => True) (fun E u t => px E u ∧ xB D cl tys A (w1 u) t) A
