/-! Calls of methods that may throw, with the frame rule done once; the law's own methods. -/
def wOut (cJ : ClassId) (h : Nat → Nat) (f : Nat → Int64) : va_W := [(h 30, .inl (cJ, 1, .inr (.inl f)))]
def xX2 (A : Nat → Prop) (U : State) : Prop := xX A U ∧ va_Nc xIS xIA U
theorem xX2.step {A A1 : Nat → Prop} {s U : State} {H : Heap} {locs : List Loc} (h : xX2 A s) (hS : va_S A s.heap H locs) (hA : ∀ q, A1 q → A q) (hU : U.heap = H) (hW : s.WarmedH U.vm) : xX2 A1 U := ⟨h.1.step hS hA hU hW, va_Nc.moved hW.alike h.2⟩
theorem xX2.call {A : Nat → Prop} {U : State} (h : xX2 A U) (g : JFrame) (mk : MethodId) (a : Array Value) : xX2 A (U.calling g mk a) := ⟨h.1.call g mk a, va_Nc.moved (u := U) (U := U.calling g mk a) (Vm.Alike.refl U.vm) h.2⟩
section XV
variable {p : Program} {l : Launch} {e : Env} {R : Room} {s : State} {m : MethodId} {args : Array Value} {below : List Frame} {meth : Method} {c : Code} {H : Heap} {locs : List Loc} {cells slots : Nat} {Q : State → Prop} {cc : ByteArray} {pc : Nat} {ls : Array Slot} {rest : List Value} {D : va_G} {cl : List vw_C} {tys : List (ClassId × FieldType)} {ws : va_W} {A : Nat → Prop} {H0 : Heap} {a : Nat}
theorem xh_preVX {C : String} {b : Nat} {As : List Value} {wc : va_W} {ci r0 : Nat} {q : vw_C} {fs : List Value} {A1 : Nat → Prop} (hK : va_K D cl tys s) (hX : xX A s) (hS : va_S A s.heap H locs) (hF : ∀ q, va_A wc H.size q → A q) (hPc : va_P D cl wc H) (hDc : va_D A1 wc) (hc : cl[ci]? = some q) (he : wc[r0]? = some (b, .inr (ci, fs))) (hq : q.1 = C) : PreV s H C b (va_Pc (.ref b :: As) (fun U => xP D cl tys wc H.size U ∧ xX (va_A wc H.size) U)) As := by
  refine ⟨fun a U g mk h => ?_, ?_, fun U hU hW => ⟨rfl, ⟨by rw [hU], by rw [hU]; exact hPc, va_K.moved hW.alike hK, hDc.weaken (fun _ _ _ _ => trivial)⟩, hX.step hS hF hU hW⟩⟩
  · obtain ⟨h0, ⟨h1, h2, h3, h4⟩, h5⟩ := h
    exact ⟨h0, ⟨h1, h2, va_K.moved (u := U) (U := U.calling g mk a) (Vm.Alike.refl U.vm) h3, h4⟩, h5.call g mk a⟩
  · rw [← hq]; exact va_recv hK hPc hc he
theorem xh_preSX {As : List Value} {wc : va_W} {A1 : Nat → Prop} (hK : va_K D cl tys s) (hX : xX2 A s) (hS : va_S A s.heap H locs) (hF : ∀ q, va_A wc H.size q → A q) (hPc : va_P D cl wc H) (hDc : va_D A1 wc) : PreS s H (va_Pc As (fun U => xP D cl tys wc H.size U ∧ xX2 (va_A wc H.size) U)) As := by
  refine ⟨fun a U g mk h => ?_, fun U hU hW => ⟨rfl, ⟨by rw [hU], by rw [hU]; exact hPc, va_K.moved hW.alike hK, hDc.weaken (fun _ _ _ _ => trivial)⟩, hX.step hS hF hU hW⟩⟩
  obtain ⟨h0, ⟨h1, h2, h3, h4⟩, h5⟩ := h
  exact ⟨h0, ⟨h1, h2, va_K.moved (u := U) (U := U.calling g mk a) (Vm.Alike.refl U.vm) h3, h4⟩, h5.call g mk a⟩
section C
variable {S SX : Type} {w1 : S → va_W} {wx : SX → va_W} {px9 : String → SX → Prop} {wc wr : va_W} {mc ms : Nat} {st0 : List Value} {av : Array Value} {A0 : Nat → Prop}
theorem xh_vcalli {post : Int32 → S → Prop} (hP : va_P D cl ws H) (hD : va_D A0 ws) (hS : va_S A0 H0 H locs) (hA : ∀ q, H0.size ≤ q → A0 q) (isC isR : List Nat) (hC : isC.map (fun i => ws[i]?) = wc.map some) (hR : isR.map (fun i => ws[i]?) = wr.map some) (hn : va_nd isR = true) (hdis : ∀ i ∈ isR, i ∉ isC)
    (hr : vx_Run p l e R s m args below meth c H locs cells slots mc ms (F0 m pc ls st0) rest (va_Qi post (fun u => xB D cl tys (va_A wc H.size) (w1 u)) (va_A wc H.size) av) (xXC D cl tys (va_A wc H.size) px9 wx) (va_A wc H.size))
    (kx : ∀ (E : String) (ce : Cell) (q9 : Addr) (u : SX) (H1 : Heap) (locs1 : List Loc), px9 E u → va_P D cl (wr ++ wx u) H1 → va_D A0 (wr ++ wx u) → va_S A0 H0 H1 locs1 → H1[q9]? = some ce → ce.vm = .none → s.vm.findClass E = some ce.cls → vx_W p l e R s m args below meth c H1 locs1 (cells + mc) (slots + ms) Q (F0 m pc ls rest) q9)
    (kk : ∀ (r : Int32) (u : S) (H1 : Heap) (locs1 : List Loc), post r u → va_P D cl (wr ++ w1 u) H1 → va_D A0 (wr ++ w1 u) → va_S A0 H0 H1 locs1 → W p l e R s m args below meth c H1 locs1 (cells + mc) (slots + ms) Q (F0 m (pc + 3) ls (.int r :: rest))) : W p l e R s m args below meth c H locs cells slots Q (F0 m pc ls st0) := by
  have hFc := va_free (wc := wc) hD hS hA isC hC
  refine vx_calli hr hS (fun q _ h => hFc q h) hFc (fun q _ h => hFc q h) (fun E ce q9 u t H1 locs1 ht hvm _ hB hz1 hk1 hS1 h1 h2 h3 => ?_) (fun r u t H1 locs1 ht hvm hw hB hz1 hk1 hS1 => ?_)
  · obtain ⟨hpx, hP1, -, hD1⟩ := hB
    rw [ht] at hP1
    obtain ⟨hP2, hD2⟩ := va_join (wr := wr) (w1 := wx u) hP hD isC isR hC hR hn hdis hk1 hFc hP1 hD1
    exact kx E ce q9 u H1 locs1 hpx hP2 hD2 hS1 h1 h2 h3
  · obtain ⟨hP1, -, hD1⟩ := hB
    rw [ht] at hP1
    obtain ⟨hP2, hD2⟩ := va_join (wr := wr) (w1 := w1 u) hP hD isC isR hC hR hn hdis hk1 hFc hP1 hD1
    exact kk r u H1 locs1 hw hP2 hD2 hS1
theorem xh_vcalll {post : Int64 → S → Prop} (hP : va_P D cl ws H) (hD : va_D A0 ws) (hS : va_S A0 H0 H locs) (hA : ∀ q, H0.size ≤ q → A0 q) (isC isR : List Nat) (hC : isC.map (fun i => ws[i]?) = wc.map some) (hR : isR.map (fun i => ws[i]?) = wr.map some) (hn : va_nd isR = true) (hdis : ∀ i ∈ isR, i ∉ isC)
    (hr : vx_Run p l e R s m args below meth c H locs cells slots mc ms (F0 m pc ls st0) rest (va_Ql post (fun u => xB D cl tys (va_A wc H.size) (w1 u)) (va_A wc H.size) av) (xXC D cl tys (va_A wc H.size) px9 wx) (va_A wc H.size))
    (kx : ∀ (E : String) (ce : Cell) (q9 : Addr) (u : SX) (H1 : Heap) (locs1 : List Loc), px9 E u → va_P D cl (wr ++ wx u) H1 → va_D A0 (wr ++ wx u) → va_S A0 H0 H1 locs1 → H1[q9]? = some ce → ce.vm = .none → s.vm.findClass E = some ce.cls → vx_W p l e R s m args below meth c H1 locs1 (cells + mc) (slots + ms) Q (F0 m pc ls rest) q9)
    (kk : ∀ (r : Int64) (u : S) (H1 : Heap) (locs1 : List Loc), post r u → va_P D cl (wr ++ w1 u) H1 → va_D A0 (wr ++ w1 u) → va_S A0 H0 H1 locs1 → W p l e R s m args below meth c H1 locs1 (cells + mc) (slots + ms) Q (F0 m (pc + 3) ls (.long r :: rest))) : W p l e R s m args below meth c H locs cells slots Q (F0 m pc ls st0) := by
  have hFc := va_free (wc := wc) hD hS hA isC hC
  refine vx_calll hr hS (fun q _ h => hFc q h) hFc (fun q _ h => hFc q h) (fun E ce q9 u t H1 locs1 ht hvm _ hB hz1 hk1 hS1 h1 h2 h3 => ?_) (fun r u t H1 locs1 ht hvm hw hB hz1 hk1 hS1 => ?_)
  · obtain ⟨hpx, hP1, -, hD1⟩ := hB
    rw [ht] at hP1
    obtain ⟨hP2, hD2⟩ := va_join (wr := wr) (w1 := wx u) hP hD isC isR hC hR hn hdis hk1 hFc hP1 hD1
    exact kx E ce q9 u H1 locs1 hpx hP2 hD2 hS1 h1 h2 h3
  · obtain ⟨hP1, -, hD1⟩ := hB
    rw [ht] at hP1
    obtain ⟨hP2, hD2⟩ := va_join (wr := wr) (w1 := w1 u) hP hD isC isR hC hR hn hdis hk1 hFc hP1 hD1
    exact kk r u H1 locs1 hw hP2 hD2 hS1
end C
end XV
theorem aw_SW {w0 cd : Cond} {own : String} {idx : Nat} {y : MethodName} (h1 : .methodLink own idx y ∈ AW) (h2 : .static y ∈ AW) (h4 : .initialized y.cls ∈ AW) (h5 : cd ∈ AW) : GoodIn (w0 :: AW) (va_wsS own idx y (cd :: AW)) := by
  intro w hw
  rcases List.mem_append.mp hw with h | h
  · simp only [List.mem_cons, List.not_mem_nil, or_false] at h
    rcases h with h | h | h
    · rw [h]; exact ⟨mm h1, aw_gd h1⟩
    · rw [h]; exact ⟨mm h2, aw_gd h2⟩
    · rw [h]; exact ⟨mm h4, aw_gd h4⟩
  · exact aw_G h5 w h
