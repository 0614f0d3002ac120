/-! methods of the class that throw, over the world -/
def xTexts : List (Nat × String) := [(89, "rack or ports out of range"), (96, "no room for another panel"), (105, "strands or length out of range"), (111, "both ports are of the same panel"), (116, "not so many ports from there on"), (118, "no room for another trunk"), (124, "a port has a strand"), (135, "no such strand"), (146, "colour out of range, or both ports the same"), (151, "a port has a cable"), (160, "the port has no cable"), (165, "both ports are the same"), (171, "no room for another move"), (183, "the plan is not possible"), (201, "no such hop"), (222, "no such port"), (224, "no such panel"), (226, "no such trunk")]
def xIO : String := "java/lang/IndexOutOfBoundsException"
def xIA : String := "java/lang/IllegalArgumentException"
def xIS : String := "java/lang/IllegalStateException"
abbrev xUp : List String := ["java/lang/RuntimeException", "java/lang/Exception"]
def xBad : List Cond := [.castable xIO xIO, .castable xIA xIA, .castable xIS xIS, .declares (Bundle.initS "java/lang/RuntimeException"), .declares (Bundle.initS "java/lang/Exception"), .declares (Bundle.initS Bundle.tN)]
/-- what a throw needs of the start -/
def xTh (E : xE) (U : State) : Prop := (vx_Zq Bundle.tN "UNASSIGNED_STACK" Bundle.steD (xA E) U U.heap ∧ vx_Zq Bundle.tN "SUPPRESSED_SENTINEL" Bundle.listD (xA E) U U.heap) ∧ (∀ q ∈ xTexts, ∃ sa, vk_R RX3 q.1 q.2 sa U) ∧ ∀ w ∈ xBad, va_Nw w U
theorem xTh.kept {E : xE} {s U : State} {H : Heap} {locs : List Loc} (h : xTh E s) (hS : va_S (xA E) s.heap H locs) (hU : U.heap = H) (hW : s.WarmedH U.vm) : xTh E U := by
  obtain ⟨⟨h1, h2⟩, h3, h4⟩ := h
  refine ⟨⟨?_, ?_⟩, fun q hq => ?_, fun w hw => ?_⟩
  · rw [hU]; exact vx_Zq.moved hW.alike (h1.kept hS.2.1)
  · rw [hU]; exact vx_Zq.moved hW.alike (h2.kept hS.2.1)
  · obtain ⟨sa, h⟩ := h3 q hq
    exact ⟨sa, vk_R.warm hW h⟩
  · have h5 := h4 w hw
    simp only [xBad, List.mem_cons, List.not_mem_nil, or_false] at hw
    rcases hw with rfl | rfl | rfl | rfl | rfl | rfl
    · exact va_Nw.warmC hW h5
    · exact va_Nw.warmC hW h5
    · exact va_Nw.warmC hW h5
    · exact va_Nw.warmD hW h5
    · exact va_Nw.warmD hW h5
    · exact va_Nw.warmD hW h5
theorem xTh.blind {E : xE} {U : State} (h : xTh E U) (a : Array Value) (g : JFrame) (mk : MethodId) : xTh E (U.calling g mk a) := by
  obtain ⟨⟨h1, h2⟩, h3, h4⟩ := h
  refine ⟨⟨vx_Zq.moved (u := U) (U := U.calling g mk a) (Vm.Alike.refl U.vm) h1, vx_Zq.moved (u := U) (U := U.calling g mk a) (Vm.Alike.refl U.vm) h2⟩, fun q hq => ?_, fun w hw => ?_⟩
  · obtain ⟨sa, h⟩ := h3 q hq
    exact ⟨sa, vk_R.same (u := U) (U := U.calling g mk a) rfl h⟩
  · have h5 := h4 w hw
    refine va_Nw.same ?_ (u := U) (U := U.calling g mk a) rfl h5
    simp only [xBad, List.mem_cons, List.not_mem_nil, or_false] at hw
    rcases hw with rfl | rfl | rfl | rfl | rfl | rfl <;> rfl
/-- contracts: it returns, or throws; at most K new exceptions are made -/
def xPx (E : xE) (px : String → xS → Prop) : String → State → State → Prop := vx_X (fun _ : xS => True) (fun X σ' t => px X σ' ∧ xWd E σ' t) (xA E)
def xXi (l : Launch) (y : MethodName) (ws : List Cond) (rm : Room) (E : xE) (av : List Value) (σ : xS) (K : Nat) (post : Int32 → xS → Prop) (px : String → xS → Prop) : Prop := vx_Met l y ws rm (va_Pc av (fun U => xWd E σ U ∧ xTh E U)) (va_Qi post (xWd E) (xA E)) (xPx E px) K (6 * K) (xA E)
def xXv (l : Launch) (y : MethodName) (ws : List Cond) (rm : Room) (E : xE) (av : List Value) (σ : xS) (K : Nat) (post : xS → Prop) (px : String → xS → Prop) : Prop := vx_Met l y ws rm (va_Pc av (fun U => xWd E σ U ∧ xTh E U)) (va_Qv post (xWd E) (xA E)) (xPx E px) K (6 * K) (xA E)
theorem x_startXi {l : Launch} {y : MethodName} {ws ws' : List Cond} {rm : Room} {E : xE} {av : List Value} {σ : xS} {K : Nat} {post : Int32 → xS → Prop} {px : String → xS → Prop} {cc : ByteArray} {nL : Nat} {ret : Option FieldType} (own : String) (hy : plainName y.cls = true) (ho : y.cls = own) (hw : ws = Cond.code y cc nL ret :: ws') (hlen : (lg_sl av).length ≤ nL)
    (body : ∀ (p : Program) (e : Env) (s : State) (m : MethodId) (args : Array Value) (below : List Frame) (meth : Method) (c : Code) (ls : Array Slot), CallFix p m c cc nL s args ws own → meth.sig.returnType = ret → meth.locks = false → (∀ x ∈ c.exceptionTable.toList, False) → xTh E s → xSt E σ s s.heap s.heap [] → lv_has ls nL (lv_args 0 av) → W p l e rm s m args below meth c s.heap [] 0 0 (vx_MQ below (va_Qi post (xWd E) (xA E)) (xPx E px) args s K (6 * K) (xA E)) (F0 m 0 ls [])) : xXi l y ws rm E av σ K post px := by
  refine vx_ofW (cc := cc) (maxL := nL) (ret := ret) hy hw ?_
  intro p e s m args below meth c s₁ B hml htab hv
  obtain ⟨rfl, hWd, hTh⟩ := hv
  have hl := lv_entry av (n := nL) hlen
  rw [lg_entry_eq]
  exact body p e s m _ below meth c _ ⟨B.exec, B.bytes, hml, ho ▸ findClass_of_methodNamed B.named, atoms_spec (ws := ws) B.pre⟩ B.returns B.notSynchronized htab hTh hWd.st hl
theorem x_startXv {l : Launch} {y : MethodName} {ws ws' : List Cond} {rm : Room} {E : xE} {av : List Value} {σ : xS} {K : Nat} {post : xS → Prop} {px : String → xS → Prop} {cc : ByteArray} {nL : Nat} {ret : Option FieldType} (own : String) (hy : plainName y.cls = true) (ho : y.cls = own) (hw : ws = Cond.code y cc nL ret :: ws') (hlen : (lg_sl av).length ≤ nL)
    (body : ∀ (p : Program) (e : Env) (s : State) (m : MethodId) (args : Array Value) (below : List Frame) (meth : Method) (c : Code) (ls : Array Slot), CallFix p m c cc nL s args ws own → meth.sig.returnType = ret → meth.locks = false → (∀ x ∈ c.exceptionTable.toList, False) → xTh E s → xSt E σ s s.heap s.heap [] → lv_has ls nL (lv_args 0 av) → W p l e rm s m args below meth c s.heap [] 0 0 (vx_MQ below (va_Qv post (xWd E) (xA E)) (xPx E px) args s K (6 * K) (xA E)) (F0 m 0 ls [])) : xXv l y ws rm E av σ K post px := by
  refine vx_ofW (cc := cc) (maxL := nL) (ret := ret) hy hw ?_
  intro p e s m args below meth c s₁ B hml htab hv
  obtain ⟨rfl, hWd, hTh⟩ := hv
  have hl := lv_entry av (n := nL) hlen
  rw [lg_entry_eq]
  exact body p e s m _ below meth c _ ⟨B.exec, B.bytes, hml, ho ▸ findClass_of_methodNamed B.named, atoms_spec (ws := ws) B.pre⟩ B.returns B.notSynchronized htab hTh hWd.st hl
section XTR
variable {p : Program} {l : Launch} {e : Env} {R : Room} {s : State} {m : MethodId} {args : Array Value} {below : List Frame} {meth : Method} {c : Code} {H : Heap} {locs : List Loc} {cells slots : Nat} {Q : State → Prop}
variable {cc : ByteArray} {pc nL : Nat} {ls : Array Slot} {rest st0 : List Value} {E : xE} {σ σ' : xS} {H0 : Heap} {Ts : List Cond} {own : String}
/-- throw new X("text") -/
theorem x_throw {cls text : String} {ik is ic K : Nat} {Qc : Array Value → State → Outcome → State → Prop} {px : String → xS → Prop} (S : CallFix p m c cc nL s args Ts RX3) (hfl : l.stackTraces = false) (hTh : xTh E s) (hW : xSt E σ s s.heap H locs) (htab : ∀ x ∈ c.exceptionTable.toList, False) (hlk : meth.locks = false) (hcls : Bundle.fit cls = true)
    (hk : Cond.classLink RX3 ik cls ∈ Ts) (hini : Cond.initialized cls ∈ Ts) (htx : (is, text) ∈ xTexts) (hat : ∀ w ∈ (vx_atS RX3 ic cls xUp).filter goodWord, w ∈ Ts) (hng : ∀ w ∈ (vx_atS RX3 ic cls xUp).filter (fun w => !goodWord w), w ∈ xBad)
    (hgood : ∀ w ∈ Cond.classLink RX3 ik cls :: Cond.initialized cls :: vx_atS RX3 ic cls xUp, vx_ot w = true) (hsize : ls.size = nL)
    (d0 : decode cc pc = .ok (.new ik, 3)) (d3 : decode cc (pc + 3) = .ok (.dup, 1)) (d4 : decode cc (pc + 4) = .ok (.ldc is, 2)) (d6 : decode cc (pc + 6) = .ok (.invokespecial ic, 3)) (d9 : decode cc (pc + 9) = .ok (.athrow, 1))
    (hR : (5 < R.frames ∧ 82 + (rest.map fun v => v.category).sum ≤ R.locals) ∧ cells + 1 ≤ R.cells ∧ slots + 6 ≤ R.slots) (hc : cells + 1 ≤ K) (hs : slots + 6 ≤ 6 * K) (hp : px cls σ) :
    W p l e R s m args below meth c H locs cells slots (vx_MQ below Qc (xPx E px) args s K (6 * K) (xA E)) (F0 m pc ls rest) := by
  obtain ⟨sa, hstr⟩ := hTh.2.1 _ htx
  have hbad : ∀ w ∈ xBad, w.before args s = true := by
    intro w hw
    refine va_Nw.use ?_ (hTh.2.2 w hw)
    simp only [xBad, List.mem_cons, List.not_mem_nil, or_false] at hw
    rcases hw with rfl | rfl | rfl | rfl | rfl | rfl <;> rfl
  refine vx_throwS (A := xA E) (names := xUp) (sa := sa) (text := text) S.1 S.2.1 hfl S.2.2.2.1 hcls (by decide) (S.2.2.2.2 _ hk) (S.2.2.2.2 _ hini) hstr
    (vx_hat (B := xBad) (fun w hw => S.2.2.2.2 w (hat w hw)) hng hbad) hgood hTh.1.1 hTh.1.2 hW.2.2.2 (hsize.trans S.2.2.1.symm) d0 d3 d4 d6 d9 (fun x hx => (htab x hx).elim) hR.1.1 (by have := hR.1.2; simp only [List.length]; omega) hR.2.1 hR.2.2 hlk ?_ hW.2.2.2.2.2 hc hs
  intro t hal hz hq
  refine ⟨σ, trivial, ⟨hp, ?_, va_K.moved hal hW.2.1, hW.2.2.1⟩, ?_, ?_⟩
  · exact hW.1.kept (fun k q hk => hq q.1 ((hW.1 k q hk).lt))
  · exact Nat.le_trans hW.2.2.2.1 hz
  · intro q h1 h2
    rw [hq q (Nat.lt_of_lt_of_le h1 hW.2.2.2.1)]
    exact hW.2.2.2.2.1 q h1 h2
/-- a call that may throw, in a method without a table: the throw goes on -/
theorem x_XVi {y : MethodName} {bytes : ByteArray} {maxL index b n ci N K K2 : Nat} {ret : Option FieldType} {ws : List Cond} {rm : Room} {C : String} {T : u_T} {As : List Value} {post : Int32 → xS → Prop} {px px2 : String → xS → Prop} {Qc : Array Value → State → Outcome → State → Prop} (S : CallFix p m c cc nL s args Ts own) (hM : xXi l y ws rm E (.ref b :: As) σ K post px) (cw : CallW R s args own C index y bytes maxL ret ws rm K (6 * K) n) (hW : xSt E σ s s.heap H locs) (hTh : xTh E s)
    (htab : ∀ x ∈ c.exceptionTable.toList, False) (hlk : meth.locks = false) (hout : ∀ X σ', px X σ' → px2 X σ') (hc : cells + K ≤ K2) (hs : slots + 6 * K ≤ 6 * K2)
    (q0 : Nat) {fs : List Value} (he : (xW E σ)[q0]? = some (b, .inr (ci, fs))) (hvc : vwCl[ci]? = some (C, T, N)) (hst : st0 = As.reverse ++ .ref b :: rest) (hn : As.length = n) (hl : ls.size = nL) (hrest : (rest.map fun v => v.category).sum ≤ 8) (hdg : decode cc pc = .ok (.invokevirtual index, 3)) (hf : cells + K ≤ R.cells ∧ slots + 6 * K ≤ R.slots)
    (kk : ∀ (r : Int32) (σ' : xS) (H1 : Heap) (locs1 : List Loc), post r σ' → xSt E σ' s s.heap H1 locs1 → W p l e R s m args below meth c H1 locs1 (cells + K) (slots + 6 * K) (vx_MQ below Qc (xPx E px2) args s K2 (6 * K2) (xA E)) (F0 m (pc + 3) ls (.int r :: rest))) : W p l e R s m args below meth c H locs cells slots (vx_MQ below Qc (xPx E px2) args s K2 (6 * K2) (xA E)) (F0 m pc ls st0) := by
  refine vx_calli (vx_runV (As := As) (rest := rest) S hM cw ⟨fun a U g mk q => ⟨q.1, q.2.1.blind a g mk, q.2.2.blind a g mk⟩, va_recv hW.2.1 hW.1 hvc he, fun U hU hWm => ⟨rfl, hW.wd hU hWm.alike, hTh.kept hW.2.2.2 hU hWm⟩⟩ rfl hn hl hst (lv_room hrest) hdg hf) hW.2.2.2 (fun _ _ h => h) (fun _ h => h) (fun _ _ h => h) (fun X ce q9 u t H1 locs1 ht hvm hpx hB hz1 hk1 hS hce hcv hcl => ?_) (fun r u t H1 locs1 ht hvm hp hB hz1 hk1 hS => ?_)
  · refine vx_out (fun x hx => (htab x hx).elim) hlk hce hcv hcl (fun t2 ht2 hal => ?_) hS.2.2 hc hs
    exact ⟨u, trivial, ⟨hout _ _ hB.1, by rw [ht2, ← ht]; exact hB.2.1, va_K.moved hal (va_K.moved hvm.symm hB.2.2.1), hB.2.2.2⟩, hS.F ht2⟩
  · exact kk r u H1 locs1 hp ⟨by rw [← ht]; exact hB.1, va_K.moved hvm.symm hB.2.1, hB.2.2, hS⟩
theorem x_XVv {y : MethodName} {bytes : ByteArray} {maxL index b n ci N K K2 : Nat} {ret : Option FieldType} {ws : List Cond} {rm : Room} {C : String} {T : u_T} {As : List Value} {post : xS → Prop} {px px2 : String → xS → Prop} {Qc : Array Value → State → Outcome → State → Prop} (S : CallFix p m c cc nL s args Ts own) (hM : xXv l y ws rm E (.ref b :: As) σ K post px) (cw : CallW R s args own C index y bytes maxL ret ws rm K (6 * K) n) (hW : xSt E σ s s.heap H locs) (hTh : xTh E s)
    (htab : ∀ x ∈ c.exceptionTable.toList, False) (hlk : meth.locks = false) (hout : ∀ X σ', px X σ' → px2 X σ') (hc : cells + K ≤ K2) (hs : slots + 6 * K ≤ 6 * K2)
    (q0 : Nat) {fs : List Value} (he : (xW E σ)[q0]? = some (b, .inr (ci, fs))) (hvc : vwCl[ci]? = some (C, T, N)) (hst : st0 = As.reverse ++ .ref b :: rest) (hn : As.length = n) (hl : ls.size = nL) (hrest : (rest.map fun v => v.category).sum ≤ 8) (hdg : decode cc pc = .ok (.invokevirtual index, 3)) (hf : cells + K ≤ R.cells ∧ slots + 6 * K ≤ R.slots)
    (kk : ∀ (σ' : xS) (H1 : Heap) (locs1 : List Loc), post σ' → xSt E σ' s s.heap H1 locs1 → W p l e R s m args below meth c H1 locs1 (cells + K) (slots + 6 * K) (vx_MQ below Qc (xPx E px2) args s K2 (6 * K2) (xA E)) (F0 m (pc + 3) ls rest)) : W p l e R s m args below meth c H locs cells slots (vx_MQ below Qc (xPx E px2) args s K2 (6 * K2) (xA E)) (F0 m pc ls st0) := by
  refine vx_callv (vx_runV (As := As) (rest := rest) S hM cw ⟨fun a U g mk q => ⟨q.1, q.2.1.blind a g mk, q.2.2.blind a g mk⟩, va_recv hW.2.1 hW.1 hvc he, fun U hU hWm => ⟨rfl, hW.wd hU hWm.alike, hTh.kept hW.2.2.2 hU hWm⟩⟩ rfl hn hl hst (lv_room hrest) hdg hf) hW.2.2.2 (fun _ _ h => h) (fun _ h => h) (fun _ _ h => h) (fun X ce q9 u t H1 locs1 ht hvm hpx hB hz1 hk1 hS hce hcv hcl => ?_) (fun u t H1 locs1 ht hvm hp hB hz1 hk1 hS => ?_)
  · refine vx_out (fun x hx => (htab x hx).elim) hlk hce hcv hcl (fun t2 ht2 hal => ?_) hS.2.2 hc hs
    exact ⟨u, trivial, ⟨hout _ _ hB.1, by rw [ht2, ← ht]; exact hB.2.1, va_K.moved hal (va_K.moved hvm.symm hB.2.2.1), hB.2.2.2⟩, hS.F ht2⟩
  · exact kk u H1 locs1 hp ⟨by rw [← ht]; exact hB.1, va_K.moved hvm.symm hB.2.1, hB.2.2, hS⟩
/-- ends of a method that may throw -/
theorem x_Xreti {v : Int32} {K : Nat} {post : Int32 → xS → Prop} {px : String → xS → Prop} (S : CallFix p m c cc nL s args Ts own) (hr : meth.sig.returnType = some .int) (hlk : meth.locks = false) (hW : xSt E σ s s.heap H locs) (hc : cells ≤ K) (hs : slots ≤ 6 * K) (hdg : decode cc pc = .ok (.ireturn, 1)) (hp : post v σ) : W p l e R s m args below meth c H locs cells slots (vx_MQ below (va_Qi post (xWd E) (xA E)) (xPx E px) args s K (6 * K) (xA E)) (F0 m pc ls [.int v]) :=
  W.widen hc hs (vx_ret (x_reti S hr hlk hW hdg hp))
theorem x_Xretz {v : Int32} {K : Nat} {post : Int32 → xS → Prop} {px : String → xS → Prop} (S : CallFix p m c cc nL s args Ts own) (hr : meth.sig.returnType = some .boolean) (hlk : meth.locks = false) (hW : xSt E σ s s.heap H locs) (hc : cells ≤ K) (hs : slots ≤ 6 * K) (hdg : decode cc pc = .ok (.ireturn, 1)) (hz : v = 0 ∨ v = 1) (hp : post v σ) : W p l e R s m args below meth c H locs cells slots (vx_MQ below (va_Qi post (xWd E) (xA E)) (xPx E px) args s K (6 * K) (xA E)) (F0 m pc ls [.int v]) :=
  W.widen hc hs (vx_ret (x_retz S hr hlk hW hdg hz hp))
theorem x_Xretv {K : Nat} {post : xS → Prop} {px : String → xS → Prop} (S : CallFix p m c cc nL s args Ts own) (hr : meth.sig.returnType = none) (hlk : meth.locks = false) (hW : xSt E σ s s.heap H locs) (hc : cells ≤ K) (hs : slots ≤ 6 * K) (hdg : decode cc pc = .ok (.return_, 1)) (hp : post σ) : W p l e R s m args below meth c H locs cells slots (vx_MQ below (va_Qv post (xWd E) (xA E)) (xPx E px) args s K (6 * K) (xA E)) (F0 m pc ls []) :=
  W.widen hc hs (vx_ret (x_retv S hr hlk hW hdg hp))
end XTR
/-- the words of a throw: only 'castable' is no good one -/
theorem xng_IO : ∀ w ∈ (vx_atS RX3 137 xIO xUp).filter (fun w => !goodWord w), w ∈ xBad := by decide +kernel
theorem xng_IA : ∀ w ∈ (vx_atS RX3 91 xIA xUp).filter (fun w => !goodWord w), w ∈ xBad := by decide +kernel
theorem xng_IS : ∀ w ∈ (vx_atS RX3 98 xIS xUp).filter (fun w => !goodWord w), w ∈ xBad := by decide +kernel
theorem xgd_IO : ∀ w ∈ Cond.classLink RX3 133 xIO :: Cond.initialized xIO :: vx_atS RX3 137 xIO xUp, vx_ot w = true := by decide +kernel
theorem xgd_IA : ∀ w ∈ Cond.classLink RX3 87 xIA :: Cond.initialized xIA :: vx_atS RX3 91 xIA xUp, vx_ot w = true := by decide +kernel
theorem xgd_IS : ∀ w ∈ Cond.classLink RX3 94 xIS :: Cond.initialized xIS :: vx_atS RX3 98 xIS xUp, vx_ot w = true := by decide +kernel
