/-! a book by what it holds, and two of them: the law's methods over them -/
theorem xTh.e {E E' : xE} {U : State} (h : E.2.2.1 = E'.2.2.1) (hT : xTh E U) : xTh E' U := by
  have e : xA E = xA E' := by unfold xA; rw [h]
  unfold xTh at hT ⊢
  rw [← e]
  exact hT
def xNc (U : State) : Prop := va_Nc xIA xIO U ∧ va_Nc xIS xIO U ∧ va_Nc xIS xIA U
theorem xNc.moved {u U : State} (hvm : u.vm.Alike U.vm) (h : xNc u) : xNc U := ⟨h.1.moved hvm, h.2.1.moved hvm, h.2.2.moved hvm⟩
def xo0 : Nat → Int64 := fun _ => 0
def bWd (E : xE) (Γ : xG) (U : State) : Prop := ∃ (n : Nat → Int32) (f : Nat → Nat → Int32), xRepC Γ n f ∧ xWd E (n, f, xo0) U
def bSt (E : xE) (Γ : xG) (s : State) (H0 H : Heap) (locs : List Loc) : Prop := ∃ (n : Nat → Int32) (f : Nat → Nat → Int32), xRepC Γ n f ∧ xSt E (n, f, xo0) s H0 H locs
theorem bWd.blind {E : xE} {Γ : xG} {U : State} (h : bWd E Γ U) (a : Array Value) (g : JFrame) (mk : MethodId) : bWd E Γ (U.calling g mk a) := by
  obtain ⟨n, f, h1, h2⟩ := h
  exact ⟨n, f, h1, h2.blind a g mk⟩
theorem bSt.wd {E : xE} {Γ : xG} {s U : State} {H0 H : Heap} {locs : List Loc} (h : bSt E Γ s H0 H locs) (hU : U.heap = H) (hvm : s.vm.Alike U.vm) : bWd E Γ U := by
  obtain ⟨n, f, h1, h2⟩ := h
  exact ⟨n, f, h1, h2.wd hU hvm⟩
theorem bWd.st {E : xE} {Γ : xG} {s : State} (h : bWd E Γ s) : bSt E Γ s s.heap s.heap [] := by
  obtain ⟨n, f, h1, h2⟩ := h
  exact ⟨n, f, h1, h2.st⟩
theorem bSt.S {E : xE} {Γ : xG} {s : State} {H0 H : Heap} {locs : List Loc} (h : bSt E Γ s H0 H locs) : va_S (xA E) H0 H locs := by
  obtain ⟨n, f, h1, h2⟩ := h
  exact h2.2.2.2
/-- behind a call: the world that came back -/
theorem bSt.of {E : xE} {Γ : xG} {s u t : State} {H0 H1 : Heap} {locs1 : List Loc} (ht : t.heap = H1) (hvm : s.vm.Alike t.vm) (hB : bWd E Γ t) (hS : va_S (xA E) H0 H1 locs1) : bSt E Γ s H0 H1 locs1 := by
  obtain ⟨n, f, h1, h2⟩ := hB
  exact ⟨n, f, h1, by rw [← ht]; exact h2.1, va_K.moved hvm.symm h2.2.1, h2.2.2, hS⟩
def gPx (E : xE) : String → State → State → Prop := vx_X (fun _ : xG => True) (fun _ _ _ => False) (xA E)
/-- a method of the law over one book: it answers, makes at most K cells -/
def gL (l : Launch) (y : MethodName) (ws : List Cond) (rm : Room) (E : xE) (av : List Value) (Γ : xG) (K : Nat) (post : Int32 → xG → Prop) : Prop := vx_Met l y ws rm (va_Pc av (fun U => bWd E Γ U ∧ xTh E U ∧ xNc U)) (va_Qi post (bWd E) (xA E)) (gPx E) K (6 * K) (xA E)
theorem g_startX {l : Launch} {y : MethodName} {ws ws' : List Cond} {rm : Room} {E : xE} {av : List Value} {Γ : xG} {K : Nat} {post : Int32 → xG → Prop} {cc : ByteArray} {nL : Nat} {ret : Option FieldType} {hh : List (Nat × Nat × Nat × Nat)} (own : String) (hy : plainName y.cls = true) (ho : y.cls = own) (hw : ws = Cond.codeWith y cc nL ret hh :: ws') (hlen : (lg_sl av).length ≤ nL)
    (body : ∀ (p : Program) (e : Env) (s : State) (m : MethodId) (args : Array Value) (below : List Frame) (meth : Method) (c : Code) (ls : Array Slot), CallFix p m c cc nL s args ws own → meth.sig.returnType = ret → meth.locks = false → c.exceptionTable.toList = tableOf hh → xTh E s → xNc s → bSt E Γ s s.heap s.heap [] → lv_has ls nL (lv_args 0 av) → W p l e rm s m args below meth c s.heap [] 0 0 (vx_MQ below (va_Qi post (bWd E) (xA E)) (gPx E) args s K (6 * K) (xA E)) (F0 m 0 ls [])) : gL l y ws rm E av Γ K post := by
  refine vx_ofWH (cc := cc) (maxL := nL) (ret := ret) (hh := hh) hy hw ?_
  intro p e s m args below meth c s₁ B hml hv
  obtain ⟨rfl, hWd, hTh, hNc⟩ := hv
  have hl := lv_entry av (n := nL) hlen
  rw [lg_entry_eq]
  have hA := atoms_spec (ws := ws) B.pre
  exact body p e s m _ below meth c _ ⟨B.exec, B.bytes, hml, ho ▸ findClass_of_methodNamed B.named, hA⟩ B.returns B.notSynchronized (vx_table (x := y) B (hA _ (by rw [hw]; exact List.mem_cons_self))) hTh hNc hWd.st hl
theorem g_start {l : Launch} {y : MethodName} {ws ws' : List Cond} {rm : Room} {E : xE} {av : List Value} {Γ : xG} {K : Nat} {post : Int32 → xG → Prop} {cc : ByteArray} {nL : Nat} {ret : Option FieldType} (own : String) (hy : plainName y.cls = true) (ho : y.cls = own) (hw : ws = Cond.code y cc nL ret :: ws') (hlen : (lg_sl av).length ≤ nL)
    (body : ∀ (p : Program) (e : Env) (s : State) (m : MethodId) (args : Array Value) (below : List Frame) (meth : Method) (c : Code) (ls : Array Slot), CallFix p m c cc nL s args ws own → meth.sig.returnType = ret → meth.locks = false → xTh E s → xNc s → bSt E Γ s s.heap s.heap [] → lv_has ls nL (lv_args 0 av) → W p l e rm s m args below meth c s.heap [] 0 0 (vx_MQ below (va_Qi post (bWd E) (xA E)) (gPx E) args s K (6 * K) (xA E)) (F0 m 0 ls [])) : gL l y ws rm E av Γ K post := by
  refine vx_ofW (cc := cc) (maxL := nL) (ret := ret) hy hw ?_
  intro p e s m args below meth c s₁ B hml htab hv
  obtain ⟨rfl, hWd, hTh, hNc⟩ := hv
  have hl := lv_entry av (n := nL) hlen
  rw [lg_entry_eq]
  exact body p e s m _ below meth c _ ⟨B.exec, B.bytes, hml, ho ▸ findClass_of_methodNamed B.named, atoms_spec (ws := ws) B.pre⟩ B.returns B.notSynchronized hTh hNc hWd.st hl
