/-! two books -/
abbrev xF : Type := va_G × (ClassId × ClassId) × Nat × (Nat → Nat) × (Nat → Nat)
def eB (X : xF) (a : Nat → Nat) : xE := (X.1, (X.2.1.1, X.2.1.2, []), X.2.2.1, a)
def eO (X : xF) (n : Nat → Int32) (f : Nat → Nat → Int32) : xE := (X.1, (X.2.1.1, X.2.1.2, xW (eB X X.2.2.2.2) (n, f, xo0)), X.2.2.1, X.2.2.2.1)
def sw (X : xF) : xF := (X.1, X.2.1, X.2.2.1, X.2.2.2.2, X.2.2.2.1)
def xAF (X : xF) : Nat → Prop := fun q => X.2.2.1 ≤ q
theorem xW_app (X : xF) (n : Nat → Int32) (f : Nat → Nat → Int32) (σ : xS) : xW (eO X n f) σ = xW (eB X X.2.2.2.1) σ ++ xW (eB X X.2.2.2.2) (n, f, xo0) := rfl
theorem gsw {X : xF} {n1 n2 : Nat → Int32} {f1 f2 : Nat → Nat → Int32} {s : State} {H0 H : Heap} {locs : List Loc} (h : xSt (eO X n2 f2) (n1, f1, xo0) s H0 H locs) : xSt (eO (sw X) n1 f1) (n2, f2, xo0) s H0 H locs := by
  obtain ⟨h1, h2, h3, h4⟩ := h
  rw [xW_app] at h1 h3
  refine ⟨?_, h2, ?_, h4⟩
  · rw [xW_app]
    exact va_P.swap (a := []) (b := xW (eB X X.2.2.2.1) (n1, f1, xo0)) (c := xW (eB X X.2.2.2.2) (n2, f2, xo0)) h1
  · rw [xW_app]
    exact va_D.swap (a := []) (b := xW (eB X X.2.2.2.1) (n1, f1, xo0)) (c := xW (eB X X.2.2.2.2) (n2, f2, xo0)) h3
def pWd (X : xF) (u : xG × xG) (U : State) : Prop := ∃ (n : Nat → Int32) (f : Nat → Nat → Int32), xRepC u.2 n f ∧ bWd (eO X n f) u.1 U
def pSt (X : xF) (Γ1 Γ2 : xG) (s : State) (H0 H : Heap) (locs : List Loc) : Prop := ∃ (n : Nat → Int32) (f : Nat → Nat → Int32), xRepC Γ2 n f ∧ bSt (eO X n f) Γ1 s H0 H locs
theorem pSt.sw {X : xF} {Γ1 Γ2 : xG} {s : State} {H0 H : Heap} {locs : List Loc} (h : pSt X Γ1 Γ2 s H0 H locs) : pSt (sw X) Γ2 Γ1 s H0 H locs := by
  obtain ⟨n2, f2, h2, n1, f1, h1, h⟩ := h
  exact ⟨n1, f1, h1, n2, f2, h2, gsw h⟩
theorem pWd.blind {X : xF} {u : xG × xG} {U : State} (h : pWd X u U) (a : Array Value) (g : JFrame) (mk : MethodId) : pWd X u (U.calling g mk a) := by
  obtain ⟨n, f, h1, h2⟩ := h
  exact ⟨n, f, h1, h2.blind a g mk⟩
theorem pSt.wd {X : xF} {Γ1 Γ2 : xG} {s U : State} {H0 H : Heap} {locs : List Loc} (h : pSt X Γ1 Γ2 s H0 H locs) (hU : U.heap = H) (hvm : s.vm.Alike U.vm) : pWd X (Γ1, Γ2) U := by
  obtain ⟨n, f, h1, h2⟩ := h
  exact ⟨n, f, h1, h2.wd hU hvm⟩
theorem pWd.st {X : xF} {u : xG × xG} {s : State} (h : pWd X u s) : pSt X u.1 u.2 s s.heap s.heap [] := by
  obtain ⟨n, f, h1, h2⟩ := h
  exact ⟨n, f, h1, h2.st⟩
theorem pSt.S {X : xF} {Γ1 Γ2 : xG} {s : State} {H0 H : Heap} {locs : List Loc} (h : pSt X Γ1 Γ2 s H0 H locs) : va_S (xAF X) H0 H locs := by
  obtain ⟨n, f, h1, h2⟩ := h
  exact h2.S
theorem pSt.of {X : xF} {u : xG × xG} {s t : State} {H0 H1 : Heap} {locs1 : List Loc} (ht : t.heap = H1) (hvm : s.vm.Alike t.vm) (hB : pWd X u t) (hS : va_S (xAF X) H0 H1 locs1) : pSt X u.1 u.2 s H0 H1 locs1 := by
  obtain ⟨n, f, h1, h2⟩ := hB
  exact ⟨n, f, h1, bSt.of (u := t) ht hvm h2 hS⟩
def xThF (X : xF) (U : State) : Prop := xTh (eB X X.2.2.2.1) U
theorem xThF.o {X : xF} {U : State} (h : xThF X U) (n : Nat → Int32) (f : Nat → Nat → Int32) : xTh (eO X n f) U := xTh.e rfl h
theorem xThF.sw {X : xF} {U : State} (h : xThF X U) : xThF (sw X) U := xTh.e rfl h
theorem xThF.blind {X : xF} {U : State} (h : xThF X U) (a : Array Value) (g : JFrame) (mk : MethodId) : xThF X (U.calling g mk a) := xTh.blind h a g mk
theorem xThF.kept {X : xF} {s U : State} {H : Heap} {locs : List Loc} (h : xThF X s) (hS : va_S (xAF X) s.heap H locs) (hU : U.heap = H) (hW : s.WarmedH U.vm) : xThF X U := xTh.kept (E := eB X X.2.2.2.1) h hS hU hW
def pPx (X : xF) : String → State → State → Prop := vx_X (fun _ : xG × xG => True) (fun _ _ _ => False) (xAF X)
/-- a method of the law over two books -/
def pL (l : Launch) (y : MethodName) (ws : List Cond) (rm : Room) (X : xF) (av : List Value) (Γ1 Γ2 : xG) (K : Nat) (post : Int32 → xG × xG → Prop) : Prop := vx_Met l y ws rm (va_Pc av (fun U => pWd X (Γ1, Γ2) U ∧ xThF X U ∧ xNc U)) (va_Qi post (pWd X) (xAF X)) (pPx X) K (6 * K) (xAF X)
theorem p_start {l : Launch} {y : MethodName} {ws ws' : List Cond} {rm : Room} {X : xF} {av : List Value} {Γ1 Γ2 : xG} {K : Nat} {post : Int32 → xG × xG → Prop} {cc : ByteArray} {nL : Nat} {ret : Option FieldType} (own : String) (hy : plainName y.cls = true) (ho : y.cls = own) (hw : ws = Cond.code y cc nL ret :: ws') (hlen : (lg_sl av).length ≤ nL)
    (body : ∀ (p : Program) (e : Env) (s : State) (m : MethodId) (args : Array Value) (below : List Frame) (meth : Method) (c : Code) (ls : Array Slot), CallFix p m c cc nL s args ws own → meth.sig.returnType = ret → meth.locks = false → xThF X s → xNc s → pSt X Γ1 Γ2 s s.heap s.heap [] → lv_has ls nL (lv_args 0 av) → W p l e rm s m args below meth c s.heap [] 0 0 (vx_MQ below (va_Qi post (pWd X) (xAF X)) (pPx X) args s K (6 * K) (xAF X)) (F0 m 0 ls [])) : pL l y ws rm X av Γ1 Γ2 K post := by
  refine vx_ofW (cc := cc) (maxL := nL) (ret := ret) hy hw ?_
  intro p e s m args below meth c s₁ B hml htab hv
  obtain ⟨rfl, hWd, hTh, hNc⟩ := hv
  have hl := lv_entry av (n := nL) hlen
  rw [lg_entry_eq]
  exact body p e s m _ below meth c _ ⟨B.exec, B.bytes, hml, ho ▸ findClass_of_methodNamed B.named, atoms_spec (ws := ws) B.pre⟩ B.returns B.notSynchronized hTh hNc hWd.st hl
