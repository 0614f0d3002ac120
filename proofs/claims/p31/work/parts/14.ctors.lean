/-! constructors: worlds that grow -/
theorem x_mem1 {q z sz : Nat} {e0 : va_E} : va_A [(q, e0)] sz z ↔ (z = q ∨ sz ≤ z) := by
  constructor
  · rintro (⟨k, e, h⟩ | h)
    · cases k with
      | zero => cases h; exact Or.inl rfl
      | succ k => simp at h
    · exact Or.inr h
  · rintro (rfl | h)
    · exact Or.inl ⟨0, e0, rfl⟩
    · exact Or.inr h
theorem x_joinN {D : va_G} {cl : List vw_C} {A : Nat → Prop} {ws w1 : va_W} {q : Nat} {e0 : va_E} {H H1 : Heap} (hP : va_P D cl (ws ++ [(q, e0)]) H) (hD : va_D A (ws ++ [(q, e0)])) (hA : ∀ z, H.size ≤ z → A z) (hk : ∀ z : Nat, z < H.size → ¬ va_A [(q, e0)] H.size z → H1[z]? = H[z]?) (hP1 : va_P D cl w1 H1) (hD1 : va_D (va_A [(q, e0)] H.size) w1) : va_P D cl (ws ++ w1) H1 ∧ va_D A (ws ++ w1) := by
  have hq : (ws ++ [(q, e0)])[ws.length]? = some (q, e0) := by simp
  have hw : ∀ (k : Nat) (x : Nat × va_E), ws[k]? = some x → (ws ++ [(q, e0)])[k]? = some x ∧ x.1 < H.size ∧ x.1 ≠ q := by
    intro k x hx
    have hlt : k < ws.length := (List.getElem?_eq_some_iff.mp hx).1
    have h1 : (ws ++ [(q, e0)])[k]? = some x := by rw [List.getElem?_append_left hlt]; exact hx
    refine ⟨h1, (hP k x h1).lt, fun e => ?_⟩
    have := hD.1 k ws.length x (q, e0) h1 hq e
    omega
  refine ⟨va_P.app (fun k x hx => ?_) hP1, va_D.app ⟨fun i j a b ha hb e => ?_, fun k x hx => ?_⟩ ⟨hD1.1, fun k x hx => ?_⟩ (fun i j a b ha hb e => ?_)⟩
  · obtain ⟨h1, h2, h3⟩ := hw k x hx
    refine (hP k x h1).kept (hk _ h2 (fun z => ?_))
    rcases x_mem1.mp z with z | z
    · exact h3 z
    · omega
  · exact hD.1 i j a b (hw i a ha).1 (hw j b hb).1 e
  · exact hD.2 k x (hw k x hx).1
  · rcases x_mem1.mp (hD1.2 k x hx) with z | z
    · rw [z]; exact hD.2 _ _ hq
    · exact hA _ z
  · obtain ⟨h1, h2, h3⟩ := hw i a ha
    rcases x_mem1.mp (hD1.2 j b hb) with z | z
    · exact h3 (e.trans z)
    · omega
def xTy (cI cZ : ClassId) : List (ClassId × FieldType) := [(cI, .int), (cZ, .boolean)]
/-- a constructor's contract: its own cell, and what it makes -/
def xNw (l : Launch) (y : MethodName) (ws : List Cond) (rm : Room) (D : va_G) (cI cZ : ClassId) (h0 : Nat) (As : List Value) (e0 : va_E) (X : State → Prop) (mc ms : Nat) (post : va_W → Prop) : Prop := ∀ sz : Nat, Met l y ws rm (va_Pc (.ref h0 :: As) (fun U => (U.heap.size = sz ∧ X U) ∧ va_P D vwCl [(h0, e0)] U.heap ∧ va_K D vwCl (xTy cI cZ) U ∧ va_D (fun _ => True) [(h0, e0)])) (va_Qv post (fun w1 t => va_P D vwCl w1 t.heap ∧ va_D (va_A [(h0, e0)] sz) w1) (va_A [(h0, e0)] sz)) mc ms (va_A [(h0, e0)] sz)
theorem xNw.start {l : Launch} {y : MethodName} {ws ws' : List Cond} {rm : Room} {D : va_G} {cI cZ : ClassId} {h0 : Nat} {As : List Value} {e0 : va_E} {X : State → Prop} {mc ms : Nat} {post : va_W → Prop} {cc : ByteArray} {nL : Nat} (own : String) (hy : plainName y.cls = true) (ho : y.cls = own) (hin : y.name = "<init>") (hw : ws = Cond.code y cc nL none :: ws') (hlen : (lg_sl (.ref h0 :: As)).length ≤ nL)
    (body : ∀ (p : Program) (e : Env) (s : State) (m : MethodId) (args : Array Value) (below : List Frame) (meth : Method) (c : Code) (ls : Array Slot) (A : Nat → Prop), CallFix p m c cc nL s args ws own → meth.sig.returnType = none → meth.locks = false → meth.name = "<init>" → X s → va_K D vwCl (xTy cI cZ) s → va_P D vwCl [(h0, e0)] s.heap → va_D A [(h0, e0)] → (∀ q : Nat, s.heap.size ≤ q → A q) → va_S A s.heap s.heap [] → A = va_A [(h0, e0)] s.heap.size → lv_has ls nL (lv_args 0 (.ref h0 :: As)) → W p l e rm s m args below meth c s.heap [] 0 0 (MQ below (va_Qv post (fun w1 t => va_P D vwCl w1 t.heap ∧ va_D A w1) A) args s mc ms A) (F0 m 0 ls [])) : xNw l y ws rm D cI cZ h0 As e0 X mc ms post := by
  intro sz
  refine Met.ofW (cc := cc) (maxL := nL) (ret := none) hy hw ?_
  intro p e s m args below meth c s₁ B hml hv
  obtain ⟨rfl, ⟨rfl, hX⟩, hP, hK, hD0⟩ := hv
  have hl := lv_entry (.ref h0 :: As) (n := nL) hlen
  rw [lg_entry_eq]
  exact body p e s m _ below meth c _ _ ⟨B.exec, B.bytes, hml, ho ▸ findClass_of_methodNamed B.named, atoms_spec (ws := ws) B.pre⟩ B.returns B.notSynchronized ((name_of_methodNamed B.named B.method).1.trans hin) hX hK hP hD0.self (fun q h => Or.inr h) va_S.rf rfl hl
section XCT
variable {p : Program} {l : Launch} {e : Env} {R : Room} {s : State} {m : MethodId} {args : Array Value} {below : List Frame} {meth : Method} {c : Code} {H : Heap} {locs : List Loc} {cells slots : Nat} {Q : State → Prop}
variable {cc : ByteArray} {pc nL : Nat} {ls : Array Slot} {rest st0 : List Value} {Ts : List Cond} {own : String} {D : va_G} {cI cZ : ClassId} {A : Nat → Prop} {ws : va_W}
theorem x_obj {index : Nat} {a : Nat} (S : CallFix p m c cc nL s args Ts own) (w1 : Cond.methodLink own index objectInit ∈ Ts) (w2 : Cond.instanceMethod objectInit ∈ Ts) (w3 : Cond.code objectInit ⟨#[0xb1]⟩ 1 none ∈ Ts) (hls : ls.size = nL) (hdg : decode cc pc = .ok (.invokespecial index, 3)) (hR : 1 ≤ R.frames ∧ (rest.map fun v => v.category).sum + 12 ≤ R.locals)
    (kk : W p l e R s m args below meth c H locs cells slots Q (F0 m (pc + 3) ls rest)) : W p l e R s m args below meth c H locs cells slots Q (F0 m pc ls (.ref a :: rest)) :=
  W.objInit S.1 S.2.1 S.2.2.2.1 (S.2.2.2.2 _ w1) (S.2.2.2.2 _ w2) (S.2.2.2.2 _ w3) rfl (hls.trans S.2.2.1.symm) rfl hdg hR.1 (by show 2 * 0 + _ + 12 ≤ _; have := hR.2; omega) kk
theorem x_max {index : Nat} (S : CallFix p m c cc nL s args Ts own) {x y : Int32} (hdg : decode cc pc = .ok (.invokestatic index, 3)) (wl : Cond.methodLink own index Lib.Math.max.name ∈ Ts) (ws : Cond.static Lib.Math.max.name ∈ Ts) (wi : Cond.initialized "java/lang/Math" ∈ Ts) (wc : Cond.code Lib.Math.max.name Lib.Math.max.code 2 (some .int) ∈ Ts) (hls : ls.size = nL) (hf : (1 ≤ R.frames ∧ (rest.map fun v => v.category).sum + 13 ≤ R.locals) ∧ cells ≤ R.cells ∧ slots ≤ R.slots)
    (kk : W p l e R s m args below meth c H locs cells slots Q (F0 m (pc + 3) ls (.int (if x < y then y else x) :: rest))) : W p l e R s m args below meth c H locs cells slots Q (F0 m pc ls (.int y :: .int x :: rest)) :=
  va_mmax S.1 S.2.1 (S.2.2.1.trans hls.symm) S.2.2.2.1 (S.2.2.2.2 _ wl) (S.2.2.2.2 _ ws) (S.2.2.2.2 _ wi) (S.2.2.2.2 _ wc) hf.1.1 hf.1.2 hf.2.1 hf.2.2 hdg kk
theorem x_new {C : String} {T : u_T} {N ci index : Nat} (S : CallFix p m c cc nL s args Ts own) (hin : ∀ w ∈ u_ws C T N, w ∈ Ts) (ty : Nat → FieldType) (hty : ∀ k, k < N → parseFieldDescriptor (T k).2.2.1 = some (ty k)) (w1 : Cond.classLink own index C ∈ Ts) (w2 : Cond.instantiable C N ∈ Ts) (w3 : Cond.initialized C ∈ Ts)
    (hK : va_K D vwCl (xTy cI cZ) s) (hP : va_P D vwCl ws H) (hD : va_D A ws) (hS : va_S A s.heap H locs) (hA : ∀ q, s.heap.size ≤ q → A q) (hc : vwCl[ci]? = some (C, T, N)) {fs : List Value} (hfs : ∀ j, j < N → defaultValue (ty j) = vp_V fs j) (hf : cells + 1 ≤ R.cells ∧ slots + N ≤ R.slots) (hdg : decode cc pc = .ok (.new index, 3))
    (kk : ∀ (q : Nat) (H1 : Heap), va_P D vwCl (ws ++ [(q, .inr (ci, fs))]) H1 → va_D A (ws ++ [(q, .inr (ci, fs))]) → va_S A s.heap H1 locs → W p l e R s m args below meth c H1 locs (cells + 1) (slots + N) Q (F0 m (pc + 3) ls (.ref q :: rest))) : W p l e R s m args below meth c H locs cells slots Q (F0 m pc ls rest) :=
  va_new S.1 S.2.1 S.2.2.2.2 hin ty hty S.2.2.2.1 (S.2.2.2.2 _ w1) (S.2.2.2.2 _ w2) (S.2.2.2.2 _ w3) hK hP hD hS hA hc hfs hf.1 hf.2 hdg kk
theorem x_cA {tys : List (ClassId × FieldType)} {cA cB : ClassId} {ty : FieldType} {t0 : Nat} (hK : va_K D vwCl (tys ++ [(cA, ty)]) s) (ht : tys[t0]? = some (cB, ty)) (hty : ∀ C, ty ≠ .object C) : cA = cB := by
  have hlt : t0 < tys.length := (List.getElem?_eq_some_iff.mp ht).1
  have h1 := (hK.2 tys.length (cA, ty) (by simp)).2
  have h2 := (hK.2 t0 (cB, ty) (by rw [List.getElem?_append_left hlt]; exact ht)).2
  cases ty with
  | object C => exact absurd rfl (hty C)
  | _ => exact Option.some.inj (h1.symm.trans h2)
theorem x_newI {n : Int32} {N : Nat} (S : CallFix p m c cc nL s args Ts own) (warr : Cond.arrayClass .int ∈ Ts) (hK : va_K D vwCl (xTy cI cZ) s) (hP : va_P D vwCl ws H) (hD : va_D A ws) (hS : va_S A s.heap H locs) (hA : ∀ q, s.heap.size ≤ q → A q) (hn : n = nI N) (hN : N < 1000) (hf : cells + 1 ≤ R.cells ∧ slots + N ≤ R.slots) (hdg : decode cc pc = .ok (.newarray .int, 2))
    (kk : ∀ (q : Nat) (H1 : Heap), va_P D vwCl (ws ++ [(q, .inl (cI, N, .inl (fun _ => 0)))]) H1 → va_D A (ws ++ [(q, .inl (cI, N, .inl (fun _ => 0)))]) → va_S A s.heap H1 locs → W p l e R s m args below meth c H1 locs (cells + 1) (slots + N) Q (F0 m (pc + 2) ls (.ref q :: rest))) : W p l e R s m args below meth c H locs cells slots Q (F0 m pc ls (.int n :: rest)) := by
  subst hn
  refine va_newa (atype := .int) (ty := .int) (a0 := (N, .inl (fun _ => 0))) S.1 S.2.1 (S.2.2.2.2 _ warr) rfl hK hP hD hS hA (fun _ => rfl) (nI_pos (by omega)) (nI_clamp (by omega)) (by show N * 4 ≤ _; omega) hf.1 hf.2 hdg (fun q cA H1 hK1 hP1 hD1 hS1 => ?_)
  have : cA = cI := x_cA (t0 := 0) hK1 rfl (fun C h => by cases h)
  subst this
  exact kk q H1 hP1 hD1 hS1
theorem x_newZ {n : Int32} {N : Nat} (S : CallFix p m c cc nL s args Ts own) (warr : Cond.arrayClass .boolean ∈ Ts) (hK : va_K D vwCl (xTy cI cZ) s) (hP : va_P D vwCl ws H) (hD : va_D A ws) (hS : va_S A s.heap H locs) (hA : ∀ q, s.heap.size ≤ q → A q) (hn : n = nI N) (hN : N < 1000) (hf : cells + 1 ≤ R.cells ∧ slots + N ≤ R.slots) (hdg : decode cc pc = .ok (.newarray .boolean, 2))
    (kk : ∀ (q : Nat) (H1 : Heap), va_P D vwCl (ws ++ [(q, .inl (cZ, N, .inl (fun _ => 0)))]) H1 → va_D A (ws ++ [(q, .inl (cZ, N, .inl (fun _ => 0)))]) → va_S A s.heap H1 locs → W p l e R s m args below meth c H1 locs (cells + 1) (slots + N) Q (F0 m (pc + 2) ls (.ref q :: rest))) : W p l e R s m args below meth c H locs cells slots Q (F0 m pc ls (.int n :: rest)) := by
  subst hn
  refine va_newa (atype := .boolean) (ty := .boolean) (a0 := (N, .inl (fun _ => 0))) S.1 S.2.1 (S.2.2.2.2 _ warr) rfl hK hP hD hS hA (fun _ => rfl) (nI_pos (by omega)) (nI_clamp (by omega)) (by show N * 1 ≤ _; omega) hf.1 hf.2 hdg (fun q cA H1 hK1 hP1 hD1 hS1 => ?_)
  have : cA = cZ := x_cA (t0 := 1) hK1 rfl (fun C h => by cases h)
  subst this
  exact kk q H1 hP1 hD1 hS1
/-- a final field of the object itself, the first cell -/
theorem x_putF {C : String} {T : u_T} {N ci index a : Nat} {fs fs' : List Value} {v : Value} {ty : FieldType} (S : CallFix p m c cc nL s args Ts own) (hin : ∀ w ∈ u_ws C T N, w ∈ Ts) (ty0 : Nat → FieldType) (hty : ∀ k, k < N → parseFieldDescriptor (T k).2.2.1 = some (ty0 k)) (hnm : ∀ a, a < N → ∀ b, b < N → a ≠ b → (T a).2.1 ≠ (T b).2.1) (hi : meth.name = "<init>") (hK : va_K D vwCl (xTy cI cZ) s) (hP : va_P D vwCl ((a, .inr (ci, fs)) :: ws) H) (hD : va_D A ((a, .inr (ci, fs)) :: ws)) (hS : va_S A s.heap H locs) (hc : vwCl[ci]? = some (C, T, N)) (k : Nat) (hk : k < N) (hlink : Cond.fieldLink own index (T k).1 (T k).2.1 (T k).2.2.1 ∈ Ts) (hfin : (T k).2.2.2 = true) (hdecl : (T k).1 = own) (hd : parseFieldDescriptor (T k).2.2.1 = some ty) (hn : narrow ty v = v) (hfit : fits ty v = true) (hl : k < fs.length) (hset : fs.set k v = fs') (hdg : decode cc pc = .ok (.putfield index, 3))
    (kk : ∀ (H1 : Heap) (locs1 : List Loc), va_P D vwCl ((a, .inr (ci, fs')) :: ws) H1 → va_D A ((a, .inr (ci, fs')) :: ws) → va_S A s.heap H1 locs1 → W p l e R s m args below meth c H1 locs1 cells slots Q (F0 m (pc + 3) ls rest)) : W p l e R s m args below meth c H locs cells slots Q (F0 m pc ls (v :: .ref a :: rest)) := by
  subst hset
  exact va_putF S.1 S.2.1 S.2.2.2.2 hin ty0 hty hnm S.2.2.2.1 hK hP hD hS 0 rfl hc k hk (S.2.2.2.2 _ hlink) (fun _ h => h) hfin hi hdecl hd hn hfit hl hdg kk
theorem x_putI {C : String} {T : u_T} {N ci index a : Nat} {fs fs' : List Value} {v : Int32} (S : CallFix p m c cc nL s args Ts own) (hin : ∀ w ∈ u_ws C T N, w ∈ Ts) (ty0 : Nat → FieldType) (hty : ∀ k, k < N → parseFieldDescriptor (T k).2.2.1 = some (ty0 k)) (hnm : ∀ a, a < N → ∀ b, b < N → a ≠ b → (T a).2.1 ≠ (T b).2.1) (hK : va_K D vwCl (xTy cI cZ) s) (hP : va_P D vwCl ((a, .inr (ci, fs)) :: ws) H) (hD : va_D A ((a, .inr (ci, fs)) :: ws)) (hS : va_S A s.heap H locs) (hc : vwCl[ci]? = some (C, T, N)) (k : Nat) (hk : k < N) (hlink : Cond.fieldLink own index (T k).1 (T k).2.1 (T k).2.2.1 ∈ Ts) (hfin : (T k).2.2.2 = false) (hd : parseFieldDescriptor (T k).2.2.1 = some .int) (hl : k < fs.length) (hset : fs.set k (.int v) = fs') (hdg : decode cc pc = .ok (.putfield index, 3))
    (kk : ∀ (H1 : Heap) (locs1 : List Loc), va_P D vwCl ((a, .inr (ci, fs')) :: ws) H1 → va_D A ((a, .inr (ci, fs')) :: ws) → va_S A s.heap H1 locs1 → W p l e R s m args below meth c H1 locs1 cells slots Q (F0 m (pc + 3) ls rest)) : W p l e R s m args below meth c H locs cells slots Q (F0 m pc ls (.int v :: .ref a :: rest)) := by
  subst hset
  exact va_put S.1 S.2.1 S.2.2.2.2 hin ty0 hty hnm S.2.2.2.1 hK hP hD hS 0 rfl hc k hk (S.2.2.2.2 _ hlink) (fun _ h => h) hfin hd rfl rfl hl hdg kk
/-- a constructor is called on the cell made last -/
theorem x_ctor {y : MethodName} {bytes : ByteArray} {maxL index q n mc ms : Nat} {wy : List Cond} {rm : Room} {As : List Value} {e0 : va_E} {X : State → Prop} {post : va_W → Prop} (S : CallFix p m c cc nL s args Ts own) (hM : xNw l y wy rm D cI cZ q As e0 X mc ms post) (cw : CallB R s args own index y bytes maxL none wy rm mc ms n ∧ y.name = "<init>" ∧ (Cond.instanceMethod y).before args s = true) (hXk : ∀ U : State, U.heap = H → s.WarmedH U.vm → X U) (hXb : ∀ (U : State) (g : JFrame) (mk : MethodId) (a : Array Value), X U → X (U.calling g mk a)) (hK : va_K D vwCl (xTy cI cZ) s) (hP : va_P D vwCl (ws ++ [(q, e0)]) H) (hD : va_D A (ws ++ [(q, e0)])) (hS : va_S A s.heap H locs) (hA : ∀ q, s.heap.size ≤ q → A q)
    (hst : st0 = As.reverse ++ .ref q :: rest) (hn : As.length = n) (hl : ls.size = nL) (hrest : (rest.map fun v => v.category).sum ≤ 8) (hdg : decode cc pc = .ok (.invokespecial index, 3)) (hf : cells + mc ≤ R.cells ∧ slots + ms ≤ R.slots)
    (kk : ∀ (w1 : va_W) (H1 : Heap) (locs1 : List Loc), post w1 → va_P D vwCl (ws ++ w1) H1 → va_D A (ws ++ w1) → va_S A s.heap H1 locs1 → W p l e R s m args below meth c H1 locs1 (cells + mc) (slots + ms) Q (F0 m (pc + 3) ls rest)) : W p l e R s m args below meth c H locs cells slots Q (F0 m pc ls st0) := by
  have hq : (ws ++ [(q, e0)])[ws.length]? = some (q, e0) := by simp
  have hA1 : ∀ z, va_A [(q, e0)] H.size z → A z := by
    intro z hz
    rcases x_mem1.mp hz with h | h
    · rw [h]; exact hD.2 _ _ hq
    · exact hA z (Nat.le_trans hS.1 h)
  have hPq : va_P D vwCl [(q, e0)] H := by
    intro k x hx
    cases k with
    | zero => cases hx; exact hP _ _ hq
    | succ k => simp at hx
  have hDq : va_D (fun _ => True) [(q, e0)] := by
    refine ⟨fun i j a b ha hb _ => ?_, fun _ _ _ => trivial⟩
    cases i with
    | zero => cases j with
      | zero => rfl
      | succ j => simp at hb
    | succ i => simp at ha
  refine va_callv (va_runI (As := As) (rest := rest) S (hM H.size) cw ⟨fun a U g mk z => ⟨z.1, ⟨z.2.1.1, hXb U g mk a z.2.1.2⟩, z.2.2.1, va_K.moved (u := U) (U := U.calling g mk a) (Vm.Alike.refl U.vm) z.2.2.2.1, z.2.2.2.2⟩, fun U hU hWm => ⟨rfl, ⟨by rw [hU], hXk U hU hWm⟩, by rw [hU]; exact hPq, va_K.moved hWm.alike hK, hDq⟩⟩ rfl hn hl hst (lv_room hrest) hdg hf) hS (fun z _ h => hA1 z h) hA1 (fun w1 t H1 locs1 ht hvm hp hB hz1 hk1 hS1 => ?_)
  obtain ⟨h1, h2⟩ := x_joinN hP hD (fun z hz => hA z (Nat.le_trans hS.1 hz)) hk1 (by rw [← ht]; exact hB.1) hB.2
  exact kk w1 H1 locs1 hp h1 h2 hS1
/-- .. and a private one of a nest mate -/
theorem x_ctorN {y : MethodName} {bytes : ByteArray} {maxL index q n mc ms : Nat} {host : String} {wy : List Cond} {rm : Room} {As : List Value} {e0 : va_E} {X : State → Prop} {post : va_W → Prop} (S : CallFix p m c cc nL s args Ts own) (hM : xNw l y wy rm D cI cZ q As e0 X mc ms post) (cw : va_CN R s args own index y host bytes maxL none wy rm mc ms n ∧ y.name = "<init>" ∧ (Cond.instanceMethod y).before args s = true) (hXk : ∀ U : State, U.heap = H → s.WarmedH U.vm → X U) (hXb : ∀ (U : State) (g : JFrame) (mk : MethodId) (a : Array Value), X U → X (U.calling g mk a)) (hK : va_K D vwCl (xTy cI cZ) s) (hP : va_P D vwCl (ws ++ [(q, e0)]) H) (hD : va_D A (ws ++ [(q, e0)])) (hS : va_S A s.heap H locs) (hA : ∀ q, s.heap.size ≤ q → A q)
    (hst : st0 = As.reverse ++ .ref q :: rest) (hn : As.length = n) (hl : ls.size = nL) (hrest : (rest.map fun v => v.category).sum ≤ 8) (hdg : decode cc pc = .ok (.invokespecial index, 3)) (hf : cells + mc ≤ R.cells ∧ slots + ms ≤ R.slots)
    (kk : ∀ (w1 : va_W) (H1 : Heap) (locs1 : List Loc), post w1 → va_P D vwCl (ws ++ w1) H1 → va_D A (ws ++ w1) → va_S A s.heap H1 locs1 → W p l e R s m args below meth c H1 locs1 (cells + mc) (slots + ms) Q (F0 m (pc + 3) ls rest)) : W p l e R s m args below meth c H locs cells slots Q (F0 m pc ls st0) := by
  have hq : (ws ++ [(q, e0)])[ws.length]? = some (q, e0) := by simp
  have hA1 : ∀ z, va_A [(q, e0)] H.size z → A z := by
    intro z hz
    rcases x_mem1.mp hz with h | h
    · rw [h]; exact hD.2 _ _ hq
    · exact hA z (Nat.le_trans hS.1 h)
  have hPq : va_P D vwCl [(q, e0)] H := by
    intro k x hx
    cases k with
    | zero => cases hx; exact hP _ _ hq
    | succ k => simp at hx
  have hDq : va_D (fun _ => True) [(q, e0)] := by
    refine ⟨fun i j a b ha hb _ => ?_, fun _ _ _ => trivial⟩
    cases i with
    | zero => cases j with
      | zero => rfl
      | succ j => simp at hb
    | succ i => simp at ha
  refine va_callv (va_runIN (As := As) (rest := rest) S (hM H.size) cw ⟨fun a U g mk z => ⟨z.1, ⟨z.2.1.1, hXb U g mk a z.2.1.2⟩, z.2.2.1, va_K.moved (u := U) (U := U.calling g mk a) (Vm.Alike.refl U.vm) z.2.2.2.1, z.2.2.2.2⟩, fun U hU hWm => ⟨rfl, ⟨by rw [hU], hXk U hU hWm⟩, by rw [hU]; exact hPq, va_K.moved hWm.alike hK, hDq⟩⟩ rfl hn hl hst (lv_room hrest) hdg hf) hS (fun z _ h => hA1 z h) hA1 (fun w1 t H1 locs1 ht hvm hp hB hz1 hk1 hS1 => ?_)
  obtain ⟨h1, h2⟩ := x_joinN hP hD (fun z hz => hA z (Nat.le_trans hS.1 hz)) hk1 (by rw [← ht]; exact hB.1) hB.2
  exact kk w1 H1 locs1 hp h1 h2 hS1
theorem x_cend {post : va_W → Prop} {w1 : va_W} {mc ms : Nat} (S : CallFix p m c cc nL s args Ts own) (hr : meth.sig.returnType = none) (hlk : meth.locks = false) (hP : va_P D vwCl w1 H) (hD : va_D A w1) (hS : va_S A s.heap H locs) (hc : cells ≤ mc) (hs : slots ≤ ms) (hdg : decode cc pc = .ok (.return_, 1)) (hp : post w1) : W p l e R s m args below meth c H locs cells slots (MQ below (va_Qv post (fun w1 t => va_P D vwCl w1 t.heap ∧ va_D A w1) A) args s mc ms A) (F0 m pc ls []) :=
  W.widen hc hs (W.vret S.1 S.2.1 hr (fun t ht _ => ⟨⟨w1, rfl, hp, by rw [ht]; exact hP, hD⟩, hS.F ht⟩) hS.2.2 hdg hlk)
end XCT
def xYes : State → Prop := fun _ => True

abbrev rmX2_init (N : Nat) : Room := { frames := 1, cells := 1, slots := N, locals := 32 }
set_option maxHeartbeats 4000000 in
set_option maxRecDepth 100000 in
theorem c_X2_init (l : Launch) (D : va_G) (cI cZ : ClassId) (h0 : Nat) {N : Nat} (hN : N < 1000) (b : Int32) : xNw l yX2_init wsX2_init (rmX2_init N) D cI cZ h0 [.int (nI N), .int b] (.inr (2, [.null, .int 0])) xYes 1 N (fun w1 => ∃ v g, w1 = [(h0, .inr (2, [.ref v, .int b])), (v, .inl (cI, N, .inl g))] ∧ ∀ j, j < N → g j = b) := by
  refine xNw.start RX2 (by decide) rfl rfl rfl (Nat.le_of_ble_eq_true rfl) ?_
  intro p e s m args below meth c ls A S hr hlk hi hX hK hP hD hA hS hAe hl
  have hx := S.1
  have hb := S.2.1
  have hl : lv_has ls 4 [(0, .ref h0), (1, .int (nI N)), (2, .int b)] := hl
  have hin2 : ∀ w ∈ wsX20, w ∈ wsX2_init := by decide +kernel
  have w13 : Cond.fieldLink RX2 13 "CableBook$Row" "values" "[I" ∈ wsX2_init := by decide +kernel
  have w19 : Cond.fieldLink RX2 19 "CableBook$Row" "blank" "I" ∈ wsX2_init := by decide +kernel
  have wa : Cond.arrayClass .int ∈ wsX2_init := by decide +kernel
  have wml : Cond.methodLink RX2 7 Lib.Math.max.name ∈ wsX2_init := by decide +kernel
  have wms : Cond.static Lib.Math.max.name ∈ wsX2_init := by decide +kernel
  have wmi : Cond.initialized "java/lang/Math" ∈ wsX2_init := by decide +kernel
  have wmc : Cond.code Lib.Math.max.name Lib.Math.max.code 2 (some .int) ∈ wsX2_init := by decide +kernel
  have wo1 : Cond.methodLink RX2 1 objectInit ∈ wsX2_init := by decide +kernel
  have wo2 : Cond.instanceMethod objectInit ∈ wsX2_init := by decide +kernel
  have wo3 : Cond.code objectInit ⟨#[0xb1]⟩ 1 none ∈ wsX2_init := List.mem_of_getElem? (i := 3) rfl
  refine lv_aload_n hx hb dX2_init_0 rfl (lv_at hl 0 rfl) ?_
  refine x_obj S wo1 wo2 wo3 hl.1 dX2_init_1 ⟨Nat.le_of_ble_eq_true rfl, Nat.le_of_ble_eq_true rfl⟩ ?_
  refine lv_aload_n hx hb dX2_init_4 rfl (lv_at hl 0 rfl) ?_
  refine lv_iload_n hx hb dX2_init_5 rfl (lv_at hl 1 rfl) ?_
  refine lv_iconst (v := 0) hx hb dX2_init_6 (by decide) ?_
  refine x_max S dX2_init_7 wml wms wmi wmc hl.1 ⟨⟨Nat.le_of_ble_eq_true rfl, Nat.le_of_ble_eq_true rfl⟩, Nat.zero_le _, Nat.zero_le _⟩ ?_
  refine x_topN N (if_neg (nI_pos (by omega))) ?_
  refine x_newI (N := N) S wa hK hP hD hS hA rfl hN ⟨Nat.le_of_ble_eq_true rfl, by show 0 + N ≤ N; omega⟩ dX2_init_10 (fun q H hP hD hS => ?_)
  refine x_putF (fs' := [.ref q, .int 0]) (ty := .array .int) S hin2 tyX2 tyX2_ok nmX2 hi hK hP hD hS rfl 0 (by decide) w13 rfl rfl (by decide +kernel) rfl rfl (Nat.le_of_ble_eq_true rfl) rfl dX2_init_12 (fun H locs hP hD hS => ?_)
  refine lv_aload_n hx hb dX2_init_15 rfl (lv_at hl 0 rfl) ?_
  refine lv_iload_n hx hb dX2_init_16 rfl (lv_at hl 2 rfl) ?_
  refine x_putF (fs' := [.ref q, .int b]) (ty := .int) S hin2 tyX2 tyX2_ok nmX2 hi hK hP hD hS rfl 1 (by decide) w19 rfl rfl (by decide +kernel) rfl rfl (Nat.le_of_ble_eq_true rfl) rfl dX2_init_17 (fun H locs hP hD hS => ?_)
  refine lv_iconst (v := 0) hx hb dX2_init_20 (by decide) ?_
  refine lv_istore_n (lv' := [(3, .int 0), (0, .ref h0), (1, .int (nI N)), (2, .int b)]) hx hb dX2_init_21 rfl hl (by decide) rfl (fun ls hl => ?_)
  have L : ∀ (fu j : Nat) (g : Nat → Int32), N + 1 - j < fu → j ≤ N → (∀ z, z < j → g z = b) → ∀ (H : Heap) (locs : List Loc) (ls : Array Slot), va_P D vwCl ((h0, .inr (2, [.ref q, .int b])) :: ([] ++ [(q, .inl (cI, N, .inl g))])) H → va_D A ((h0, .inr (2, [.ref q, .int b])) :: ([] ++ [(q, .inl (cI, N, .inl g))])) → va_S A s.heap H locs → lv_has ls 4 [(3, .int (nI j)), (0, .ref h0), (1, .int (nI N)), (2, .int b)] → W p l e (rmX2_init N) s m args below meth c H locs (0 + 1) (0 + N) (MQ below (va_Qv (fun w1 => ∃ v g, w1 = [(h0, .inr (2, [.ref v, .int b])), (v, .inl (cI, N, .inl g))] ∧ ∀ j, j < N → g j = b) (fun w1 t => va_P D vwCl w1 t.heap ∧ va_D A w1) A) args s 1 N A) (F0 m 22 ls []) := by
    intro fu
    induction fu with
    | zero => intro j g h; exact absurd h (Nat.not_lt_zero _)
    | succ fu L =>
      intro j g hμ hj hg H locs ls hP hD hS hl
      refine lv_iload_n hx hb dX2_init_22 rfl (lv_at hl 0 rfl) ?_
      refine lv_aload_n hx hb dX2_init_23 rfl (lv_at hl 1 rfl) ?_
      refine va_get (D := D) (ci := 2) (v := .ref q) (C := RX2) (T := TX2) (N := 2) hx hb S.2.2.2.2 hin2 S.2.2.2.1 hK hP 0 rfl rfl 0 (by decide) (S.2.2.2.2 _ w13) (fun _ h9 => h9) rfl dX2_init_24 ?_
      refine va_alen hx hb hK hP 1 0 rfl rfl (v := nI N) rfl dX2_init_27 ?_
      refine x_icmp_ge (a := j) (b := N) (tgt := 44) hx hb dX2_init_28 (by decide) (by omega) (by omega) (fun c28 => ?_) (fun c28 => ?_)
      · exact x_cend S hr hlk hP hD hS (Nat.le_of_ble_eq_true rfl) (by omega) dX2_init_44 ⟨q, g, rfl, fun z hz => hg z (by omega)⟩
      · refine lv_aload_n hx hb dX2_init_31 rfl (lv_at hl 1 rfl) ?_
        refine va_get (D := D) (ci := 2) (v := .ref q) (C := RX2) (T := TX2) (N := 2) hx hb S.2.2.2.2 hin2 S.2.2.2.1 hK hP 0 rfl rfl 0 (by decide) (S.2.2.2.2 _ w13) (fun _ h9 => h9) rfl dX2_init_32 ?_
        refine lv_iload_n hx hb dX2_init_35 rfl (lv_at hl 0 rfl) ?_
        refine lv_iload_n hx hb dX2_init_36 rfl (lv_at hl 3 rfl) ?_
        refine va_iast hx hb hK hP hD hS 1 0 rfl rfl (vp_in_nI c28 (by omega)) dX2_init_37 (fun H locs hP hD hS => ?_)
        rw [nI_clamp (by omega)] at hP hD
        refine lv_iinc (v := nI (j + 1)) (lv' := [(3, .int (nI (j + 1))), (0, .ref h0), (1, .int (nI N)), (2, .int b)]) hx hb dX2_init_38 hl (k := 0) rfl (x_inc _) (by decide) rfl (fun ls hl => ?_)
        refine lv_goto (tgt := 22) hx hb dX2_init_41 (by decide) ?_
        exact L (j + 1) (upd g j b) (by omega) (by omega) (upd_lt hg) H locs ls hP hD hS hl
  exact L _ 0 (fun _ => 0) (Nat.lt_succ_self _) (Nat.zero_le _) (fun z hz => absurd hz (Nat.not_lt_zero z)) H locs ls hP hD hS hl

abbrev rmX0_init (N : Nat) : Room := { frames := 1, cells := 1, slots := N, locals := 32 }
set_option maxHeartbeats 4000000 in
set_option maxRecDepth 100000 in
theorem c_X0_init (l : Launch) (D : va_G) (cI cZ : ClassId) (h0 : Nat) {N : Nat} (hN : N < 1000) : xNw l yX0_init wsX0_init (rmX0_init N) D cI cZ h0 [.int (nI N)] (.inr (0, [.null])) xYes 1 N (fun w1 => ∃ v g, w1 = [(h0, .inr (0, [.ref v])), (v, .inl (cZ, N, .inl g))] ∧ ∀ j, j < N → g j = 0) := by
  refine xNw.start RX0 (by decide) rfl rfl rfl (Nat.le_of_ble_eq_true rfl) ?_
  intro p e s m args below meth c ls A S hr hlk hi hX hK hP hD hA hS hAe hl
  have hx := S.1
  have hb := S.2.1
  have hl : lv_has ls 2 [(0, .ref h0), (1, .int (nI N))] := hl
  have hin0 : ∀ w ∈ wsX00, w ∈ wsX0_init := by decide +kernel
  have w13 : Cond.fieldLink RX0 13 "CableBook$Marks" "marked" "[Z" ∈ wsX0_init := by decide +kernel
  have wa : Cond.arrayClass .boolean ∈ wsX0_init := by decide +kernel
  have wml : Cond.methodLink RX0 7 Lib.Math.max.name ∈ wsX0_init := by decide +kernel
  have wms : Cond.static Lib.Math.max.name ∈ wsX0_init := by decide +kernel
  have wmi : Cond.initialized "java/lang/Math" ∈ wsX0_init := by decide +kernel
  have wmc : Cond.code Lib.Math.max.name Lib.Math.max.code 2 (some .int) ∈ wsX0_init := by decide +kernel
  have wo1 : Cond.methodLink RX0 1 objectInit ∈ wsX0_init := by decide +kernel
  have wo2 : Cond.instanceMethod objectInit ∈ wsX0_init := by decide +kernel
  have wo3 : Cond.code objectInit ⟨#[0xb1]⟩ 1 none ∈ wsX0_init := List.mem_of_getElem? (i := 3) rfl
  refine lv_aload_n hx hb dX0_init_0 rfl (lv_at hl 0 rfl) ?_
  refine x_obj S wo1 wo2 wo3 hl.1 dX0_init_1 ⟨Nat.le_of_ble_eq_true rfl, Nat.le_of_ble_eq_true rfl⟩ ?_
  refine lv_aload_n hx hb dX0_init_4 rfl (lv_at hl 0 rfl) ?_
  refine lv_iload_n hx hb dX0_init_5 rfl (lv_at hl 1 rfl) ?_
  refine lv_iconst (v := 0) hx hb dX0_init_6 (by decide) ?_
  refine x_max S dX0_init_7 wml wms wmi wmc hl.1 ⟨⟨Nat.le_of_ble_eq_true rfl, Nat.le_of_ble_eq_true rfl⟩, Nat.zero_le _, Nat.zero_le _⟩ ?_
  refine x_topN N (if_neg (nI_pos (by omega))) ?_
  refine x_newZ (N := N) S wa hK hP hD hS hA rfl hN ⟨Nat.le_of_ble_eq_true rfl, by show 0 + N ≤ N; omega⟩ dX0_init_10 (fun q H hP hD hS => ?_)
  refine x_putF (fs' := [.ref q]) (ty := .array .boolean) S hin0 tyX0 tyX0_ok nmX0 hi hK hP hD hS rfl 0 (by decide) w13 rfl rfl (by decide +kernel) rfl rfl (Nat.le_of_ble_eq_true rfl) rfl dX0_init_12 (fun H locs hP hD hS => ?_)
  exact x_cend S hr hlk hP hD hS (Nat.le_of_ble_eq_true rfl) (by omega) dX0_init_15 ⟨q, fun _ => 0, rfl, fun _ _ => rfl⟩

abbrev rmX1_init : Room := { frames := 2, cells := 8, slots := 56, locals := 63 }
set_option maxHeartbeats 4000000 in
set_option maxRecDepth 100000 in
theorem c_X1_init (l : Launch) (D : va_G) (cI cZ : ClassId) (h0 : Nat) : xNw l yX1_init wsX1_init rmX1_init D cI cZ h0 [] (.inr (1, [.int 0, .null, .null, .null, .null])) xYes 8 56 (fun w1 => ∃ b1 b2 b3 b4 b5 b6 b7 b8 k1 k2 k3 k4, w1 = [(h0, .inr (1, [.int 0, .ref b1, .ref b3, .ref b5, .ref b7])), (b1, .inr (2, [.ref b2, .int (-1)])), (b2, .inl (cI, 12, .inl k1)), (b3, .inr (2, [.ref b4, .int (-1)])), (b4, .inl (cI, 12, .inl k2)), (b5, .inr (2, [.ref b6, .int (-1)])), (b6, .inl (cI, 12, .inl k3)), (b7, .inr (2, [.ref b8, .int 0])), (b8, .inl (cI, 12, .inl k4))] ∧ (∀ j, j < 12 → k1 j = -1) ∧ (∀ j, j < 12 → k2 j = -1) ∧ (∀ j, j < 12 → k3 j = -1) ∧ (∀ j, j < 12 → k4 j = 0)) := by
  refine xNw.start RX1 (by decide) rfl rfl rfl (Nat.le_of_ble_eq_true rfl) ?_
  intro p e s m args below meth c ls A S hr hlk hi hX hK hP hD hA hS hAe hl
  have hx := S.1
  have hb := S.2.1
  have hl : lv_has ls 1 [(0, .ref h0)] := hl
  have hinX2 : ∀ w ∈ wsX20, w ∈ wsX1_init := by decide +kernel
  have hinX1 : ∀ w ∈ wsX10, w ∈ wsX1_init := by decide +kernel
  have wf_sources : Cond.fieldLink RX1 14 "CableBook$Plan" "sources" "LCableBook$Row;" ∈ wsX1_init := by decide +kernel
  have wf_targets : Cond.fieldLink RX1 20 "CableBook$Plan" "targets" "LCableBook$Row;" ∈ wsX1_init := by decide +kernel
  have wf_others : Cond.fieldLink RX1 23 "CableBook$Plan" "others" "LCableBook$Row;" ∈ wsX1_init := by decide +kernel
  have wf_colours : Cond.fieldLink RX1 26 "CableBook$Plan" "colours" "LCableBook$Row;" ∈ wsX1_init := by decide +kernel
  have wcX2 : Cond.classLink RX1 9 RX2 ∈ wsX1_init := by decide +kernel
  have wtX2 : Cond.instantiable RX2 2 ∈ wsX1_init := by decide +kernel
  have wiX2 : Cond.initialized RX2 ∈ wsX1_init := by decide +kernel
  have wlX2 : Cond.methodLink RX1 11 yX2_init ∈ wsX1_init := by decide +kernel
  have wnX2 : Cond.instanceMethod yX2_init ∈ wsX1_init := by decide +kernel
  have wo1 : Cond.methodLink RX1 3 objectInit ∈ wsX1_init := by decide +kernel
  have wo2 : Cond.instanceMethod objectInit ∈ wsX1_init := by decide +kernel
  have wo3 : Cond.code objectInit ⟨#[0xb1]⟩ 1 none ∈ wsX1_init := List.mem_of_getElem? (i := 3) rfl
  refine lv_aload_n hx hb dX1_init_0 rfl (lv_at hl 0 rfl) ?_
  refine x_obj S wo1 wo2 wo3 hl.1 dX1_init_1 ⟨Nat.le_of_ble_eq_true rfl, Nat.le_of_ble_eq_true rfl⟩ ?_
  refine lv_aload_n hx hb dX1_init_4 rfl (lv_at hl 0 rfl) ?_
  refine x_new (ci := 2) (fs := [.null, .int 0]) S hinX2 tyX2 tyX2_ok wcX2 wtX2 wiX2 hK hP hD hS hA rfl (fun j hj => by rcases (show j = 0 ∨ j = 1 by omega) with rfl | rfl <;> rfl) ⟨Nat.le_of_ble_eq_true rfl, Nat.le_of_ble_eq_true rfl⟩ dX1_init_5 (fun q5 H hP hD hS => ?_)
  refine lv_dup hx hb dX1_init_8 rfl ?_
  refine lv_bipush (v := 12) hx hb dX1_init_9 (by decide) ?_
  refine lv_iconst (v := (-1)) hx hb dX1_init_11 (by decide) ?_
  refine x_ctor (As := [.int (nI 12), .int (-1)]) (rest := [.ref q5, .ref h0]) S (c_X2_init l D cI cZ q5 (N := 12) (by decide) (-1)) (cwI 2 S.2.2.2.2 gX1_init_X2_init rfl rfl rfl (S.2.2.2.2 _ wiX2) (S.2.2.2.2 _ wlX2) (S.2.2.2.2 _ wnX2) rfl (by decide +kernel) ⟨Nat.le_of_ble_eq_true rfl, Nat.le_of_ble_eq_true rfl⟩) (fun _ _ _ => trivial) (fun _ _ _ _ _ => trivial) hK hP hD hS hA rfl rfl hl.1 (Nat.le_of_ble_eq_true rfl) dX1_init_12 ⟨Nat.le_of_ble_eq_true rfl, Nat.le_of_ble_eq_true rfl⟩ (fun w12 H locs hw12 hP hD hS => ?_)
  obtain ⟨v12, g12, rfl, hg12⟩ := hw12
  refine x_putF (fs' := [.int 0, .ref q5, .null, .null, .null]) (ty := .object "CableBook$Row") S hinX1 tyX1 tyX1_ok nmX1 hi hK hP hD hS rfl 1 (by decide) wf_sources rfl rfl (by decide +kernel) rfl rfl (Nat.le_of_ble_eq_true rfl) rfl dX1_init_15 (fun H locs hP hD hS => ?_)
  refine lv_aload_n hx hb dX1_init_18 rfl (lv_at hl 0 rfl) ?_
  refine x_new (ci := 2) (fs := [.null, .int 0]) S hinX2 tyX2 tyX2_ok wcX2 wtX2 wiX2 hK hP hD hS hA rfl (fun j hj => by rcases (show j = 0 ∨ j = 1 by omega) with rfl | rfl <;> rfl) ⟨Nat.le_of_ble_eq_true rfl, Nat.le_of_ble_eq_true rfl⟩ dX1_init_19 (fun q19 H hP hD hS => ?_)
  refine lv_dup hx hb dX1_init_22 rfl ?_
  refine lv_bipush (v := 12) hx hb dX1_init_23 (by decide) ?_
  refine lv_iconst (v := (-1)) hx hb dX1_init_25 (by decide) ?_
  refine x_ctor (As := [.int (nI 12), .int (-1)]) (rest := [.ref q19, .ref h0]) S (c_X2_init l D cI cZ q19 (N := 12) (by decide) (-1)) (cwI 2 S.2.2.2.2 gX1_init_X2_init rfl rfl rfl (S.2.2.2.2 _ wiX2) (S.2.2.2.2 _ wlX2) (S.2.2.2.2 _ wnX2) rfl (by decide +kernel) ⟨Nat.le_of_ble_eq_true rfl, Nat.le_of_ble_eq_true rfl⟩) (fun _ _ _ => trivial) (fun _ _ _ _ _ => trivial) hK hP hD hS hA rfl rfl hl.1 (Nat.le_of_ble_eq_true rfl) dX1_init_26 ⟨Nat.le_of_ble_eq_true rfl, Nat.le_of_ble_eq_true rfl⟩ (fun w26 H locs hw26 hP hD hS => ?_)
  obtain ⟨v26, g26, rfl, hg26⟩ := hw26
  refine x_putF (fs' := [.int 0, .ref q5, .ref q19, .null, .null]) (ty := .object "CableBook$Row") S hinX1 tyX1 tyX1_ok nmX1 hi hK hP hD hS rfl 2 (by decide) wf_targets rfl rfl (by decide +kernel) rfl rfl (Nat.le_of_ble_eq_true rfl) rfl dX1_init_29 (fun H locs hP hD hS => ?_)
  refine lv_aload_n hx hb dX1_init_32 rfl (lv_at hl 0 rfl) ?_
  refine x_new (ci := 2) (fs := [.null, .int 0]) S hinX2 tyX2 tyX2_ok wcX2 wtX2 wiX2 hK hP hD hS hA rfl (fun j hj => by rcases (show j = 0 ∨ j = 1 by omega) with rfl | rfl <;> rfl) ⟨Nat.le_of_ble_eq_true rfl, Nat.le_of_ble_eq_true rfl⟩ dX1_init_33 (fun q33 H hP hD hS => ?_)
  refine lv_dup hx hb dX1_init_36 rfl ?_
  refine lv_bipush (v := 12) hx hb dX1_init_37 (by decide) ?_
  refine lv_iconst (v := (-1)) hx hb dX1_init_39 (by decide) ?_
  refine x_ctor (As := [.int (nI 12), .int (-1)]) (rest := [.ref q33, .ref h0]) S (c_X2_init l D cI cZ q33 (N := 12) (by decide) (-1)) (cwI 2 S.2.2.2.2 gX1_init_X2_init rfl rfl rfl (S.2.2.2.2 _ wiX2) (S.2.2.2.2 _ wlX2) (S.2.2.2.2 _ wnX2) rfl (by decide +kernel) ⟨Nat.le_of_ble_eq_true rfl, Nat.le_of_ble_eq_true rfl⟩) (fun _ _ _ => trivial) (fun _ _ _ _ _ => trivial) hK hP hD hS hA rfl rfl hl.1 (Nat.le_of_ble_eq_true rfl) dX1_init_40 ⟨Nat.le_of_ble_eq_true rfl, Nat.le_of_ble_eq_true rfl⟩ (fun w40 H locs hw40 hP hD hS => ?_)
  obtain ⟨v40, g40, rfl, hg40⟩ := hw40
  refine x_putF (fs' := [.int 0, .ref q5, .ref q19, .ref q33, .null]) (ty := .object "CableBook$Row") S hinX1 tyX1 tyX1_ok nmX1 hi hK hP hD hS rfl 3 (by decide) wf_others rfl rfl (by decide +kernel) rfl rfl (Nat.le_of_ble_eq_true rfl) rfl dX1_init_43 (fun H locs hP hD hS => ?_)
  refine lv_aload_n hx hb dX1_init_46 rfl (lv_at hl 0 rfl) ?_
  refine x_new (ci := 2) (fs := [.null, .int 0]) S hinX2 tyX2 tyX2_ok wcX2 wtX2 wiX2 hK hP hD hS hA rfl (fun j hj => by rcases (show j = 0 ∨ j = 1 by omega) with rfl | rfl <;> rfl) ⟨Nat.le_of_ble_eq_true rfl, Nat.le_of_ble_eq_true rfl⟩ dX1_init_47 (fun q47 H hP hD hS => ?_)
  refine lv_dup hx hb dX1_init_50 rfl ?_
  refine lv_bipush (v := 12) hx hb dX1_init_51 (by decide) ?_
  refine lv_iconst (v := 0) hx hb dX1_init_53 (by decide) ?_
  refine x_ctor (As := [.int (nI 12), .int 0]) (rest := [.ref q47, .ref h0]) S (c_X2_init l D cI cZ q47 (N := 12) (by decide) 0) (cwI 2 S.2.2.2.2 gX1_init_X2_init rfl rfl rfl (S.2.2.2.2 _ wiX2) (S.2.2.2.2 _ wlX2) (S.2.2.2.2 _ wnX2) rfl (by decide +kernel) ⟨Nat.le_of_ble_eq_true rfl, Nat.le_of_ble_eq_true rfl⟩) (fun _ _ _ => trivial) (fun _ _ _ _ _ => trivial) hK hP hD hS hA rfl rfl hl.1 (Nat.le_of_ble_eq_true rfl) dX1_init_54 ⟨Nat.le_of_ble_eq_true rfl, Nat.le_of_ble_eq_true rfl⟩ (fun w54 H locs hw54 hP hD hS => ?_)
  obtain ⟨v54, g54, rfl, hg54⟩ := hw54
  refine x_putF (fs' := [.int 0, .ref q5, .ref q19, .ref q33, .ref q47]) (ty := .object "CableBook$Row") S hinX1 tyX1 tyX1_ok nmX1 hi hK hP hD hS rfl 4 (by decide) wf_colours rfl rfl (by decide +kernel) rfl rfl (Nat.le_of_ble_eq_true rfl) rfl dX1_init_57 (fun H locs hP hD hS => ?_)
  exact x_cend S hr hlk hP hD hS (Nat.le_of_ble_eq_true rfl) (Nat.le_of_ble_eq_true rfl) dX1_init_60 ⟨q5, v12, q19, v26, q33, v40, q47, v54, g12, g26, g40, g54, rfl, hg12, hg26, hg40, hg54⟩

