/-! the law's calls of the class: an exception becomes a number, an answer a long -/
def xNc (U : State) : Prop := va_Nc xIA xIO U ∧ va_Nc xIS xIO U ∧ va_Nc xIS xIA U
theorem xNc.moved {u U : State} (hvm : u.vm.Alike U.vm) (h : xNc u) : xNc U := ⟨h.1.moved hvm, h.2.1.moved hvm, h.2.2.moved hvm⟩
def xLi (l : Launch) (y : MethodName) (ws : List Cond) (rm : Room) (E : xE) (av : List Value) (σ : xS) (K : Nat) (post : Int32 → xS → Prop) : Prop := vx_Met l y ws rm (va_Pc av (fun U => xWd E σ U ∧ xTh E U ∧ xNc U)) (va_Qi post (xWd E) (xA E)) (xPx E (fun _ _ => False)) K (6 * K) (xA E)
/-- what such a call leaves -/
def xLp (oc : Nat) (V : Int32 → Prop) (Γ Γ' : xG) (n : Nat → Int32) (f : Nat → Nat → Int32) (r : Int32) (σ' : xS) : Prop := r = nI oc ∧ ∃ N F o', σ' = (N, F, o') ∧ xFrR n f N F ∧ ((oc = 0 ∧ (∃ v, V v ∧ o' 0 = v.toInt64) ∧ xRepC Γ' N F) ∨ (oc ≠ 0 ∧ xRepC Γ N F))
theorem x_startL {l : Launch} {y : MethodName} {ws ws' : List Cond} {rm : Room} {E : xE} {av : List Value} {σ : xS} {K : Nat} {post : Int32 → xS → Prop} {cc : ByteArray} {nL : Nat} {ret : Option FieldType} {hh : List (Nat × Nat × Nat × Nat)} (own : String) (hy : plainName y.cls = true) (ho : y.cls = own) (hw : ws = Cond.codeWith y cc nL ret hh :: ws') (hlen : (lg_sl av).length ≤ nL)
    (body : ∀ (p : Program) (e : Env) (s : State) (m : MethodId) (args : Array Value) (below : List Frame) (meth : Method) (c : Code) (ls : Array Slot), CallFix p m c cc nL s args ws own → meth.sig.returnType = ret → meth.locks = false → c.exceptionTable.toList = tableOf hh → xTh E s → xNc s → xSt E σ s s.heap s.heap [] → lv_has ls nL (lv_args 0 av) → W p l e rm s m args below meth c s.heap [] 0 0 (vx_MQ below (va_Qi post (xWd E) (xA E)) (xPx E (fun _ _ => False)) args s K (6 * K) (xA E)) (F0 m 0 ls [])) : xLi l y ws rm E av σ K post := by
  refine vx_ofWH (cc := cc) (maxL := nL) (ret := ret) (hh := hh) hy hw ?_
  intro p e s m args below meth c s₁ B hml hv
  obtain ⟨rfl, hWd, hTh, hNc⟩ := hv
  have hl := lv_entry av (n := nL) hlen
  rw [lg_entry_eq]
  have hA := atoms_spec (ws := ws) B.pre
  exact body p e s m _ below meth c _ ⟨B.exec, B.bytes, hml, ho ▸ findClass_of_methodNamed B.named, hA⟩ B.returns B.notSynchronized (vx_table (x := y) B (hA _ (by rw [hw]; exact List.mem_cons_self))) hTh hNc hWd.st hl
section XWR
variable {p : Program} {l : Launch} {e : Env} {R : Room} {s : State} {m : MethodId} {args : Array Value} {below : List Frame} {meth : Method} {c : Code} {H : Heap} {locs : List Loc} {cells slots : Nat} {Q : State → Prop}
variable {cc : ByteArray} {pc nL : Nat} {ls : Array Slot} {rest st0 : List Value} {E : xE} {σ σ' : xS} {H0 : Heap} {Ts : List Cond} {own : String}
/-- a call that may throw, in a method with a table -/
theorem x_XVc {y : MethodName} {bytes : ByteArray} {maxL index b n ci N K : Nat} {ret : Option FieldType} {ws : List Cond} {rm : Room} {C : String} {T : u_T} {As : List Value} {post : Int32 → xS → Prop} {px : String → xS → Prop} (S : CallFix p m c cc nL s args Ts own) (hM : xXi l y ws rm E (.ref b :: As) σ K post px) (cw : CallW R s args own C index y bytes maxL ret ws rm K (6 * K) n) (hW : xSt E σ s s.heap H locs) (hTh : xTh E s)
    (q0 : Nat) {fs : List Value} (he : (xW E σ)[q0]? = some (b, .inr (ci, fs))) (hvc : vwCl[ci]? = some (C, T, N)) (hst : st0 = As.reverse ++ .ref b :: rest) (hn : As.length = n) (hl : ls.size = nL) (hrest : (rest.map fun v => v.category).sum ≤ 8) (hdg : decode cc pc = .ok (.invokevirtual index, 3)) (hf : cells + K ≤ R.cells ∧ slots + 6 * K ≤ R.slots)
    (kx : ∀ (X : String) (ce : Cell) (q9 : Addr) (σ' : xS) (H1 : Heap) (locs1 : List Loc), px X σ' → xSt E σ' s s.heap H1 locs1 → H1[q9]? = some ce → ce.vm = .none → s.vm.findClass X = some ce.cls → vx_W p l e R s m args below meth c H1 locs1 (cells + K) (slots + 6 * K) Q (F0 m pc ls rest) q9)
    (kk : ∀ (r : Int32) (σ' : xS) (H1 : Heap) (locs1 : List Loc), post r σ' → xSt E σ' s s.heap H1 locs1 → W p l e R s m args below meth c H1 locs1 (cells + K) (slots + 6 * K) Q (F0 m (pc + 3) ls (.int r :: rest))) : W p l e R s m args below meth c H locs cells slots Q (F0 m pc ls st0) := by
  refine vx_calli (vx_runV (As := As) (rest := rest) S hM cw ⟨fun a U g mk q => ⟨q.1, q.2.1.blind a g mk, q.2.2.blind a g mk⟩, va_recv hW.2.1 hW.1 hvc he, fun U hU hWm => ⟨rfl, hW.wd hU hWm.alike, hTh.kept hW.2.2.2 hU hWm⟩⟩ rfl hn hl hst (lv_room hrest) hdg hf) hW.2.2.2 (fun _ _ h => h) (fun _ h => h) (fun _ _ h => h) (fun X ce q9 u t H1 locs1 ht hvm hpx hB hz1 hk1 hS hce hcv hcl => ?_) (fun r u t H1 locs1 ht hvm hp hB hz1 hk1 hS => ?_)
  · exact kx X ce q9 u H1 locs1 hB.1 ⟨by rw [← ht]; exact hB.2.1, va_K.moved hvm.symm hB.2.2.1, hB.2.2.2, hS⟩ hce hcv hcl
  · exact kk r u H1 locs1 hp ⟨by rw [← ht]; exact hB.1, va_K.moved hvm.symm hB.2.1, hB.2.2, hS⟩
/-- the call of a method that catches all that it may be thrown -/
theorem x_LS {y : MethodName} {bytes : ByteArray} {maxL index n K : Nat} {ret : Option FieldType} {hh : List (Nat × Nat × Nat × Nat)} {ws : List Cond} {rm : Room} {As : List Value} {post : Int32 → xS → Prop} (S : CallFix p m c cc nL s args Ts own) (hM : xLi l y ws rm E As σ K post) (cw : vx_CSW R s args own index y bytes maxL ret hh ws rm K (6 * K) n) (hW : xSt E σ s s.heap H locs) (hTh : xTh E s) (hNc : xNc s)
    (hst : st0 = As.reverse ++ rest) (hn : As.length = n) (hl : ls.size = nL) (hrest : (rest.map fun v => v.category).sum ≤ 8) (hdg : decode cc pc = .ok (.invokestatic index, 3)) (hf : cells + K ≤ R.cells ∧ slots + 6 * K ≤ R.slots)
    (kk : ∀ (r : Int32) (σ' : xS) (H1 : Heap) (locs1 : List Loc), post r σ' → xSt E σ' s s.heap H1 locs1 → W p l e R s m args below meth c H1 locs1 (cells + K) (slots + 6 * K) Q (F0 m (pc + 3) ls (.int r :: rest))) : W p l e R s m args below meth c H locs cells slots Q (F0 m pc ls st0) := by
  refine vx_calli (vx_runSX (As := As) (rest := rest) S hM cw ⟨fun a U g mk q => ⟨q.1, q.2.1.blind a g mk, q.2.2.1.blind a g mk, xNc.moved (u := U) (U := U.calling g mk a) (Vm.Alike.refl U.vm) q.2.2.2⟩, fun U hU hWm => ⟨rfl, hW.wd hU hWm.alike, hTh.kept hW.2.2.2 hU hWm, hNc.moved hWm.alike⟩⟩ rfl hn hl hst (lv_room hrest) hdg hf) hW.2.2.2 (fun _ _ h => h) (fun _ h => h) (fun _ _ h => h) (fun X ce q9 u t H1 locs1 ht hvm hpx hB hz1 hk1 hS hce hcv hcl => ?_) (fun r u t H1 locs1 ht hvm hp hB hz1 hk1 hS => ?_)
  · exact hB.1.elim
  · exact kk r u H1 locs1 hp ⟨by rw [← ht]; exact hB.1, va_K.moved hvm.symm hB.2.1, hB.2.2, hS⟩
theorem x_last {x : Int64} (S : CallFix p m c cc nL s args Ts own) (hW : xSt E σ s H0 H locs) (hdg : decode cc pc = .ok (.lastore, 1))
    (kk : ∀ (H1 : Heap) (locs1 : List Loc) (o' : Nat → Int64), o' 0 = x → xSt E (σ.1, σ.2.1, o') s H0 H1 locs1 → W p l e R s m args below meth c H1 locs1 cells slots Q (F0 m (pc + 1) ls rest)) : W p l e R s m args below meth c H locs cells slots Q (F0 m pc ls (.long x :: .int 0 :: .ref (E.2.2.2 58) :: rest)) :=
  va_last S.1 S.2.1 hW.2.1 hW.1 hW.2.2.1 hW.2.2.2 58 2 (cA := E.2.1.2.2) (n := 1) (f := σ.2.2) rfl rfl (by unfold vp_in; decide) hdg (fun H1 locs1 hP hD hS => kk H1 locs1 (vp_updL σ.2.2 0 x) (by simp [vp_updL]) ⟨hP, hW.2.1, hD, hS⟩)
theorem x_lald (S : CallFix p m c cc nL s args Ts own) (hW : xSt E σ s H0 H locs) (hdg : decode cc pc = .ok (.laload, 1))
    (kk : W p l e R s m args below meth c H locs cells slots Q (F0 m (pc + 1) ls (.long (σ.2.2 0) :: rest))) : W p l e R s m args below meth c H locs cells slots Q (F0 m pc ls (.int 0 :: .ref (E.2.2.2 58) :: rest)) :=
  va_lald S.1 S.2.1 hW.2.1 hW.1 58 2 (cA := E.2.1.2.2) (n := 1) (f := σ.2.2) rfl rfl (by unfold vp_in; decide) hdg kk
theorem x_catch {X : String} {ce : Cell} {q : Addr} (S : CallFix p m c cc nL s args Ts own) (hTh : xTh E s) (pre : List ExceptionTableEntry) (x : ExceptionTableEntry) (suf : List ExceptionTableEntry) (hsplit : c.exceptionTable.toList = pre ++ x :: suf)
    (hpass : ∀ z ∈ pre, covers z pc = false ∨ (z.catchType ≠ 0 ∧ ∃ nm : String, (Cond.classLink own z.catchType nm).before args s = true ∧ va_Nc X nm s)) (hx : covers x pc = true) (h0 : x.catchType ≠ 0)
    (hlink : Cond.classLink own x.catchType X ∈ Ts) (hcast : X = xIO ∨ X = xIA ∨ X = xIS) (hcell : H[q]? = some ce) (hv : ce.vm = .none) (hcl : s.vm.findClass X = some ce.cls)
    (kk : W p l e R s m args below meth c H locs cells slots Q (F0 m x.handlerPc ls [.ref q])) : vx_W p l e R s m args below meth c H locs cells slots Q (F0 m pc ls rest) q := by
  have hc : (Cond.castable X X).before args s = true := by
    rcases hcast with rfl | rfl | rfl
    · exact va_Nw.use rfl (hTh.2.2 _ (by decide +kernel))
    · exact va_Nw.use rfl (hTh.2.2 _ (by decide +kernel))
    · exact va_Nw.use rfl (hTh.2.2 _ (by decide +kernel))
  exact vx_catch S.2.2.2.1 pre x suf hsplit hpass hx h0 (S.2.2.2.2 _ hlink) hc hcell hv hcl kk
end XWR
theorem xif01 {P : Prop} {r : Int32} (h : r = xif P 1 0) : r = 0 ∨ r = 1 := by
  by_cases hp : P
  · right; rw [h, xif_t hp]
  · left; rw [h, xif_f hp]
abbrev rmL_addPanel : Room := { frames := 7, cells := 1, slots := 6, locals := 106 }
set_option maxHeartbeats 4000000 in
theorem c_L_addPanel (l : Launch) (E : xE) (n : Nat → Int32) (f : Nat → Nat → Int32) (o : Nat → Int64) (hfl : l.stackTraces = false) (Γ : xG) (hG : xGood Γ) (hR : xRepC Γ n f) (a a2 : Int32) : xLi l yL_addPanel wsL_addPanel rmL_addPanel E [.ref (E.2.2.2 0), .int a, .int a2, .ref (E.2.2.2 58)] (n, f, o) 1 (xLp (ocAddPanel Γ a a2) (fun r => r = nI (gNo Γ)) Γ (gPanel Γ a (xNa a2)) n f) := by
  refine x_startL RL (by decide) rfl rfl (Nat.le_of_ble_eq_true rfl) ?_
  intro p e s m args below meth c ls S hr hlk htab hTh hNc hW hl
  have hx := S.1
  have hb := S.2.1
  have hl : lv_has ls 5 [(0, .ref (E.2.2.2 0)), (1, .int a), (2, .int a2), (3, .ref (E.2.2.2 58))] := hl
  have wk13 : Cond.classLink RL 13 "java/lang/IllegalArgumentException" ∈ wsL_addPanel := by decide +kernel
  have wk15 : Cond.classLink RL 15 "java/lang/IllegalStateException" ∈ wsL_addPanel := by decide +kernel
  refine lv_aload_n hx hb dL_addPanel_0 rfl (lv_at hl 3 rfl) ?_
  refine lv_iconst (v := 0) hx hb dL_addPanel_1 (by decide) ?_
  refine lv_aload_n hx hb dL_addPanel_2 rfl (lv_at hl 0 rfl) ?_
  refine lv_iload_n hx hb dL_addPanel_3 rfl (lv_at hl 1 rfl) ?_
  refine lv_iload_n hx hb dL_addPanel_4 rfl (lv_at hl 2 rfl) ?_
  refine x_XVc (rest := [.int 0, .ref (E.2.2.2 58)]) S (c_X3_addPanel l E n f o hfl Γ hG hR a a2) (cwV 2 S.2.2.2.2 gL_addPanel_X3_addPanel rfl rfl rfl (by decide +kernel) ⟨Nat.le_of_ble_eq_true rfl, Nat.le_of_ble_eq_true rfl⟩) hW hTh 0 (xw_0 E _) rfl rfl rfl hl.1 (Nat.le_of_ble_eq_true rfl) dL_addPanel_5 ⟨Nat.le_of_ble_eq_true rfl, Nat.le_of_ble_eq_true rfl⟩ (fun X ce q9 σ9 H1 locs1 hq hW hce hcv hcl => ?_) (fun r5 σ5 H locs hq hW => ?_)
  · obtain ⟨hX, N, F, rfl, hR1, hF1⟩ := hq
    rcases hX with ⟨hk, rfl⟩ | ⟨hk, rfl⟩
    · refine x_catch S hTh [] ⟨0, 10, 13, 13⟩ [⟨0, 10, 17, 15⟩] (htab.trans rfl) (fun z hz => by cases hz) (by decide) (by decide) wk13 (Or.inr (Or.inl rfl)) hce hcv hcl ?_
      refine lv_astore hx hb dL_addPanel_13 hl (Nat.le_of_ble_eq_true rfl) rfl (fun ls hl => ?_)
      refine lv_iconst (v := 1) hx hb dL_addPanel_15 (by decide) ?_
      exact x_Xreti S hr hlk hW (Nat.le_of_ble_eq_true rfl) (Nat.le_of_ble_eq_true rfl) dL_addPanel_16 ⟨by rw [hk]; rfl, N, F, _, rfl, hF1, Or.inr ⟨by rw [hk]; decide, hR1⟩⟩
    · refine x_catch S hTh [⟨0, 10, 13, 13⟩] ⟨0, 10, 17, 15⟩ [] (htab.trans rfl) (fun z hz => by simp only [List.mem_cons, List.not_mem_nil, or_false] at hz; subst hz; exact Or.inr ⟨(show (13 : Nat) ≠ 0 by decide), _, S.2.2.2.2 _ wk13, hNc.2.2⟩) (by decide) (by decide) wk15 (Or.inr (Or.inr rfl)) hce hcv hcl ?_
      refine lv_astore hx hb dL_addPanel_17 hl (Nat.le_of_ble_eq_true rfl) rfl (fun ls hl => ?_)
      refine lv_iconst (v := 2) hx hb dL_addPanel_19 (by decide) ?_
      exact x_Xreti S hr hlk hW (Nat.le_of_ble_eq_true rfl) (Nat.le_of_ble_eq_true rfl) dL_addPanel_20 ⟨by rw [hk]; rfl, N, F, _, rfl, hF1, Or.inr ⟨by rw [hk]; decide, hR1⟩⟩
  · obtain ⟨hk, hV, N, F, rfl, hR1, hF1⟩ := hq
    refine lv_i2l hx hb dL_addPanel_8 rfl ?_
    refine x_last S hW dL_addPanel_9 (fun H locs o2 ho hW => ?_)
    refine lv_goto hx hb dL_addPanel_10 (tgt := 21) rfl ?_
    refine lv_iconst (v := 0) hx hb dL_addPanel_21 (by decide) ?_
    exact x_Xreti S hr hlk hW (Nat.le_of_ble_eq_true rfl) (Nat.le_of_ble_eq_true rfl) dL_addPanel_22 ⟨by rw [hk]; rfl, N, F, _, rfl, hF1, Or.inl ⟨hk, ⟨_, hV, ho⟩, hR1⟩⟩
abbrev rmL_addTrunk : Room := { frames := 8, cells := 3, slots := 18, locals := 129 }
set_option maxHeartbeats 4000000 in
theorem c_L_addTrunk (l : Launch) (E : xE) (n : Nat → Int32) (f : Nat → Nat → Int32) (o : Nat → Int64) (hfl : l.stackTraces = false) (Γ : xG) (hG : xGood Γ) (hR : xRepC Γ n f) (a a2 a3 a4 : Int32) : xLi l yL_addTrunk wsL_addTrunk rmL_addTrunk E [.ref (E.2.2.2 0), .int a, .int a2, .int a3, .int a4, .ref (E.2.2.2 58)] (n, f, o) 3 (xLp (ocTrunk Γ a a2 a3 a4) (fun r => r = nI (gNt Γ)) Γ (gTrunk Γ (xNa a) (xNa a2) (xNa a3) a4) n f) := by
  refine x_startL RL (by decide) rfl rfl (Nat.le_of_ble_eq_true rfl) ?_
  intro p e s m args below meth c ls S hr hlk htab hTh hNc hW hl
  have hx := S.1
  have hb := S.2.1
  have hl : lv_has ls 7 [(0, .ref (E.2.2.2 0)), (1, .int a), (2, .int a2), (3, .int a3), (4, .int a4), (5, .ref (E.2.2.2 58))] := hl
  have wk13 : Cond.classLink RL 13 "java/lang/IllegalArgumentException" ∈ wsL_addTrunk := by decide +kernel
  have wk15 : Cond.classLink RL 15 "java/lang/IllegalStateException" ∈ wsL_addTrunk := by decide +kernel
  have wk21 : Cond.classLink RL 21 "java/lang/IndexOutOfBoundsException" ∈ wsL_addTrunk := by decide +kernel
  refine lv_aload hx hb dL_addTrunk_0 (lv_at hl 5 rfl) ?_
  refine lv_iconst (v := 0) hx hb dL_addTrunk_2 (by decide) ?_
  refine lv_aload_n hx hb dL_addTrunk_3 rfl (lv_at hl 0 rfl) ?_
  refine lv_iload_n hx hb dL_addTrunk_4 rfl (lv_at hl 1 rfl) ?_
  refine lv_iload_n hx hb dL_addTrunk_5 rfl (lv_at hl 2 rfl) ?_
  refine lv_iload_n hx hb dL_addTrunk_6 rfl (lv_at hl 3 rfl) ?_
  refine lv_iload hx hb dL_addTrunk_7 (lv_at hl 4 rfl) ?_
  refine x_XVc (rest := [.int 0, .ref (E.2.2.2 58)]) S (c_X3_addTrunk l E n f o hfl Γ hG hR a a2 a3 a4) (cwV 4 S.2.2.2.2 gL_addTrunk_X3_addTrunk rfl rfl rfl (by decide +kernel) ⟨Nat.le_of_ble_eq_true rfl, Nat.le_of_ble_eq_true rfl⟩) hW hTh 0 (xw_0 E _) rfl rfl rfl hl.1 (Nat.le_of_ble_eq_true rfl) dL_addTrunk_9 ⟨Nat.le_of_ble_eq_true rfl, Nat.le_of_ble_eq_true rfl⟩ (fun X ce q9 σ9 H1 locs1 hq hW hce hcv hcl => ?_) (fun r5 σ5 H locs hq hW => ?_)
  · obtain ⟨hX, N, F, rfl, hR1, hF1⟩ := hq
    rcases hX with ⟨hk, rfl⟩ | ⟨hk, rfl⟩ | ⟨hk, rfl⟩
    · refine x_catch S hTh [] ⟨0, 14, 17, 21⟩ [⟨0, 14, 21, 13⟩, ⟨0, 14, 25, 15⟩] (htab.trans rfl) (fun z hz => by cases hz) (by decide) (by decide) wk21 (Or.inl rfl) hce hcv hcl ?_
      refine lv_astore hx hb dL_addTrunk_17 hl (Nat.le_of_ble_eq_true rfl) rfl (fun ls hl => ?_)
      refine lv_iconst (v := 1) hx hb dL_addTrunk_19 (by decide) ?_
      exact x_Xreti S hr hlk hW (Nat.le_of_ble_eq_true rfl) (Nat.le_of_ble_eq_true rfl) dL_addTrunk_20 ⟨by rw [hk]; rfl, N, F, _, rfl, hF1, Or.inr ⟨by rw [hk]; decide, hR1⟩⟩
    · refine x_catch S hTh [⟨0, 14, 17, 21⟩] ⟨0, 14, 21, 13⟩ [⟨0, 14, 25, 15⟩] (htab.trans rfl) (fun z hz => by simp only [List.mem_cons, List.not_mem_nil, or_false] at hz; subst hz; exact Or.inr ⟨(show (21 : Nat) ≠ 0 by decide), _, S.2.2.2.2 _ wk21, hNc.1⟩) (by decide) (by decide) wk13 (Or.inr (Or.inl rfl)) hce hcv hcl ?_
      refine lv_astore hx hb dL_addTrunk_21 hl (Nat.le_of_ble_eq_true rfl) rfl (fun ls hl => ?_)
      refine lv_iconst (v := 2) hx hb dL_addTrunk_23 (by decide) ?_
      exact x_Xreti S hr hlk hW (Nat.le_of_ble_eq_true rfl) (Nat.le_of_ble_eq_true rfl) dL_addTrunk_24 ⟨by rw [hk]; rfl, N, F, _, rfl, hF1, Or.inr ⟨by rw [hk]; decide, hR1⟩⟩
    · refine x_catch S hTh [⟨0, 14, 17, 21⟩, ⟨0, 14, 21, 13⟩] ⟨0, 14, 25, 15⟩ [] (htab.trans rfl) (fun z hz => by
          simp only [List.mem_cons, List.not_mem_nil, or_false] at hz
          rcases hz with rfl | rfl
          · exact Or.inr ⟨(show (21 : Nat) ≠ 0 by decide), _, S.2.2.2.2 _ wk21, hNc.2.1⟩
          · exact Or.inr ⟨(show (13 : Nat) ≠ 0 by decide), _, S.2.2.2.2 _ wk13, hNc.2.2⟩) (by decide) (by decide) wk15 (Or.inr (Or.inr rfl)) hce hcv hcl ?_
      refine lv_astore hx hb dL_addTrunk_25 hl (Nat.le_of_ble_eq_true rfl) rfl (fun ls hl => ?_)
      refine lv_iconst (v := 3) hx hb dL_addTrunk_27 (by decide) ?_
      exact x_Xreti S hr hlk hW (Nat.le_of_ble_eq_true rfl) (Nat.le_of_ble_eq_true rfl) dL_addTrunk_28 ⟨by rw [hk]; rfl, N, F, _, rfl, hF1, Or.inr ⟨by rw [hk]; decide, hR1⟩⟩
  · obtain ⟨hk, hV, N, F, rfl, hR1, hF1⟩ := hq
    refine lv_i2l hx hb dL_addTrunk_12 rfl ?_
    refine x_last S hW dL_addTrunk_13 (fun H locs o2 ho hW => ?_)
    refine lv_goto hx hb dL_addTrunk_14 (tgt := 29) rfl ?_
    refine lv_iconst (v := 0) hx hb dL_addTrunk_29 (by decide) ?_
    exact x_Xreti S hr hlk hW (Nat.le_of_ble_eq_true rfl) (Nat.le_of_ble_eq_true rfl) dL_addTrunk_30 ⟨by rw [hk]; rfl, N, F, _, rfl, hF1, Or.inl ⟨hk, ⟨_, hV, ho⟩, hR1⟩⟩
abbrev rmL_setBroken : Room := { frames := 8, cells := 2, slots := 12, locals := 128 }
set_option maxHeartbeats 4000000 in
theorem c_L_setBroken (l : Launch) (E : xE) (n : Nat → Int32) (f : Nat → Nat → Int32) (o : Nat → Int64) (hfl : l.stackTraces = false) (Γ : xG) (hG : xGood Γ) (hR : xRepC Γ n f) (a a2 : Int32) (b : Bool) : xLi l yL_setBroken wsL_setBroken rmL_setBroken E [.ref (E.2.2.2 0), .int a, .int a2, .int (bz b), .ref (E.2.2.2 58)] (n, f, o) 2 (xLp (ocBrk Γ a a2) (fun r => r = gBk Γ (gTa Γ (xNa a) + xNa a2)) Γ (gBrk Γ (gTa Γ (xNa a) + xNa a2) (gTb Γ (xNa a) + xNa a2) (bz b)) n f) := by
  refine x_startL RL (by decide) rfl rfl (Nat.le_of_ble_eq_true rfl) ?_
  intro p e s m args below meth c ls S hr hlk htab hTh hNc hW hl
  have hx := S.1
  have hb := S.2.1
  have hl : lv_has ls 6 [(0, .ref (E.2.2.2 0)), (1, .int a), (2, .int a2), (3, .int (bz b)), (4, .ref (E.2.2.2 58))] := hl
  have wk21 : Cond.classLink RL 21 "java/lang/IndexOutOfBoundsException" ∈ wsL_setBroken := by decide +kernel
  refine lv_aload hx hb dL_setBroken_0 (lv_at hl 4 rfl) ?_
  refine lv_iconst (v := 0) hx hb dL_setBroken_2 (by decide) ?_
  refine lv_aload_n hx hb dL_setBroken_3 rfl (lv_at hl 0 rfl) ?_
  refine lv_iload_n hx hb dL_setBroken_4 rfl (lv_at hl 1 rfl) ?_
  refine lv_iload_n hx hb dL_setBroken_5 rfl (lv_at hl 2 rfl) ?_
  refine lv_iload_n hx hb dL_setBroken_6 rfl (lv_at hl 3 rfl) ?_
  refine x_XVc (rest := [.int 0, .ref (E.2.2.2 58)]) S (c_X3_setBroken l E n f o hfl Γ hG hR a a2 b) (cwV 3 S.2.2.2.2 gL_setBroken_X3_setBroken rfl rfl rfl (by decide +kernel) ⟨Nat.le_of_ble_eq_true rfl, Nat.le_of_ble_eq_true rfl⟩) hW hTh 0 (xw_0 E _) rfl rfl rfl hl.1 (Nat.le_of_ble_eq_true rfl) dL_setBroken_7 ⟨Nat.le_of_ble_eq_true rfl, Nat.le_of_ble_eq_true rfl⟩ (fun X ce q9 σ9 H1 locs1 hq hW hce hcv hcl => ?_) (fun r5 σ5 H locs hq hW => ?_)
  · obtain ⟨hX, N, F, rfl, hR1, hF1⟩ := hq
    obtain ⟨hk, rfl⟩ := hX
    refine x_catch S hTh [] ⟨0, 19, 22, 21⟩ [] (htab.trans rfl) (fun z hz => by cases hz) (by decide) (by decide) wk21 (Or.inl rfl) hce hcv hcl ?_
    refine lv_astore hx hb dL_setBroken_22 hl (Nat.le_of_ble_eq_true rfl) rfl (fun ls hl => ?_)
    refine lv_iconst (v := 1) hx hb dL_setBroken_24 (by decide) ?_
    exact x_Xreti S hr hlk hW (Nat.le_of_ble_eq_true rfl) (Nat.le_of_ble_eq_true rfl) dL_setBroken_25 ⟨by rw [hk]; rfl, N, F, _, rfl, hF1, Or.inr ⟨by rw [hk]; decide, hR1⟩⟩
  · obtain ⟨hk, hV, N, F, rfl, hR1, hF1⟩ := hq
    have h01 : r5 = 0 ∨ r5 = 1 := (by rw [hV]; exact hG.b01 _)
    refine lv_if_eq hx hb dL_setBroken_10 (tgt := 17) rfl (fun h0 => ?_) (fun h1 => ?_)
    · refine lv_lconst (v := 0) hx hb dL_setBroken_17 rfl ?_
      refine x_last S hW dL_setBroken_18 (fun H locs o2 ho hW => ?_)
      refine lv_goto hx hb dL_setBroken_19 (tgt := 26) rfl ?_
      refine lv_iconst (v := 0) hx hb dL_setBroken_26 (by decide) ?_
      exact x_Xreti S hr hlk hW (Nat.le_of_ble_eq_true rfl) (Nat.le_of_ble_eq_true rfl) dL_setBroken_27 ⟨by rw [hk]; rfl, N, F, _, rfl, hF1, Or.inl ⟨hk, ⟨_, hV, by rw [ho, h0]; rfl⟩, hR1⟩⟩
    · have h1 : r5 = 1 := h01.resolve_left h1
      refine lv_lconst (v := 1) hx hb dL_setBroken_13 rfl ?_
      refine lv_goto hx hb dL_setBroken_14 (tgt := 18) rfl ?_
      refine x_last S hW dL_setBroken_18 (fun H locs o2 ho hW => ?_)
      refine lv_goto hx hb dL_setBroken_19 (tgt := 26) rfl ?_
      refine lv_iconst (v := 0) hx hb dL_setBroken_26 (by decide) ?_
      exact x_Xreti S hr hlk hW (Nat.le_of_ble_eq_true rfl) (Nat.le_of_ble_eq_true rfl) dL_setBroken_27 ⟨by rw [hk]; rfl, N, F, _, rfl, hF1, Or.inl ⟨hk, ⟨_, hV, by rw [ho, h1]; rfl⟩, hR1⟩⟩
abbrev rmL_plug : Room := { frames := 8, cells := 3, slots := 18, locals := 126 }
set_option maxHeartbeats 4000000 in
theorem c_L_plug (l : Launch) (E : xE) (n : Nat → Int32) (f : Nat → Nat → Int32) (o : Nat → Int64) (hfl : l.stackTraces = false) (Γ : xG) (hG : xGood Γ) (hR : xRepC Γ n f) (a a2 a3 : Int32) : xLi l yL_plug wsL_plug rmL_plug E [.ref (E.2.2.2 0), .int a, .int a2, .int a3, .ref (E.2.2.2 58)] (n, f, o) 3 (xLp (ocPlug Γ a a2 a3) (fun r => r = xlen (gRk Γ) (gPn Γ (xNa a)) (gPn Γ (xNa a2))) Γ (gPlug Γ (xNa a) (xNa a2) a3) n f) := by
  refine x_startL RL (by decide) rfl rfl (Nat.le_of_ble_eq_true rfl) ?_
  intro p e s m args below meth c ls S hr hlk htab hTh hNc hW hl
  have hx := S.1
  have hb := S.2.1
  have hl : lv_has ls 6 [(0, .ref (E.2.2.2 0)), (1, .int a), (2, .int a2), (3, .int a3), (4, .ref (E.2.2.2 58))] := hl
  have wk13 : Cond.classLink RL 13 "java/lang/IllegalArgumentException" ∈ wsL_plug := by decide +kernel
  have wk15 : Cond.classLink RL 15 "java/lang/IllegalStateException" ∈ wsL_plug := by decide +kernel
  have wk21 : Cond.classLink RL 21 "java/lang/IndexOutOfBoundsException" ∈ wsL_plug := by decide +kernel
  refine lv_aload hx hb dL_plug_0 (lv_at hl 4 rfl) ?_
  refine lv_iconst (v := 0) hx hb dL_plug_2 (by decide) ?_
  refine lv_aload_n hx hb dL_plug_3 rfl (lv_at hl 0 rfl) ?_
  refine lv_iload_n hx hb dL_plug_4 rfl (lv_at hl 1 rfl) ?_
  refine lv_iload_n hx hb dL_plug_5 rfl (lv_at hl 2 rfl) ?_
  refine lv_iload_n hx hb dL_plug_6 rfl (lv_at hl 3 rfl) ?_
  refine x_XVc (rest := [.int 0, .ref (E.2.2.2 58)]) S (c_X3_plug l E n f o hfl Γ hG hR a a2 a3) (cwV 3 S.2.2.2.2 gL_plug_X3_plug rfl rfl rfl (by decide +kernel) ⟨Nat.le_of_ble_eq_true rfl, Nat.le_of_ble_eq_true rfl⟩) hW hTh 0 (xw_0 E _) rfl rfl rfl hl.1 (Nat.le_of_ble_eq_true rfl) dL_plug_7 ⟨Nat.le_of_ble_eq_true rfl, Nat.le_of_ble_eq_true rfl⟩ (fun X ce q9 σ9 H1 locs1 hq hW hce hcv hcl => ?_) (fun r5 σ5 H locs hq hW => ?_)
  · obtain ⟨hX, N, F, rfl, hR1, hF1⟩ := hq
    rcases hX with ⟨hk, rfl⟩ | ⟨hk, rfl⟩ | ⟨hk, rfl⟩
    · refine x_catch S hTh [] ⟨0, 12, 15, 21⟩ [⟨0, 12, 19, 13⟩, ⟨0, 12, 23, 15⟩] (htab.trans rfl) (fun z hz => by cases hz) (by decide) (by decide) wk21 (Or.inl rfl) hce hcv hcl ?_
      refine lv_astore hx hb dL_plug_15 hl (Nat.le_of_ble_eq_true rfl) rfl (fun ls hl => ?_)
      refine lv_iconst (v := 1) hx hb dL_plug_17 (by decide) ?_
      exact x_Xreti S hr hlk hW (Nat.le_of_ble_eq_true rfl) (Nat.le_of_ble_eq_true rfl) dL_plug_18 ⟨by rw [hk]; rfl, N, F, _, rfl, hF1, Or.inr ⟨by rw [hk]; decide, hR1⟩⟩
    · refine x_catch S hTh [⟨0, 12, 15, 21⟩] ⟨0, 12, 19, 13⟩ [⟨0, 12, 23, 15⟩] (htab.trans rfl) (fun z hz => by simp only [List.mem_cons, List.not_mem_nil, or_false] at hz; subst hz; exact Or.inr ⟨(show (21 : Nat) ≠ 0 by decide), _, S.2.2.2.2 _ wk21, hNc.1⟩) (by decide) (by decide) wk13 (Or.inr (Or.inl rfl)) hce hcv hcl ?_
      refine lv_astore hx hb dL_plug_19 hl (Nat.le_of_ble_eq_true rfl) rfl (fun ls hl => ?_)
      refine lv_iconst (v := 2) hx hb dL_plug_21 (by decide) ?_
      exact x_Xreti S hr hlk hW (Nat.le_of_ble_eq_true rfl) (Nat.le_of_ble_eq_true rfl) dL_plug_22 ⟨by rw [hk]; rfl, N, F, _, rfl, hF1, Or.inr ⟨by rw [hk]; decide, hR1⟩⟩
    · refine x_catch S hTh [⟨0, 12, 15, 21⟩, ⟨0, 12, 19, 13⟩] ⟨0, 12, 23, 15⟩ [] (htab.trans rfl) (fun z hz => by
          simp only [List.mem_cons, List.not_mem_nil, or_false] at hz
          rcases hz with rfl | rfl
          · exact Or.inr ⟨(show (21 : Nat) ≠ 0 by decide), _, S.2.2.2.2 _ wk21, hNc.2.1⟩
          · exact Or.inr ⟨(show (13 : Nat) ≠ 0 by decide), _, S.2.2.2.2 _ wk13, hNc.2.2⟩) (by decide) (by decide) wk15 (Or.inr (Or.inr rfl)) hce hcv hcl ?_
      refine lv_astore hx hb dL_plug_23 hl (Nat.le_of_ble_eq_true rfl) rfl (fun ls hl => ?_)
      refine lv_iconst (v := 3) hx hb dL_plug_25 (by decide) ?_
      exact x_Xreti S hr hlk hW (Nat.le_of_ble_eq_true rfl) (Nat.le_of_ble_eq_true rfl) dL_plug_26 ⟨by rw [hk]; rfl, N, F, _, rfl, hF1, Or.inr ⟨by rw [hk]; decide, hR1⟩⟩
  · obtain ⟨hk, hV, N, F, rfl, hR1, hF1⟩ := hq
    refine lv_i2l hx hb dL_plug_10 rfl ?_
    refine x_last S hW dL_plug_11 (fun H locs o2 ho hW => ?_)
    refine lv_goto hx hb dL_plug_12 (tgt := 27) rfl ?_
    refine lv_iconst (v := 0) hx hb dL_plug_27 (by decide) ?_
    exact x_Xreti S hr hlk hW (Nat.le_of_ble_eq_true rfl) (Nat.le_of_ble_eq_true rfl) dL_plug_28 ⟨by rw [hk]; rfl, N, F, _, rfl, hF1, Or.inl ⟨hk, ⟨_, hV, ho⟩, hR1⟩⟩
abbrev rmL_pull : Room := { frames := 8, cells := 2, slots := 12, locals := 125 }
set_option maxHeartbeats 4000000 in
theorem c_L_pull (l : Launch) (E : xE) (n : Nat → Int32) (f : Nat → Nat → Int32) (o : Nat → Int64) (hfl : l.stackTraces = false) (Γ : xG) (hG : xGood Γ) (hR : xRepC Γ n f) (a : Int32) : xLi l yL_pull wsL_pull rmL_pull E [.ref (E.2.2.2 0), .int a, .ref (E.2.2.2 58)] (n, f, o) 2 (xLp (ocPull Γ a) (fun r => r = gCb Γ (xNa a)) Γ (gPull Γ (xNa a) (xNa (gCb Γ (xNa a)))) n f) := by
  refine x_startL RL (by decide) rfl rfl (Nat.le_of_ble_eq_true rfl) ?_
  intro p e s m args below meth c ls S hr hlk htab hTh hNc hW hl
  have hx := S.1
  have hb := S.2.1
  have hl : lv_has ls 4 [(0, .ref (E.2.2.2 0)), (1, .int a), (2, .ref (E.2.2.2 58))] := hl
  have wk15 : Cond.classLink RL 15 "java/lang/IllegalStateException" ∈ wsL_pull := by decide +kernel
  have wk21 : Cond.classLink RL 21 "java/lang/IndexOutOfBoundsException" ∈ wsL_pull := by decide +kernel
  refine lv_aload_n hx hb dL_pull_0 rfl (lv_at hl 2 rfl) ?_
  refine lv_iconst (v := 0) hx hb dL_pull_1 (by decide) ?_
  refine lv_aload_n hx hb dL_pull_2 rfl (lv_at hl 0 rfl) ?_
  refine lv_iload_n hx hb dL_pull_3 rfl (lv_at hl 1 rfl) ?_
  refine x_XVc (rest := [.int 0, .ref (E.2.2.2 58)]) S (c_X3_pull l E n f o hfl Γ hG hR a) (cwV 1 S.2.2.2.2 gL_pull_X3_pull rfl rfl rfl (by decide +kernel) ⟨Nat.le_of_ble_eq_true rfl, Nat.le_of_ble_eq_true rfl⟩) hW hTh 0 (xw_0 E _) rfl rfl rfl hl.1 (Nat.le_of_ble_eq_true rfl) dL_pull_4 ⟨Nat.le_of_ble_eq_true rfl, Nat.le_of_ble_eq_true rfl⟩ (fun X ce q9 σ9 H1 locs1 hq hW hce hcv hcl => ?_) (fun r5 σ5 H locs hq hW => ?_)
  · obtain ⟨hX, N, F, rfl, hR1, hF1⟩ := hq
    rcases hX with ⟨hk, rfl⟩ | ⟨hk, rfl⟩
    · refine x_catch S hTh [] ⟨0, 9, 12, 21⟩ [⟨0, 9, 15, 15⟩] (htab.trans rfl) (fun z hz => by cases hz) (by decide) (by decide) wk21 (Or.inl rfl) hce hcv hcl ?_
      refine lv_astore_n hx hb dL_pull_12 rfl hl (Nat.le_of_ble_eq_true rfl) rfl (fun ls hl => ?_)
      refine lv_iconst (v := 1) hx hb dL_pull_13 (by decide) ?_
      exact x_Xreti S hr hlk hW (Nat.le_of_ble_eq_true rfl) (Nat.le_of_ble_eq_true rfl) dL_pull_14 ⟨by rw [hk]; rfl, N, F, _, rfl, hF1, Or.inr ⟨by rw [hk]; decide, hR1⟩⟩
    · refine x_catch S hTh [⟨0, 9, 12, 21⟩] ⟨0, 9, 15, 15⟩ [] (htab.trans rfl) (fun z hz => by simp only [List.mem_cons, List.not_mem_nil, or_false] at hz; subst hz; exact Or.inr ⟨(show (21 : Nat) ≠ 0 by decide), _, S.2.2.2.2 _ wk21, hNc.2.1⟩) (by decide) (by decide) wk15 (Or.inr (Or.inr rfl)) hce hcv hcl ?_
      refine lv_astore_n hx hb dL_pull_15 rfl hl (Nat.le_of_ble_eq_true rfl) rfl (fun ls hl => ?_)
      refine lv_iconst (v := 2) hx hb dL_pull_16 (by decide) ?_
      exact x_Xreti S hr hlk hW (Nat.le_of_ble_eq_true rfl) (Nat.le_of_ble_eq_true rfl) dL_pull_17 ⟨by rw [hk]; rfl, N, F, _, rfl, hF1, Or.inr ⟨by rw [hk]; decide, hR1⟩⟩
  · obtain ⟨hk, hV, N, F, rfl, hR1, hF1⟩ := hq
    refine lv_i2l hx hb dL_pull_7 rfl ?_
    refine x_last S hW dL_pull_8 (fun H locs o2 ho hW => ?_)
    refine lv_goto hx hb dL_pull_9 (tgt := 18) rfl ?_
    refine lv_iconst (v := 0) hx hb dL_pull_18 (by decide) ?_
    exact x_Xreti S hr hlk hW (Nat.le_of_ble_eq_true rfl) (Nat.le_of_ble_eq_true rfl) dL_pull_19 ⟨by rw [hk]; rfl, N, F, _, rfl, hF1, Or.inl ⟨hk, ⟨_, hV, ho⟩, hR1⟩⟩
abbrev rmL_addMove : Room := { frames := 8, cells := 3, slots := 18, locals := 125 }
set_option maxHeartbeats 4000000 in
theorem c_L_addMove (l : Launch) (E : xE) (n : Nat → Int32) (f : Nat → Nat → Int32) (o : Nat → Int64) (hfl : l.stackTraces = false) (Γ : xG) (hG : xGood Γ) (hR : xRepC Γ n f) (a a2 : Int32) : xLi l yL_addMove wsL_addMove rmL_addMove E [.ref (E.2.2.2 0), .int a, .int a2, .ref (E.2.2.2 58)] (n, f, o) 3 (xLp (ocMove Γ a a2) (fun r => r = nI (gNm Γ + 1)) Γ (gMove Γ (xNa a) (xNa a2)) n f) := by
  refine x_startL RL (by decide) rfl rfl (Nat.le_of_ble_eq_true rfl) ?_
  intro p e s m args below meth c ls S hr hlk htab hTh hNc hW hl
  have hx := S.1
  have hb := S.2.1
  have hl : lv_has ls 5 [(0, .ref (E.2.2.2 0)), (1, .int a), (2, .int a2), (3, .ref (E.2.2.2 58))] := hl
  have wk13 : Cond.classLink RL 13 "java/lang/IllegalArgumentException" ∈ wsL_addMove := by decide +kernel
  have wk15 : Cond.classLink RL 15 "java/lang/IllegalStateException" ∈ wsL_addMove := by decide +kernel
  have wk21 : Cond.classLink RL 21 "java/lang/IndexOutOfBoundsException" ∈ wsL_addMove := by decide +kernel
  refine lv_aload_n hx hb dL_addMove_0 rfl (lv_at hl 3 rfl) ?_
  refine lv_iconst (v := 0) hx hb dL_addMove_1 (by decide) ?_
  refine lv_aload_n hx hb dL_addMove_2 rfl (lv_at hl 0 rfl) ?_
  refine lv_iload_n hx hb dL_addMove_3 rfl (lv_at hl 1 rfl) ?_
  refine lv_iload_n hx hb dL_addMove_4 rfl (lv_at hl 2 rfl) ?_
  refine x_XVc (rest := [.int 0, .ref (E.2.2.2 58)]) S (c_X3_addMove l E n f o hfl Γ hG hR a a2) (cwV 2 S.2.2.2.2 gL_addMove_X3_addMove rfl rfl rfl (by decide +kernel) ⟨Nat.le_of_ble_eq_true rfl, Nat.le_of_ble_eq_true rfl⟩) hW hTh 0 (xw_0 E _) rfl rfl rfl hl.1 (Nat.le_of_ble_eq_true rfl) dL_addMove_5 ⟨Nat.le_of_ble_eq_true rfl, Nat.le_of_ble_eq_true rfl⟩ (fun X ce q9 σ9 H1 locs1 hq hW hce hcv hcl => ?_) (fun r5 σ5 H locs hq hW => ?_)
  · obtain ⟨hX, N, F, rfl, hR1, hF1⟩ := hq
    rcases hX with ⟨hk, rfl⟩ | ⟨hk, rfl⟩ | ⟨hk, rfl⟩
    · refine x_catch S hTh [] ⟨0, 10, 13, 21⟩ [⟨0, 10, 17, 13⟩, ⟨0, 10, 21, 15⟩] (htab.trans rfl) (fun z hz => by cases hz) (by decide) (by decide) wk21 (Or.inl rfl) hce hcv hcl ?_
      refine lv_astore hx hb dL_addMove_13 hl (Nat.le_of_ble_eq_true rfl) rfl (fun ls hl => ?_)
      refine lv_iconst (v := 1) hx hb dL_addMove_15 (by decide) ?_
      exact x_Xreti S hr hlk hW (Nat.le_of_ble_eq_true rfl) (Nat.le_of_ble_eq_true rfl) dL_addMove_16 ⟨by rw [hk]; rfl, N, F, _, rfl, hF1, Or.inr ⟨by rw [hk]; decide, hR1⟩⟩
    · refine x_catch S hTh [⟨0, 10, 13, 21⟩] ⟨0, 10, 17, 13⟩ [⟨0, 10, 21, 15⟩] (htab.trans rfl) (fun z hz => by simp only [List.mem_cons, List.not_mem_nil, or_false] at hz; subst hz; exact Or.inr ⟨(show (21 : Nat) ≠ 0 by decide), _, S.2.2.2.2 _ wk21, hNc.1⟩) (by decide) (by decide) wk13 (Or.inr (Or.inl rfl)) hce hcv hcl ?_
      refine lv_astore hx hb dL_addMove_17 hl (Nat.le_of_ble_eq_true rfl) rfl (fun ls hl => ?_)
      refine lv_iconst (v := 2) hx hb dL_addMove_19 (by decide) ?_
      exact x_Xreti S hr hlk hW (Nat.le_of_ble_eq_true rfl) (Nat.le_of_ble_eq_true rfl) dL_addMove_20 ⟨by rw [hk]; rfl, N, F, _, rfl, hF1, Or.inr ⟨by rw [hk]; decide, hR1⟩⟩
    · refine x_catch S hTh [⟨0, 10, 13, 21⟩, ⟨0, 10, 17, 13⟩] ⟨0, 10, 21, 15⟩ [] (htab.trans rfl) (fun z hz => by
          simp only [List.mem_cons, List.not_mem_nil, or_false] at hz
          rcases hz with rfl | rfl
          · exact Or.inr ⟨(show (21 : Nat) ≠ 0 by decide), _, S.2.2.2.2 _ wk21, hNc.2.1⟩
          · exact Or.inr ⟨(show (13 : Nat) ≠ 0 by decide), _, S.2.2.2.2 _ wk13, hNc.2.2⟩) (by decide) (by decide) wk15 (Or.inr (Or.inr rfl)) hce hcv hcl ?_
      refine lv_astore hx hb dL_addMove_21 hl (Nat.le_of_ble_eq_true rfl) rfl (fun ls hl => ?_)
      refine lv_iconst (v := 3) hx hb dL_addMove_23 (by decide) ?_
      exact x_Xreti S hr hlk hW (Nat.le_of_ble_eq_true rfl) (Nat.le_of_ble_eq_true rfl) dL_addMove_24 ⟨by rw [hk]; rfl, N, F, _, rfl, hF1, Or.inr ⟨by rw [hk]; decide, hR1⟩⟩
  · obtain ⟨hk, hV, N, F, rfl, hR1, hF1⟩ := hq
    refine lv_i2l hx hb dL_addMove_8 rfl ?_
    refine x_last S hW dL_addMove_9 (fun H locs o2 ho hW => ?_)
    refine lv_goto hx hb dL_addMove_10 (tgt := 25) rfl ?_
    refine lv_iconst (v := 0) hx hb dL_addMove_25 (by decide) ?_
    exact x_Xreti S hr hlk hW (Nat.le_of_ble_eq_true rfl) (Nat.le_of_ble_eq_true rfl) dL_addMove_26 ⟨by rw [hk]; rfl, N, F, _, rfl, hF1, Or.inl ⟨hk, ⟨_, hV, ho⟩, hR1⟩⟩
abbrev rmL_carryOut : Room := { frames := 7, cells := 1, slots := 6, locals := 128 }
set_option maxHeartbeats 4000000 in
theorem c_L_carryOut (l : Launch) (E : xE) (n : Nat → Int32) (f : Nat → Nat → Int32) (o : Nat → Int64) (hfl : l.stackTraces = false) (Γ : xG) (hG : xGood Γ) (hR : xRepC Γ n f) : xLi l yL_carryOut wsL_carryOut rmL_carryOut E [.ref (E.2.2.2 0), .ref (E.2.2.2 58)] (n, f, o) 1 (xLp (ocCarry Γ) (fun r => r = nI (gNm Γ)) Γ (gCarry Γ) n f) := by
  refine x_startL RL (by decide) rfl rfl (Nat.le_of_ble_eq_true rfl) ?_
  intro p e s m args below meth c ls S hr hlk htab hTh hNc hW hl
  have hx := S.1
  have hb := S.2.1
  have hl : lv_has ls 3 [(0, .ref (E.2.2.2 0)), (1, .ref (E.2.2.2 58))] := hl
  have wk15 : Cond.classLink RL 15 "java/lang/IllegalStateException" ∈ wsL_carryOut := by decide +kernel
  refine lv_aload_n hx hb dL_carryOut_0 rfl (lv_at hl 1 rfl) ?_
  refine lv_iconst (v := 0) hx hb dL_carryOut_1 (by decide) ?_
  refine lv_aload_n hx hb dL_carryOut_2 rfl (lv_at hl 0 rfl) ?_
  refine x_XVc (rest := [.int 0, .ref (E.2.2.2 58)]) S (c_X3_carryOut l E n f o hfl Γ hG hR ) (cwV 0 S.2.2.2.2 gL_carryOut_X3_carryOut rfl rfl rfl (by decide +kernel) ⟨Nat.le_of_ble_eq_true rfl, Nat.le_of_ble_eq_true rfl⟩) hW hTh 0 (xw_0 E _) rfl rfl rfl hl.1 (Nat.le_of_ble_eq_true rfl) dL_carryOut_3 ⟨Nat.le_of_ble_eq_true rfl, Nat.le_of_ble_eq_true rfl⟩ (fun X ce q9 σ9 H1 locs1 hq hW hce hcv hcl => ?_) (fun r5 σ5 H locs hq hW => ?_)
  · obtain ⟨hX, N, F, rfl, hR1, hF1⟩ := hq
    obtain ⟨hk, rfl⟩ := hX
    refine x_catch S hTh [] ⟨0, 8, 11, 15⟩ [] (htab.trans rfl) (fun z hz => by cases hz) (by decide) (by decide) wk15 (Or.inr (Or.inr rfl)) hce hcv hcl ?_
    refine lv_astore_n hx hb dL_carryOut_11 rfl hl (Nat.le_of_ble_eq_true rfl) rfl (fun ls hl => ?_)
    refine lv_iconst (v := 1) hx hb dL_carryOut_12 (by decide) ?_
    exact x_Xreti S hr hlk hW (Nat.le_of_ble_eq_true rfl) (Nat.le_of_ble_eq_true rfl) dL_carryOut_13 ⟨by rw [hk]; rfl, N, F, _, rfl, hF1, Or.inr ⟨by rw [hk]; decide, hR1⟩⟩
  · obtain ⟨hk, hV, N, F, rfl, hR1, hF1⟩ := hq
    refine lv_i2l hx hb dL_carryOut_6 rfl ?_
    refine x_last S hW dL_carryOut_7 (fun H locs o2 ho hW => ?_)
    refine lv_goto hx hb dL_carryOut_8 (tgt := 14) rfl ?_
    refine lv_iconst (v := 0) hx hb dL_carryOut_14 (by decide) ?_
    exact x_Xreti S hr hlk hW (Nat.le_of_ble_eq_true rfl) (Nat.le_of_ble_eq_true rfl) dL_carryOut_15 ⟨by rw [hk]; rfl, N, F, _, rfl, hF1, Or.inl ⟨hk, ⟨_, hV, ho⟩, hR1⟩⟩
abbrev rmL_panelOf : Room := { frames := 8, cells := 1, slots := 6, locals := 124 }
set_option maxHeartbeats 4000000 in
theorem c_L_panelOf (l : Launch) (E : xE) (n : Nat → Int32) (f : Nat → Nat → Int32) (o : Nat → Int64) (hfl : l.stackTraces = false) (Γ : xG) (hG : xGood Γ) (hR : xRepC Γ n f) (a : Int32) : xLi l yL_panelOf wsL_panelOf rmL_panelOf E [.ref (E.2.2.2 0), .int a, .ref (E.2.2.2 58)] (n, f, o) 1 (xLp (ocPort Γ a) (fun r => r = nI (gPn Γ (xNa a))) Γ Γ n f) := by
  refine x_startL RL (by decide) rfl rfl (Nat.le_of_ble_eq_true rfl) ?_
  intro p e s m args below meth c ls S hr hlk htab hTh hNc hW hl
  have hx := S.1
  have hb := S.2.1
  have hl : lv_has ls 4 [(0, .ref (E.2.2.2 0)), (1, .int a), (2, .ref (E.2.2.2 58))] := hl
  have wk21 : Cond.classLink RL 21 "java/lang/IndexOutOfBoundsException" ∈ wsL_panelOf := by decide +kernel
  refine lv_aload_n hx hb dL_panelOf_0 rfl (lv_at hl 2 rfl) ?_
  refine lv_iconst (v := 0) hx hb dL_panelOf_1 (by decide) ?_
  refine lv_aload_n hx hb dL_panelOf_2 rfl (lv_at hl 0 rfl) ?_
  refine lv_iload_n hx hb dL_panelOf_3 rfl (lv_at hl 1 rfl) ?_
  refine x_XVc (rest := [.int 0, .ref (E.2.2.2 58)]) S (c_X3_panelOf l E n f o hfl Γ hG hR a) (cwV 1 S.2.2.2.2 gL_panelOf_X3_panelOf rfl rfl rfl (by decide +kernel) ⟨Nat.le_of_ble_eq_true rfl, Nat.le_of_ble_eq_true rfl⟩) hW hTh 0 (xw_0 E _) rfl rfl rfl hl.1 (Nat.le_of_ble_eq_true rfl) dL_panelOf_4 ⟨Nat.le_of_ble_eq_true rfl, Nat.le_of_ble_eq_true rfl⟩ (fun X ce q9 σ9 H1 locs1 hq hW hce hcv hcl => ?_) (fun r5 σ5 H locs hq hW => ?_)
  · obtain ⟨hX, N, F, rfl, hR1, hF1⟩ := hq
    obtain ⟨hk, rfl⟩ := hX
    refine x_catch S hTh [] ⟨0, 9, 12, 21⟩ [] (htab.trans rfl) (fun z hz => by cases hz) (by decide) (by decide) wk21 (Or.inl rfl) hce hcv hcl ?_
    refine lv_astore_n hx hb dL_panelOf_12 rfl hl (Nat.le_of_ble_eq_true rfl) rfl (fun ls hl => ?_)
    refine lv_iconst (v := 1) hx hb dL_panelOf_13 (by decide) ?_
    exact x_Xreti S hr hlk hW (Nat.le_of_ble_eq_true rfl) (Nat.le_of_ble_eq_true rfl) dL_panelOf_14 ⟨by rw [hk]; rfl, N, F, _, rfl, hF1, Or.inr ⟨by rw [hk]; decide, hR1⟩⟩
  · obtain ⟨hk, hV, N, F, rfl, hR1, hF1⟩ := hq
    refine lv_i2l hx hb dL_panelOf_7 rfl ?_
    refine x_last S hW dL_panelOf_8 (fun H locs o2 ho hW => ?_)
    refine lv_goto hx hb dL_panelOf_9 (tgt := 15) rfl ?_
    refine lv_iconst (v := 0) hx hb dL_panelOf_15 (by decide) ?_
    exact x_Xreti S hr hlk hW (Nat.le_of_ble_eq_true rfl) (Nat.le_of_ble_eq_true rfl) dL_panelOf_16 ⟨by rw [hk]; rfl, N, F, _, rfl, hF1, Or.inl ⟨hk, ⟨_, hV, ho⟩, hR1⟩⟩
abbrev rmL_byCable : Room := { frames := 8, cells := 1, slots := 6, locals := 124 }
set_option maxHeartbeats 4000000 in
theorem c_L_byCable (l : Launch) (E : xE) (n : Nat → Int32) (f : Nat → Nat → Int32) (o : Nat → Int64) (hfl : l.stackTraces = false) (Γ : xG) (hG : xGood Γ) (hR : xRepC Γ n f) (a : Int32) : xLi l yL_byCable wsL_byCable rmL_byCable E [.ref (E.2.2.2 0), .int a, .ref (E.2.2.2 58)] (n, f, o) 1 (xLp (ocPort Γ a) (fun r => r = gCb Γ (xNa a)) Γ Γ n f) := by
  refine x_startL RL (by decide) rfl rfl (Nat.le_of_ble_eq_true rfl) ?_
  intro p e s m args below meth c ls S hr hlk htab hTh hNc hW hl
  have hx := S.1
  have hb := S.2.1
  have hl : lv_has ls 4 [(0, .ref (E.2.2.2 0)), (1, .int a), (2, .ref (E.2.2.2 58))] := hl
  have wk21 : Cond.classLink RL 21 "java/lang/IndexOutOfBoundsException" ∈ wsL_byCable := by decide +kernel
  refine lv_aload_n hx hb dL_byCable_0 rfl (lv_at hl 2 rfl) ?_
  refine lv_iconst (v := 0) hx hb dL_byCable_1 (by decide) ?_
  refine lv_aload_n hx hb dL_byCable_2 rfl (lv_at hl 0 rfl) ?_
  refine lv_iload_n hx hb dL_byCable_3 rfl (lv_at hl 1 rfl) ?_
  refine x_XVc (rest := [.int 0, .ref (E.2.2.2 58)]) S (c_X3_byCable l E n f o hfl Γ hG hR a) (cwV 1 S.2.2.2.2 gL_byCable_X3_byCable rfl rfl rfl (by decide +kernel) ⟨Nat.le_of_ble_eq_true rfl, Nat.le_of_ble_eq_true rfl⟩) hW hTh 0 (xw_0 E _) rfl rfl rfl hl.1 (Nat.le_of_ble_eq_true rfl) dL_byCable_4 ⟨Nat.le_of_ble_eq_true rfl, Nat.le_of_ble_eq_true rfl⟩ (fun X ce q9 σ9 H1 locs1 hq hW hce hcv hcl => ?_) (fun r5 σ5 H locs hq hW => ?_)
  · obtain ⟨hX, N, F, rfl, hR1, hF1⟩ := hq
    obtain ⟨hk, rfl⟩ := hX
    refine x_catch S hTh [] ⟨0, 9, 12, 21⟩ [] (htab.trans rfl) (fun z hz => by cases hz) (by decide) (by decide) wk21 (Or.inl rfl) hce hcv hcl ?_
    refine lv_astore_n hx hb dL_byCable_12 rfl hl (Nat.le_of_ble_eq_true rfl) rfl (fun ls hl => ?_)
    refine lv_iconst (v := 1) hx hb dL_byCable_13 (by decide) ?_
    exact x_Xreti S hr hlk hW (Nat.le_of_ble_eq_true rfl) (Nat.le_of_ble_eq_true rfl) dL_byCable_14 ⟨by rw [hk]; rfl, N, F, _, rfl, hF1, Or.inr ⟨by rw [hk]; decide, hR1⟩⟩
  · obtain ⟨hk, hV, N, F, rfl, hR1, hF1⟩ := hq
    refine lv_i2l hx hb dL_byCable_7 rfl ?_
    refine x_last S hW dL_byCable_8 (fun H locs o2 ho hW => ?_)
    refine lv_goto hx hb dL_byCable_9 (tgt := 15) rfl ?_
    refine lv_iconst (v := 0) hx hb dL_byCable_15 (by decide) ?_
    exact x_Xreti S hr hlk hW (Nat.le_of_ble_eq_true rfl) (Nat.le_of_ble_eq_true rfl) dL_byCable_16 ⟨by rw [hk]; rfl, N, F, _, rfl, hF1, Or.inl ⟨hk, ⟨_, hV, ho⟩, hR1⟩⟩
abbrev rmL_byStrand : Room := { frames := 8, cells := 1, slots := 6, locals := 124 }
set_option maxHeartbeats 4000000 in
theorem c_L_byStrand (l : Launch) (E : xE) (n : Nat → Int32) (f : Nat → Nat → Int32) (o : Nat → Int64) (hfl : l.stackTraces = false) (Γ : xG) (hG : xGood Γ) (hR : xRepC Γ n f) (a : Int32) : xLi l yL_byStrand wsL_byStrand rmL_byStrand E [.ref (E.2.2.2 0), .int a, .ref (E.2.2.2 58)] (n, f, o) 1 (xLp (ocPort Γ a) (fun r => r = gSt Γ (xNa a)) Γ Γ n f) := by
  refine x_startL RL (by decide) rfl rfl (Nat.le_of_ble_eq_true rfl) ?_
  intro p e s m args below meth c ls S hr hlk htab hTh hNc hW hl
  have hx := S.1
  have hb := S.2.1
  have hl : lv_has ls 4 [(0, .ref (E.2.2.2 0)), (1, .int a), (2, .ref (E.2.2.2 58))] := hl
  have wk21 : Cond.classLink RL 21 "java/lang/IndexOutOfBoundsException" ∈ wsL_byStrand := by decide +kernel
  refine lv_aload_n hx hb dL_byStrand_0 rfl (lv_at hl 2 rfl) ?_
  refine lv_iconst (v := 0) hx hb dL_byStrand_1 (by decide) ?_
  refine lv_aload_n hx hb dL_byStrand_2 rfl (lv_at hl 0 rfl) ?_
  refine lv_iload_n hx hb dL_byStrand_3 rfl (lv_at hl 1 rfl) ?_
  refine x_XVc (rest := [.int 0, .ref (E.2.2.2 58)]) S (c_X3_byStrand l E n f o hfl Γ hG hR a) (cwV 1 S.2.2.2.2 gL_byStrand_X3_byStrand rfl rfl rfl (by decide +kernel) ⟨Nat.le_of_ble_eq_true rfl, Nat.le_of_ble_eq_true rfl⟩) hW hTh 0 (xw_0 E _) rfl rfl rfl hl.1 (Nat.le_of_ble_eq_true rfl) dL_byStrand_4 ⟨Nat.le_of_ble_eq_true rfl, Nat.le_of_ble_eq_true rfl⟩ (fun X ce q9 σ9 H1 locs1 hq hW hce hcv hcl => ?_) (fun r5 σ5 H locs hq hW => ?_)
  · obtain ⟨hX, N, F, rfl, hR1, hF1⟩ := hq
    obtain ⟨hk, rfl⟩ := hX
    refine x_catch S hTh [] ⟨0, 9, 12, 21⟩ [] (htab.trans rfl) (fun z hz => by cases hz) (by decide) (by decide) wk21 (Or.inl rfl) hce hcv hcl ?_
    refine lv_astore_n hx hb dL_byStrand_12 rfl hl (Nat.le_of_ble_eq_true rfl) rfl (fun ls hl => ?_)
    refine lv_iconst (v := 1) hx hb dL_byStrand_13 (by decide) ?_
    exact x_Xreti S hr hlk hW (Nat.le_of_ble_eq_true rfl) (Nat.le_of_ble_eq_true rfl) dL_byStrand_14 ⟨by rw [hk]; rfl, N, F, _, rfl, hF1, Or.inr ⟨by rw [hk]; decide, hR1⟩⟩
  · obtain ⟨hk, hV, N, F, rfl, hR1, hF1⟩ := hq
    refine lv_i2l hx hb dL_byStrand_7 rfl ?_
    refine x_last S hW dL_byStrand_8 (fun H locs o2 ho hW => ?_)
    refine lv_goto hx hb dL_byStrand_9 (tgt := 15) rfl ?_
    refine lv_iconst (v := 0) hx hb dL_byStrand_15 (by decide) ?_
    exact x_Xreti S hr hlk hW (Nat.le_of_ble_eq_true rfl) (Nat.le_of_ble_eq_true rfl) dL_byStrand_16 ⟨by rw [hk]; rfl, N, F, _, rfl, hF1, Or.inl ⟨hk, ⟨_, hV, ho⟩, hR1⟩⟩
abbrev rmL_colour : Room := { frames := 8, cells := 1, slots := 6, locals := 124 }
set_option maxHeartbeats 4000000 in
theorem c_L_colour (l : Launch) (E : xE) (n : Nat → Int32) (f : Nat → Nat → Int32) (o : Nat → Int64) (hfl : l.stackTraces = false) (Γ : xG) (hG : xGood Γ) (hR : xRepC Γ n f) (a : Int32) : xLi l yL_colour wsL_colour rmL_colour E [.ref (E.2.2.2 0), .int a, .ref (E.2.2.2 58)] (n, f, o) 1 (xLp (ocPort Γ a) (fun r => r = gCl Γ (xNa a)) Γ Γ n f) := by
  refine x_startL RL (by decide) rfl rfl (Nat.le_of_ble_eq_true rfl) ?_
  intro p e s m args below meth c ls S hr hlk htab hTh hNc hW hl
  have hx := S.1
  have hb := S.2.1
  have hl : lv_has ls 4 [(0, .ref (E.2.2.2 0)), (1, .int a), (2, .ref (E.2.2.2 58))] := hl
  have wk21 : Cond.classLink RL 21 "java/lang/IndexOutOfBoundsException" ∈ wsL_colour := by decide +kernel
  refine lv_aload_n hx hb dL_colour_0 rfl (lv_at hl 2 rfl) ?_
  refine lv_iconst (v := 0) hx hb dL_colour_1 (by decide) ?_
  refine lv_aload_n hx hb dL_colour_2 rfl (lv_at hl 0 rfl) ?_
  refine lv_iload_n hx hb dL_colour_3 rfl (lv_at hl 1 rfl) ?_
  refine x_XVc (rest := [.int 0, .ref (E.2.2.2 58)]) S (c_X3_colour l E n f o hfl Γ hG hR a) (cwV 1 S.2.2.2.2 gL_colour_X3_colour rfl rfl rfl (by decide +kernel) ⟨Nat.le_of_ble_eq_true rfl, Nat.le_of_ble_eq_true rfl⟩) hW hTh 0 (xw_0 E _) rfl rfl rfl hl.1 (Nat.le_of_ble_eq_true rfl) dL_colour_4 ⟨Nat.le_of_ble_eq_true rfl, Nat.le_of_ble_eq_true rfl⟩ (fun X ce q9 σ9 H1 locs1 hq hW hce hcv hcl => ?_) (fun r5 σ5 H locs hq hW => ?_)
  · obtain ⟨hX, N, F, rfl, hR1, hF1⟩ := hq
    obtain ⟨hk, rfl⟩ := hX
    refine x_catch S hTh [] ⟨0, 9, 12, 21⟩ [] (htab.trans rfl) (fun z hz => by cases hz) (by decide) (by decide) wk21 (Or.inl rfl) hce hcv hcl ?_
    refine lv_astore_n hx hb dL_colour_12 rfl hl (Nat.le_of_ble_eq_true rfl) rfl (fun ls hl => ?_)
    refine lv_iconst (v := 1) hx hb dL_colour_13 (by decide) ?_
    exact x_Xreti S hr hlk hW (Nat.le_of_ble_eq_true rfl) (Nat.le_of_ble_eq_true rfl) dL_colour_14 ⟨by rw [hk]; rfl, N, F, _, rfl, hF1, Or.inr ⟨by rw [hk]; decide, hR1⟩⟩
  · obtain ⟨hk, hV, N, F, rfl, hR1, hF1⟩ := hq
    refine lv_i2l hx hb dL_colour_7 rfl ?_
    refine x_last S hW dL_colour_8 (fun H locs o2 ho hW => ?_)
    refine lv_goto hx hb dL_colour_9 (tgt := 15) rfl ?_
    refine lv_iconst (v := 0) hx hb dL_colour_15 (by decide) ?_
    exact x_Xreti S hr hlk hW (Nat.le_of_ble_eq_true rfl) (Nat.le_of_ble_eq_true rfl) dL_colour_16 ⟨by rw [hk]; rfl, N, F, _, rfl, hF1, Or.inl ⟨hk, ⟨_, hV, ho⟩, hR1⟩⟩
abbrev rmL_end : Room := { frames := 8, cells := 1, slots := 6, locals := 125 }
set_option maxHeartbeats 4000000 in
theorem c_L_end (l : Launch) (E : xE) (n : Nat → Int32) (f : Nat → Nat → Int32) (o : Nat → Int64) (hfl : l.stackTraces = false) (Γ : xG) (hG : xGood Γ) (hR : xRepC Γ n f) (a : Int32) (b : Bool) : xLi l yL_end wsL_end rmL_end E [.ref (E.2.2.2 0), .int a, .int (bz b), .ref (E.2.2.2 58)] (n, f, o) 1 (xLp (ocPort Γ a) (fun r => (∃ K, xStop (gCb Γ) (gOp Γ) b (xNa a) K ∧ r = xw (gCb Γ) (gOp Γ) b (xNa a) K)) Γ Γ n f) := by
  refine x_startL RL (by decide) rfl rfl (Nat.le_of_ble_eq_true rfl) ?_
  intro p e s m args below meth c ls S hr hlk htab hTh hNc hW hl
  have hx := S.1
  have hb := S.2.1
  have hl : lv_has ls 5 [(0, .ref (E.2.2.2 0)), (1, .int a), (2, .int (bz b)), (3, .ref (E.2.2.2 58))] := hl
  have wk21 : Cond.classLink RL 21 "java/lang/IndexOutOfBoundsException" ∈ wsL_end := by decide +kernel
  refine lv_aload_n hx hb dL_end_0 rfl (lv_at hl 3 rfl) ?_
  refine lv_iconst (v := 0) hx hb dL_end_1 (by decide) ?_
  refine lv_aload_n hx hb dL_end_2 rfl (lv_at hl 0 rfl) ?_
  refine lv_iload_n hx hb dL_end_3 rfl (lv_at hl 1 rfl) ?_
  refine lv_iload_n hx hb dL_end_4 rfl (lv_at hl 2 rfl) ?_
  refine x_XVc (rest := [.int 0, .ref (E.2.2.2 58)]) S (c_X3_end l E n f o hfl Γ hG hR a b) (cwV 2 S.2.2.2.2 gL_end_X3_end rfl rfl rfl (by decide +kernel) ⟨Nat.le_of_ble_eq_true rfl, Nat.le_of_ble_eq_true rfl⟩) hW hTh 0 (xw_0 E _) rfl rfl rfl hl.1 (Nat.le_of_ble_eq_true rfl) dL_end_5 ⟨Nat.le_of_ble_eq_true rfl, Nat.le_of_ble_eq_true rfl⟩ (fun X ce q9 σ9 H1 locs1 hq hW hce hcv hcl => ?_) (fun r5 σ5 H locs hq hW => ?_)
  · obtain ⟨hX, N, F, rfl, hR1, hF1⟩ := hq
    obtain ⟨hk, rfl⟩ := hX
    refine x_catch S hTh [] ⟨0, 10, 13, 21⟩ [] (htab.trans rfl) (fun z hz => by cases hz) (by decide) (by decide) wk21 (Or.inl rfl) hce hcv hcl ?_
    refine lv_astore hx hb dL_end_13 hl (Nat.le_of_ble_eq_true rfl) rfl (fun ls hl => ?_)
    refine lv_iconst (v := 1) hx hb dL_end_15 (by decide) ?_
    exact x_Xreti S hr hlk hW (Nat.le_of_ble_eq_true rfl) (Nat.le_of_ble_eq_true rfl) dL_end_16 ⟨by rw [hk]; rfl, N, F, _, rfl, hF1, Or.inr ⟨by rw [hk]; decide, hR1⟩⟩
  · obtain ⟨hk, hV, N, F, rfl, hR1, hF1⟩ := hq
    refine lv_i2l hx hb dL_end_8 rfl ?_
    refine x_last S hW dL_end_9 (fun H locs o2 ho hW => ?_)
    refine lv_goto hx hb dL_end_10 (tgt := 17) rfl ?_
    refine lv_iconst (v := 0) hx hb dL_end_17 (by decide) ?_
    exact x_Xreti S hr hlk hW (Nat.le_of_ble_eq_true rfl) (Nat.le_of_ble_eq_true rfl) dL_end_18 ⟨by rw [hk]; rfl, N, F, _, rfl, hF1, Or.inl ⟨hk, ⟨_, hV, ho⟩, hR1⟩⟩
abbrev rmL_hops : Room := { frames := 8, cells := 1, slots := 6, locals := 125 }
set_option maxHeartbeats 4000000 in
theorem c_L_hops (l : Launch) (E : xE) (n : Nat → Int32) (f : Nat → Nat → Int32) (o : Nat → Int64) (hfl : l.stackTraces = false) (Γ : xG) (hG : xGood Γ) (hR : xRepC Γ n f) (a : Int32) (b : Bool) : xLi l yL_hops wsL_hops rmL_hops E [.ref (E.2.2.2 0), .int a, .int (bz b), .ref (E.2.2.2 58)] (n, f, o) 1 (xLp (ocPort Γ a) (fun r => (∃ K, xStop (gCb Γ) (gOp Γ) b (xNa a) K ∧ r = nI K)) Γ Γ n f) := by
  refine x_startL RL (by decide) rfl rfl (Nat.le_of_ble_eq_true rfl) ?_
  intro p e s m args below meth c ls S hr hlk htab hTh hNc hW hl
  have hx := S.1
  have hb := S.2.1
  have hl : lv_has ls 5 [(0, .ref (E.2.2.2 0)), (1, .int a), (2, .int (bz b)), (3, .ref (E.2.2.2 58))] := hl
  have wk21 : Cond.classLink RL 21 "java/lang/IndexOutOfBoundsException" ∈ wsL_hops := by decide +kernel
  refine lv_aload_n hx hb dL_hops_0 rfl (lv_at hl 3 rfl) ?_
  refine lv_iconst (v := 0) hx hb dL_hops_1 (by decide) ?_
  refine lv_aload_n hx hb dL_hops_2 rfl (lv_at hl 0 rfl) ?_
  refine lv_iload_n hx hb dL_hops_3 rfl (lv_at hl 1 rfl) ?_
  refine lv_iload_n hx hb dL_hops_4 rfl (lv_at hl 2 rfl) ?_
  refine x_XVc (rest := [.int 0, .ref (E.2.2.2 58)]) S (c_X3_hops l E n f o hfl Γ hG hR a b) (cwV 2 S.2.2.2.2 gL_hops_X3_hops rfl rfl rfl (by decide +kernel) ⟨Nat.le_of_ble_eq_true rfl, Nat.le_of_ble_eq_true rfl⟩) hW hTh 0 (xw_0 E _) rfl rfl rfl hl.1 (Nat.le_of_ble_eq_true rfl) dL_hops_5 ⟨Nat.le_of_ble_eq_true rfl, Nat.le_of_ble_eq_true rfl⟩ (fun X ce q9 σ9 H1 locs1 hq hW hce hcv hcl => ?_) (fun r5 σ5 H locs hq hW => ?_)
  · obtain ⟨hX, N, F, rfl, hR1, hF1⟩ := hq
    obtain ⟨hk, rfl⟩ := hX
    refine x_catch S hTh [] ⟨0, 10, 13, 21⟩ [] (htab.trans rfl) (fun z hz => by cases hz) (by decide) (by decide) wk21 (Or.inl rfl) hce hcv hcl ?_
    refine lv_astore hx hb dL_hops_13 hl (Nat.le_of_ble_eq_true rfl) rfl (fun ls hl => ?_)
    refine lv_iconst (v := 1) hx hb dL_hops_15 (by decide) ?_
    exact x_Xreti S hr hlk hW (Nat.le_of_ble_eq_true rfl) (Nat.le_of_ble_eq_true rfl) dL_hops_16 ⟨by rw [hk]; rfl, N, F, _, rfl, hF1, Or.inr ⟨by rw [hk]; decide, hR1⟩⟩
  · obtain ⟨hk, hV, N, F, rfl, hR1, hF1⟩ := hq
    refine lv_i2l hx hb dL_hops_8 rfl ?_
    refine x_last S hW dL_hops_9 (fun H locs o2 ho hW => ?_)
    refine lv_goto hx hb dL_hops_10 (tgt := 17) rfl ?_
    refine lv_iconst (v := 0) hx hb dL_hops_17 (by decide) ?_
    exact x_Xreti S hr hlk hW (Nat.le_of_ble_eq_true rfl) (Nat.le_of_ble_eq_true rfl) dL_hops_18 ⟨by rw [hk]; rfl, N, F, _, rfl, hF1, Or.inl ⟨hk, ⟨_, hV, ho⟩, hR1⟩⟩
abbrev rmL_hopTo : Room := { frames := 8, cells := 2, slots := 12, locals := 126 }
set_option maxHeartbeats 4000000 in
theorem c_L_hopTo (l : Launch) (E : xE) (n : Nat → Int32) (f : Nat → Nat → Int32) (o : Nat → Int64) (hfl : l.stackTraces = false) (Γ : xG) (hG : xGood Γ) (hR : xRepC Γ n f) (a : Int32) (b : Bool) (a3 : Int32) : xLi l yL_hopTo wsL_hopTo rmL_hopTo E [.ref (E.2.2.2 0), .int a, .int (bz b), .int a3, .ref (E.2.2.2 58)] (n, f, o) 2 (xLp (ocHop Γ a b a3) (fun r => r = xw (gCb Γ) (gOp Γ) b (xNa a) (xNa a3 + 1)) Γ Γ n f) := by
  refine x_startL RL (by decide) rfl rfl (Nat.le_of_ble_eq_true rfl) ?_
  intro p e s m args below meth c ls S hr hlk htab hTh hNc hW hl
  have hx := S.1
  have hb := S.2.1
  have hl : lv_has ls 6 [(0, .ref (E.2.2.2 0)), (1, .int a), (2, .int (bz b)), (3, .int a3), (4, .ref (E.2.2.2 58))] := hl
  have wk21 : Cond.classLink RL 21 "java/lang/IndexOutOfBoundsException" ∈ wsL_hopTo := by decide +kernel
  refine lv_aload hx hb dL_hopTo_0 (lv_at hl 4 rfl) ?_
  refine lv_iconst (v := 0) hx hb dL_hopTo_2 (by decide) ?_
  refine lv_aload_n hx hb dL_hopTo_3 rfl (lv_at hl 0 rfl) ?_
  refine lv_iload_n hx hb dL_hopTo_4 rfl (lv_at hl 1 rfl) ?_
  refine lv_iload_n hx hb dL_hopTo_5 rfl (lv_at hl 2 rfl) ?_
  refine lv_iload_n hx hb dL_hopTo_6 rfl (lv_at hl 3 rfl) ?_
  refine x_XVc (rest := [.int 0, .ref (E.2.2.2 58)]) S (c_X3_hopTo l E n f o hfl Γ hG hR a b a3) (cwV 3 S.2.2.2.2 gL_hopTo_X3_hopTo rfl rfl rfl (by decide +kernel) ⟨Nat.le_of_ble_eq_true rfl, Nat.le_of_ble_eq_true rfl⟩) hW hTh 0 (xw_0 E _) rfl rfl rfl hl.1 (Nat.le_of_ble_eq_true rfl) dL_hopTo_7 ⟨Nat.le_of_ble_eq_true rfl, Nat.le_of_ble_eq_true rfl⟩ (fun X ce q9 σ9 H1 locs1 hq hW hce hcv hcl => ?_) (fun r5 σ5 H locs hq hW => ?_)
  · obtain ⟨hX, N, F, rfl, hR1, hF1⟩ := hq
    obtain ⟨hk, rfl⟩ := hX
    refine x_catch S hTh [] ⟨0, 12, 15, 21⟩ [] (htab.trans rfl) (fun z hz => by cases hz) (by decide) (by decide) wk21 (Or.inl rfl) hce hcv hcl ?_
    refine lv_astore hx hb dL_hopTo_15 hl (Nat.le_of_ble_eq_true rfl) rfl (fun ls hl => ?_)
    refine lv_iconst (v := 1) hx hb dL_hopTo_17 (by decide) ?_
    exact x_Xreti S hr hlk hW (Nat.le_of_ble_eq_true rfl) (Nat.le_of_ble_eq_true rfl) dL_hopTo_18 ⟨by rw [hk]; rfl, N, F, _, rfl, hF1, Or.inr ⟨by rw [hk]; decide, hR1⟩⟩
  · obtain ⟨hk, hV, N, F, rfl, hR1, hF1⟩ := hq
    refine lv_i2l hx hb dL_hopTo_10 rfl ?_
    refine x_last S hW dL_hopTo_11 (fun H locs o2 ho hW => ?_)
    refine lv_goto hx hb dL_hopTo_12 (tgt := 19) rfl ?_
    refine lv_iconst (v := 0) hx hb dL_hopTo_19 (by decide) ?_
    exact x_Xreti S hr hlk hW (Nat.le_of_ble_eq_true rfl) (Nat.le_of_ble_eq_true rfl) dL_hopTo_20 ⟨by rw [hk]; rfl, N, F, _, rfl, hF1, Or.inl ⟨hk, ⟨_, hV, ho⟩, hR1⟩⟩
abbrev rmL_lengthOf : Room := { frames := 8, cells := 1, slots := 6, locals := 131 }
set_option maxHeartbeats 4000000 in
theorem c_L_lengthOf (l : Launch) (E : xE) (n : Nat → Int32) (f : Nat → Nat → Int32) (o : Nat → Int64) (hfl : l.stackTraces = false) (Γ : xG) (hG : xGood Γ) (hR : xRepC Γ n f) (a : Int32) (b : Bool) : xLi l yL_lengthOf wsL_lengthOf rmL_lengthOf E [.ref (E.2.2.2 0), .int a, .int (bz b), .ref (E.2.2.2 58)] (n, f, o) 1 (xLp (ocPort Γ a) (fun r => (∃ K, xStop (gCb Γ) (gOp Γ) b (xNa a) K ∧ r = gLen Γ b (xNa a) K)) Γ Γ n f) := by
  refine x_startL RL (by decide) rfl rfl (Nat.le_of_ble_eq_true rfl) ?_
  intro p e s m args below meth c ls S hr hlk htab hTh hNc hW hl
  have hx := S.1
  have hb := S.2.1
  have hl : lv_has ls 5 [(0, .ref (E.2.2.2 0)), (1, .int a), (2, .int (bz b)), (3, .ref (E.2.2.2 58))] := hl
  have wk21 : Cond.classLink RL 21 "java/lang/IndexOutOfBoundsException" ∈ wsL_lengthOf := by decide +kernel
  refine lv_aload_n hx hb dL_lengthOf_0 rfl (lv_at hl 3 rfl) ?_
  refine lv_iconst (v := 0) hx hb dL_lengthOf_1 (by decide) ?_
  refine lv_aload_n hx hb dL_lengthOf_2 rfl (lv_at hl 0 rfl) ?_
  refine lv_iload_n hx hb dL_lengthOf_3 rfl (lv_at hl 1 rfl) ?_
  refine lv_iload_n hx hb dL_lengthOf_4 rfl (lv_at hl 2 rfl) ?_
  refine x_XVc (rest := [.int 0, .ref (E.2.2.2 58)]) S (c_X3_lengthOf l E n f o hfl Γ hG hR a b) (cwV 2 S.2.2.2.2 gL_lengthOf_X3_lengthOf rfl rfl rfl (by decide +kernel) ⟨Nat.le_of_ble_eq_true rfl, Nat.le_of_ble_eq_true rfl⟩) hW hTh 0 (xw_0 E _) rfl rfl rfl hl.1 (Nat.le_of_ble_eq_true rfl) dL_lengthOf_5 ⟨Nat.le_of_ble_eq_true rfl, Nat.le_of_ble_eq_true rfl⟩ (fun X ce q9 σ9 H1 locs1 hq hW hce hcv hcl => ?_) (fun r5 σ5 H locs hq hW => ?_)
  · obtain ⟨hX, N, F, rfl, hR1, hF1⟩ := hq
    obtain ⟨hk, rfl⟩ := hX
    refine x_catch S hTh [] ⟨0, 10, 13, 21⟩ [] (htab.trans rfl) (fun z hz => by cases hz) (by decide) (by decide) wk21 (Or.inl rfl) hce hcv hcl ?_
    refine lv_astore hx hb dL_lengthOf_13 hl (Nat.le_of_ble_eq_true rfl) rfl (fun ls hl => ?_)
    refine lv_iconst (v := 1) hx hb dL_lengthOf_15 (by decide) ?_
    exact x_Xreti S hr hlk hW (Nat.le_of_ble_eq_true rfl) (Nat.le_of_ble_eq_true rfl) dL_lengthOf_16 ⟨by rw [hk]; rfl, N, F, _, rfl, hF1, Or.inr ⟨by rw [hk]; decide, hR1⟩⟩
  · obtain ⟨hk, hV, N, F, rfl, hR1, hF1⟩ := hq
    refine lv_i2l hx hb dL_lengthOf_8 rfl ?_
    refine x_last S hW dL_lengthOf_9 (fun H locs o2 ho hW => ?_)
    refine lv_goto hx hb dL_lengthOf_10 (tgt := 17) rfl ?_
    refine lv_iconst (v := 0) hx hb dL_lengthOf_17 (by decide) ?_
    exact x_Xreti S hr hlk hW (Nat.le_of_ble_eq_true rfl) (Nat.le_of_ble_eq_true rfl) dL_lengthOf_18 ⟨by rw [hk]; rfl, N, F, _, rfl, hF1, Or.inl ⟨hk, ⟨_, hV, ho⟩, hR1⟩⟩
abbrev rmL_isRing : Room := { frames := 8, cells := 1, slots := 6, locals := 125 }
set_option maxHeartbeats 4000000 in
theorem c_L_isRing (l : Launch) (E : xE) (n : Nat → Int32) (f : Nat → Nat → Int32) (o : Nat → Int64) (hfl : l.stackTraces = false) (Γ : xG) (hG : xGood Γ) (hR : xRepC Γ n f) (a : Int32) : xLi l yL_isRing wsL_isRing rmL_isRing E [.ref (E.2.2.2 0), .int a, .ref (E.2.2.2 58)] (n, f, o) 1 (xLp (ocPort Γ a) (fun r => r = xif (∃ K, xStop (gCb Γ) (gOp Γ) true (xNa a) K ∧ 0 < K ∧ xw (gCb Γ) (gOp Γ) true (xNa a) K = a) 1 0) Γ Γ n f) := by
  refine x_startL RL (by decide) rfl rfl (Nat.le_of_ble_eq_true rfl) ?_
  intro p e s m args below meth c ls S hr hlk htab hTh hNc hW hl
  have hx := S.1
  have hb := S.2.1
  have hl : lv_has ls 4 [(0, .ref (E.2.2.2 0)), (1, .int a), (2, .ref (E.2.2.2 58))] := hl
  have wk21 : Cond.classLink RL 21 "java/lang/IndexOutOfBoundsException" ∈ wsL_isRing := by decide +kernel
  refine lv_aload_n hx hb dL_isRing_0 rfl (lv_at hl 2 rfl) ?_
  refine lv_iconst (v := 0) hx hb dL_isRing_1 (by decide) ?_
  refine lv_aload_n hx hb dL_isRing_2 rfl (lv_at hl 0 rfl) ?_
  refine lv_iload_n hx hb dL_isRing_3 rfl (lv_at hl 1 rfl) ?_
  refine x_XVc (rest := [.int 0, .ref (E.2.2.2 58)]) S (c_X3_isRing l E n f o hfl Γ hG hR a) (cwV 1 S.2.2.2.2 gL_isRing_X3_isRing rfl rfl rfl (by decide +kernel) ⟨Nat.le_of_ble_eq_true rfl, Nat.le_of_ble_eq_true rfl⟩) hW hTh 0 (xw_0 E _) rfl rfl rfl hl.1 (Nat.le_of_ble_eq_true rfl) dL_isRing_4 ⟨Nat.le_of_ble_eq_true rfl, Nat.le_of_ble_eq_true rfl⟩ (fun X ce q9 σ9 H1 locs1 hq hW hce hcv hcl => ?_) (fun r5 σ5 H locs hq hW => ?_)
  · obtain ⟨hX, N, F, rfl, hR1, hF1⟩ := hq
    obtain ⟨hk, rfl⟩ := hX
    refine x_catch S hTh [] ⟨0, 16, 19, 21⟩ [] (htab.trans rfl) (fun z hz => by cases hz) (by decide) (by decide) wk21 (Or.inl rfl) hce hcv hcl ?_
    refine lv_astore_n hx hb dL_isRing_19 rfl hl (Nat.le_of_ble_eq_true rfl) rfl (fun ls hl => ?_)
    refine lv_iconst (v := 1) hx hb dL_isRing_20 (by decide) ?_
    exact x_Xreti S hr hlk hW (Nat.le_of_ble_eq_true rfl) (Nat.le_of_ble_eq_true rfl) dL_isRing_21 ⟨by rw [hk]; rfl, N, F, _, rfl, hF1, Or.inr ⟨by rw [hk]; decide, hR1⟩⟩
  · obtain ⟨hk, hV, N, F, rfl, hR1, hF1⟩ := hq
    have h01 : r5 = 0 ∨ r5 = 1 := (xif01 hV)
    refine lv_if_eq hx hb dL_isRing_7 (tgt := 14) rfl (fun h0 => ?_) (fun h1 => ?_)
    · refine lv_lconst (v := 0) hx hb dL_isRing_14 rfl ?_
      refine x_last S hW dL_isRing_15 (fun H locs o2 ho hW => ?_)
      refine lv_goto hx hb dL_isRing_16 (tgt := 22) rfl ?_
      refine lv_iconst (v := 0) hx hb dL_isRing_22 (by decide) ?_
      exact x_Xreti S hr hlk hW (Nat.le_of_ble_eq_true rfl) (Nat.le_of_ble_eq_true rfl) dL_isRing_23 ⟨by rw [hk]; rfl, N, F, _, rfl, hF1, Or.inl ⟨hk, ⟨_, hV, by rw [ho, h0]; rfl⟩, hR1⟩⟩
    · have h1 : r5 = 1 := h01.resolve_left h1
      refine lv_lconst (v := 1) hx hb dL_isRing_10 rfl ?_
      refine lv_goto hx hb dL_isRing_11 (tgt := 15) rfl ?_
      refine x_last S hW dL_isRing_15 (fun H locs o2 ho hW => ?_)
      refine lv_goto hx hb dL_isRing_16 (tgt := 22) rfl ?_
      refine lv_iconst (v := 0) hx hb dL_isRing_22 (by decide) ?_
      exact x_Xreti S hr hlk hW (Nat.le_of_ble_eq_true rfl) (Nat.le_of_ble_eq_true rfl) dL_isRing_23 ⟨by rw [hk]; rfl, N, F, _, rfl, hF1, Or.inl ⟨hk, ⟨_, hV, by rw [ho, h1]; rfl⟩, hR1⟩⟩
abbrev rmL_areJoined : Room := { frames := 8, cells := 2, slots := 12, locals := 125 }
set_option maxHeartbeats 4000000 in
theorem c_L_areJoined (l : Launch) (E : xE) (n : Nat → Int32) (f : Nat → Nat → Int32) (o : Nat → Int64) (hfl : l.stackTraces = false) (Γ : xG) (hG : xGood Γ) (hR : xRepC Γ n f) (a a2 : Int32) : xLi l yL_areJoined wsL_areJoined rmL_areJoined E [.ref (E.2.2.2 0), .int a, .int a2, .ref (E.2.2.2 58)] (n, f, o) 2 (xLp (oc2 Γ a a2) (fun r => r = xif (xR (gNo Γ) (gCb Γ) (gOp Γ) (xNa a) (xNa a2)) 1 0) Γ Γ n f) := by
  refine x_startL RL (by decide) rfl rfl (Nat.le_of_ble_eq_true rfl) ?_
  intro p e s m args below meth c ls S hr hlk htab hTh hNc hW hl
  have hx := S.1
  have hb := S.2.1
  have hl : lv_has ls 5 [(0, .ref (E.2.2.2 0)), (1, .int a), (2, .int a2), (3, .ref (E.2.2.2 58))] := hl
  have wk21 : Cond.classLink RL 21 "java/lang/IndexOutOfBoundsException" ∈ wsL_areJoined := by decide +kernel
  refine lv_aload_n hx hb dL_areJoined_0 rfl (lv_at hl 3 rfl) ?_
  refine lv_iconst (v := 0) hx hb dL_areJoined_1 (by decide) ?_
  refine lv_aload_n hx hb dL_areJoined_2 rfl (lv_at hl 0 rfl) ?_
  refine lv_iload_n hx hb dL_areJoined_3 rfl (lv_at hl 1 rfl) ?_
  refine lv_iload_n hx hb dL_areJoined_4 rfl (lv_at hl 2 rfl) ?_
  refine x_XVc (rest := [.int 0, .ref (E.2.2.2 58)]) S (c_X3_areJoined l E n f o hfl Γ hG hR a a2) (cwV 2 S.2.2.2.2 gL_areJoined_X3_areJoined rfl rfl rfl (by decide +kernel) ⟨Nat.le_of_ble_eq_true rfl, Nat.le_of_ble_eq_true rfl⟩) hW hTh 0 (xw_0 E _) rfl rfl rfl hl.1 (Nat.le_of_ble_eq_true rfl) dL_areJoined_5 ⟨Nat.le_of_ble_eq_true rfl, Nat.le_of_ble_eq_true rfl⟩ (fun X ce q9 σ9 H1 locs1 hq hW hce hcv hcl => ?_) (fun r5 σ5 H locs hq hW => ?_)
  · obtain ⟨hX, N, F, rfl, hR1, hF1⟩ := hq
    obtain ⟨hk, rfl⟩ := hX
    refine x_catch S hTh [] ⟨0, 17, 20, 21⟩ [] (htab.trans rfl) (fun z hz => by cases hz) (by decide) (by decide) wk21 (Or.inl rfl) hce hcv hcl ?_
    refine lv_astore hx hb dL_areJoined_20 hl (Nat.le_of_ble_eq_true rfl) rfl (fun ls hl => ?_)
    refine lv_iconst (v := 1) hx hb dL_areJoined_22 (by decide) ?_
    exact x_Xreti S hr hlk hW (Nat.le_of_ble_eq_true rfl) (Nat.le_of_ble_eq_true rfl) dL_areJoined_23 ⟨by rw [hk]; rfl, N, F, _, rfl, hF1, Or.inr ⟨by rw [hk]; decide, hR1⟩⟩
  · obtain ⟨hk, hV, N, F, rfl, hR1, hF1⟩ := hq
    have h01 : r5 = 0 ∨ r5 = 1 := (xif01 hV)
    refine lv_if_eq hx hb dL_areJoined_8 (tgt := 15) rfl (fun h0 => ?_) (fun h1 => ?_)
    · refine lv_lconst (v := 0) hx hb dL_areJoined_15 rfl ?_
      refine x_last S hW dL_areJoined_16 (fun H locs o2 ho hW => ?_)
      refine lv_goto hx hb dL_areJoined_17 (tgt := 24) rfl ?_
      refine lv_iconst (v := 0) hx hb dL_areJoined_24 (by decide) ?_
      exact x_Xreti S hr hlk hW (Nat.le_of_ble_eq_true rfl) (Nat.le_of_ble_eq_true rfl) dL_areJoined_25 ⟨by rw [hk]; rfl, N, F, _, rfl, hF1, Or.inl ⟨hk, ⟨_, hV, by rw [ho, h0]; rfl⟩, hR1⟩⟩
    · have h1 : r5 = 1 := h01.resolve_left h1
      refine lv_lconst (v := 1) hx hb dL_areJoined_11 rfl ?_
      refine lv_goto hx hb dL_areJoined_12 (tgt := 16) rfl ?_
      refine x_last S hW dL_areJoined_16 (fun H locs o2 ho hW => ?_)
      refine lv_goto hx hb dL_areJoined_17 (tgt := 24) rfl ?_
      refine lv_iconst (v := 0) hx hb dL_areJoined_24 (by decide) ?_
      exact x_Xreti S hr hlk hW (Nat.le_of_ble_eq_true rfl) (Nat.le_of_ble_eq_true rfl) dL_areJoined_25 ⟨by rw [hk]; rfl, N, F, _, rfl, hF1, Or.inl ⟨hk, ⟨_, hV, by rw [ho, h1]; rfl⟩, hR1⟩⟩
abbrev rmL_areJoinedBySearch : Room := { frames := 8, cells := 2, slots := 12, locals := 125 }
set_option maxHeartbeats 4000000 in
theorem c_L_areJoinedBySearch (l : Launch) (E : xE) (n : Nat → Int32) (f : Nat → Nat → Int32) (o : Nat → Int64) (hfl : l.stackTraces = false) (Γ : xG) (hG : xGood Γ) (hR : xRepC Γ n f) (a a2 : Int32) : xLi l yL_areJoinedBySearch wsL_areJoinedBySearch rmL_areJoinedBySearch E [.ref (E.2.2.2 0), .int a, .int a2, .ref (E.2.2.2 58)] (n, f, o) 2 (xLp (oc2 Γ a a2) (fun r => r = xif (xR (gNo Γ) (gCb Γ) (gOp Γ) (xNa a) (xNa a2)) 1 0) Γ Γ n f) := by
  refine x_startL RL (by decide) rfl rfl (Nat.le_of_ble_eq_true rfl) ?_
  intro p e s m args below meth c ls S hr hlk htab hTh hNc hW hl
  have hx := S.1
  have hb := S.2.1
  have hl : lv_has ls 5 [(0, .ref (E.2.2.2 0)), (1, .int a), (2, .int a2), (3, .ref (E.2.2.2 58))] := hl
  have wk21 : Cond.classLink RL 21 "java/lang/IndexOutOfBoundsException" ∈ wsL_areJoinedBySearch := by decide +kernel
  refine lv_aload_n hx hb dL_areJoinedBySearch_0 rfl (lv_at hl 3 rfl) ?_
  refine lv_iconst (v := 0) hx hb dL_areJoinedBySearch_1 (by decide) ?_
  refine lv_aload_n hx hb dL_areJoinedBySearch_2 rfl (lv_at hl 0 rfl) ?_
  refine lv_iload_n hx hb dL_areJoinedBySearch_3 rfl (lv_at hl 1 rfl) ?_
  refine lv_iload_n hx hb dL_areJoinedBySearch_4 rfl (lv_at hl 2 rfl) ?_
  refine x_XVc (rest := [.int 0, .ref (E.2.2.2 58)]) S (c_X3_areJoinedBySearch l E n f o hfl Γ hG hR a a2) (cwV 2 S.2.2.2.2 gL_areJoinedBySearch_X3_areJoinedBySearch rfl rfl rfl (by decide +kernel) ⟨Nat.le_of_ble_eq_true rfl, Nat.le_of_ble_eq_true rfl⟩) hW hTh 0 (xw_0 E _) rfl rfl rfl hl.1 (Nat.le_of_ble_eq_true rfl) dL_areJoinedBySearch_5 ⟨Nat.le_of_ble_eq_true rfl, Nat.le_of_ble_eq_true rfl⟩ (fun X ce q9 σ9 H1 locs1 hq hW hce hcv hcl => ?_) (fun r5 σ5 H locs hq hW => ?_)
  · obtain ⟨hX, N, F, rfl, hR1, hF1⟩ := hq
    obtain ⟨hk, rfl⟩ := hX
    refine x_catch S hTh [] ⟨0, 17, 20, 21⟩ [] (htab.trans rfl) (fun z hz => by cases hz) (by decide) (by decide) wk21 (Or.inl rfl) hce hcv hcl ?_
    refine lv_astore hx hb dL_areJoinedBySearch_20 hl (Nat.le_of_ble_eq_true rfl) rfl (fun ls hl => ?_)
    refine lv_iconst (v := 1) hx hb dL_areJoinedBySearch_22 (by decide) ?_
    exact x_Xreti S hr hlk hW (Nat.le_of_ble_eq_true rfl) (Nat.le_of_ble_eq_true rfl) dL_areJoinedBySearch_23 ⟨by rw [hk]; rfl, N, F, _, rfl, hF1, Or.inr ⟨by rw [hk]; decide, hR1⟩⟩
  · obtain ⟨hk, hV, N, F, rfl, hR1, hF1⟩ := hq
    have h01 : r5 = 0 ∨ r5 = 1 := (xif01 hV)
    refine lv_if_eq hx hb dL_areJoinedBySearch_8 (tgt := 15) rfl (fun h0 => ?_) (fun h1 => ?_)
    · refine lv_lconst (v := 0) hx hb dL_areJoinedBySearch_15 rfl ?_
      refine x_last S hW dL_areJoinedBySearch_16 (fun H locs o2 ho hW => ?_)
      refine lv_goto hx hb dL_areJoinedBySearch_17 (tgt := 24) rfl ?_
      refine lv_iconst (v := 0) hx hb dL_areJoinedBySearch_24 (by decide) ?_
      exact x_Xreti S hr hlk hW (Nat.le_of_ble_eq_true rfl) (Nat.le_of_ble_eq_true rfl) dL_areJoinedBySearch_25 ⟨by rw [hk]; rfl, N, F, _, rfl, hF1, Or.inl ⟨hk, ⟨_, hV, by rw [ho, h0]; rfl⟩, hR1⟩⟩
    · have h1 : r5 = 1 := h01.resolve_left h1
      refine lv_lconst (v := 1) hx hb dL_areJoinedBySearch_11 rfl ?_
      refine lv_goto hx hb dL_areJoinedBySearch_12 (tgt := 16) rfl ?_
      refine x_last S hW dL_areJoinedBySearch_16 (fun H locs o2 ho hW => ?_)
      refine lv_goto hx hb dL_areJoinedBySearch_17 (tgt := 24) rfl ?_
      refine lv_iconst (v := 0) hx hb dL_areJoinedBySearch_24 (by decide) ?_
      exact x_Xreti S hr hlk hW (Nat.le_of_ble_eq_true rfl) (Nat.le_of_ble_eq_true rfl) dL_areJoinedBySearch_25 ⟨by rw [hk]; rfl, N, F, _, rfl, hF1, Or.inl ⟨hk, ⟨_, hV, by rw [ho, h1]; rfl⟩, hR1⟩⟩
abbrev rmL_freePort : Room := { frames := 8, cells := 1, slots := 6, locals := 127 }
set_option maxHeartbeats 4000000 in
theorem c_L_freePort (l : Launch) (E : xE) (n : Nat → Int32) (f : Nat → Nat → Int32) (o : Nat → Int64) (hfl : l.stackTraces = false) (Γ : xG) (hG : xGood Γ) (hR : xRepC Γ n f) (a : Int32) : xLi l yL_freePort wsL_freePort rmL_freePort E [.ref (E.2.2.2 0), .int a, .ref (E.2.2.2 58)] (n, f, o) 1 (xLp (ocPanel Γ a) (fun r => xFF (fun q => gCb Γ q = -1 ∧ gSt Γ q = -1) (gFs Γ (xNa a)) (gFs Γ (xNa a + 1) - gFs Γ (xNa a)) r) Γ Γ n f) := by
  refine x_startL RL (by decide) rfl rfl (Nat.le_of_ble_eq_true rfl) ?_
  intro p e s m args below meth c ls S hr hlk htab hTh hNc hW hl
  have hx := S.1
  have hb := S.2.1
  have hl : lv_has ls 4 [(0, .ref (E.2.2.2 0)), (1, .int a), (2, .ref (E.2.2.2 58))] := hl
  have wk21 : Cond.classLink RL 21 "java/lang/IndexOutOfBoundsException" ∈ wsL_freePort := by decide +kernel
  refine lv_aload_n hx hb dL_freePort_0 rfl (lv_at hl 2 rfl) ?_
  refine lv_iconst (v := 0) hx hb dL_freePort_1 (by decide) ?_
  refine lv_aload_n hx hb dL_freePort_2 rfl (lv_at hl 0 rfl) ?_
  refine lv_iload_n hx hb dL_freePort_3 rfl (lv_at hl 1 rfl) ?_
  refine x_XVc (rest := [.int 0, .ref (E.2.2.2 58)]) S (c_X3_freePort l E n f o hfl Γ hG hR a) (cwV 1 S.2.2.2.2 gL_freePort_X3_freePort rfl rfl rfl (by decide +kernel) ⟨Nat.le_of_ble_eq_true rfl, Nat.le_of_ble_eq_true rfl⟩) hW hTh 0 (xw_0 E _) rfl rfl rfl hl.1 (Nat.le_of_ble_eq_true rfl) dL_freePort_4 ⟨Nat.le_of_ble_eq_true rfl, Nat.le_of_ble_eq_true rfl⟩ (fun X ce q9 σ9 H1 locs1 hq hW hce hcv hcl => ?_) (fun r5 σ5 H locs hq hW => ?_)
  · obtain ⟨hX, N, F, rfl, hR1, hF1⟩ := hq
    obtain ⟨hk, rfl⟩ := hX
    refine x_catch S hTh [] ⟨0, 9, 12, 21⟩ [] (htab.trans rfl) (fun z hz => by cases hz) (by decide) (by decide) wk21 (Or.inl rfl) hce hcv hcl ?_
    refine lv_astore_n hx hb dL_freePort_12 rfl hl (Nat.le_of_ble_eq_true rfl) rfl (fun ls hl => ?_)
    refine lv_iconst (v := 1) hx hb dL_freePort_13 (by decide) ?_
    exact x_Xreti S hr hlk hW (Nat.le_of_ble_eq_true rfl) (Nat.le_of_ble_eq_true rfl) dL_freePort_14 ⟨by rw [hk]; rfl, N, F, _, rfl, hF1, Or.inr ⟨by rw [hk]; decide, hR1⟩⟩
  · obtain ⟨hk, hV, N, F, rfl, hR1, hF1⟩ := hq
    refine lv_i2l hx hb dL_freePort_7 rfl ?_
    refine x_last S hW dL_freePort_8 (fun H locs o2 ho hW => ?_)
    refine lv_goto hx hb dL_freePort_9 (tgt := 15) rfl ?_
    refine lv_iconst (v := 0) hx hb dL_freePort_15 (by decide) ?_
    exact x_Xreti S hr hlk hW (Nat.le_of_ble_eq_true rfl) (Nat.le_of_ble_eq_true rfl) dL_freePort_16 ⟨by rw [hk]; rfl, N, F, _, rfl, hF1, Or.inl ⟨hk, ⟨_, hV, ho⟩, hR1⟩⟩
abbrev rmL_freeStrand : Room := { frames := 8, cells := 2, slots := 12, locals := 129 }
set_option maxHeartbeats 4000000 in
theorem c_L_freeStrand (l : Launch) (E : xE) (n : Nat → Int32) (f : Nat → Nat → Int32) (o : Nat → Int64) (hfl : l.stackTraces = false) (Γ : xG) (hG : xGood Γ) (hR : xRepC Γ n f) (a a2 : Int32) : xLi l yL_freeStrand wsL_freeStrand rmL_freeStrand E [.ref (E.2.2.2 0), .int a, .int a2, .ref (E.2.2.2 58)] (n, f, o) 2 (xLp (oc2p Γ a a2) (fun r => xFF (fun q => ∃ z, z < gNo Γ ∧ gOp Γ q = nI z ∧ gPn Γ z = xNa a2 ∧ gCb Γ q = -1 ∧ gCb Γ z = -1) (gFs Γ (xNa a)) (gFs Γ (xNa a + 1) - gFs Γ (xNa a)) r) Γ Γ n f) := by
  refine x_startL RL (by decide) rfl rfl (Nat.le_of_ble_eq_true rfl) ?_
  intro p e s m args below meth c ls S hr hlk htab hTh hNc hW hl
  have hx := S.1
  have hb := S.2.1
  have hl : lv_has ls 5 [(0, .ref (E.2.2.2 0)), (1, .int a), (2, .int a2), (3, .ref (E.2.2.2 58))] := hl
  have wk21 : Cond.classLink RL 21 "java/lang/IndexOutOfBoundsException" ∈ wsL_freeStrand := by decide +kernel
  refine lv_aload_n hx hb dL_freeStrand_0 rfl (lv_at hl 3 rfl) ?_
  refine lv_iconst (v := 0) hx hb dL_freeStrand_1 (by decide) ?_
  refine lv_aload_n hx hb dL_freeStrand_2 rfl (lv_at hl 0 rfl) ?_
  refine lv_iload_n hx hb dL_freeStrand_3 rfl (lv_at hl 1 rfl) ?_
  refine lv_iload_n hx hb dL_freeStrand_4 rfl (lv_at hl 2 rfl) ?_
  refine x_XVc (rest := [.int 0, .ref (E.2.2.2 58)]) S (c_X3_freeStrand l E n f o hfl Γ hG hR a a2) (cwV 2 S.2.2.2.2 gL_freeStrand_X3_freeStrand rfl rfl rfl (by decide +kernel) ⟨Nat.le_of_ble_eq_true rfl, Nat.le_of_ble_eq_true rfl⟩) hW hTh 0 (xw_0 E _) rfl rfl rfl hl.1 (Nat.le_of_ble_eq_true rfl) dL_freeStrand_5 ⟨Nat.le_of_ble_eq_true rfl, Nat.le_of_ble_eq_true rfl⟩ (fun X ce q9 σ9 H1 locs1 hq hW hce hcv hcl => ?_) (fun r5 σ5 H locs hq hW => ?_)
  · obtain ⟨hX, N, F, rfl, hR1, hF1⟩ := hq
    obtain ⟨hk, rfl⟩ := hX
    refine x_catch S hTh [] ⟨0, 10, 13, 21⟩ [] (htab.trans rfl) (fun z hz => by cases hz) (by decide) (by decide) wk21 (Or.inl rfl) hce hcv hcl ?_
    refine lv_astore hx hb dL_freeStrand_13 hl (Nat.le_of_ble_eq_true rfl) rfl (fun ls hl => ?_)
    refine lv_iconst (v := 1) hx hb dL_freeStrand_15 (by decide) ?_
    exact x_Xreti S hr hlk hW (Nat.le_of_ble_eq_true rfl) (Nat.le_of_ble_eq_true rfl) dL_freeStrand_16 ⟨by rw [hk]; rfl, N, F, _, rfl, hF1, Or.inr ⟨by rw [hk]; decide, hR1⟩⟩
  · obtain ⟨hk, hV, N, F, rfl, hR1, hF1⟩ := hq
    refine lv_i2l hx hb dL_freeStrand_8 rfl ?_
    refine x_last S hW dL_freeStrand_9 (fun H locs o2 ho hW => ?_)
    refine lv_goto hx hb dL_freeStrand_10 (tgt := 17) rfl ?_
    refine lv_iconst (v := 0) hx hb dL_freeStrand_17 (by decide) ?_
    exact x_Xreti S hr hlk hW (Nat.le_of_ble_eq_true rfl) (Nat.le_of_ble_eq_true rfl) dL_freeStrand_18 ⟨by rw [hk]; rfl, N, F, _, rfl, hF1, Or.inl ⟨hk, ⟨_, hV, ho⟩, hR1⟩⟩
abbrev rmL_used : Room := { frames := 8, cells := 1, slots := 6, locals := 128 }
set_option maxHeartbeats 4000000 in
theorem c_L_used (l : Launch) (E : xE) (n : Nat → Int32) (f : Nat → Nat → Int32) (o : Nat → Int64) (hfl : l.stackTraces = false) (Γ : xG) (hG : xGood Γ) (hR : xRepC Γ n f) (a : Int32) : xLi l yL_used wsL_used rmL_used E [.ref (E.2.2.2 0), .int a, .ref (E.2.2.2 58)] (n, f, o) 1 (xLp (ocTrk Γ a) (fun r => r = nI (xcnt (fun i => gCb Γ (gTa Γ (xNa a) + i) ≠ -1 ∧ gCb Γ (gTb Γ (xNa a) + i) ≠ -1) (gTc Γ (xNa a)))) Γ Γ n f) := by
  refine x_startL RL (by decide) rfl rfl (Nat.le_of_ble_eq_true rfl) ?_
  intro p e s m args below meth c ls S hr hlk htab hTh hNc hW hl
  have hx := S.1
  have hb := S.2.1
  have hl : lv_has ls 4 [(0, .ref (E.2.2.2 0)), (1, .int a), (2, .ref (E.2.2.2 58))] := hl
  have wk21 : Cond.classLink RL 21 "java/lang/IndexOutOfBoundsException" ∈ wsL_used := by decide +kernel
  refine lv_aload_n hx hb dL_used_0 rfl (lv_at hl 2 rfl) ?_
  refine lv_iconst (v := 0) hx hb dL_used_1 (by decide) ?_
  refine lv_aload_n hx hb dL_used_2 rfl (lv_at hl 0 rfl) ?_
  refine lv_iload_n hx hb dL_used_3 rfl (lv_at hl 1 rfl) ?_
  refine x_XVc (rest := [.int 0, .ref (E.2.2.2 58)]) S (c_X3_used l E n f o hfl Γ hG hR a) (cwV 1 S.2.2.2.2 gL_used_X3_used rfl rfl rfl (by decide +kernel) ⟨Nat.le_of_ble_eq_true rfl, Nat.le_of_ble_eq_true rfl⟩) hW hTh 0 (xw_0 E _) rfl rfl rfl hl.1 (Nat.le_of_ble_eq_true rfl) dL_used_4 ⟨Nat.le_of_ble_eq_true rfl, Nat.le_of_ble_eq_true rfl⟩ (fun X ce q9 σ9 H1 locs1 hq hW hce hcv hcl => ?_) (fun r5 σ5 H locs hq hW => ?_)
  · obtain ⟨hX, N, F, rfl, hR1, hF1⟩ := hq
    obtain ⟨hk, rfl⟩ := hX
    refine x_catch S hTh [] ⟨0, 9, 12, 21⟩ [] (htab.trans rfl) (fun z hz => by cases hz) (by decide) (by decide) wk21 (Or.inl rfl) hce hcv hcl ?_
    refine lv_astore_n hx hb dL_used_12 rfl hl (Nat.le_of_ble_eq_true rfl) rfl (fun ls hl => ?_)
    refine lv_iconst (v := 1) hx hb dL_used_13 (by decide) ?_
    exact x_Xreti S hr hlk hW (Nat.le_of_ble_eq_true rfl) (Nat.le_of_ble_eq_true rfl) dL_used_14 ⟨by rw [hk]; rfl, N, F, _, rfl, hF1, Or.inr ⟨by rw [hk]; decide, hR1⟩⟩
  · obtain ⟨hk, hV, N, F, rfl, hR1, hF1⟩ := hq
    refine lv_i2l hx hb dL_used_7 rfl ?_
    refine x_last S hW dL_used_8 (fun H locs o2 ho hW => ?_)
    refine lv_goto hx hb dL_used_9 (tgt := 15) rfl ?_
    refine lv_iconst (v := 0) hx hb dL_used_15 (by decide) ?_
    exact x_Xreti S hr hlk hW (Nat.le_of_ble_eq_true rfl) (Nat.le_of_ble_eq_true rfl) dL_used_16 ⟨by rw [hk]; rfl, N, F, _, rfl, hF1, Or.inl ⟨hk, ⟨_, hV, ho⟩, hR1⟩⟩
