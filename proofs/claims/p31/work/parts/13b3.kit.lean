section YST
variable {p : Program} {l : Launch} {e : Env} {R : Room} {s : State} {m : MethodId} {args : Array Value} {below : List Frame} {meth : Method} {c : Code} {H : Heap} {locs : List Loc} {cells slots : Nat} {Q : State → Prop}
variable {cc : ByteArray} {pc nL : Nat} {ls : Array Slot} {rest st0 : List Value} {E : xE} {Γ Γ' Γ1 Γ2 : xG} {X : xF} {Ts : List Cond} {own : String}
variable {y : MethodName} {bytes : ByteArray} {maxL index n K : Nat} {ret : Option FieldType} {hh : List (Nat × Nat × Nat × Nat)} {ws : List Cond} {rm : Room} {As : List Value}
/-- a call of the class -/
theorem y_V {V : Int32 → Prop} (S : CallFix p m c cc nL s args Ts own) (hM : ∀ (N : Nat → Int32) (F : Nat → Nat → Int32), xRepC Γ N F → xCi l y ws rm E (.ref (E.2.2.2 0) :: As) (N, F, xo0) (fun r σ' => V r ∧ xOKC Γ' N F xo0 σ')) (cw : CallW R s args own RX3 index y bytes maxL ret ws rm 0 0 n) (hW : bSt E Γ s s.heap H locs)
    (hst : st0 = As.reverse ++ .ref (E.2.2.2 0) :: rest) (hn : As.length = n) (hl : ls.size = nL) (hrest : (rest.map fun v => v.category).sum ≤ 8) (hdg : decode cc pc = .ok (.invokevirtual index, 3)) (hf : cells ≤ R.cells ∧ slots ≤ R.slots)
    (kk : ∀ (r : Int32) (H1 : Heap) (locs1 : List Loc), V r → bSt E Γ' s s.heap H1 locs1 → W p l e R s m args below meth c H1 locs1 cells slots Q (F0 m (pc + 3) ls (.int r :: rest))) : W p l e R s m args below meth c H locs cells slots Q (F0 m pc ls st0) := by
  obtain ⟨N, F, hR, hW⟩ := hW
  refine x_Vi S (hM N F hR) cw hW 0 (xw_0 E _) rfl hst hn hl hrest hdg hf (fun r σ' H1 locs1 hp hW => ?_)
  obtain ⟨hv, N', F', rfl, hR', -⟩ := hp
  exact kk r H1 locs1 hv ⟨N', F', hR', hW⟩
theorem p_V {V : Int32 → Prop} (S : CallFix p m c cc nL s args Ts own) (hM : ∀ (E : xE) (N : Nat → Int32) (F : Nat → Nat → Int32), xRepC Γ1 N F → xCi l y ws rm E (.ref (E.2.2.2 0) :: As) (N, F, xo0) (fun r σ' => V r ∧ xOKC Γ' N F xo0 σ')) (cw : CallW R s args own RX3 index y bytes maxL ret ws rm 0 0 n) (hW : pSt X Γ1 Γ2 s s.heap H locs)
    (hst : st0 = As.reverse ++ .ref (X.2.2.2.1 0) :: rest) (hn : As.length = n) (hl : ls.size = nL) (hrest : (rest.map fun v => v.category).sum ≤ 8) (hdg : decode cc pc = .ok (.invokevirtual index, 3)) (hf : cells ≤ R.cells ∧ slots ≤ R.slots)
    (kk : ∀ (r : Int32) (H1 : Heap) (locs1 : List Loc), V r → pSt X Γ' Γ2 s s.heap H1 locs1 → W p l e R s m args below meth c H1 locs1 cells slots Q (F0 m (pc + 3) ls (.int r :: rest))) : W p l e R s m args below meth c H locs cells slots Q (F0 m pc ls st0) := by
  obtain ⟨N, F, hR, hW⟩ := hW
  exact y_V (E := eO X N F) S (hM (eO X N F)) cw hW hst hn hl hrest hdg hf (fun r H1 locs1 hv hW => kk r H1 locs1 hv ⟨N, F, hR, hW⟩)
theorem p_Vq {V : Int32 → Prop} (S : CallFix p m c cc nL s args Ts own) (hM : ∀ (E : xE) (N : Nat → Int32) (F : Nat → Nat → Int32), xRepC Γ2 N F → xCi l y ws rm E (.ref (E.2.2.2 0) :: As) (N, F, xo0) (fun r σ' => V r ∧ xOKC Γ' N F xo0 σ')) (cw : CallW R s args own RX3 index y bytes maxL ret ws rm 0 0 n) (hW : pSt X Γ1 Γ2 s s.heap H locs)
    (hst : st0 = As.reverse ++ .ref (X.2.2.2.2 0) :: rest) (hn : As.length = n) (hl : ls.size = nL) (hrest : (rest.map fun v => v.category).sum ≤ 8) (hdg : decode cc pc = .ok (.invokevirtual index, 3)) (hf : cells ≤ R.cells ∧ slots ≤ R.slots)
    (kk : ∀ (r : Int32) (H1 : Heap) (locs1 : List Loc), V r → pSt X Γ1 Γ' s s.heap H1 locs1 → W p l e R s m args below meth c H1 locs1 cells slots Q (F0 m (pc + 3) ls (.int r :: rest))) : W p l e R s m args below meth c H locs cells slots Q (F0 m pc ls st0) :=
  p_V (X := sw X) S hM cw hW.sw hst hn hl hrest hdg hf (fun r H1 locs1 hv hW => kk r H1 locs1 hv hW.sw)
/-- a call of a method of the law over one book -/
theorem y_S {post : Int32 → xG → Prop} (S : CallFix p m c cc nL s args Ts own) (hM : gL l y ws rm E As Γ K post) (cw : CallB R s args own index y bytes maxL ret ws rm K (6 * K) n ∧ (Cond.static y).before args s = true) (hW : bSt E Γ s s.heap H locs) (hTh : xTh E s) (hNc : xNc s)
    (hst : st0 = As.reverse ++ rest) (hn : As.length = n) (hl : ls.size = nL) (hrest : (rest.map fun v => v.category).sum ≤ 8) (hdg : decode cc pc = .ok (.invokestatic index, 3)) (hf : cells + K ≤ R.cells ∧ slots + 6 * K ≤ R.slots)
    (kk : ∀ (r : Int32) (Γ' : xG) (H1 : Heap) (locs1 : List Loc), post r Γ' → bSt E Γ' s s.heap H1 locs1 → W p l e R s m args below meth c H1 locs1 (cells + K) (slots + 6 * K) Q (F0 m (pc + 3) ls (.int r :: rest))) : W p l e R s m args below meth c H locs cells slots Q (F0 m pc ls st0) := by
  refine vx_calli (vx_runS (As := As) (rest := rest) S hM cw ⟨fun a U g mk q => ⟨q.1, q.2.1.blind a g mk, q.2.2.1.blind a g mk, xNc.moved (u := U) (U := U.calling g mk a) (Vm.Alike.refl U.vm) q.2.2.2⟩, fun U hU hWm => ⟨rfl, hW.wd hU hWm.alike, hTh.kept hW.S hU hWm, hNc.moved hWm.alike⟩⟩ rfl hn hl hst (lv_room hrest) hdg hf) hW.S (fun _ _ h => h) (fun _ h => h) (fun _ _ h => h) (fun X ce q9 u t H1 locs1 ht hvm hpx hB hz1 hk1 hS hce hcv hcl => ?_) (fun r u t H1 locs1 ht hvm hp hB hz1 hk1 hS => ?_)
  · exact hB.elim
  · exact kk r u H1 locs1 hp (bSt.of (u := t) ht hvm hB hS)
theorem y_SX {post : Int32 → xG → Prop} (S : CallFix p m c cc nL s args Ts own) (hM : gL l y ws rm E As Γ K post) (cw : vx_CSW R s args own index y bytes maxL ret hh ws rm K (6 * K) n) (hW : bSt E Γ s s.heap H locs) (hTh : xTh E s) (hNc : xNc s)
    (hst : st0 = As.reverse ++ rest) (hn : As.length = n) (hl : ls.size = nL) (hrest : (rest.map fun v => v.category).sum ≤ 8) (hdg : decode cc pc = .ok (.invokestatic index, 3)) (hf : cells + K ≤ R.cells ∧ slots + 6 * K ≤ R.slots)
    (kk : ∀ (r : Int32) (Γ' : xG) (H1 : Heap) (locs1 : List Loc), post r Γ' → bSt E Γ' s s.heap H1 locs1 → W p l e R s m args below meth c H1 locs1 (cells + K) (slots + 6 * K) Q (F0 m (pc + 3) ls (.int r :: rest))) : W p l e R s m args below meth c H locs cells slots Q (F0 m pc ls st0) := by
  refine vx_calli (vx_runSX (As := As) (rest := rest) S hM cw ⟨fun a U g mk q => ⟨q.1, q.2.1.blind a g mk, q.2.2.1.blind a g mk, xNc.moved (u := U) (U := U.calling g mk a) (Vm.Alike.refl U.vm) q.2.2.2⟩, fun U hU hWm => ⟨rfl, hW.wd hU hWm.alike, hTh.kept hW.S hU hWm, hNc.moved hWm.alike⟩⟩ rfl hn hl hst (lv_room hrest) hdg hf) hW.S (fun _ _ h => h) (fun _ h => h) (fun _ _ h => h) (fun X ce q9 u t H1 locs1 ht hvm hpx hB hz1 hk1 hS hce hcv hcl => ?_) (fun r u t H1 locs1 ht hvm hp hB hz1 hk1 hS => ?_)
  · exact hB.elim
  · exact kk r u H1 locs1 hp (bSt.of (u := t) ht hvm hB hS)
/-- the same over two books, of the first and of the second -/
theorem p_S {Bs : List Value} {post : Int32 → xG → Prop} (S : CallFix p m c cc nL s args Ts own) (hM : ∀ E : xE, gL l y ws rm E (.ref (E.2.2.2 0) :: Bs) Γ1 K post) (cw : CallB R s args own index y bytes maxL ret ws rm K (6 * K) n ∧ (Cond.static y).before args s = true) (hW : pSt X Γ1 Γ2 s s.heap H locs) (hTh : xThF X s) (hNc : xNc s)
    (hst : st0 = Bs.reverse ++ .ref (X.2.2.2.1 0) :: rest) (hn : Bs.length + 1 = n) (hl : ls.size = nL) (hrest : (rest.map fun v => v.category).sum ≤ 8) (hdg : decode cc pc = .ok (.invokestatic index, 3)) (hf : cells + K ≤ R.cells ∧ slots + 6 * K ≤ R.slots)
    (kk : ∀ (r : Int32) (Γ' : xG) (H1 : Heap) (locs1 : List Loc), post r Γ' → pSt X Γ' Γ2 s s.heap H1 locs1 → W p l e R s m args below meth c H1 locs1 (cells + K) (slots + 6 * K) Q (F0 m (pc + 3) ls (.int r :: rest))) : W p l e R s m args below meth c H locs cells slots Q (F0 m pc ls st0) := by
  obtain ⟨N, F, hR, hW⟩ := hW
  refine y_S (E := eO X N F) (rest := rest) S (hM (eO X N F)) cw hW (hTh.o N F) hNc ?_ hn hl hrest hdg hf (fun r Γ' H1 locs1 hp hW => kk r Γ' H1 locs1 hp ⟨N, F, hR, hW⟩)
  rw [hst]
  simp
  rfl
theorem p_SX {Bs : List Value} {post : Int32 → xG → Prop} (S : CallFix p m c cc nL s args Ts own) (hM : ∀ E : xE, gL l y ws rm E (.ref (E.2.2.2 0) :: Bs) Γ1 K post) (cw : vx_CSW R s args own index y bytes maxL ret hh ws rm K (6 * K) n) (hW : pSt X Γ1 Γ2 s s.heap H locs) (hTh : xThF X s) (hNc : xNc s)
    (hst : st0 = Bs.reverse ++ .ref (X.2.2.2.1 0) :: rest) (hn : Bs.length + 1 = n) (hl : ls.size = nL) (hrest : (rest.map fun v => v.category).sum ≤ 8) (hdg : decode cc pc = .ok (.invokestatic index, 3)) (hf : cells + K ≤ R.cells ∧ slots + 6 * K ≤ R.slots)
    (kk : ∀ (r : Int32) (Γ' : xG) (H1 : Heap) (locs1 : List Loc), post r Γ' → pSt X Γ' Γ2 s s.heap H1 locs1 → W p l e R s m args below meth c H1 locs1 (cells + K) (slots + 6 * K) Q (F0 m (pc + 3) ls (.int r :: rest))) : W p l e R s m args below meth c H locs cells slots Q (F0 m pc ls st0) := by
  obtain ⟨N, F, hR, hW⟩ := hW
  refine y_SX (E := eO X N F) (rest := rest) S (hM (eO X N F)) cw hW (hTh.o N F) hNc ?_ hn hl hrest hdg hf (fun r Γ' H1 locs1 hp hW => kk r Γ' H1 locs1 hp ⟨N, F, hR, hW⟩)
  rw [hst]
  simp
  rfl
theorem p_Sq {Bs : List Value} {post : Int32 → xG → Prop} (S : CallFix p m c cc nL s args Ts own) (hM : ∀ E : xE, gL l y ws rm E (.ref (E.2.2.2 0) :: Bs) Γ2 K post) (cw : CallB R s args own index y bytes maxL ret ws rm K (6 * K) n ∧ (Cond.static y).before args s = true) (hW : pSt X Γ1 Γ2 s s.heap H locs) (hTh : xThF X s) (hNc : xNc s)
    (hst : st0 = Bs.reverse ++ .ref (X.2.2.2.2 0) :: rest) (hn : Bs.length + 1 = n) (hl : ls.size = nL) (hrest : (rest.map fun v => v.category).sum ≤ 8) (hdg : decode cc pc = .ok (.invokestatic index, 3)) (hf : cells + K ≤ R.cells ∧ slots + 6 * K ≤ R.slots)
    (kk : ∀ (r : Int32) (Γ' : xG) (H1 : Heap) (locs1 : List Loc), post r Γ' → pSt X Γ1 Γ' s s.heap H1 locs1 → W p l e R s m args below meth c H1 locs1 (cells + K) (slots + 6 * K) Q (F0 m (pc + 3) ls (.int r :: rest))) : W p l e R s m args below meth c H locs cells slots Q (F0 m pc ls st0) :=
  p_S (X := sw X) S hM cw hW.sw hTh.sw hNc hst hn hl hrest hdg hf (fun r Γ' H1 locs1 hv hW => kk r Γ' H1 locs1 hv hW.sw)
theorem p_SXq {Bs : List Value} {post : Int32 → xG → Prop} (S : CallFix p m c cc nL s args Ts own) (hM : ∀ E : xE, gL l y ws rm E (.ref (E.2.2.2 0) :: Bs) Γ2 K post) (cw : vx_CSW R s args own index y bytes maxL ret hh ws rm K (6 * K) n) (hW : pSt X Γ1 Γ2 s s.heap H locs) (hTh : xThF X s) (hNc : xNc s)
    (hst : st0 = Bs.reverse ++ .ref (X.2.2.2.2 0) :: rest) (hn : Bs.length + 1 = n) (hl : ls.size = nL) (hrest : (rest.map fun v => v.category).sum ≤ 8) (hdg : decode cc pc = .ok (.invokestatic index, 3)) (hf : cells + K ≤ R.cells ∧ slots + 6 * K ≤ R.slots)
    (kk : ∀ (r : Int32) (Γ' : xG) (H1 : Heap) (locs1 : List Loc), post r Γ' → pSt X Γ1 Γ' s s.heap H1 locs1 → W p l e R s m args below meth c H1 locs1 (cells + K) (slots + 6 * K) Q (F0 m (pc + 3) ls (.int r :: rest))) : W p l e R s m args below meth c H locs cells slots Q (F0 m pc ls st0) :=
  p_SX (X := sw X) S hM cw hW.sw hTh.sw hNc hst hn hl hrest hdg hf (fun r Γ' H1 locs1 hv hW => kk r Γ' H1 locs1 hv hW.sw)
/-- a call of a method over both books -/
theorem p_S2 {post : Int32 → xG × xG → Prop} (S : CallFix p m c cc nL s args Ts own) (hM : pL l y ws rm X As Γ1 Γ2 K post) (cw : CallB R s args own index y bytes maxL ret ws rm K (6 * K) n ∧ (Cond.static y).before args s = true) (hW : pSt X Γ1 Γ2 s s.heap H locs) (hTh : xThF X s) (hNc : xNc s)
    (hst : st0 = As.reverse ++ rest) (hn : As.length = n) (hl : ls.size = nL) (hrest : (rest.map fun v => v.category).sum ≤ 8) (hdg : decode cc pc = .ok (.invokestatic index, 3)) (hf : cells + K ≤ R.cells ∧ slots + 6 * K ≤ R.slots)
    (kk : ∀ (r : Int32) (u : xG × xG) (H1 : Heap) (locs1 : List Loc), post r u → pSt X u.1 u.2 s s.heap H1 locs1 → W p l e R s m args below meth c H1 locs1 (cells + K) (slots + 6 * K) Q (F0 m (pc + 3) ls (.int r :: rest))) : W p l e R s m args below meth c H locs cells slots Q (F0 m pc ls st0) := by
  refine vx_calli (vx_runS (As := As) (rest := rest) S hM cw ⟨fun a U g mk q => ⟨q.1, q.2.1.blind a g mk, q.2.2.1.blind a g mk, xNc.moved (u := U) (U := U.calling g mk a) (Vm.Alike.refl U.vm) q.2.2.2⟩, fun U hU hWm => ⟨rfl, hW.wd hU hWm.alike, hTh.kept hW.S hU hWm, hNc.moved hWm.alike⟩⟩ rfl hn hl hst (lv_room hrest) hdg hf) hW.S (fun _ _ h => h) (fun _ h => h) (fun _ _ h => h) (fun X ce q9 u t H1 locs1 ht hvm hpx hB hz1 hk1 hS hce hcv hcl => ?_) (fun r u t H1 locs1 ht hvm hp hB hz1 hk1 hS => ?_)
  · exact hB.elim
  · exact kk r u H1 locs1 hp (pSt.of ht hvm hB hS)
/-- ends -/
theorem g_ri {v : Int32} {post : Int32 → xG → Prop} (S : CallFix p m c cc nL s args Ts own) (hr : meth.sig.returnType = some .int) (hlk : meth.locks = false) (hW : bSt E Γ s s.heap H locs) (hc : cells ≤ K) (hs : slots ≤ 6 * K) (hdg : decode cc pc = .ok (.ireturn, 1)) (hp : post v Γ) : W p l e R s m args below meth c H locs cells slots (vx_MQ below (va_Qi post (bWd E) (xA E)) (gPx E) args s K (6 * K) (xA E)) (F0 m pc ls [.int v]) := by
  obtain ⟨N, F, hR, hW⟩ := hW
  exact W.widen hc hs (vx_ret (W.iret (v := v) S.1 S.2.1 hr (fun t ht hWm => ⟨⟨v, Γ, rfl, hp, N, F, hR, hW.wd ht hWm.alike⟩, hW.2.2.2.F ht⟩) hW.2.2.2.2.2 hdg hlk))
theorem g_rz {v : Int32} {post : Int32 → xG → Prop} (S : CallFix p m c cc nL s args Ts own) (hr : meth.sig.returnType = some .boolean) (hlk : meth.locks = false) (hW : bSt E Γ s s.heap H locs) (hc : cells ≤ K) (hs : slots ≤ 6 * K) (hdg : decode cc pc = .ok (.ireturn, 1)) (hz : v = 0 ∨ v = 1) (hp : post v Γ) : W p l e R s m args below meth c H locs cells slots (vx_MQ below (va_Qi post (bWd E) (xA E)) (gPx E) args s K (6 * K) (xA E)) (F0 m pc ls [.int v]) := by
  obtain ⟨N, F, hR, hW⟩ := hW
  exact W.widen hc hs (vx_ret (W.zret (v := v) S.1 S.2.1 hr (by rcases hz with rfl | rfl <;> rfl) (fun t ht hWm => ⟨⟨v, Γ, rfl, hp, N, F, hR, hW.wd ht hWm.alike⟩, hW.2.2.2.F ht⟩) hW.2.2.2.2.2 hdg hlk))
theorem p_rz {v : Int32} {post : Int32 → xG × xG → Prop} (S : CallFix p m c cc nL s args Ts own) (hr : meth.sig.returnType = some .boolean) (hlk : meth.locks = false) (hW : pSt X Γ1 Γ2 s s.heap H locs) (hc : cells ≤ K) (hs : slots ≤ 6 * K) (hdg : decode cc pc = .ok (.ireturn, 1)) (hz : v = 0 ∨ v = 1) (hp : post v (Γ1, Γ2)) : W p l e R s m args below meth c H locs cells slots (vx_MQ below (va_Qi post (pWd X) (xAF X)) (pPx X) args s K (6 * K) (xAF X)) (F0 m pc ls [.int v]) := by
  have hS := hW.S
  exact W.widen hc hs (vx_ret (W.zret (v := v) S.1 S.2.1 hr (by rcases hz with rfl | rfl <;> rfl) (fun t ht hWm => ⟨⟨v, (Γ1, Γ2), rfl, hp, hW.wd ht hWm.alike⟩, hS.F ht⟩) hS.2.2 hdg hlk))
/-- a call that may throw, in a method with a table -/
theorem y_Vc {D : Prop} {V : Int32 → Prop} {px : String → Prop} (S : CallFix p m c cc nL s args Ts own) (hM : ∀ (N : Nat → Int32) (F : Nat → Nat → Int32), xRepC Γ N F → xXi l y ws rm E (.ref (E.2.2.2 0) :: As) (N, F, xo0) K (fun r σ' => D ∧ V r ∧ xOKC Γ' N F xo0 σ') (fun Y σ' => px Y ∧ xOKC Γ N F xo0 σ')) (cw : CallW R s args own RX3 index y bytes maxL ret ws rm K (6 * K) n) (hW : bSt E Γ s s.heap H locs) (hTh : xTh E s)
    (hst : st0 = As.reverse ++ .ref (E.2.2.2 0) :: rest) (hn : As.length = n) (hl : ls.size = nL) (hrest : (rest.map fun v => v.category).sum ≤ 8) (hdg : decode cc pc = .ok (.invokevirtual index, 3)) (hf : cells + K ≤ R.cells ∧ slots + 6 * K ≤ R.slots)
    (kx : ∀ (Y : String) (ce : Cell) (q9 : Addr) (H1 : Heap) (locs1 : List Loc), px Y → bSt E Γ s s.heap H1 locs1 → H1[q9]? = some ce → ce.vm = .none → s.vm.findClass Y = some ce.cls → vx_W p l e R s m args below meth c H1 locs1 (cells + K) (slots + 6 * K) Q (F0 m pc ls rest) q9)
    (kk : ∀ (r : Int32) (H1 : Heap) (locs1 : List Loc), D → V r → bSt E Γ' s s.heap H1 locs1 → W p l e R s m args below meth c H1 locs1 (cells + K) (slots + 6 * K) Q (F0 m (pc + 3) ls (.int r :: rest))) : W p l e R s m args below meth c H locs cells slots Q (F0 m pc ls st0) := by
  obtain ⟨N, F, hR, hW⟩ := hW
  refine vx_calli (vx_runV (As := As) (rest := rest) S (hM N F hR) cw ⟨fun a U g mk q => ⟨q.1, q.2.1.blind a g mk, q.2.2.blind a g mk⟩, va_recv hW.2.1 hW.1 rfl (xw_0 E _), fun U hU hWm => ⟨rfl, hW.wd hU hWm.alike, hTh.kept hW.2.2.2 hU hWm⟩⟩ rfl hn hl hst (lv_room hrest) hdg hf) hW.2.2.2 (fun _ _ h => h) (fun _ h => h) (fun _ _ h => h) (fun Y ce q9 u t H1 locs1 ht hvm hpx hB hz1 hk1 hS hce hcv hcl => ?_) (fun r u t H1 locs1 ht hvm hp hB hz1 hk1 hS => ?_)
  · obtain ⟨⟨h1, N', F', rfl, hR', -⟩, hB⟩ := hB
    exact kx Y ce q9 H1 locs1 h1 ⟨N', F', hR', by rw [← ht]; exact hB.1, va_K.moved hvm.symm hB.2.1, hB.2.2, hS⟩ hce hcv hcl
  · obtain ⟨h1, h2, N', F', rfl, hR', -⟩ := hp
    exact kk r H1 locs1 h1 h2 ⟨N', F', hR', by rw [← ht]; exact hB.1, va_K.moved hvm.symm hB.2.1, hB.2.2, hS⟩
theorem x_catch {Y : String} {ce : Cell} {q : Addr} (S : CallFix p m c cc nL s args Ts own) (hTh : xTh E s) (pre : List ExceptionTableEntry) (x : ExceptionTableEntry) (suf : List ExceptionTableEntry) (hsplit : c.exceptionTable.toList = pre ++ x :: suf)
    (hpass : ∀ z ∈ pre, covers z pc = false ∨ (z.catchType ≠ 0 ∧ ∃ nm : String, (Cond.classLink own z.catchType nm).before args s = true ∧ va_Nc Y nm s)) (hx : covers x pc = true) (h0 : x.catchType ≠ 0)
    (hlink : Cond.classLink own x.catchType Y ∈ Ts) (hcast : Y = xIO ∨ Y = xIA ∨ Y = xIS) (hcell : H[q]? = some ce) (hv : ce.vm = .none) (hcl : s.vm.findClass Y = some ce.cls)
    (kk : W p l e R s m args below meth c H locs cells slots Q (F0 m x.handlerPc ls [.ref q])) : vx_W p l e R s m args below meth c H locs cells slots Q (F0 m pc ls rest) q := by
  have hc : (Cond.castable Y Y).before args s = true := by
    rcases hcast with rfl | rfl | rfl
    · exact va_Nw.use rfl (hTh.2.2 _ (by decide +kernel))
    · exact va_Nw.use rfl (hTh.2.2 _ (by decide +kernel))
    · exact va_Nw.use rfl (hTh.2.2 _ (by decide +kernel))
  exact vx_catch S.2.2.2.1 pre x suf hsplit hpass hx h0 (S.2.2.2.2 _ hlink) hc hcell hv hcl kk
end YST
