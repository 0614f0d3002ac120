/-! the law: a cell of the script; the plan's check whole; the first panels; the empty book -/
section YCL
variable {p : Program} {l : Launch} {e : Env} {R : Room} {s : State} {m : MethodId} {args : Array Value} {below : List Frame} {meth : Method} {c : Code} {H : Heap} {locs : List Loc} {cells slots : Nat} {Q : State → Prop}
variable {cc : ByteArray} {pc nL : Nat} {ls : Array Slot} {rest st0 : List Value} {Γ Γ' Γ1 Γ2 : xG} {X : xF} {Ts : List Cond} {own : String}
variable {y : MethodName} {bytes : ByteArray} {maxL index n K : Nat} {ret : Option FieldType} {ws : List Cond} {rm : Room} {As : List Value}
theorem p_ri {v : Int32} {post : Int32 → xG × xG → Prop} (S : CallFix p m c cc nL s args Ts own) (hr : meth.sig.returnType = some .int) (hlk : meth.locks = false) (hW : pSt X Γ1 Γ2 s s.heap H locs) (hc : cells ≤ K) (hs : slots ≤ 6 * K) (hdg : decode cc pc = .ok (.ireturn, 1)) (hp : post v (Γ1, Γ2)) : W p l e R s m args below meth c H locs cells slots (vx_MQ below (va_Qi post (pWd X) (xAF X)) (pPx X) args s K (6 * K) (xAF X)) (F0 m pc ls [.int v]) := by
  have hS := hW.S
  exact W.widen hc hs (vx_ret (W.iret (v := v) S.1 S.2.1 hr (fun t ht hWm => ⟨⟨v, (Γ1, Γ2), rfl, hp, hW.wd ht hWm.alike⟩, hS.F ht⟩) hS.2.2 hdg hlk))
/-- a call of a method that has no book for its first argument -/
theorem p_S0 {post : Int32 → xG → Prop} (S : CallFix p m c cc nL s args Ts own) (hM : ∀ E : xE, gL l y ws rm E As Γ1 K post) (cw : CallB R s args own index y bytes maxL ret ws rm K (6 * K) n ∧ (Cond.static y).before args s = true) (hW : pSt X Γ1 Γ2 s s.heap H locs) (hTh : xThF X s) (hNc : xNc s)
    (hst : st0 = As.reverse ++ rest) (hn : As.length = n) (hl : ls.size = nL) (hrest : (rest.map fun v => v.category).sum ≤ 8) (hdg : decode cc pc = .ok (.invokestatic index, 3)) (hf : cells + K ≤ R.cells ∧ slots + 6 * K ≤ R.slots)
    (kk : ∀ (r : Int32) (Γ' : xG) (H1 : Heap) (locs1 : List Loc), post r Γ' → pSt X Γ' Γ2 s s.heap H1 locs1 → W p l e R s m args below meth c H1 locs1 (cells + K) (slots + 6 * K) Q (F0 m (pc + 3) ls (.int r :: rest))) : W p l e R s m args below meth c H locs cells slots Q (F0 m pc ls st0) := by
  obtain ⟨N, F, hR, hW⟩ := hW
  exact y_S (E := eO X N F) (rest := rest) S (hM (eO X N F)) cw hW (hTh.o N F) hNc hst hn hl hrest hdg hf (fun r Γ' H1 locs1 hp hW => kk r Γ' H1 locs1 hp ⟨N, F, hR, hW⟩)
end YCL
/-- the script's cell k; behind its end a number of k's -/
def xcl (L : Nat) (xs : Nat → Int32) (k : Nat) : Int32 := if k < L then xs k else nI (7919 * (k + 233) * (k + 2447))
abbrev rmL_cell : Room := { frames := 0, cells := 0, slots := 0, locals := 0 }
def pCell (X : xF) (b L : Nat) (xs : Nat → Int32) (u : xG × xG) (U : State) : Prop := pWd X u U ∧ va_X b L xs U U.heap ∧ b < U.heap.size
set_option maxHeartbeats 4000000 in
theorem c_L_cell (l : Launch) (X : xF) {b L k : Nat} {xs : Nat → Int32} (u : xG × xG) (hk : k < 1000) (hL : L < 1000) (hbA : ¬ xAF X b) : vx_Met l yL_cell wsL_cell rmL_cell (va_Pc [.ref b, .int (nI k)] (pCell X b L xs u)) (va_Qi (fun r w => r = xcl L xs k ∧ w = u) (pWd X) (xAF X)) (pPx X) 0 (6 * 0) (xAF X) := by
  refine vx_ofW (cc := cL_cell) (maxL := 2) (ret := some .int) (by decide) rfl ?_
  intro p e s m args below meth c s₁ B hml htab hv
  obtain ⟨rfl, hWd, hX, hbl⟩ := hv
  have hl := lv_entry [Value.ref b, .int (nI k)] (n := 2) (Nat.le_of_ble_eq_true rfl)
  rw [lg_entry_eq]
  have S : CallFix p m c cL_cell 2 s _ wsL_cell RL := ⟨B.exec, B.bytes, hml, findClass_of_methodNamed B.named, atoms_spec (ws := wsL_cell) B.pre⟩
  have hr := B.returns
  have hlk := B.notSynchronized
  have hW := hWd.st
  have hx := S.1
  have hb := S.2.1
  generalize (lg_sl [Value.ref b, Value.int (nI k)] ++ List.replicate (2 - (lg_sl [Value.ref b, Value.int (nI k)]).length) Slot.unset).toArray = ls at hl ⊢
  have hl : lv_has ls 2 [(0, .ref b), (1, .int (nI k))] := hl
  refine lv_iload_n hx hb dL_cell_0 rfl (lv_at hl 1 rfl) ?_
  refine lv_aload_n hx hb dL_cell_1 rfl (lv_at hl 0 rfl) ?_
  refine va_slen hx hb hX hbl hbA hW.S dL_cell_2 ?_
  refine x_icmp_ge (a := k) (b := L) (tgt := 12) hx hb dL_cell_3 (by decide) (by omega) (by omega) (fun h => ?_) (fun h => ?_)
  · refine lv_sipush (v := 7919) hx hb dL_cell_12 (by decide) ?_
    refine lv_iload_n hx hb dL_cell_15 rfl (lv_at hl 1 rfl) ?_
    refine lv_sipush (v := 233) hx hb dL_cell_16 (by decide) ?_
    refine x_iadd (a := k) (b := 233) hx hb dL_cell_19 ?_
    refine x_imul (a := 7919) (b := k + 233) hx hb dL_cell_20 ?_
    refine lv_iload_n hx hb dL_cell_21 rfl (lv_at hl 1 rfl) ?_
    refine lv_sipush (v := 2447) hx hb dL_cell_22 (by decide) ?_
    refine x_iadd (a := k) (b := 2447) hx hb dL_cell_25 ?_
    refine x_imul (a := 7919 * (k + 233)) (b := k + 2447) hx hb dL_cell_26 ?_
    exact p_ri S hr hlk hW (Nat.le_of_ble_eq_true rfl) (Nat.le_of_ble_eq_true rfl) dL_cell_27 ⟨by unfold xcl; rw [if_neg (by omega)], rfl⟩
  · refine lv_aload_n hx hb dL_cell_6 rfl (lv_at hl 0 rfl) ?_
    refine lv_iload_n hx hb dL_cell_7 rfl (lv_at hl 1 rfl) ?_
    refine va_sld hx hb hX hbl hbA hW.S (vp_in_nI h (by omega)) dL_cell_8 ?_
    rw [nI_clamp (by omega)]
    refine lv_goto (tgt := 27) hx hb dL_cell_9 (by decide) ?_
    exact p_ri S hr hlk hW (Nat.le_of_ble_eq_true rfl) (Nat.le_of_ble_eq_true rfl) dL_cell_27 ⟨by unfold xcl; rw [if_pos h], rfl⟩
section YCM
variable {p : Program} {l : Launch} {e : Env} {R : Room} {s : State} {m : MethodId} {args : Array Value} {below : List Frame} {meth : Method} {c : Code} {H : Heap} {locs : List Loc} {cells slots : Nat} {Q : State → Prop}
variable {cc : ByteArray} {pc nL : Nat} {ls : Array Slot} {rest : List Value} {Γ1 Γ2 : xG} {X : xF} {Ts : List Cond} {own : String}
theorem p_cell {b L k index : Nat} {xs : Nat → Int32} (S : CallFix p m c cc nL s args Ts own) (hk : k < 1000) (hL : L < 1000) (hX : va_X b L xs s s.heap) (hbl : b < s.heap.size) (hbA : ¬ xAF X b) (cw : CallB R s args own index yL_cell cL_cell 2 (some .int) wsL_cell rmL_cell 0 (6 * 0) 2 ∧ (Cond.static yL_cell).before args s = true) (hW : pSt X Γ1 Γ2 s s.heap H locs)
    (hl : ls.size = nL) (hrest : (rest.map fun v => v.category).sum ≤ 8) (hdg : decode cc pc = .ok (.invokestatic index, 3)) (hf : cells + 0 ≤ R.cells ∧ slots + 6 * 0 ≤ R.slots)
    (kk : ∀ (H1 : Heap) (locs1 : List Loc), pSt X Γ1 Γ2 s s.heap H1 locs1 → W p l e R s m args below meth c H1 locs1 cells slots Q (F0 m (pc + 3) ls (.int (xcl L xs k) :: rest))) : W p l e R s m args below meth c H locs cells slots Q (F0 m pc ls (.int (nI k) :: .ref b :: rest)) := by
  have hS := hW.S
  refine vx_calli (vx_runS (As := [.ref b, .int (nI k)]) (rest := rest) S (c_L_cell l X (b := b) (L := L) (k := k) (xs := xs) (Γ1, Γ2) hk hL hbA) cw ⟨fun a U g mk q => ⟨q.1, q.2.1.blind a g mk, va_X.moved (u := U) (U := U.calling g mk a) (Vm.Alike.refl U.vm) q.2.2.1, q.2.2.2⟩, fun U hU hWm => ⟨rfl, hW.wd hU hWm.alike, ?_, ?_⟩⟩ rfl rfl hl rfl (lv_room hrest) hdg hf) hS (fun _ _ h => h) (fun _ h => h) (fun _ _ h => h) (fun Y ce q9 u t H1 locs1 ht hvm hpx hB hz1 hk1 hS hce hcv hcl => ?_) (fun r u t H1 locs1 ht hvm hp hB hz1 hk1 hS => ?_)
  · rw [hU]
    exact (hX.kept (hS.2.1 b hbl hbA)).moved hWm.alike
  · rw [hU]
    exact Nat.lt_of_lt_of_le hbl hS.1
  · exact hB.elim
  · obtain ⟨rfl, rfl⟩ := hp
    exact kk H1 locs1 (pSt.of ht hvm hB hS)
end YCM
abbrev rmL_isPlanSo : Room := { frames := 9, cells := 12, slots := 72, locals := 153 }
theorem c_L_isPlanSo (l : Launch) (X : xF) (hfl : l.stackTraces = false) (Γ : xG) (hG : xGd Γ) {a b : Nat} (ha : a < gNo Γ) (hb : b < gNo Γ) : pL l yL_isPlanSo wsL_isPlanSo rmL_isPlanSo X [.ref (X.2.2.2.1 0), .ref (X.2.2.2.2 0), .int (nI a), .int (nI b)] Γ Γ 12 (fun r u => r = 1 ∧ ∃ Γ', xGd Γ' ∧ gNo Γ ≤ gNo Γ' ∧ u = (Γ', Γ')) := by
  by_cases e : a = b
  · rw [← e]; exact c_L_isPlanSoA l X hfl Γ hG ha
  · by_cases h : gCb Γ a ≠ -1 ∧ gCb Γ b = -1
    · obtain ⟨v, hv, -, ev, -⟩ := (hG.1.cb a ha).resolve_left h.1
      exact c_L_isPlanSoB l X hfl Γ hG ha hb hv e ev h.2
    · exact c_L_isPlanSoC l X hfl Γ hG ha hb e h
/-- the first panels -/
theorem nI_leq {a b : Nat} (hb : b < 2 ^ 31) (h : a ≤ b) : nI a ≤ nI b := (nI_leI (by omega) hb).mpr h
theorem fPanel_3 {Γ : xG} {x y : Nat} (hn : gNp Γ < 3) (hx : x < 10) (hy : y < 10) : fPanel Γ (nI x) (nI (2 + y)) = (nI (gNo Γ), gPanel Γ (nI x) (2 + y)) := by
  have e : ocAddPanel Γ (nI x) (nI (2 + y)) = 0 := by
    unfold ocAddPanel
    rw [xif_f (fun z => z.elim (fun z => z ⟨nI_pos' (by omega), nI_leq (b := 9) (by decide) (by omega)⟩) (fun z => z ⟨nI_leq (a := 1) (by omega) (by omega), nI_leq (b := 12) (by decide) (by omega)⟩)), xif_f (by omega)]
  unfold fPanel
  rw [fOp_0 e, xNa_n (by omega)]
theorem gd_panel3 {Γ : xG} {x y : Nat} (h : xGd Γ) (hn : gNp Γ < 3) (hx : x < 10) (hy : y < 10) : xGd (gPanel Γ (nI x) (2 + y)) := by
  have h1 := (fPanel_go h (nI x) (nI (2 + y))).1.1
  rw [fPanel_3 hn hx hy] at h1
  exact h1
/-- the empty book -/
def xG0 : xG := (fun _ => 0, fun _ _ => 0, fun k => if k = 1 ∨ k = 3 then fun _ => -1 else fun _ => 0)
theorem xG0_C {g : Nat → Nat → Int32} (h : xIniB g) : xRepC xG0 (fun _ => 0) g := by
  obtain ⟨h0, h1, h2, h3, h4, h5, h6, h7, h8, h9, h10, h11, h12, h13, h14, h15, h16, h17, h18⟩ := h
  exact ⟨rfl, rfl, rfl, rfl, fun k hk => absurd hk (Nat.not_lt_zero k), fun k hk => absurd hk (Nat.not_lt_zero k), fun k hk => absurd hk (Nat.not_lt_zero k), fun k hk => absurd hk (Nat.not_lt_zero k), h4, h5, h6, fun k hk => absurd hk (Nat.not_lt_zero k), fun k hk => absurd hk (Nat.not_lt_zero k), fun k hk => absurd hk (Nat.not_lt_zero k), fun k hk => absurd hk (Nat.not_lt_zero k), fun k hk => absurd hk (Nat.not_lt_zero k), fun k hk => absurd hk (Nat.not_lt_zero k), h17⟩
theorem xG0_good : xGood xG0 := ⟨Nat.zero_le _, Nat.zero_le _, Nat.zero_le _, rfl, rfl, fun k hk => absurd hk (Nat.not_lt_zero k), fun k hk => absurd hk (Nat.not_lt_zero k), fun k hk => absurd hk (Nat.not_lt_zero k), fun k hk => absurd hk (Nat.not_lt_zero k), fun k hk => absurd hk (Nat.not_lt_zero k), fun k r hk => absurd hk (Nat.not_lt_zero k), fun _ => Or.inl rfl, fun _ _ => rfl, fun _ _ => rfl, fun k r hk => absurd hk (Nat.not_lt_zero k), fun _ _ => ⟨rfl, rfl⟩, fun k hk => absurd hk (Nat.not_lt_zero k), fun k hk => absurd hk (Nat.not_lt_zero k), fun k hk => absurd hk (Nat.not_lt_zero k), fun k hk => absurd hk (Nat.not_lt_zero k)⟩
theorem xGd0 : xGd xG0 := ⟨xG0_good, fun k hk => absurd hk (Nat.not_lt_zero k), fun k r hk => absurd hk (Nat.not_lt_zero k), fun k hk => absurd hk (Nat.not_lt_zero k), fun k r hk => absurd hk (Nat.not_lt_zero k)⟩
