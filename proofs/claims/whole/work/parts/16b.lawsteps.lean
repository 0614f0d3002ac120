/-! the law: its steps -/
theorem xif_le {P : Prop} {a b k : Nat} (ha : a ≤ k) (hb : b ≤ k) : xif P a b ≤ k := by
  by_cases h : P
  · rw [xif_t h]; exact ha
  · rw [xif_f h]; exact hb
theorem ocb_Port (Γ : xG) (a : Int32) : ocPort Γ a ≤ 3 := xif_le (by decide) (by decide)
theorem ocb_Panel (Γ : xG) (a : Int32) : ocPanel Γ a ≤ 3 := xif_le (by decide) (by decide)
theorem ocb_Trk (Γ : xG) (a : Int32) : ocTrk Γ a ≤ 3 := xif_le (by decide) (by decide)
theorem ocb_2 (Γ : xG) (a b : Int32) : oc2 Γ a b ≤ 3 := xif_le (by decide) (by decide)
theorem ocb_2p (Γ : xG) (a b : Int32) : oc2p Γ a b ≤ 3 := xif_le (by decide) (by decide)
theorem ocb_Hop (Γ : xG) (a : Int32) (b : Bool) (h : Int32) : ocHop Γ a b h ≤ 3 := xif_le (by decide) (xif_le (by decide) (by decide))
theorem ocb_AddPanel (Γ : xG) (a b : Int32) : ocAddPanel Γ a b ≤ 3 := xif_le (by decide) (xif_le (by decide) (by decide))
theorem ocb_Trunk (Γ : xG) (a b s t : Int32) : ocTrunk Γ a b s t ≤ 3 := xif_le (by decide) (xif_le (by decide) (xif_le (by decide) (by decide)))
theorem ocb_Brk (Γ : xG) (a b : Int32) : ocBrk Γ a b ≤ 3 := xif_le (by decide) (by decide)
theorem ocb_Plug (Γ : xG) (a b c : Int32) : ocPlug Γ a b c ≤ 3 := xif_le (by decide) (xif_le (by decide) (xif_le (by decide) (by decide)))
theorem ocb_Pull (Γ : xG) (a : Int32) : ocPull Γ a ≤ 3 := xif_le (by decide) (xif_le (by decide) (by decide))
theorem ocb_Move (Γ : xG) (a b : Int32) : ocMove Γ a b ≤ 3 := xif_le (by decide) (xif_le (by decide) (xif_le (by decide) (by decide)))
theorem ocb_Carry (Γ : xG) : ocCarry Γ ≤ 3 := xif_le (by decide) (by decide)
/-- after both calls -/
theorem xjoin {oc : Nat} {V : Int32 → Prop} {Γ Γ' : xG} {N : Nat → Int32} {F : Nat → Nat → Int32} {o' : Nat → Int64} {r2 : Int32} {σ2 : xS} (h1 : (oc = 0 ∧ (∃ v, V v ∧ o' 0 = v.toInt64) ∧ xRepC Γ' N F) ∨ (oc ≠ 0 ∧ xRepC Γ N F)) (h2 : (oc = 0 ∧ V r2 ∧ xOKR Γ' N F o' 0 σ2) ∨ (oc ≠ 0 ∧ xOKR Γ N F o' oc σ2)) (hu : ∀ v w, V v → V w → v = w) (hg : xGood Γ) (hg' : oc = 0 → xGood Γ') : ∃ (Γ2 : xG) (N2 : Nat → Int32) (F2 : Nat → Nat → Int32), σ2 = (N2, F2, o') ∧ xGood Γ2 ∧ xRepC Γ2 N2 F2 ∧ xRepR Γ2 N2 F2 ∧ N2 10 = nI oc ∧ (oc = 0 → V r2 ∧ o' 0 = r2.toInt64) := by
  rcases h2 with ⟨e, hv, N2, F2, rfl, hr, hf, h10⟩ | ⟨e, N2, F2, rfl, hr, hf, h10⟩
  · rcases h1 with ⟨-, ⟨v, hv1, ho⟩, hc⟩ | ⟨e', -⟩
    · exact ⟨Γ', N2, F2, rfl, hg' e, hc.fr hf, hr, by rw [h10, e], fun _ => ⟨hv, by rw [ho, hu v r2 hv1 hv]⟩⟩
    · exact absurd e e'
  · rcases h1 with ⟨e', -⟩ | ⟨-, hc⟩
    · exact absurd e' e
    · exact ⟨Γ, N2, F2, rfl, hg, hc.fr hf, hr, h10, fun z => absurd z e⟩
def xLs (E : xE) (b i : Nat) : List (Nat × Value) := [(4, .int (nI i)), (3, .ref (E.2.2.2 58)), (2, .ref (E.2.2.2 40)), (1, .ref (E.2.2.2 0)), (0, .ref b)]
section XLW
variable {p : Program} {l : Launch} {e : Env} {R : Room} {s : State} {m : MethodId} {args : Array Value} {below : List Frame} {meth : Method} {c : Code} {H : Heap} {locs : List Loc} {cells slots : Nat} {Q : State → Prop}
variable {cc : ByteArray} {pc P : Nat} {ls : Array Slot} {rest st0 : List Value} {E : xE} {b L : Nat} {xs : Nat → Int32}
theorem lv_lcmp0 (hexec : p.tables.exec = Jvm.exec) (hb : c.code = cc) {x y : Int64} (hdg : decode cc pc = .ok (.lcmp, 1)) (e0 : x = y)
    (k : W p l e R s m args below meth c H locs cells slots Q (F0 m (pc + 1) ls (.int 0 :: rest))) : W p l e R s m args below meth c H locs cells slots Q (F0 m pc ls (.long y :: .long x :: rest)) := by
  subst e0
  intro T hT X
  obtain ⟨t, a, b⟩ := k T hT X
  refine ⟨t, ?_, b⟩
  have h1 : ¬ (x > x) := fun h => Int64.lt_irrefl h
  jvm_step X.here [X.here.top, hexec, hb, hdg, h1]
  exact a
/-- script[i + j] -/
theorem lw_arg {i j : Nat} {J : Int} (S : CallFix p m c cL_law 7 s args wsL_law RL) (hX : va_X b L xs s s.heap) (hbl : b < s.heap.size) (hbA : ¬ xA E b) (hS : va_S (xA E) s.heap H locs) (h0 : ls[0]? = some (.val (.ref b))) (h4 : ls[4]? = some (.val (.int (nI i)))) (hL : L ≤ 2560) (hij : i + j < L)
    (d0 : decode cL_law pc = .ok (.aload_n 0, 1)) (d1 : decode cL_law (pc + 1) = .ok (.iload 4, 2)) (d3 : decode cL_law (pc + 3) = .ok (.iconst J, 1)) (hJ : Int32.ofInt J = nI j) (d4 : decode cL_law (pc + 4) = .ok (.iadd, 1)) (d5 : decode cL_law (pc + 5) = .ok (.iaload, 1))
    (kk : W p l e R s m args below meth c H locs cells slots Q (F0 m (pc + 6) ls (.int (xs (i + j)) :: rest))) : W p l e R s m args below meth c H locs cells slots Q (F0 m pc ls rest) := by
  refine lv_aload_n S.1 S.2.1 d0 rfl h0 ?_
  refine lv_iload S.1 S.2.1 d1 h4 ?_
  refine lv_iconst (v := nI j) S.1 S.2.1 d3 hJ ?_
  refine lv_iadd S.1 S.2.1 d4 ?_
  have e1 : nI i + nI j = nI (i + j) := (Int32.ofNat_add i j).symm
  rw [e1]
  refine va_sld S.1 S.2.1 hX hbl hbA hS (vp_in_nI hij (by omega)) d5 ?_
  rw [nI_clamp (by omega)]
  exact kk
/-- x != 0 -/
theorem lw_bool {x : Int32} (S : CallFix p m c cL_law 7 s args wsL_law RL) (d0 : decode cL_law pc = .ok (.ifCond .eq 7, 3)) (d3 : decode cL_law (pc + 3) = .ok (.iconst 1, 1)) (d4 : decode cL_law (pc + 4) = .ok (.goto 4, 3)) (d7 : decode cL_law (pc + 7) = .ok (.iconst 0, 1))
    (kk : W p l e R s m args below meth c H locs cells slots Q (F0 m (pc + 8) ls (.int (bz (decide (x ≠ 0))) :: rest))) : W p l e R s m args below meth c H locs cells slots Q (F0 m pc ls (.int x :: rest)) := by
  refine lv_if_eq S.1 S.2.1 d0 (tgt := pc + 7) (by omega) (fun h => ?_) (fun h => ?_)
  · rw [show decide (x ≠ 0) = false from decide_eq_false (fun z => z h)] at kk
    exact lv_iconst (v := 0) S.1 S.2.1 d7 (by decide) kk
  · rw [show decide (x ≠ 0) = true from decide_eq_true h] at kk
    refine lv_iconst (v := 1) S.1 S.2.1 d3 (by decide) ?_
    exact lv_goto S.1 S.2.1 d4 (tgt := pc + 8) (by omega) kk
theorem nI_z {k : Nat} (h : k ≤ 3) : nI k = 0 ↔ k = 0 := ⟨fun z => nI_inj (by omega) (by decide) z, fun z => by rw [z]; rfl⟩
theorem lw_tailI {oc : Nat} {n : Nat → Int32} {f : Nat → Nat → Int32} {o : Nat → Int64} {r : Int32} (S : CallFix p m c cL_law 7 s args wsL_law RL) (hRf : 30 ≤ R.locals ∧ 3 ≤ R.frames) (hW : xSt E (n, f, o) s s.heap H locs) (hsz : ls.size = 7) (h2 : ls[2]? = some (.val (.ref (E.2.2.2 40)))) (h3 : ls[3]? = some (.val (.ref (E.2.2.2 58)))) (h5 : ls[5]? = some (.val (.int (nI oc)))) (h6 : ls[6]? = some (.val (.int r))) (hn : n 10 = nI oc) (hoc : oc ≤ 3) (ho : oc = 0 → o 0 = r.toInt64) (hc : cells ≤ R.cells ∧ slots ≤ R.slots)
    (cw : CallW R s args RL RX4 98 yX4_thrown cX4_thrown 1 (some .int) wsX4_thrown rmX4_thrown 0 0 0)
    (d0 : decode cL_law P = .ok (.aload_n 2, 1)) (d1 : decode cL_law (P + 1) = .ok (.invokevirtual 98, 3)) (d4 : decode cL_law (P + 4) = .ok (.iload 5, 2)) (d6 : decode cL_law (P + 6) = .ok (.if_icmp .eq 5, 3)) (d11 : decode cL_law (P + 11) = .ok (.iload 5, 2)) (d13 : decode cL_law (P + 13) = .ok (.ifCond .ne 15, 3)) (d16 : decode cL_law (P + 16) = .ok (.aload_n 3, 1)) (d17 : decode cL_law (P + 17) = .ok (.iconst 0, 1)) (d18 : decode cL_law (P + 18) = .ok (.laload, 1)) (d19 : decode cL_law (P + 19) = .ok (.iload 6, 2)) (d21 : decode cL_law (P + 21) = .ok (.i2l, 1)) (d22 : decode cL_law (P + 22) = .ok (.lcmp, 1)) (d23 : decode cL_law (P + 23) = .ok (.ifCond .eq 5, 3))
    (kk : ∀ (H1 : Heap) (locs1 : List Loc), xSt E (n, f, o) s s.heap H1 locs1 → W p l e R s m args below meth c H1 locs1 cells slots Q (F0 m (P + 28) ls [])) : W p l e R s m args below meth c H locs cells slots Q (F0 m P ls []) := by
  refine lv_aload_n S.1 S.2.1 d0 rfl h2 ?_
  refine x_Vi (rest := []) S (c_X4_thrown l E n f o) cw hW 40 (xw_40 E _) rfl rfl rfl hsz (Nat.le_of_ble_eq_true rfl) d1 hc (fun r1 σ1 H1 locs1 hq hW => ?_)
  obtain ⟨rfl, rfl⟩ := hq
  refine lv_iload S.1 S.2.1 d4 h5 ?_
  refine lv_icmp_eq S.1 S.2.1 d6 (tgt := P + 11) (by omega) (fun _ => ?_) (fun h => absurd hn h)
  refine lv_iload S.1 S.2.1 d11 h5 ?_
  refine lv_if_ne S.1 S.2.1 d13 (tgt := P + 28) (by omega) (fun _ => kk _ _ hW) (fun h => ?_)
  have h0 : oc = 0 := (nI_z hoc).mp h
  refine lv_aload_n S.1 S.2.1 d16 rfl h3 ?_
  refine lv_iconst (v := 0) S.1 S.2.1 d17 (by decide) ?_
  refine x_lald S hW d18 ?_
  refine lv_iload S.1 S.2.1 d19 h6 ?_
  refine lv_i2l S.1 S.2.1 d21 rfl ?_
  refine lv_lcmp0 S.1 S.2.1 d22 (ho h0) ?_
  exact lv_if_eq S.1 S.2.1 d23 (tgt := P + 28) (by omega) (fun _ => kk _ _ hW) (fun h => absurd rfl h)
theorem lw_tailZ {oc : Nat} {n : Nat → Int32} {f : Nat → Nat → Int32} {o : Nat → Int64} {r : Int32} (S : CallFix p m c cL_law 7 s args wsL_law RL) (hRf : 30 ≤ R.locals ∧ 3 ≤ R.frames) (hW : xSt E (n, f, o) s s.heap H locs) (hsz : ls.size = 7) (h2 : ls[2]? = some (.val (.ref (E.2.2.2 40)))) (h3 : ls[3]? = some (.val (.ref (E.2.2.2 58)))) (h5 : ls[5]? = some (.val (.int (nI oc)))) (h6 : ls[6]? = some (.val (.int r))) (hn : n 10 = nI oc) (hoc : oc ≤ 3) (ho : oc = 0 → (r = 0 ∨ r = 1) ∧ o 0 = r.toInt64) (hc : cells ≤ R.cells ∧ slots ≤ R.slots)
    (cw : CallW R s args RL RX4 98 yX4_thrown cX4_thrown 1 (some .int) wsX4_thrown rmX4_thrown 0 0 0)
    (d0 : decode cL_law P = .ok (.aload_n 2, 1)) (d1 : decode cL_law (P + 1) = .ok (.invokevirtual 98, 3)) (d4 : decode cL_law (P + 4) = .ok (.iload 5, 2)) (d6 : decode cL_law (P + 6) = .ok (.if_icmp .eq 5, 3)) (d11 : decode cL_law (P + 11) = .ok (.iload 5, 2)) (d13 : decode cL_law (P + 13) = .ok (.ifCond .ne 22, 3)) (d16 : decode cL_law (P + 16) = .ok (.aload_n 3, 1)) (d17 : decode cL_law (P + 17) = .ok (.iconst 0, 1)) (d18 : decode cL_law (P + 18) = .ok (.laload, 1)) (d19 : decode cL_law (P + 19) = .ok (.iload 6, 2)) (d21 : decode cL_law (P + 21) = .ok (.ifCond .eq 7, 3)) (d24 : decode cL_law (P + 24) = .ok (.lconst 1, 1)) (d25 : decode cL_law (P + 25) = .ok (.goto 4, 3)) (d28 : decode cL_law (P + 28) = .ok (.lconst 0, 1)) (d29 : decode cL_law (P + 29) = .ok (.lcmp, 1)) (d30 : decode cL_law (P + 30) = .ok (.ifCond .eq 5, 3))
    (kk : ∀ (H1 : Heap) (locs1 : List Loc), xSt E (n, f, o) s s.heap H1 locs1 → W p l e R s m args below meth c H1 locs1 cells slots Q (F0 m (P + 35) ls [])) : W p l e R s m args below meth c H locs cells slots Q (F0 m P ls []) := by
  refine lv_aload_n S.1 S.2.1 d0 rfl h2 ?_
  refine x_Vi (rest := []) S (c_X4_thrown l E n f o) cw hW 40 (xw_40 E _) rfl rfl rfl hsz (Nat.le_of_ble_eq_true rfl) d1 hc (fun r1 σ1 H1 locs1 hq hW => ?_)
  obtain ⟨rfl, rfl⟩ := hq
  refine lv_iload S.1 S.2.1 d4 h5 ?_
  refine lv_icmp_eq S.1 S.2.1 d6 (tgt := P + 11) (by omega) (fun _ => ?_) (fun h => absurd hn h)
  refine lv_iload S.1 S.2.1 d11 h5 ?_
  refine lv_if_ne S.1 S.2.1 d13 (tgt := P + 35) (by omega) (fun _ => kk _ _ hW) (fun h => ?_)
  have h0 : oc = 0 := (nI_z hoc).mp h
  obtain ⟨h01, ho⟩ := ho h0
  refine lv_aload_n S.1 S.2.1 d16 rfl h3 ?_
  refine lv_iconst (v := 0) S.1 S.2.1 d17 (by decide) ?_
  refine x_lald S hW d18 ?_
  refine lv_iload S.1 S.2.1 d19 h6 ?_
  refine lv_if_eq S.1 S.2.1 d21 (tgt := P + 28) (by omega) (fun hz => ?_) (fun hz => ?_)
  · refine lv_lconst (v := 0) S.1 S.2.1 d28 rfl ?_
    refine lv_lcmp0 S.1 S.2.1 d29 (by show o 0 = 0; rw [ho, hz]; rfl) ?_
    exact lv_if_eq S.1 S.2.1 d30 (tgt := P + 35) (by omega) (fun _ => kk _ _ hW) (fun h => absurd rfl h)
  · have h1 : r = 1 := h01.resolve_left hz
    refine lv_lconst (v := 1) S.1 S.2.1 d24 rfl ?_
    refine lv_goto S.1 S.2.1 d25 (tgt := P + 29) (by omega) ?_
    refine lv_lcmp0 S.1 S.2.1 d29 (by show o 0 = 1; rw [ho, h1]; rfl) ?_
    exact lv_if_eq S.1 S.2.1 d30 (tgt := P + 35) (by omega) (fun _ => kk _ _ hW) (fun h => absurd rfl h)
end XLW
