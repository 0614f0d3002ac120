/-! the law: lines, plans -/
abbrev rmL_areLinesSo : Room := { frames := 4, cells := 0, slots := 0, locals := 95 }
set_option maxHeartbeats 4000000 in
set_option maxRecDepth 100000 in
theorem c_L_areLinesSo (l : Launch) (E : xE) (hfl : l.stackTraces = false) (Γ : xG) (hG : xGd Γ) (v : Int32) : gL l yL_areLinesSo wsL_areLinesSo rmL_areLinesSo E [.ref (E.2.2.2 0), .int v] Γ 0 (fun r Γ' => r = 1 ∧ Γ' = Γ) := by
  refine g_start RL (by decide) rfl rfl (Nat.le_of_ble_eq_true rfl) ?_
  intro p e s m args below meth c ls S hr hlk hTh hNc hW hl
  have hx := S.1
  have hb := S.2.1
  have hl : lv_has ls 8 [(0, .ref (E.2.2.2 0)), (1, .int v)] := hl
  have hno := hG.1.no
  have hnt := hG.1.nt
  refine lv_iconst (v := 0) hx hb dL_areLinesSo_0 (by decide) ?_
  refine lv_istore_n (lv' := [(2, .int 0), (0, .ref (E.2.2.2 0)), (1, .int v)]) hx hb dL_areLinesSo_1 rfl hl (by decide) rfl (fun ls hl => ?_)
  refine lv_iconst (v := 0) hx hb dL_areLinesSo_2 (by decide) ?_
  refine lv_istore_n (lv' := [(3, .int 0), (2, .int 0), (0, .ref (E.2.2.2 0)), (1, .int v)]) hx hb dL_areLinesSo_3 rfl hl (by decide) rfl (fun ls hl => ?_)
  have L4 : ∀ (fu4 : Nat) (i : Nat) (hμ4 : gNo Γ + 1 - i < fu4) (hi : i ≤ gNo Γ) (H : Heap) (locs : List Loc) (ls : Array Slot), bSt E Γ s s.heap H locs → lv_has ls 8 [(0, .ref (E.2.2.2 0)), (1, .int v), (2, .int (nI (xcnt (fun q => ∀ z, z < q → ¬ xR (gNo Γ) (gCb Γ) (gOp Γ) z q) i))), (3, .int (nI i))] → W p l e rmL_areLinesSo s m args below meth c H locs 0 0 (vx_MQ below (va_Qi (fun r Γ' => r = 1 ∧ Γ' = Γ) (bWd E) (xA E)) (gPx E) args s 0 (6 * 0) (xA E)) (F0 m 4 ls []) := by
    intro fu4
    induction fu4 with
    | zero => intro i hμ4; exact absurd hμ4 (Nat.not_lt_zero _)
    | succ fu4 L4 =>
      intro i hμ4 hi H locs ls hW hl
      have hx9 := xcnt_le (fun q => ∀ z, z < q → ¬ xR (gNo Γ) (gCb Γ) (gOp Γ) z q) i
      refine lv_iload_n hx hb dL_areLinesSo_4 rfl (lv_at hl 3 rfl) ?_
      refine lv_aload_n hx hb dL_areLinesSo_5 rfl (lv_at hl 0 rfl) ?_
      refine y_V (rm := rmX3_ports) (As := []) (Γ' := Γ) (rest := [.int (nI i)]) S (fun N F hR => c_X3_ports l E N F xo0 Γ hG.1 hR) (cwV 0 S.2.2.2.2 gL_areLinesSo_X3_ports rfl rfl rfl (by decide +kernel) ⟨Nat.le_of_ble_eq_true rfl, Nat.le_of_ble_eq_true rfl⟩) hW rfl rfl hl.1 (Nat.le_of_ble_eq_true rfl) dL_areLinesSo_6 ⟨Nat.le_of_ble_eq_true rfl, Nat.le_of_ble_eq_true rfl⟩ (fun r6 H locs hq6 hW => ?_)
      obtain rfl := hq6
      refine x_icmp_ge (a := i) (b := gNo Γ) (tgt := 251) hx hb dL_areLinesSo_9 (by decide) (by omega) (by omega) (fun c9 => ?_) (fun c9 => ?_)
      · have hxn := xcnt_le (fun q => ∀ z, z < q → ¬ xR (gNo Γ) (gCb Γ) (gOp Γ) z q) (gNo Γ)
        refine lv_iload_n hx hb dL_areLinesSo_251 rfl (lv_at hl 2 rfl) ?_
        refine lv_aload_n hx hb dL_areLinesSo_252 rfl (lv_at hl 0 rfl) ?_
        refine y_V (rm := rmX3_lines) (As := []) (Γ' := Γ) (rest := [.int (nI (xcnt (fun q => ∀ z, z < q → ¬ xR (gNo Γ) (gCb Γ) (gOp Γ) z q) i))]) S (fun N F hR => c_X3_lines l E N F xo0 Γ hG.1 hR) (cwV 0 S.2.2.2.2 gL_areLinesSo_X3_lines rfl rfl rfl (by decide +kernel) ⟨Nat.le_of_ble_eq_true rfl, Nat.le_of_ble_eq_true rfl⟩) hW rfl rfl hl.1 (Nat.le_of_ble_eq_true rfl) dL_areLinesSo_253 ⟨Nat.le_of_ble_eq_true rfl, Nat.le_of_ble_eq_true rfl⟩ (fun r253 H locs hq253 hW => ?_)
        obtain rfl := hq253
        refine x_icmp_ne (a := xcnt (fun q => ∀ z, z < q → ¬ xR (gNo Γ) (gCb Γ) (gOp Γ) z q) i) (b := xcnt (fun q => ∀ z, z < q → ¬ xR (gNo Γ) (gCb Γ) (gOp Γ) z q) (gNo Γ)) (tgt := 263) hx hb dL_areLinesSo_256 (by decide) (by omega) (by omega) (fun c256 => ?_) (fun c256 => ?_)
        · exact absurd (by rw [show i = gNo Γ by omega]) c256
        refine lv_iconst (v := 1) hx hb dL_areLinesSo_259 (by decide) ?_
        refine lv_goto (tgt := 264) hx hb dL_areLinesSo_260 (by decide) ?_
        exact g_rz S hr hlk hW (Nat.le_of_ble_eq_true rfl) (Nat.le_of_ble_eq_true rfl) dL_areLinesSo_264 (Or.inr rfl) (⟨rfl, rfl⟩)
      · obtain ⟨K0, hS0⟩ := xStop_ex (c := false) (no := gNo Γ) (p := i) (by omega) hG.1.cb hG.1.op (by omega)
        obtain ⟨K1, hS1⟩ := xStop_ex (c := true) (no := gNo Γ) (p := i) (by omega) hG.1.cb hG.1.op (by omega)
        have hK0 := hS0.le (no := gNo Γ) (by omega) hG.1.cb hG.1.op (by omega)
        have hK1 := hS1.le (no := gNo Γ) (by omega) hG.1.cb hG.1.op (by omega)
        refine lv_iconst (v := 1) hx hb dL_areLinesSo_12 (by decide) ?_
        refine lv_istore (lv' := [(4, .int 1), (0, .ref (E.2.2.2 0)), (1, .int v), (2, .int (nI (xcnt (fun q => ∀ z, z < q → ¬ xR (gNo Γ) (gCb Γ) (gOp Γ) z q) i))), (3, .int (nI i))]) hx hb dL_areLinesSo_13 hl (by decide) rfl (fun ls hl => ?_)
        refine lv_iconst (v := 0) hx hb dL_areLinesSo_15 (by decide) ?_
        refine lv_istore (lv' := [(5, .int 0), (4, .int 1), (0, .ref (E.2.2.2 0)), (1, .int v), (2, .int (nI (xcnt (fun q => ∀ z, z < q → ¬ xR (gNo Γ) (gCb Γ) (gOp Γ) z q) i))), (3, .int (nI i))]) hx hb dL_areLinesSo_16 hl (by decide) rfl (fun ls hl => ?_)
        refine lv_iload hx hb dL_areLinesSo_18 (lv_at hl 0 rfl) ?_
        refine lv_iconst (v := 2) hx hb dL_areLinesSo_20 (by decide) ?_
        refine lv_icmp_ge (tgt := 94) hx hb dL_areLinesSo_21 (by decide) (fun c21 => ?_) (fun c21 => ?_)
        · exact absurd c21 (by decide)
        refine lv_iconst (v := 0) hx hb dL_areLinesSo_24 (by decide) ?_
        refine lv_istore (lv' := [(6, .int 0), (5, .int 0), (4, .int 1), (0, .ref (E.2.2.2 0)), (1, .int v), (2, .int (nI (xcnt (fun q => ∀ z, z < q → ¬ xR (gNo Γ) (gCb Γ) (gOp Γ) z q) i))), (3, .int (nI i))]) hx hb dL_areLinesSo_25 hl (by decide) rfl (fun ls hl => ?_)
        have L27a : ∀ (fu27a : Nat) (v4 : Int32) (h : Nat) (hμ27a : K0 + 1 - h < fu27a) (hh : h ≤ K0) (hv : v4 = xif (xlow (gCb Γ) (gOp Γ) false i h) 1 0) (H : Heap) (locs : List Loc) (ls : Array Slot), bSt E Γ s s.heap H locs → lv_has ls 8 [(0, .ref (E.2.2.2 0)), (1, .int v), (2, .int (nI (xcnt (fun q => ∀ z, z < q → ¬ xR (gNo Γ) (gCb Γ) (gOp Γ) z q) i))), (3, .int (nI i)), (4, .int v4), (5, .int 0), (6, .int (nI h))] → W p l e rmL_areLinesSo s m args below meth c H locs 0 0 (vx_MQ below (va_Qi (fun r Γ' => r = 1 ∧ Γ' = Γ) (bWd E) (xA E)) (gPx E) args s 0 (6 * 0) (xA E)) (F0 m 27 ls []) := by
          intro fu27a
          induction fu27a with
          | zero => intro v4 h hμ27a; exact absurd hμ27a (Nat.not_lt_zero _)
          | succ fu27a L27a =>
            intro v4 h hμ27a hh hv H locs ls hW hl
            refine lv_iload hx hb dL_areLinesSo_27 (lv_at hl 6 rfl) ?_
            refine lv_aload_n hx hb dL_areLinesSo_29 rfl (lv_at hl 0 rfl) ?_
            refine lv_iload_n hx hb dL_areLinesSo_30 rfl (lv_at hl 3 rfl) ?_
            refine lv_iload hx hb dL_areLinesSo_31 (lv_at hl 5 rfl) ?_
            refine lv_iconst (v := 1) hx hb dL_areLinesSo_33 (by decide) ?_
            refine lv_icmp_ne (tgt := 41) hx hb dL_areLinesSo_34 (by decide) (fun c34 => ?_) (fun c34 => ?_)
            rotate_left
            · exact absurd c34 (by decide)
            refine lv_iconst (v := 0) hx hb dL_areLinesSo_41 (by decide) ?_
            refine y_V (rm := rm0X3_hops) (As := [.int (nI i), .int (bz false)]) (Γ' := Γ) (rest := [.int (nI h)]) S (fun N F hR => c0_X3_hops l E N F xo0 Γ hG.1 hR (p2 := i) (by omega) false) (cwV 2 S.2.2.2.2 gL_areLinesSo_X3_hops rfl rfl rfl (by decide +kernel) ⟨Nat.le_of_ble_eq_true rfl, Nat.le_of_ble_eq_true rfl⟩) hW rfl rfl hl.1 (Nat.le_of_ble_eq_true rfl) dL_areLinesSo_42 ⟨Nat.le_of_ble_eq_true rfl, Nat.le_of_ble_eq_true rfl⟩ (fun r42 H locs hq42 hW => ?_)
            obtain ⟨K42, hS42, rfl⟩ := hq42
            obtain rfl := hS0.uniq hS42
            refine x_icmp_ge (a := h) (b := K0) (tgt := 88) hx hb dL_areLinesSo_45 (by decide) (by omega) (by omega) (fun c45 => ?_) (fun c45 => ?_)
            · refine lv_iinc (v := 1) (lv' := [(5, .int 1), (0, .ref (E.2.2.2 0)), (1, .int v), (2, .int (nI (xcnt (fun q => ∀ z, z < q → ¬ xR (gNo Γ) (gCb Γ) (gOp Γ) z q) i))), (3, .int (nI i)), (4, .int v4), (6, .int (nI h))]) hx hb dL_areLinesSo_88 hl (k := 5) rfl (by decide) (by decide) rfl (fun ls hl => ?_)
              refine lv_goto (tgt := 18) hx hb dL_areLinesSo_91 (by decide) ?_
              refine lv_iload hx hb dL_areLinesSo_18 (lv_at hl 0 rfl) ?_
              refine lv_iconst (v := 2) hx hb dL_areLinesSo_20 (by decide) ?_
              refine lv_icmp_ge (tgt := 94) hx hb dL_areLinesSo_21 (by decide) (fun c21 => ?_) (fun c21 => ?_)
              · exact absurd c21 (by decide)
              refine lv_iconst (v := 0) hx hb dL_areLinesSo_24 (by decide) ?_
              refine lv_istore (lv' := [(6, .int 0), (5, .int 1), (0, .ref (E.2.2.2 0)), (1, .int v), (2, .int (nI (xcnt (fun q => ∀ z, z < q → ¬ xR (gNo Γ) (gCb Γ) (gOp Γ) z q) i))), (3, .int (nI i)), (4, .int v4)]) hx hb dL_areLinesSo_25 hl (by decide) rfl (fun ls hl => ?_)
              have L27b : ∀ (fu27b : Nat) (v4 : Int32) (h : Nat) (hμ27b : K1 + 1 - h < fu27b) (hh : h ≤ K1) (hv : v4 = xif (xlow (gCb Γ) (gOp Γ) false i K0 ∧ xlow (gCb Γ) (gOp Γ) true i h) 1 0) (H : Heap) (locs : List Loc) (ls : Array Slot), bSt E Γ s s.heap H locs → lv_has ls 8 [(0, .ref (E.2.2.2 0)), (1, .int v), (2, .int (nI (xcnt (fun q => ∀ z, z < q → ¬ xR (gNo Γ) (gCb Γ) (gOp Γ) z q) i))), (3, .int (nI i)), (4, .int v4), (5, .int 1), (6, .int (nI h))] → W p l e rmL_areLinesSo s m args below meth c H locs 0 0 (vx_MQ below (va_Qi (fun r Γ' => r = 1 ∧ Γ' = Γ) (bWd E) (xA E)) (gPx E) args s 0 (6 * 0) (xA E)) (F0 m 27 ls []) := by
                intro fu27b
                induction fu27b with
                | zero => intro v4 h hμ27b; exact absurd hμ27b (Nat.not_lt_zero _)
                | succ fu27b L27b =>
                  intro v4 h hμ27b hh hv H locs ls hW hl
                  refine lv_iload hx hb dL_areLinesSo_27 (lv_at hl 6 rfl) ?_
                  refine lv_aload_n hx hb dL_areLinesSo_29 rfl (lv_at hl 0 rfl) ?_
                  refine lv_iload_n hx hb dL_areLinesSo_30 rfl (lv_at hl 3 rfl) ?_
                  refine lv_iload hx hb dL_areLinesSo_31 (lv_at hl 5 rfl) ?_
                  refine lv_iconst (v := 1) hx hb dL_areLinesSo_33 (by decide) ?_
                  refine lv_icmp_ne (tgt := 41) hx hb dL_areLinesSo_34 (by decide) (fun c34 => ?_) (fun c34 => ?_)
                  · exact absurd c34 (by decide)
                  refine lv_iconst (v := 1) hx hb dL_areLinesSo_37 (by decide) ?_
                  refine lv_goto (tgt := 42) hx hb dL_areLinesSo_38 (by decide) ?_
                  refine y_V (rm := rm0X3_hops) (As := [.int (nI i), .int (bz true)]) (Γ' := Γ) (rest := [.int (nI h)]) S (fun N F hR => c0_X3_hops l E N F xo0 Γ hG.1 hR (p2 := i) (by omega) true) (cwV 2 S.2.2.2.2 gL_areLinesSo_X3_hops rfl rfl rfl (by decide +kernel) ⟨Nat.le_of_ble_eq_true rfl, Nat.le_of_ble_eq_true rfl⟩) hW rfl rfl hl.1 (Nat.le_of_ble_eq_true rfl) dL_areLinesSo_42 ⟨Nat.le_of_ble_eq_true rfl, Nat.le_of_ble_eq_true rfl⟩ (fun r42 H locs hq42 hW => ?_)
                  obtain ⟨K42, hS42, rfl⟩ := hq42
                  obtain rfl := hS1.uniq hS42
                  refine x_icmp_ge (a := h) (b := K1) (tgt := 88) hx hb dL_areLinesSo_45 (by decide) (by omega) (by omega) (fun c45 => ?_) (fun c45 => ?_)
                  · refine lv_iinc (v := 2) (lv' := [(5, .int 2), (0, .ref (E.2.2.2 0)), (1, .int v), (2, .int (nI (xcnt (fun q => ∀ z, z < q → ¬ xR (gNo Γ) (gCb Γ) (gOp Γ) z q) i))), (3, .int (nI i)), (4, .int v4), (6, .int (nI h))]) hx hb dL_areLinesSo_88 hl (k := 5) rfl (by decide) (by decide) rfl (fun ls hl => ?_)
                    refine lv_goto (tgt := 18) hx hb dL_areLinesSo_91 (by decide) ?_
                    refine lv_iload hx hb dL_areLinesSo_18 (lv_at hl 0 rfl) ?_
                    refine lv_iconst (v := 2) hx hb dL_areLinesSo_20 (by decide) ?_
                    refine lv_icmp_ge (tgt := 94) hx hb dL_areLinesSo_21 (by decide) (fun c21 => ?_) (fun c21 => ?_)
                    rotate_left
                    · exact absurd c21 (by decide)
                    have hk9 : h = K1 := by omega
                    have hL9 := xlowest (no := gNo Γ) (by omega) hG.1.cb hG.1.op (show i < gNo Γ by omega) hS0 hS1
                    have e4 : v4 = xif (∀ z, z < i → ¬ xR (gNo Γ) (gCb Γ) (gOp Γ) z i) 1 0 := hv.trans (by rw [hk9]; exact (xif_c hL9).symm)
                    by_cases hL : ∀ z, z < i → ¬ xR (gNo Γ) (gCb Γ) (gOp Γ) z i
                    · rw [xif_t hL] at e4
                      subst e4
                      refine lv_iload_n hx hb dL_areLinesSo_94 rfl (lv_at hl 3 rfl) ?_
                      refine lv_iload hx hb dL_areLinesSo_95 (lv_at hl 5 rfl) ?_
                      refine lv_if_eq (tgt := 104) hx hb dL_areLinesSo_97 (by decide) (fun c97 => ?_) (fun c97 => ?_)
                      · exact absurd c97 (by decide)
                      refine lv_iconst (v := 1) hx hb dL_areLinesSo_100 (by decide) ?_
                      refine lv_goto (tgt := 105) hx hb dL_areLinesSo_101 (by decide) ?_
                      refine x_iadd (a := xcnt (fun q => ∀ z, z < q → ¬ xR (gNo Γ) (gCb Γ) (gOp Γ) z q) i) (b := 1) hx hb dL_areLinesSo_105 ?_
                      refine lv_istore_n (lv' := [(2, .int (nI ((xcnt (fun q => ∀ z, z < q → ¬ xR (gNo Γ) (gCb Γ) (gOp Γ) z q) i) + 1))), (5, .int 2), (0, .ref (E.2.2.2 0)), (1, .int v), (3, .int (nI i)), (4, .int 1), (6, .int (nI h))]) hx hb dL_areLinesSo_106 rfl hl (by decide) rfl (fun ls hl => ?_)
                      refine lv_iload_n hx hb dL_areLinesSo_107 rfl (lv_at hl 3 rfl) ?_
                      refine lv_iload_n hx hb dL_areLinesSo_108 rfl (lv_at hl 4 rfl) ?_
                      refine lv_bipush (v := 16) hx hb dL_areLinesSo_109 (by decide) ?_
                      refine lv_irem hx hb dL_areLinesSo_111 (by decide) ?_
                      refine x_topN (i % 16) (x_rem (a := i) (m := 16) (by omega) (by omega)) ?_
                      refine lv_ishr hx hb dL_areLinesSo_112 ?_
                      refine lv_aload_n hx hb dL_areLinesSo_113 rfl (lv_at hl 2 rfl) ?_
                      refine y_V (rm := rmX3_ports) (As := []) (Γ' := Γ) (rest := [.int (v >>> ((nI (i % 16)) &&& 31))]) S (fun N F hR => c_X3_ports l E N F xo0 Γ hG.1 hR) (cwV 0 S.2.2.2.2 gL_areLinesSo_X3_ports rfl rfl rfl (by decide +kernel) ⟨Nat.le_of_ble_eq_true rfl, Nat.le_of_ble_eq_true rfl⟩) hW rfl rfl hl.1 (Nat.le_of_ble_eq_true rfl) dL_areLinesSo_114 ⟨Nat.le_of_ble_eq_true rfl, Nat.le_of_ble_eq_true rfl⟩ (fun r114 H locs hq114 hW => ?_)
                      obtain rfl := hq114
                      refine y_S (K := 0) (rm := rmL_low) (As := [.int (v >>> ((nI (i % 16)) &&& 31)), .int (nI (gNo Γ))]) (rest := []) S (c_L_low l E hfl Γ hG (v >>> ((nI (i % 16)) &&& 31)) (k := (gNo Γ)) (by omega) (by omega)) (cwS 2 S.2.2.2.2 gL_areLinesSo_L_low rfl rfl rfl (by decide +kernel) ⟨Nat.le_of_ble_eq_true rfl, Nat.le_of_ble_eq_true rfl⟩) hW hTh hNc rfl rfl hl.1 (Nat.le_of_ble_eq_true rfl) dL_areLinesSo_117 ⟨Nat.le_of_ble_eq_true rfl, Nat.le_of_ble_eq_true rfl⟩ (fun r117 Γ117 H locs hq117 hW => ?_)
                      obtain ⟨rfl, eΓ117⟩ := hq117
                      obtain rfl := eΓ117.symm
                      have hlo117 := xlo_lt (v >>> ((nI (i % 16)) &&& 31)) (m := (gNo Γ)) (by omega)
                      refine lv_istore (lv' := [(5, .int (nI (xlo (v >>> ((nI (i % 16)) &&& 31)) (gNo Γ)))), (2, .int (nI ((xcnt (fun q => ∀ z, z < q → ¬ xR (gNo Γ) (gCb Γ) (gOp Γ) z q) i) + 1))), (0, .ref (E.2.2.2 0)), (1, .int v), (3, .int (nI i)), (4, .int 1), (6, .int (nI h))]) hx hb dL_areLinesSo_120 hl (by decide) rfl (fun ls hl => ?_)
                      refine lv_aload_n hx hb dL_areLinesSo_122 rfl (lv_at hl 2 rfl) ?_
                      refine lv_iload_n hx hb dL_areLinesSo_123 rfl (lv_at hl 4 rfl) ?_
                      refine lv_iconst (v := 1) hx hb dL_areLinesSo_124 (by decide) ?_
                      refine y_V (rm := rm0X3_hops) (As := [.int (nI i), .int (bz true)]) (Γ' := Γ) (rest := []) S (fun N F hR => c0_X3_hops l E N F xo0 Γ hG.1 hR (p2 := i) (by omega) true) (cwV 2 S.2.2.2.2 gL_areLinesSo_X3_hops rfl rfl rfl (by decide +kernel) ⟨Nat.le_of_ble_eq_true rfl, Nat.le_of_ble_eq_true rfl⟩) hW rfl rfl hl.1 (Nat.le_of_ble_eq_true rfl) dL_areLinesSo_125 ⟨Nat.le_of_ble_eq_true rfl, Nat.le_of_ble_eq_true rfl⟩ (fun r125 H locs hq125 hW => ?_)
                      obtain ⟨K125, hS125, rfl⟩ := hq125
                      obtain rfl := hS1.uniq hS125
                      refine lv_istore (lv' := [(6, .int (nI K1)), (5, .int (nI (xlo (v >>> ((nI (i % 16)) &&& 31)) (gNo Γ)))), (2, .int (nI ((xcnt (fun q => ∀ z, z < q → ¬ xR (gNo Γ) (gCb Γ) (gOp Γ) z q) i) + 1))), (0, .ref (E.2.2.2 0)), (1, .int v), (3, .int (nI i)), (4, .int 1)]) hx hb dL_areLinesSo_128 hl (by decide) rfl (fun ls hl => ?_)
                      refine lv_iload hx hb dL_areLinesSo_130 (lv_at hl 0 rfl) ?_
                      refine x_if_le (tgt := 149) hx hb dL_areLinesSo_132 (by decide) (by omega) (fun c132 => ?_) (fun c132 => ?_)
                      · refine lv_iconst (v := 0) hx hb dL_areLinesSo_149 (by decide) ?_
                        refine lv_istore (lv' := [(7, .int 0), (6, .int (nI K1)), (5, .int (nI (xlo (v >>> ((nI (i % 16)) &&& 31)) (gNo Γ)))), (2, .int (nI ((xcnt (fun q => ∀ z, z < q → ¬ xR (gNo Γ) (gCb Γ) (gOp Γ) z q) i) + 1))), (0, .ref (E.2.2.2 0)), (1, .int v), (3, .int (nI i)), (4, .int 1)]) hx hb dL_areLinesSo_150 hl (by decide) rfl (fun ls hl => ?_)
                        refine lv_aload_n hx hb dL_areLinesSo_152 rfl (lv_at hl 4 rfl) ?_
                        refine lv_iload_n hx hb dL_areLinesSo_153 rfl (lv_at hl 6 rfl) ?_
                        refine lv_iload hx hb dL_areLinesSo_154 (lv_at hl 2 rfl) ?_
                        refine y_V (rm := rm0X3_areJoined) (As := [.int (nI i), .int (nI (xlo (v >>> ((nI (i % 16)) &&& 31)) (gNo Γ)))]) (Γ' := Γ) (rest := []) S (fun N F hR => c0_X3_areJoined l E N F xo0 Γ hG.1 hR (p2 := i) (by omega) (p7 := (xlo (v >>> ((nI (i % 16)) &&& 31)) (gNo Γ))) (by omega)) (cwV 2 S.2.2.2.2 gL_areLinesSo_X3_areJoined rfl rfl rfl (by decide +kernel) ⟨Nat.le_of_ble_eq_true rfl, Nat.le_of_ble_eq_true rfl⟩) hW rfl rfl hl.1 (Nat.le_of_ble_eq_true rfl) dL_areLinesSo_156 ⟨Nat.le_of_ble_eq_true rfl, Nat.le_of_ble_eq_true rfl⟩ (fun r156 H locs hq156 hW => ?_)
                        obtain rfl := hq156
                        refine lv_aload_n hx hb dL_areLinesSo_159 rfl (lv_at hl 4 rfl) ?_
                        refine lv_iload_n hx hb dL_areLinesSo_160 rfl (lv_at hl 6 rfl) ?_
                        refine lv_iload hx hb dL_areLinesSo_161 (lv_at hl 2 rfl) ?_
                        refine y_V (rm := rm0X3_areJoinedBySearch) (As := [.int (nI i), .int (nI (xlo (v >>> ((nI (i % 16)) &&& 31)) (gNo Γ)))]) (Γ' := Γ) (rest := [.int (xif (xR (gNo Γ) (gCb Γ) (gOp Γ) i (xlo (v >>> ((nI (i % 16)) &&& 31)) (gNo Γ))) 1 0)]) S (fun N F hR => c0_X3_areJoinedBySearch l E N F xo0 Γ hG.1 hR (p2 := i) (by omega) (p7 := (xlo (v >>> ((nI (i % 16)) &&& 31)) (gNo Γ))) (by omega)) (cwV 2 S.2.2.2.2 gL_areLinesSo_X3_areJoinedBySearch rfl rfl rfl (by decide +kernel) ⟨Nat.le_of_ble_eq_true rfl, Nat.le_of_ble_eq_true rfl⟩) hW rfl rfl hl.1 (Nat.le_of_ble_eq_true rfl) dL_areLinesSo_163 ⟨Nat.le_of_ble_eq_true rfl, Nat.le_of_ble_eq_true rfl⟩ (fun r163 H locs hq163 hW => ?_)
                        obtain rfl := hq163
                        refine lv_icmp_ne (tgt := 243) hx hb dL_areLinesSo_166 (by decide) (fun c166 => ?_) (fun c166 => ?_)
                        · exact absurd rfl c166
                        refine lv_aload_n hx hb dL_areLinesSo_169 rfl (lv_at hl 4 rfl) ?_
                        refine lv_iload_n hx hb dL_areLinesSo_170 rfl (lv_at hl 6 rfl) ?_
                        refine lv_aload_n hx hb dL_areLinesSo_171 rfl (lv_at hl 4 rfl) ?_
                        refine lv_iload_n hx hb dL_areLinesSo_172 rfl (lv_at hl 6 rfl) ?_
                        refine lv_iconst (v := 0) hx hb dL_areLinesSo_173 (by decide) ?_
                        refine y_V (rm := rm0X3_end) (As := [.int (nI i), .int (bz false)]) (Γ' := Γ) (rest := [.int (nI i), .ref (E.2.2.2 0)]) S (fun N F hR => c0_X3_end l E N F xo0 Γ hG.1 hR (p2 := i) (by omega) false) (cwV 2 S.2.2.2.2 gL_areLinesSo_X3_end rfl rfl rfl (by decide +kernel) ⟨Nat.le_of_ble_eq_true rfl, Nat.le_of_ble_eq_true rfl⟩) hW rfl rfl hl.1 (Nat.le_of_ble_eq_true rfl) dL_areLinesSo_174 ⟨Nat.le_of_ble_eq_true rfl, Nat.le_of_ble_eq_true rfl⟩ (fun r174 H locs hq174 hW => ?_)
                        obtain ⟨K174, hS174, rfl⟩ := hq174
                        obtain rfl := hS0.uniq hS174
                        obtain ⟨z174, hz174, ez174⟩ := hS0.get (no := gNo Γ) (by omega) hG.1.cb hG.1.op (by omega) (k := K0) (by omega)
                        refine x_topN (z174) (ez174) ?_
                        refine y_V (rm := rm0X3_areJoined) (As := [.int (nI i), .int (nI z174)]) (Γ' := Γ) (rest := []) S (fun N F hR => c0_X3_areJoined l E N F xo0 Γ hG.1 hR (p2 := i) (by omega) (p7 := z174) (hz174)) (cwV 2 S.2.2.2.2 gL_areLinesSo_X3_areJoined rfl rfl rfl (by decide +kernel) ⟨Nat.le_of_ble_eq_true rfl, Nat.le_of_ble_eq_true rfl⟩) hW rfl rfl hl.1 (Nat.le_of_ble_eq_true rfl) dL_areLinesSo_177 ⟨Nat.le_of_ble_eq_true rfl, Nat.le_of_ble_eq_true rfl⟩ (fun r177 H locs hq177 hW => ?_)
                        obtain rfl := hq177
                        refine x_topE (1) (xif_t (xw_R (by omega) hG.1.cb hG.1.op (by omega) K0 z174 hz174 ez174)) ?_
                        refine lv_if_eq (tgt := 243) hx hb dL_areLinesSo_180 (by decide) (fun c180 => ?_) (fun c180 => ?_)
                        · exact absurd c180 (by decide)
                        refine lv_aload_n hx hb dL_areLinesSo_183 rfl (lv_at hl 4 rfl) ?_
                        refine lv_iload_n hx hb dL_areLinesSo_184 rfl (lv_at hl 6 rfl) ?_
                        refine y_V (rm := rm0X3_isRing) (As := [.int (nI i)]) (Γ' := Γ) (rest := []) S (fun N F hR => c0_X3_isRing l E N F xo0 Γ hG.1 hR (p2 := i) (by omega)) (cwV 1 S.2.2.2.2 gL_areLinesSo_X3_isRing rfl rfl rfl (by decide +kernel) ⟨Nat.le_of_ble_eq_true rfl, Nat.le_of_ble_eq_true rfl⟩) hW rfl rfl hl.1 (Nat.le_of_ble_eq_true rfl) dL_areLinesSo_185 ⟨Nat.le_of_ble_eq_true rfl, Nat.le_of_ble_eq_true rfl⟩ (fun r185 H locs hq185 hW => ?_)
                        obtain rfl := hq185
                        refine x_topE (0) (xif_f (fun ⟨K9, h1, h2, h3⟩ => by obtain rfl := hS1.uniq h1; first | omega | exact c142 (nI_inj (by omega) (by omega) (ez138.symm.trans h3)))) ?_
                        refine lv_iload hx hb dL_areLinesSo_188 (lv_at hl 0 rfl) ?_
                        refine lv_icmp_ne (tgt := 243) hx hb dL_areLinesSo_190 (by decide) (fun c190 => ?_) (fun c190 => ?_)
                        · exact absurd c190 (by decide)
                        refine lv_iload hx hb dL_areLinesSo_193 (lv_at hl 0 rfl) ?_
                        refine lv_if_eq (tgt := 232) hx hb dL_areLinesSo_195 (by decide) (fun c195 => ?_) (fun c195 => ?_)
                        rotate_left
                        · exact absurd c195 (by decide)
                        refine lv_aload_n hx hb dL_areLinesSo_232 rfl (lv_at hl 4 rfl) ?_
                        refine lv_iload_n hx hb dL_areLinesSo_233 rfl (lv_at hl 6 rfl) ?_
                        refine lv_iconst (v := 1) hx hb dL_areLinesSo_234 (by decide) ?_
                        refine y_V (rm := rm0X3_lengthOf) (As := [.int (nI i), .int (bz true)]) (Γ' := Γ) (rest := []) S (fun N F hR => c0_X3_lengthOf l E N F xo0 Γ hG.1 hR (p2 := i) (by omega) true) (cwV 2 S.2.2.2.2 gL_areLinesSo_X3_lengthOf rfl rfl rfl (by decide +kernel) ⟨Nat.le_of_ble_eq_true rfl, Nat.le_of_ble_eq_true rfl⟩) hW rfl rfl hl.1 (Nat.le_of_ble_eq_true rfl) dL_areLinesSo_235 ⟨Nat.le_of_ble_eq_true rfl, Nat.le_of_ble_eq_true rfl⟩ (fun r235 H locs hq235 hW => ?_)
                        obtain ⟨K235, hS235, rfl⟩ := hq235
                        obtain rfl := hS1.uniq hS235
                        obtain ⟨m9, hm91, hm92, em9⟩ := gLen_b hG (by omega) hS1 K1 (Nat.le_refl _)
                        refine x_topN (m9) (em9) ?_
                        refine lv_iload hx hb dL_areLinesSo_238 (lv_at hl 1 rfl) ?_
                        refine x_icmp_ge (a := m9) (b := K1) (tgt := 245) hx hb dL_areLinesSo_240 (by decide) (by omega) (by omega) (fun c240 => ?_) (fun c240 => ?_)
                        rotate_left
                        · exact absurd c240 (by omega)
                        refine lv_iinc (v := (nI (i + 1))) (lv' := [(3, .int (nI (i + 1))), (7, .int 0), (6, .int (nI K1)), (5, .int (nI (xlo (v >>> ((nI (i % 16)) &&& 31)) (gNo Γ)))), (2, .int (nI ((xcnt (fun q => ∀ z, z < q → ¬ xR (gNo Γ) (gCb Γ) (gOp Γ) z q) i) + 1))), (0, .ref (E.2.2.2 0)), (1, .int v), (4, .int 1)]) hx hb dL_areLinesSo_245 hl (k := 6) rfl (x_inc _) (by decide) rfl (fun ls hl => ?_)
                        refine lv_goto (tgt := 4) hx hb dL_areLinesSo_248 (by decide) ?_
                        rw [show xcnt (fun q => ∀ z, z < q → ¬ xR (gNo Γ) (gCb Γ) (gOp Γ) z q) i + 1 = xcnt (fun q => ∀ z, z < q → ¬ xR (gNo Γ) (gCb Γ) (gOp Γ) z q) (i + 1) from (xcnt_t (P := (fun q => ∀ z, z < q → ¬ xR (gNo Γ) (gCb Γ) (gOp Γ) z q)) hL).symm] at hl
                        exact L4  (i + 1) (by omega) (by omega) _ _ _ hW (lv_sub hl [5, 6, 4, 0] rfl)
                      · refine lv_aload_n hx hb dL_areLinesSo_135 rfl (lv_at hl 3 rfl) ?_
                        refine lv_iload_n hx hb dL_areLinesSo_136 rfl (lv_at hl 5 rfl) ?_
                        refine lv_iconst (v := 1) hx hb dL_areLinesSo_137 (by decide) ?_
                        refine y_V (rm := rm0X3_end) (As := [.int (nI i), .int (bz true)]) (Γ' := Γ) (rest := []) S (fun N F hR => c0_X3_end l E N F xo0 Γ hG.1 hR (p2 := i) (by omega) true) (cwV 2 S.2.2.2.2 gL_areLinesSo_X3_end rfl rfl rfl (by decide +kernel) ⟨Nat.le_of_ble_eq_true rfl, Nat.le_of_ble_eq_true rfl⟩) hW rfl rfl hl.1 (Nat.le_of_ble_eq_true rfl) dL_areLinesSo_138 ⟨Nat.le_of_ble_eq_true rfl, Nat.le_of_ble_eq_true rfl⟩ (fun r138 H locs hq138 hW => ?_)
                        obtain ⟨K138, hS138, rfl⟩ := hq138
                        obtain rfl := hS1.uniq hS138
                        obtain ⟨z138, hz138, ez138⟩ := hS1.get (no := gNo Γ) (by omega) hG.1.cb hG.1.op (by omega) (k := K1) (by omega)
                        refine x_topN (z138) (ez138) ?_
                        refine lv_iload_n hx hb dL_areLinesSo_141 rfl (lv_at hl 5 rfl) ?_
                        refine x_icmp_ne (a := z138) (b := i) (tgt := 149) hx hb dL_areLinesSo_142 (by decide) (by omega) (by omega) (fun c142 => ?_) (fun c142 => ?_)
                        · refine lv_iconst (v := 0) hx hb dL_areLinesSo_149 (by decide) ?_
                          refine lv_istore (lv' := [(7, .int 0), (6, .int (nI K1)), (5, .int (nI (xlo (v >>> ((nI (i % 16)) &&& 31)) (gNo Γ)))), (2, .int (nI ((xcnt (fun q => ∀ z, z < q → ¬ xR (gNo Γ) (gCb Γ) (gOp Γ) z q) i) + 1))), (0, .ref (E.2.2.2 0)), (1, .int v), (3, .int (nI i)), (4, .int 1)]) hx hb dL_areLinesSo_150 hl (by decide) rfl (fun ls hl => ?_)
                          refine lv_aload_n hx hb dL_areLinesSo_152 rfl (lv_at hl 4 rfl) ?_
                          refine lv_iload_n hx hb dL_areLinesSo_153 rfl (lv_at hl 6 rfl) ?_
                          refine lv_iload hx hb dL_areLinesSo_154 (lv_at hl 2 rfl) ?_
                          refine y_V (rm := rm0X3_areJoined) (As := [.int (nI i), .int (nI (xlo (v >>> ((nI (i % 16)) &&& 31)) (gNo Γ)))]) (Γ' := Γ) (rest := []) S (fun N F hR => c0_X3_areJoined l E N F xo0 Γ hG.1 hR (p2 := i) (by omega) (p7 := (xlo (v >>> ((nI (i % 16)) &&& 31)) (gNo Γ))) (by omega)) (cwV 2 S.2.2.2.2 gL_areLinesSo_X3_areJoined rfl rfl rfl (by decide +kernel) ⟨Nat.le_of_ble_eq_true rfl, Nat.le_of_ble_eq_true rfl⟩) hW rfl rfl hl.1 (Nat.le_of_ble_eq_true rfl) dL_areLinesSo_156 ⟨Nat.le_of_ble_eq_true rfl, Nat.le_of_ble_eq_true rfl⟩ (fun r156 H locs hq156 hW => ?_)
                          obtain rfl := hq156
                          refine lv_aload_n hx hb dL_areLinesSo_159 rfl (lv_at hl 4 rfl) ?_
                          refine lv_iload_n hx hb dL_areLinesSo_160 rfl (lv_at hl 6 rfl) ?_
                          refine lv_iload hx hb dL_areLinesSo_161 (lv_at hl 2 rfl) ?_
                          refine y_V (rm := rm0X3_areJoinedBySearch) (As := [.int (nI i), .int (nI (xlo (v >>> ((nI (i % 16)) &&& 31)) (gNo Γ)))]) (Γ' := Γ) (rest := [.int (xif (xR (gNo Γ) (gCb Γ) (gOp Γ) i (xlo (v >>> ((nI (i % 16)) &&& 31)) (gNo Γ))) 1 0)]) S (fun N F hR => c0_X3_areJoinedBySearch l E N F xo0 Γ hG.1 hR (p2 := i) (by omega) (p7 := (xlo (v >>> ((nI (i % 16)) &&& 31)) (gNo Γ))) (by omega)) (cwV 2 S.2.2.2.2 gL_areLinesSo_X3_areJoinedBySearch rfl rfl rfl (by decide +kernel) ⟨Nat.le_of_ble_eq_true rfl, Nat.le_of_ble_eq_true rfl⟩) hW rfl rfl hl.1 (Nat.le_of_ble_eq_true rfl) dL_areLinesSo_163 ⟨Nat.le_of_ble_eq_true rfl, Nat.le_of_ble_eq_true rfl⟩ (fun r163 H locs hq163 hW => ?_)
                          obtain rfl := hq163
                          refine lv_icmp_ne (tgt := 243) hx hb dL_areLinesSo_166 (by decide) (fun c166 => ?_) (fun c166 => ?_)
                          · exact absurd rfl c166
                          refine lv_aload_n hx hb dL_areLinesSo_169 rfl (lv_at hl 4 rfl) ?_
                          refine lv_iload_n hx hb dL_areLinesSo_170 rfl (lv_at hl 6 rfl) ?_
                          refine lv_aload_n hx hb dL_areLinesSo_171 rfl (lv_at hl 4 rfl) ?_
                          refine lv_iload_n hx hb dL_areLinesSo_172 rfl (lv_at hl 6 rfl) ?_
                          refine lv_iconst (v := 0) hx hb dL_areLinesSo_173 (by decide) ?_
                          refine y_V (rm := rm0X3_end) (As := [.int (nI i), .int (bz false)]) (Γ' := Γ) (rest := [.int (nI i), .ref (E.2.2.2 0)]) S (fun N F hR => c0_X3_end l E N F xo0 Γ hG.1 hR (p2 := i) (by omega) false) (cwV 2 S.2.2.2.2 gL_areLinesSo_X3_end rfl rfl rfl (by decide +kernel) ⟨Nat.le_of_ble_eq_true rfl, Nat.le_of_ble_eq_true rfl⟩) hW rfl rfl hl.1 (Nat.le_of_ble_eq_true rfl) dL_areLinesSo_174 ⟨Nat.le_of_ble_eq_true rfl, Nat.le_of_ble_eq_true rfl⟩ (fun r174 H locs hq174 hW => ?_)
                          obtain ⟨K174, hS174, rfl⟩ := hq174
                          obtain rfl := hS0.uniq hS174
                          obtain ⟨z174, hz174, ez174⟩ := hS0.get (no := gNo Γ) (by omega) hG.1.cb hG.1.op (by omega) (k := K0) (by omega)
                          refine x_topN (z174) (ez174) ?_
                          refine y_V (rm := rm0X3_areJoined) (As := [.int (nI i), .int (nI z174)]) (Γ' := Γ) (rest := []) S (fun N F hR => c0_X3_areJoined l E N F xo0 Γ hG.1 hR (p2 := i) (by omega) (p7 := z174) (hz174)) (cwV 2 S.2.2.2.2 gL_areLinesSo_X3_areJoined rfl rfl rfl (by decide +kernel) ⟨Nat.le_of_ble_eq_true rfl, Nat.le_of_ble_eq_true rfl⟩) hW rfl rfl hl.1 (Nat.le_of_ble_eq_true rfl) dL_areLinesSo_177 ⟨Nat.le_of_ble_eq_true rfl, Nat.le_of_ble_eq_true rfl⟩ (fun r177 H locs hq177 hW => ?_)
                          obtain rfl := hq177
                          refine x_topE (1) (xif_t (xw_R (by omega) hG.1.cb hG.1.op (by omega) K0 z174 hz174 ez174)) ?_
                          refine lv_if_eq (tgt := 243) hx hb dL_areLinesSo_180 (by decide) (fun c180 => ?_) (fun c180 => ?_)
                          · exact absurd c180 (by decide)
                          refine lv_aload_n hx hb dL_areLinesSo_183 rfl (lv_at hl 4 rfl) ?_
                          refine lv_iload_n hx hb dL_areLinesSo_184 rfl (lv_at hl 6 rfl) ?_
                          refine y_V (rm := rm0X3_isRing) (As := [.int (nI i)]) (Γ' := Γ) (rest := []) S (fun N F hR => c0_X3_isRing l E N F xo0 Γ hG.1 hR (p2 := i) (by omega)) (cwV 1 S.2.2.2.2 gL_areLinesSo_X3_isRing rfl rfl rfl (by decide +kernel) ⟨Nat.le_of_ble_eq_true rfl, Nat.le_of_ble_eq_true rfl⟩) hW rfl rfl hl.1 (Nat.le_of_ble_eq_true rfl) dL_areLinesSo_185 ⟨Nat.le_of_ble_eq_true rfl, Nat.le_of_ble_eq_true rfl⟩ (fun r185 H locs hq185 hW => ?_)
                          obtain rfl := hq185
                          refine x_topE (0) (xif_f (fun ⟨K9, h1, h2, h3⟩ => by obtain rfl := hS1.uniq h1; first | omega | exact c142 (nI_inj (by omega) (by omega) (ez138.symm.trans h3)))) ?_
                          refine lv_iload hx hb dL_areLinesSo_188 (lv_at hl 0 rfl) ?_
                          refine lv_icmp_ne (tgt := 243) hx hb dL_areLinesSo_190 (by decide) (fun c190 => ?_) (fun c190 => ?_)
                          · exact absurd c190 (by decide)
                          refine lv_iload hx hb dL_areLinesSo_193 (lv_at hl 0 rfl) ?_
                          refine lv_if_eq (tgt := 232) hx hb dL_areLinesSo_195 (by decide) (fun c195 => ?_) (fun c195 => ?_)
                          rotate_left
                          · exact absurd c195 (by decide)
                          refine lv_aload_n hx hb dL_areLinesSo_232 rfl (lv_at hl 4 rfl) ?_
                          refine lv_iload_n hx hb dL_areLinesSo_233 rfl (lv_at hl 6 rfl) ?_
                          refine lv_iconst (v := 1) hx hb dL_areLinesSo_234 (by decide) ?_
                          refine y_V (rm := rm0X3_lengthOf) (As := [.int (nI i), .int (bz true)]) (Γ' := Γ) (rest := []) S (fun N F hR => c0_X3_lengthOf l E N F xo0 Γ hG.1 hR (p2 := i) (by omega) true) (cwV 2 S.2.2.2.2 gL_areLinesSo_X3_lengthOf rfl rfl rfl (by decide +kernel) ⟨Nat.le_of_ble_eq_true rfl, Nat.le_of_ble_eq_true rfl⟩) hW rfl rfl hl.1 (Nat.le_of_ble_eq_true rfl) dL_areLinesSo_235 ⟨Nat.le_of_ble_eq_true rfl, Nat.le_of_ble_eq_true rfl⟩ (fun r235 H locs hq235 hW => ?_)
                          obtain ⟨K235, hS235, rfl⟩ := hq235
                          obtain rfl := hS1.uniq hS235
                          obtain ⟨m9, hm91, hm92, em9⟩ := gLen_b hG (by omega) hS1 K1 (Nat.le_refl _)
                          refine x_topN (m9) (em9) ?_
                          refine lv_iload hx hb dL_areLinesSo_238 (lv_at hl 1 rfl) ?_
                          refine x_icmp_ge (a := m9) (b := K1) (tgt := 245) hx hb dL_areLinesSo_240 (by decide) (by omega) (by omega) (fun c240 => ?_) (fun c240 => ?_)
                          rotate_left
                          · exact absurd c240 (by omega)
                          refine lv_iinc (v := (nI (i + 1))) (lv' := [(3, .int (nI (i + 1))), (7, .int 0), (6, .int (nI K1)), (5, .int (nI (xlo (v >>> ((nI (i % 16)) &&& 31)) (gNo Γ)))), (2, .int (nI ((xcnt (fun q => ∀ z, z < q → ¬ xR (gNo Γ) (gCb Γ) (gOp Γ) z q) i) + 1))), (0, .ref (E.2.2.2 0)), (1, .int v), (4, .int 1)]) hx hb dL_areLinesSo_245 hl (k := 6) rfl (x_inc _) (by decide) rfl (fun ls hl => ?_)
                          refine lv_goto (tgt := 4) hx hb dL_areLinesSo_248 (by decide) ?_
                          rw [show xcnt (fun q => ∀ z, z < q → ¬ xR (gNo Γ) (gCb Γ) (gOp Γ) z q) i + 1 = xcnt (fun q => ∀ z, z < q → ¬ xR (gNo Γ) (gCb Γ) (gOp Γ) z q) (i + 1) from (xcnt_t (P := (fun q => ∀ z, z < q → ¬ xR (gNo Γ) (gCb Γ) (gOp Γ) z q)) hL).symm] at hl
                          exact L4  (i + 1) (by omega) (by omega) _ _ _ hW (lv_sub hl [5, 6, 4, 0] rfl)
                        · refine lv_iconst (v := 1) hx hb dL_areLinesSo_145 (by decide) ?_
                          refine lv_goto (tgt := 150) hx hb dL_areLinesSo_146 (by decide) ?_
                          refine lv_istore (lv' := [(7, .int 1), (6, .int (nI K1)), (5, .int (nI (xlo (v >>> ((nI (i % 16)) &&& 31)) (gNo Γ)))), (2, .int (nI ((xcnt (fun q => ∀ z, z < q → ¬ xR (gNo Γ) (gCb Γ) (gOp Γ) z q) i) + 1))), (0, .ref (E.2.2.2 0)), (1, .int v), (3, .int (nI i)), (4, .int 1)]) hx hb dL_areLinesSo_150 hl (by decide) rfl (fun ls hl => ?_)
                          refine lv_aload_n hx hb dL_areLinesSo_152 rfl (lv_at hl 4 rfl) ?_
                          refine lv_iload_n hx hb dL_areLinesSo_153 rfl (lv_at hl 6 rfl) ?_
                          refine lv_iload hx hb dL_areLinesSo_154 (lv_at hl 2 rfl) ?_
                          refine y_V (rm := rm0X3_areJoined) (As := [.int (nI i), .int (nI (xlo (v >>> ((nI (i % 16)) &&& 31)) (gNo Γ)))]) (Γ' := Γ) (rest := []) S (fun N F hR => c0_X3_areJoined l E N F xo0 Γ hG.1 hR (p2 := i) (by omega) (p7 := (xlo (v >>> ((nI (i % 16)) &&& 31)) (gNo Γ))) (by omega)) (cwV 2 S.2.2.2.2 gL_areLinesSo_X3_areJoined rfl rfl rfl (by decide +kernel) ⟨Nat.le_of_ble_eq_true rfl, Nat.le_of_ble_eq_true rfl⟩) hW rfl rfl hl.1 (Nat.le_of_ble_eq_true rfl) dL_areLinesSo_156 ⟨Nat.le_of_ble_eq_true rfl, Nat.le_of_ble_eq_true rfl⟩ (fun r156 H locs hq156 hW => ?_)
                          obtain rfl := hq156
                          refine lv_aload_n hx hb dL_areLinesSo_159 rfl (lv_at hl 4 rfl) ?_
                          refine lv_iload_n hx hb dL_areLinesSo_160 rfl (lv_at hl 6 rfl) ?_
                          refine lv_iload hx hb dL_areLinesSo_161 (lv_at hl 2 rfl) ?_
                          refine y_V (rm := rm0X3_areJoinedBySearch) (As := [.int (nI i), .int (nI (xlo (v >>> ((nI (i % 16)) &&& 31)) (gNo Γ)))]) (Γ' := Γ) (rest := [.int (xif (xR (gNo Γ) (gCb Γ) (gOp Γ) i (xlo (v >>> ((nI (i % 16)) &&& 31)) (gNo Γ))) 1 0)]) S (fun N F hR => c0_X3_areJoinedBySearch l E N F xo0 Γ hG.1 hR (p2 := i) (by omega) (p7 := (xlo (v >>> ((nI (i % 16)) &&& 31)) (gNo Γ))) (by omega)) (cwV 2 S.2.2.2.2 gL_areLinesSo_X3_areJoinedBySearch rfl rfl rfl (by decide +kernel) ⟨Nat.le_of_ble_eq_true rfl, Nat.le_of_ble_eq_true rfl⟩) hW rfl rfl hl.1 (Nat.le_of_ble_eq_true rfl) dL_areLinesSo_163 ⟨Nat.le_of_ble_eq_true rfl, Nat.le_of_ble_eq_true rfl⟩ (fun r163 H locs hq163 hW => ?_)
                          obtain rfl := hq163
                          refine lv_icmp_ne (tgt := 243) hx hb dL_areLinesSo_166 (by decide) (fun c166 => ?_) (fun c166 => ?_)
                          · exact absurd rfl c166
                          refine lv_aload_n hx hb dL_areLinesSo_169 rfl (lv_at hl 4 rfl) ?_
                          refine lv_iload_n hx hb dL_areLinesSo_170 rfl (lv_at hl 6 rfl) ?_
                          refine lv_aload_n hx hb dL_areLinesSo_171 rfl (lv_at hl 4 rfl) ?_
                          refine lv_iload_n hx hb dL_areLinesSo_172 rfl (lv_at hl 6 rfl) ?_
                          refine lv_iconst (v := 0) hx hb dL_areLinesSo_173 (by decide) ?_
                          refine y_V (rm := rm0X3_end) (As := [.int (nI i), .int (bz false)]) (Γ' := Γ) (rest := [.int (nI i), .ref (E.2.2.2 0)]) S (fun N F hR => c0_X3_end l E N F xo0 Γ hG.1 hR (p2 := i) (by omega) false) (cwV 2 S.2.2.2.2 gL_areLinesSo_X3_end rfl rfl rfl (by decide +kernel) ⟨Nat.le_of_ble_eq_true rfl, Nat.le_of_ble_eq_true rfl⟩) hW rfl rfl hl.1 (Nat.le_of_ble_eq_true rfl) dL_areLinesSo_174 ⟨Nat.le_of_ble_eq_true rfl, Nat.le_of_ble_eq_true rfl⟩ (fun r174 H locs hq174 hW => ?_)
                          obtain ⟨K174, hS174, rfl⟩ := hq174
                          obtain rfl := hS0.uniq hS174
                          obtain ⟨z174, hz174, ez174⟩ := hS0.get (no := gNo Γ) (by omega) hG.1.cb hG.1.op (by omega) (k := K0) (by omega)
                          refine x_topN (z174) (ez174) ?_
                          refine y_V (rm := rm0X3_areJoined) (As := [.int (nI i), .int (nI z174)]) (Γ' := Γ) (rest := []) S (fun N F hR => c0_X3_areJoined l E N F xo0 Γ hG.1 hR (p2 := i) (by omega) (p7 := z174) (hz174)) (cwV 2 S.2.2.2.2 gL_areLinesSo_X3_areJoined rfl rfl rfl (by decide +kernel) ⟨Nat.le_of_ble_eq_true rfl, Nat.le_of_ble_eq_true rfl⟩) hW rfl rfl hl.1 (Nat.le_of_ble_eq_true rfl) dL_areLinesSo_177 ⟨Nat.le_of_ble_eq_true rfl, Nat.le_of_ble_eq_true rfl⟩ (fun r177 H locs hq177 hW => ?_)
                          obtain rfl := hq177
                          refine x_topE (1) (xif_t (xw_R (by omega) hG.1.cb hG.1.op (by omega) K0 z174 hz174 ez174)) ?_
                          refine lv_if_eq (tgt := 243) hx hb dL_areLinesSo_180 (by decide) (fun c180 => ?_) (fun c180 => ?_)
                          · exact absurd c180 (by decide)
                          refine lv_aload_n hx hb dL_areLinesSo_183 rfl (lv_at hl 4 rfl) ?_
                          refine lv_iload_n hx hb dL_areLinesSo_184 rfl (lv_at hl 6 rfl) ?_
                          refine y_V (rm := rm0X3_isRing) (As := [.int (nI i)]) (Γ' := Γ) (rest := []) S (fun N F hR => c0_X3_isRing l E N F xo0 Γ hG.1 hR (p2 := i) (by omega)) (cwV 1 S.2.2.2.2 gL_areLinesSo_X3_isRing rfl rfl rfl (by decide +kernel) ⟨Nat.le_of_ble_eq_true rfl, Nat.le_of_ble_eq_true rfl⟩) hW rfl rfl hl.1 (Nat.le_of_ble_eq_true rfl) dL_areLinesSo_185 ⟨Nat.le_of_ble_eq_true rfl, Nat.le_of_ble_eq_true rfl⟩ (fun r185 H locs hq185 hW => ?_)
                          obtain rfl := hq185
                          refine x_topE (1) (xif_t ⟨K1, hS1, c132, by rw [ez138, c142]⟩) ?_
                          refine lv_iload hx hb dL_areLinesSo_188 (lv_at hl 0 rfl) ?_
                          refine lv_icmp_ne (tgt := 243) hx hb dL_areLinesSo_190 (by decide) (fun c190 => ?_) (fun c190 => ?_)
                          · exact absurd c190 (by decide)
                          refine lv_iload hx hb dL_areLinesSo_193 (lv_at hl 0 rfl) ?_
                          refine lv_if_eq (tgt := 232) hx hb dL_areLinesSo_195 (by decide) (fun c195 => ?_) (fun c195 => ?_)
                          · exact absurd c195 (by decide)
                          have hr9 := xring (no := gNo Γ) (by omega) hG.1.cb hG.1.op (by omega) hS1 c132 (by rw [ez138, c142])
                          have hk09 : K0 = K1 := hS0.uniq hr9.2.2
                          have hev9 := hr9.1
                          have hlen9 : gLen Γ false i K0 = gLen Γ true i K1 := by rw [hk09]; exact gLen_r hG (by omega) hS1 c132 (by rw [ez138, c142])
                          refine lv_aload_n hx hb dL_areLinesSo_198 rfl (lv_at hl 4 rfl) ?_
                          refine lv_iload_n hx hb dL_areLinesSo_199 rfl (lv_at hl 6 rfl) ?_
                          refine lv_iconst (v := 0) hx hb dL_areLinesSo_200 (by decide) ?_
                          refine y_V (rm := rm0X3_hops) (As := [.int (nI i), .int (bz false)]) (Γ' := Γ) (rest := []) S (fun N F hR => c0_X3_hops l E N F xo0 Γ hG.1 hR (p2 := i) (by omega) false) (cwV 2 S.2.2.2.2 gL_areLinesSo_X3_hops rfl rfl rfl (by decide +kernel) ⟨Nat.le_of_ble_eq_true rfl, Nat.le_of_ble_eq_true rfl⟩) hW rfl rfl hl.1 (Nat.le_of_ble_eq_true rfl) dL_areLinesSo_201 ⟨Nat.le_of_ble_eq_true rfl, Nat.le_of_ble_eq_true rfl⟩ (fun r201 H locs hq201 hW => ?_)
                          obtain ⟨K201, hS201, rfl⟩ := hq201
                          obtain rfl := hS0.uniq hS201
                          refine lv_iload hx hb dL_areLinesSo_204 (lv_at hl 1 rfl) ?_
                          refine x_icmp_ne (a := K0) (b := K1) (tgt := 243) hx hb dL_areLinesSo_206 (by decide) (by omega) (by omega) (fun c206 => ?_) (fun c206 => ?_)
                          · exact absurd hk09 c206
                          refine lv_iload hx hb dL_areLinesSo_209 (lv_at hl 1 rfl) ?_
                          refine lv_iconst (v := 2) hx hb dL_areLinesSo_211 (by decide) ?_
                          refine lv_irem hx hb dL_areLinesSo_212 (by decide) ?_
                          refine x_topN (K1 % 2) (x_rem (a := K1) (m := 2) (by omega) (by omega)) ?_
                          refine lv_iconst (v := 1) hx hb dL_areLinesSo_213 (by decide) ?_
                          refine x_icmp_eq (a := K1 % 2) (b := 1) (tgt := 243) hx hb dL_areLinesSo_214 (by decide) (by omega) (by omega) (fun c214 => ?_) (fun c214 => ?_)
                          · exact absurd c214 (by omega)
                          refine lv_aload_n hx hb dL_areLinesSo_217 rfl (lv_at hl 4 rfl) ?_
                          refine lv_iload_n hx hb dL_areLinesSo_218 rfl (lv_at hl 6 rfl) ?_
                          refine lv_iconst (v := 0) hx hb dL_areLinesSo_219 (by decide) ?_
                          refine y_V (rm := rm0X3_lengthOf) (As := [.int (nI i), .int (bz false)]) (Γ' := Γ) (rest := []) S (fun N F hR => c0_X3_lengthOf l E N F xo0 Γ hG.1 hR (p2 := i) (by omega) false) (cwV 2 S.2.2.2.2 gL_areLinesSo_X3_lengthOf rfl rfl rfl (by decide +kernel) ⟨Nat.le_of_ble_eq_true rfl, Nat.le_of_ble_eq_true rfl⟩) hW rfl rfl hl.1 (Nat.le_of_ble_eq_true rfl) dL_areLinesSo_220 ⟨Nat.le_of_ble_eq_true rfl, Nat.le_of_ble_eq_true rfl⟩ (fun r220 H locs hq220 hW => ?_)
                          obtain ⟨K220, hS220, rfl⟩ := hq220
                          obtain rfl := hS0.uniq hS220
                          refine lv_aload_n hx hb dL_areLinesSo_223 rfl (lv_at hl 4 rfl) ?_
                          refine lv_iload_n hx hb dL_areLinesSo_224 rfl (lv_at hl 6 rfl) ?_
                          refine lv_iconst (v := 1) hx hb dL_areLinesSo_225 (by decide) ?_
                          refine y_V (rm := rm0X3_lengthOf) (As := [.int (nI i), .int (bz true)]) (Γ' := Γ) (rest := [.int (gLen Γ false i K0)]) S (fun N F hR => c0_X3_lengthOf l E N F xo0 Γ hG.1 hR (p2 := i) (by omega) true) (cwV 2 S.2.2.2.2 gL_areLinesSo_X3_lengthOf rfl rfl rfl (by decide +kernel) ⟨Nat.le_of_ble_eq_true rfl, Nat.le_of_ble_eq_true rfl⟩) hW rfl rfl hl.1 (Nat.le_of_ble_eq_true rfl) dL_areLinesSo_226 ⟨Nat.le_of_ble_eq_true rfl, Nat.le_of_ble_eq_true rfl⟩ (fun r226 H locs hq226 hW => ?_)
                          obtain ⟨K226, hS226, rfl⟩ := hq226
                          obtain rfl := hS1.uniq hS226
                          refine lv_icmp_ne (tgt := 243) hx hb dL_areLinesSo_229 (by decide) (fun c229 => ?_) (fun c229 => ?_)
                          · exact absurd hlen9 c229
                          refine lv_aload_n hx hb dL_areLinesSo_232 rfl (lv_at hl 4 rfl) ?_
                          refine lv_iload_n hx hb dL_areLinesSo_233 rfl (lv_at hl 6 rfl) ?_
                          refine lv_iconst (v := 1) hx hb dL_areLinesSo_234 (by decide) ?_
                          refine y_V (rm := rm0X3_lengthOf) (As := [.int (nI i), .int (bz true)]) (Γ' := Γ) (rest := []) S (fun N F hR => c0_X3_lengthOf l E N F xo0 Γ hG.1 hR (p2 := i) (by omega) true) (cwV 2 S.2.2.2.2 gL_areLinesSo_X3_lengthOf rfl rfl rfl (by decide +kernel) ⟨Nat.le_of_ble_eq_true rfl, Nat.le_of_ble_eq_true rfl⟩) hW rfl rfl hl.1 (Nat.le_of_ble_eq_true rfl) dL_areLinesSo_235 ⟨Nat.le_of_ble_eq_true rfl, Nat.le_of_ble_eq_true rfl⟩ (fun r235 H locs hq235 hW => ?_)
                          obtain ⟨K235, hS235, rfl⟩ := hq235
                          obtain rfl := hS1.uniq hS235
                          obtain ⟨m9, hm91, hm92, em9⟩ := gLen_b hG (by omega) hS1 K1 (Nat.le_refl _)
                          refine x_topN (m9) (em9) ?_
                          refine lv_iload hx hb dL_areLinesSo_238 (lv_at hl 1 rfl) ?_
                          refine x_icmp_ge (a := m9) (b := K1) (tgt := 245) hx hb dL_areLinesSo_240 (by decide) (by omega) (by omega) (fun c240 => ?_) (fun c240 => ?_)
                          rotate_left
                          · exact absurd c240 (by omega)
                          refine lv_iinc (v := (nI (i + 1))) (lv' := [(3, .int (nI (i + 1))), (7, .int 1), (6, .int (nI K1)), (5, .int (nI (xlo (v >>> ((nI (i % 16)) &&& 31)) (gNo Γ)))), (2, .int (nI ((xcnt (fun q => ∀ z, z < q → ¬ xR (gNo Γ) (gCb Γ) (gOp Γ) z q) i) + 1))), (0, .ref (E.2.2.2 0)), (1, .int v), (4, .int 1)]) hx hb dL_areLinesSo_245 hl (k := 6) rfl (x_inc _) (by decide) rfl (fun ls hl => ?_)
                          refine lv_goto (tgt := 4) hx hb dL_areLinesSo_248 (by decide) ?_
                          rw [show xcnt (fun q => ∀ z, z < q → ¬ xR (gNo Γ) (gCb Γ) (gOp Γ) z q) i + 1 = xcnt (fun q => ∀ z, z < q → ¬ xR (gNo Γ) (gCb Γ) (gOp Γ) z q) (i + 1) from (xcnt_t (P := (fun q => ∀ z, z < q → ¬ xR (gNo Γ) (gCb Γ) (gOp Γ) z q)) hL).symm] at hl
                          exact L4  (i + 1) (by omega) (by omega) _ _ _ hW (lv_sub hl [5, 6, 4, 0] rfl)
                    · rw [xif_f hL] at e4
                      subst e4
                      refine lv_iload_n hx hb dL_areLinesSo_94 rfl (lv_at hl 3 rfl) ?_
                      refine lv_iload hx hb dL_areLinesSo_95 (lv_at hl 5 rfl) ?_
                      refine lv_if_eq (tgt := 104) hx hb dL_areLinesSo_97 (by decide) (fun c97 => ?_) (fun c97 => ?_)
                      rotate_left
                      · exact absurd c97 (by decide)
                      refine lv_iconst (v := 0) hx hb dL_areLinesSo_104 (by decide) ?_
                      refine x_iadd (a := xcnt (fun q => ∀ z, z < q → ¬ xR (gNo Γ) (gCb Γ) (gOp Γ) z q) i) (b := 0) hx hb dL_areLinesSo_105 ?_
                      refine lv_istore_n (lv' := [(2, .int (nI ((xcnt (fun q => ∀ z, z < q → ¬ xR (gNo Γ) (gCb Γ) (gOp Γ) z q) i) + 0))), (5, .int 2), (0, .ref (E.2.2.2 0)), (1, .int v), (3, .int (nI i)), (4, .int 0), (6, .int (nI h))]) hx hb dL_areLinesSo_106 rfl hl (by decide) rfl (fun ls hl => ?_)
                      refine lv_iload_n hx hb dL_areLinesSo_107 rfl (lv_at hl 3 rfl) ?_
                      refine lv_iload_n hx hb dL_areLinesSo_108 rfl (lv_at hl 4 rfl) ?_
                      refine lv_bipush (v := 16) hx hb dL_areLinesSo_109 (by decide) ?_
                      refine lv_irem hx hb dL_areLinesSo_111 (by decide) ?_
                      refine x_topN (i % 16) (x_rem (a := i) (m := 16) (by omega) (by omega)) ?_
                      refine lv_ishr hx hb dL_areLinesSo_112 ?_
                      refine lv_aload_n hx hb dL_areLinesSo_113 rfl (lv_at hl 2 rfl) ?_
                      refine y_V (rm := rmX3_ports) (As := []) (Γ' := Γ) (rest := [.int (v >>> ((nI (i % 16)) &&& 31))]) S (fun N F hR => c_X3_ports l E N F xo0 Γ hG.1 hR) (cwV 0 S.2.2.2.2 gL_areLinesSo_X3_ports rfl rfl rfl (by decide +kernel) ⟨Nat.le_of_ble_eq_true rfl, Nat.le_of_ble_eq_true rfl⟩) hW rfl rfl hl.1 (Nat.le_of_ble_eq_true rfl) dL_areLinesSo_114 ⟨Nat.le_of_ble_eq_true rfl, Nat.le_of_ble_eq_true rfl⟩ (fun r114 H locs hq114 hW => ?_)
                      obtain rfl := hq114
                      refine y_S (K := 0) (rm := rmL_low) (As := [.int (v >>> ((nI (i % 16)) &&& 31)), .int (nI (gNo Γ))]) (rest := []) S (c_L_low l E hfl Γ hG (v >>> ((nI (i % 16)) &&& 31)) (k := (gNo Γ)) (by omega) (by omega)) (cwS 2 S.2.2.2.2 gL_areLinesSo_L_low rfl rfl rfl (by decide +kernel) ⟨Nat.le_of_ble_eq_true rfl, Nat.le_of_ble_eq_true rfl⟩) hW hTh hNc rfl rfl hl.1 (Nat.le_of_ble_eq_true rfl) dL_areLinesSo_117 ⟨Nat.le_of_ble_eq_true rfl, Nat.le_of_ble_eq_true rfl⟩ (fun r117 Γ117 H locs hq117 hW => ?_)
                      obtain ⟨rfl, eΓ117⟩ := hq117
                      obtain rfl := eΓ117.symm
                      have hlo117 := xlo_lt (v >>> ((nI (i % 16)) &&& 31)) (m := (gNo Γ)) (by omega)
                      refine lv_istore (lv' := [(5, .int (nI (xlo (v >>> ((nI (i % 16)) &&& 31)) (gNo Γ)))), (2, .int (nI ((xcnt (fun q => ∀ z, z < q → ¬ xR (gNo Γ) (gCb Γ) (gOp Γ) z q) i) + 0))), (0, .ref (E.2.2.2 0)), (1, .int v), (3, .int (nI i)), (4, .int 0), (6, .int (nI h))]) hx hb dL_areLinesSo_120 hl (by decide) rfl (fun ls hl => ?_)
                      refine lv_aload_n hx hb dL_areLinesSo_122 rfl (lv_at hl 2 rfl) ?_
                      refine lv_iload_n hx hb dL_areLinesSo_123 rfl (lv_at hl 4 rfl) ?_
                      refine lv_iconst (v := 1) hx hb dL_areLinesSo_124 (by decide) ?_
                      refine y_V (rm := rm0X3_hops) (As := [.int (nI i), .int (bz true)]) (Γ' := Γ) (rest := []) S (fun N F hR => c0_X3_hops l E N F xo0 Γ hG.1 hR (p2 := i) (by omega) true) (cwV 2 S.2.2.2.2 gL_areLinesSo_X3_hops rfl rfl rfl (by decide +kernel) ⟨Nat.le_of_ble_eq_true rfl, Nat.le_of_ble_eq_true rfl⟩) hW rfl rfl hl.1 (Nat.le_of_ble_eq_true rfl) dL_areLinesSo_125 ⟨Nat.le_of_ble_eq_true rfl, Nat.le_of_ble_eq_true rfl⟩ (fun r125 H locs hq125 hW => ?_)
                      obtain ⟨K125, hS125, rfl⟩ := hq125
                      obtain rfl := hS1.uniq hS125
                      refine lv_istore (lv' := [(6, .int (nI K1)), (5, .int (nI (xlo (v >>> ((nI (i % 16)) &&& 31)) (gNo Γ)))), (2, .int (nI ((xcnt (fun q => ∀ z, z < q → ¬ xR (gNo Γ) (gCb Γ) (gOp Γ) z q) i) + 0))), (0, .ref (E.2.2.2 0)), (1, .int v), (3, .int (nI i)), (4, .int 0)]) hx hb dL_areLinesSo_128 hl (by decide) rfl (fun ls hl => ?_)
                      refine lv_iload hx hb dL_areLinesSo_130 (lv_at hl 0 rfl) ?_
                      refine x_if_le (tgt := 149) hx hb dL_areLinesSo_132 (by decide) (by omega) (fun c132 => ?_) (fun c132 => ?_)
                      · refine lv_iconst (v := 0) hx hb dL_areLinesSo_149 (by decide) ?_
                        refine lv_istore (lv' := [(7, .int 0), (6, .int (nI K1)), (5, .int (nI (xlo (v >>> ((nI (i % 16)) &&& 31)) (gNo Γ)))), (2, .int (nI ((xcnt (fun q => ∀ z, z < q → ¬ xR (gNo Γ) (gCb Γ) (gOp Γ) z q) i) + 0))), (0, .ref (E.2.2.2 0)), (1, .int v), (3, .int (nI i)), (4, .int 0)]) hx hb dL_areLinesSo_150 hl (by decide) rfl (fun ls hl => ?_)
                        refine lv_aload_n hx hb dL_areLinesSo_152 rfl (lv_at hl 4 rfl) ?_
                        refine lv_iload_n hx hb dL_areLinesSo_153 rfl (lv_at hl 6 rfl) ?_
                        refine lv_iload hx hb dL_areLinesSo_154 (lv_at hl 2 rfl) ?_
                        refine y_V (rm := rm0X3_areJoined) (As := [.int (nI i), .int (nI (xlo (v >>> ((nI (i % 16)) &&& 31)) (gNo Γ)))]) (Γ' := Γ) (rest := []) S (fun N F hR => c0_X3_areJoined l E N F xo0 Γ hG.1 hR (p2 := i) (by omega) (p7 := (xlo (v >>> ((nI (i % 16)) &&& 31)) (gNo Γ))) (by omega)) (cwV 2 S.2.2.2.2 gL_areLinesSo_X3_areJoined rfl rfl rfl (by decide +kernel) ⟨Nat.le_of_ble_eq_true rfl, Nat.le_of_ble_eq_true rfl⟩) hW rfl rfl hl.1 (Nat.le_of_ble_eq_true rfl) dL_areLinesSo_156 ⟨Nat.le_of_ble_eq_true rfl, Nat.le_of_ble_eq_true rfl⟩ (fun r156 H locs hq156 hW => ?_)
                        obtain rfl := hq156
                        refine lv_aload_n hx hb dL_areLinesSo_159 rfl (lv_at hl 4 rfl) ?_
                        refine lv_iload_n hx hb dL_areLinesSo_160 rfl (lv_at hl 6 rfl) ?_
                        refine lv_iload hx hb dL_areLinesSo_161 (lv_at hl 2 rfl) ?_
                        refine y_V (rm := rm0X3_areJoinedBySearch) (As := [.int (nI i), .int (nI (xlo (v >>> ((nI (i % 16)) &&& 31)) (gNo Γ)))]) (Γ' := Γ) (rest := [.int (xif (xR (gNo Γ) (gCb Γ) (gOp Γ) i (xlo (v >>> ((nI (i % 16)) &&& 31)) (gNo Γ))) 1 0)]) S (fun N F hR => c0_X3_areJoinedBySearch l E N F xo0 Γ hG.1 hR (p2 := i) (by omega) (p7 := (xlo (v >>> ((nI (i % 16)) &&& 31)) (gNo Γ))) (by omega)) (cwV 2 S.2.2.2.2 gL_areLinesSo_X3_areJoinedBySearch rfl rfl rfl (by decide +kernel) ⟨Nat.le_of_ble_eq_true rfl, Nat.le_of_ble_eq_true rfl⟩) hW rfl rfl hl.1 (Nat.le_of_ble_eq_true rfl) dL_areLinesSo_163 ⟨Nat.le_of_ble_eq_true rfl, Nat.le_of_ble_eq_true rfl⟩ (fun r163 H locs hq163 hW => ?_)
                        obtain rfl := hq163
                        refine lv_icmp_ne (tgt := 243) hx hb dL_areLinesSo_166 (by decide) (fun c166 => ?_) (fun c166 => ?_)
                        · exact absurd rfl c166
                        refine lv_aload_n hx hb dL_areLinesSo_169 rfl (lv_at hl 4 rfl) ?_
                        refine lv_iload_n hx hb dL_areLinesSo_170 rfl (lv_at hl 6 rfl) ?_
                        refine lv_aload_n hx hb dL_areLinesSo_171 rfl (lv_at hl 4 rfl) ?_
                        refine lv_iload_n hx hb dL_areLinesSo_172 rfl (lv_at hl 6 rfl) ?_
                        refine lv_iconst (v := 0) hx hb dL_areLinesSo_173 (by decide) ?_
                        refine y_V (rm := rm0X3_end) (As := [.int (nI i), .int (bz false)]) (Γ' := Γ) (rest := [.int (nI i), .ref (E.2.2.2 0)]) S (fun N F hR => c0_X3_end l E N F xo0 Γ hG.1 hR (p2 := i) (by omega) false) (cwV 2 S.2.2.2.2 gL_areLinesSo_X3_end rfl rfl rfl (by decide +kernel) ⟨Nat.le_of_ble_eq_true rfl, Nat.le_of_ble_eq_true rfl⟩) hW rfl rfl hl.1 (Nat.le_of_ble_eq_true rfl) dL_areLinesSo_174 ⟨Nat.le_of_ble_eq_true rfl, Nat.le_of_ble_eq_true rfl⟩ (fun r174 H locs hq174 hW => ?_)
                        obtain ⟨K174, hS174, rfl⟩ := hq174
                        obtain rfl := hS0.uniq hS174
                        obtain ⟨z174, hz174, ez174⟩ := hS0.get (no := gNo Γ) (by omega) hG.1.cb hG.1.op (by omega) (k := K0) (by omega)
                        refine x_topN (z174) (ez174) ?_
                        refine y_V (rm := rm0X3_areJoined) (As := [.int (nI i), .int (nI z174)]) (Γ' := Γ) (rest := []) S (fun N F hR => c0_X3_areJoined l E N F xo0 Γ hG.1 hR (p2 := i) (by omega) (p7 := z174) (hz174)) (cwV 2 S.2.2.2.2 gL_areLinesSo_X3_areJoined rfl rfl rfl (by decide +kernel) ⟨Nat.le_of_ble_eq_true rfl, Nat.le_of_ble_eq_true rfl⟩) hW rfl rfl hl.1 (Nat.le_of_ble_eq_true rfl) dL_areLinesSo_177 ⟨Nat.le_of_ble_eq_true rfl, Nat.le_of_ble_eq_true rfl⟩ (fun r177 H locs hq177 hW => ?_)
                        obtain rfl := hq177
                        refine x_topE (1) (xif_t (xw_R (by omega) hG.1.cb hG.1.op (by omega) K0 z174 hz174 ez174)) ?_
                        refine lv_if_eq (tgt := 243) hx hb dL_areLinesSo_180 (by decide) (fun c180 => ?_) (fun c180 => ?_)
                        · exact absurd c180 (by decide)
                        refine lv_aload_n hx hb dL_areLinesSo_183 rfl (lv_at hl 4 rfl) ?_
                        refine lv_iload_n hx hb dL_areLinesSo_184 rfl (lv_at hl 6 rfl) ?_
                        refine y_V (rm := rm0X3_isRing) (As := [.int (nI i)]) (Γ' := Γ) (rest := []) S (fun N F hR => c0_X3_isRing l E N F xo0 Γ hG.1 hR (p2 := i) (by omega)) (cwV 1 S.2.2.2.2 gL_areLinesSo_X3_isRing rfl rfl rfl (by decide +kernel) ⟨Nat.le_of_ble_eq_true rfl, Nat.le_of_ble_eq_true rfl⟩) hW rfl rfl hl.1 (Nat.le_of_ble_eq_true rfl) dL_areLinesSo_185 ⟨Nat.le_of_ble_eq_true rfl, Nat.le_of_ble_eq_true rfl⟩ (fun r185 H locs hq185 hW => ?_)
                        obtain rfl := hq185
                        refine x_topE (0) (xif_f (fun ⟨K9, h1, h2, h3⟩ => by obtain rfl := hS1.uniq h1; first | omega | exact c142 (nI_inj (by omega) (by omega) (ez138.symm.trans h3)))) ?_
                        refine lv_iload hx hb dL_areLinesSo_188 (lv_at hl 0 rfl) ?_
                        refine lv_icmp_ne (tgt := 243) hx hb dL_areLinesSo_190 (by decide) (fun c190 => ?_) (fun c190 => ?_)
                        · exact absurd c190 (by decide)
                        refine lv_iload hx hb dL_areLinesSo_193 (lv_at hl 0 rfl) ?_
                        refine lv_if_eq (tgt := 232) hx hb dL_areLinesSo_195 (by decide) (fun c195 => ?_) (fun c195 => ?_)
                        rotate_left
                        · exact absurd c195 (by decide)
                        refine lv_aload_n hx hb dL_areLinesSo_232 rfl (lv_at hl 4 rfl) ?_
                        refine lv_iload_n hx hb dL_areLinesSo_233 rfl (lv_at hl 6 rfl) ?_
                        refine lv_iconst (v := 1) hx hb dL_areLinesSo_234 (by decide) ?_
                        refine y_V (rm := rm0X3_lengthOf) (As := [.int (nI i), .int (bz true)]) (Γ' := Γ) (rest := []) S (fun N F hR => c0_X3_lengthOf l E N F xo0 Γ hG.1 hR (p2 := i) (by omega) true) (cwV 2 S.2.2.2.2 gL_areLinesSo_X3_lengthOf rfl rfl rfl (by decide +kernel) ⟨Nat.le_of_ble_eq_true rfl, Nat.le_of_ble_eq_true rfl⟩) hW rfl rfl hl.1 (Nat.le_of_ble_eq_true rfl) dL_areLinesSo_235 ⟨Nat.le_of_ble_eq_true rfl, Nat.le_of_ble_eq_true rfl⟩ (fun r235 H locs hq235 hW => ?_)
                        obtain ⟨K235, hS235, rfl⟩ := hq235
                        obtain rfl := hS1.uniq hS235
                        obtain ⟨m9, hm91, hm92, em9⟩ := gLen_b hG (by omega) hS1 K1 (Nat.le_refl _)
                        refine x_topN (m9) (em9) ?_
                        refine lv_iload hx hb dL_areLinesSo_238 (lv_at hl 1 rfl) ?_
                        refine x_icmp_ge (a := m9) (b := K1) (tgt := 245) hx hb dL_areLinesSo_240 (by decide) (by omega) (by omega) (fun c240 => ?_) (fun c240 => ?_)
                        rotate_left
                        · exact absurd c240 (by omega)
                        refine lv_iinc (v := (nI (i + 1))) (lv' := [(3, .int (nI (i + 1))), (7, .int 0), (6, .int (nI K1)), (5, .int (nI (xlo (v >>> ((nI (i % 16)) &&& 31)) (gNo Γ)))), (2, .int (nI ((xcnt (fun q => ∀ z, z < q → ¬ xR (gNo Γ) (gCb Γ) (gOp Γ) z q) i) + 0))), (0, .ref (E.2.2.2 0)), (1, .int v), (4, .int 0)]) hx hb dL_areLinesSo_245 hl (k := 6) rfl (x_inc _) (by decide) rfl (fun ls hl => ?_)
                        refine lv_goto (tgt := 4) hx hb dL_areLinesSo_248 (by decide) ?_
                        rw [show xcnt (fun q => ∀ z, z < q → ¬ xR (gNo Γ) (gCb Γ) (gOp Γ) z q) i + 0 = xcnt (fun q => ∀ z, z < q → ¬ xR (gNo Γ) (gCb Γ) (gOp Γ) z q) (i + 1) from (xcnt_f (P := (fun q => ∀ z, z < q → ¬ xR (gNo Γ) (gCb Γ) (gOp Γ) z q)) hL).symm] at hl
                        exact L4  (i + 1) (by omega) (by omega) _ _ _ hW (lv_sub hl [5, 6, 4, 0] rfl)
                      · refine lv_aload_n hx hb dL_areLinesSo_135 rfl (lv_at hl 3 rfl) ?_
                        refine lv_iload_n hx hb dL_areLinesSo_136 rfl (lv_at hl 5 rfl) ?_
                        refine lv_iconst (v := 1) hx hb dL_areLinesSo_137 (by decide) ?_
                        refine y_V (rm := rm0X3_end) (As := [.int (nI i), .int (bz true)]) (Γ' := Γ) (rest := []) S (fun N F hR => c0_X3_end l E N F xo0 Γ hG.1 hR (p2 := i) (by omega) true) (cwV 2 S.2.2.2.2 gL_areLinesSo_X3_end rfl rfl rfl (by decide +kernel) ⟨Nat.le_of_ble_eq_true rfl, Nat.le_of_ble_eq_true rfl⟩) hW rfl rfl hl.1 (Nat.le_of_ble_eq_true rfl) dL_areLinesSo_138 ⟨Nat.le_of_ble_eq_true rfl, Nat.le_of_ble_eq_true rfl⟩ (fun r138 H locs hq138 hW => ?_)
                        obtain ⟨K138, hS138, rfl⟩ := hq138
                        obtain rfl := hS1.uniq hS138
                        obtain ⟨z138, hz138, ez138⟩ := hS1.get (no := gNo Γ) (by omega) hG.1.cb hG.1.op (by omega) (k := K1) (by omega)
                        refine x_topN (z138) (ez138) ?_
                        refine lv_iload_n hx hb dL_areLinesSo_141 rfl (lv_at hl 5 rfl) ?_
                        refine x_icmp_ne (a := z138) (b := i) (tgt := 149) hx hb dL_areLinesSo_142 (by decide) (by omega) (by omega) (fun c142 => ?_) (fun c142 => ?_)
                        · refine lv_iconst (v := 0) hx hb dL_areLinesSo_149 (by decide) ?_
                          refine lv_istore (lv' := [(7, .int 0), (6, .int (nI K1)), (5, .int (nI (xlo (v >>> ((nI (i % 16)) &&& 31)) (gNo Γ)))), (2, .int (nI ((xcnt (fun q => ∀ z, z < q → ¬ xR (gNo Γ) (gCb Γ) (gOp Γ) z q) i) + 0))), (0, .ref (E.2.2.2 0)), (1, .int v), (3, .int (nI i)), (4, .int 0)]) hx hb dL_areLinesSo_150 hl (by decide) rfl (fun ls hl => ?_)
                          refine lv_aload_n hx hb dL_areLinesSo_152 rfl (lv_at hl 4 rfl) ?_
                          refine lv_iload_n hx hb dL_areLinesSo_153 rfl (lv_at hl 6 rfl) ?_
                          refine lv_iload hx hb dL_areLinesSo_154 (lv_at hl 2 rfl) ?_
                          refine y_V (rm := rm0X3_areJoined) (As := [.int (nI i), .int (nI (xlo (v >>> ((nI (i % 16)) &&& 31)) (gNo Γ)))]) (Γ' := Γ) (rest := []) S (fun N F hR => c0_X3_areJoined l E N F xo0 Γ hG.1 hR (p2 := i) (by omega) (p7 := (xlo (v >>> ((nI (i % 16)) &&& 31)) (gNo Γ))) (by omega)) (cwV 2 S.2.2.2.2 gL_areLinesSo_X3_areJoined rfl rfl rfl (by decide +kernel) ⟨Nat.le_of_ble_eq_true rfl, Nat.le_of_ble_eq_true rfl⟩) hW rfl rfl hl.1 (Nat.le_of_ble_eq_true rfl) dL_areLinesSo_156 ⟨Nat.le_of_ble_eq_true rfl, Nat.le_of_ble_eq_true rfl⟩ (fun r156 H locs hq156 hW => ?_)
                          obtain rfl := hq156
                          refine lv_aload_n hx hb dL_areLinesSo_159 rfl (lv_at hl 4 rfl) ?_
                          refine lv_iload_n hx hb dL_areLinesSo_160 rfl (lv_at hl 6 rfl) ?_
                          refine lv_iload hx hb dL_areLinesSo_161 (lv_at hl 2 rfl) ?_
                          refine y_V (rm := rm0X3_areJoinedBySearch) (As := [.int (nI i), .int (nI (xlo (v >>> ((nI (i % 16)) &&& 31)) (gNo Γ)))]) (Γ' := Γ) (rest := [.int (xif (xR (gNo Γ) (gCb Γ) (gOp Γ) i (xlo (v >>> ((nI (i % 16)) &&& 31)) (gNo Γ))) 1 0)]) S (fun N F hR => c0_X3_areJoinedBySearch l E N F xo0 Γ hG.1 hR (p2 := i) (by omega) (p7 := (xlo (v >>> ((nI (i % 16)) &&& 31)) (gNo Γ))) (by omega)) (cwV 2 S.2.2.2.2 gL_areLinesSo_X3_areJoinedBySearch rfl rfl rfl (by decide +kernel) ⟨Nat.le_of_ble_eq_true rfl, Nat.le_of_ble_eq_true rfl⟩) hW rfl rfl hl.1 (Nat.le_of_ble_eq_true rfl) dL_areLinesSo_163 ⟨Nat.le_of_ble_eq_true rfl, Nat.le_of_ble_eq_true rfl⟩ (fun r163 H locs hq163 hW => ?_)
                          obtain rfl := hq163
                          refine lv_icmp_ne (tgt := 243) hx hb dL_areLinesSo_166 (by decide) (fun c166 => ?_) (fun c166 => ?_)
                          · exact absurd rfl c166
                          refine lv_aload_n hx hb dL_areLinesSo_169 rfl (lv_at hl 4 rfl) ?_
                          refine lv_iload_n hx hb dL_areLinesSo_170 rfl (lv_at hl 6 rfl) ?_
                          refine lv_aload_n hx hb dL_areLinesSo_171 rfl (lv_at hl 4 rfl) ?_
                          refine lv_iload_n hx hb dL_areLinesSo_172 rfl (lv_at hl 6 rfl) ?_
                          refine lv_iconst (v := 0) hx hb dL_areLinesSo_173 (by decide) ?_
                          refine y_V (rm := rm0X3_end) (As := [.int (nI i), .int (bz false)]) (Γ' := Γ) (rest := [.int (nI i), .ref (E.2.2.2 0)]) S (fun N F hR => c0_X3_end l E N F xo0 Γ hG.1 hR (p2 := i) (by omega) false) (cwV 2 S.2.2.2.2 gL_areLinesSo_X3_end rfl rfl rfl (by decide +kernel) ⟨Nat.le_of_ble_eq_true rfl, Nat.le_of_ble_eq_true rfl⟩) hW rfl rfl hl.1 (Nat.le_of_ble_eq_true rfl) dL_areLinesSo_174 ⟨Nat.le_of_ble_eq_true rfl, Nat.le_of_ble_eq_true rfl⟩ (fun r174 H locs hq174 hW => ?_)
                          obtain ⟨K174, hS174, rfl⟩ := hq174
                          obtain rfl := hS0.uniq hS174
                          obtain ⟨z174, hz174, ez174⟩ := hS0.get (no := gNo Γ) (by omega) hG.1.cb hG.1.op (by omega) (k := K0) (by omega)
                          refine x_topN (z174) (ez174) ?_
                          refine y_V (rm := rm0X3_areJoined) (As := [.int (nI i), .int (nI z174)]) (Γ' := Γ) (rest := []) S (fun N F hR => c0_X3_areJoined l E N F xo0 Γ hG.1 hR (p2 := i) (by omega) (p7 := z174) (hz174)) (cwV 2 S.2.2.2.2 gL_areLinesSo_X3_areJoined rfl rfl rfl (by decide +kernel) ⟨Nat.le_of_ble_eq_true rfl, Nat.le_of_ble_eq_true rfl⟩) hW rfl rfl hl.1 (Nat.le_of_ble_eq_true rfl) dL_areLinesSo_177 ⟨Nat.le_of_ble_eq_true rfl, Nat.le_of_ble_eq_true rfl⟩ (fun r177 H locs hq177 hW => ?_)
                          obtain rfl := hq177
                          refine x_topE (1) (xif_t (xw_R (by omega) hG.1.cb hG.1.op (by omega) K0 z174 hz174 ez174)) ?_
                          refine lv_if_eq (tgt := 243) hx hb dL_areLinesSo_180 (by decide) (fun c180 => ?_) (fun c180 => ?_)
                          · exact absurd c180 (by decide)
                          refine lv_aload_n hx hb dL_areLinesSo_183 rfl (lv_at hl 4 rfl) ?_
                          refine lv_iload_n hx hb dL_areLinesSo_184 rfl (lv_at hl 6 rfl) ?_
                          refine y_V (rm := rm0X3_isRing) (As := [.int (nI i)]) (Γ' := Γ) (rest := []) S (fun N F hR => c0_X3_isRing l E N F xo0 Γ hG.1 hR (p2 := i) (by omega)) (cwV 1 S.2.2.2.2 gL_areLinesSo_X3_isRing rfl rfl rfl (by decide +kernel) ⟨Nat.le_of_ble_eq_true rfl, Nat.le_of_ble_eq_true rfl⟩) hW rfl rfl hl.1 (Nat.le_of_ble_eq_true rfl) dL_areLinesSo_185 ⟨Nat.le_of_ble_eq_true rfl, Nat.le_of_ble_eq_true rfl⟩ (fun r185 H locs hq185 hW => ?_)
                          obtain rfl := hq185
                          refine x_topE (0) (xif_f (fun ⟨K9, h1, h2, h3⟩ => by obtain rfl := hS1.uniq h1; first | omega | exact c142 (nI_inj (by omega) (by omega) (ez138.symm.trans h3)))) ?_
                          refine lv_iload hx hb dL_areLinesSo_188 (lv_at hl 0 rfl) ?_
                          refine lv_icmp_ne (tgt := 243) hx hb dL_areLinesSo_190 (by decide) (fun c190 => ?_) (fun c190 => ?_)
                          · exact absurd c190 (by decide)
                          refine lv_iload hx hb dL_areLinesSo_193 (lv_at hl 0 rfl) ?_
                          refine lv_if_eq (tgt := 232) hx hb dL_areLinesSo_195 (by decide) (fun c195 => ?_) (fun c195 => ?_)
                          rotate_left
                          · exact absurd c195 (by decide)
                          refine lv_aload_n hx hb dL_areLinesSo_232 rfl (lv_at hl 4 rfl) ?_
                          refine lv_iload_n hx hb dL_areLinesSo_233 rfl (lv_at hl 6 rfl) ?_
                          refine lv_iconst (v := 1) hx hb dL_areLinesSo_234 (by decide) ?_
                          refine y_V (rm := rm0X3_lengthOf) (As := [.int (nI i), .int (bz true)]) (Γ' := Γ) (rest := []) S (fun N F hR => c0_X3_lengthOf l E N F xo0 Γ hG.1 hR (p2 := i) (by omega) true) (cwV 2 S.2.2.2.2 gL_areLinesSo_X3_lengthOf rfl rfl rfl (by decide +kernel) ⟨Nat.le_of_ble_eq_true rfl, Nat.le_of_ble_eq_true rfl⟩) hW rfl rfl hl.1 (Nat.le_of_ble_eq_true rfl) dL_areLinesSo_235 ⟨Nat.le_of_ble_eq_true rfl, Nat.le_of_ble_eq_true rfl⟩ (fun r235 H locs hq235 hW => ?_)
                          obtain ⟨K235, hS235, rfl⟩ := hq235
                          obtain rfl := hS1.uniq hS235
                          obtain ⟨m9, hm91, hm92, em9⟩ := gLen_b hG (by omega) hS1 K1 (Nat.le_refl _)
                          refine x_topN (m9) (em9) ?_
                          refine lv_iload hx hb dL_areLinesSo_238 (lv_at hl 1 rfl) ?_
                          refine x_icmp_ge (a := m9) (b := K1) (tgt := 245) hx hb dL_areLinesSo_240 (by decide) (by omega) (by omega) (fun c240 => ?_) (fun c240 => ?_)
                          rotate_left
                          · exact absurd c240 (by omega)
                          refine lv_iinc (v := (nI (i + 1))) (lv' := [(3, .int (nI (i + 1))), (7, .int 0), (6, .int (nI K1)), (5, .int (nI (xlo (v >>> ((nI (i % 16)) &&& 31)) (gNo Γ)))), (2, .int (nI ((xcnt (fun q => ∀ z, z < q → ¬ xR (gNo Γ) (gCb Γ) (gOp Γ) z q) i) + 0))), (0, .ref (E.2.2.2 0)), (1, .int v), (4, .int 0)]) hx hb dL_areLinesSo_245 hl (k := 6) rfl (x_inc _) (by decide) rfl (fun ls hl => ?_)
                          refine lv_goto (tgt := 4) hx hb dL_areLinesSo_248 (by decide) ?_
                          rw [show xcnt (fun q => ∀ z, z < q → ¬ xR (gNo Γ) (gCb Γ) (gOp Γ) z q) i + 0 = xcnt (fun q => ∀ z, z < q → ¬ xR (gNo Γ) (gCb Γ) (gOp Γ) z q) (i + 1) from (xcnt_f (P := (fun q => ∀ z, z < q → ¬ xR (gNo Γ) (gCb Γ) (gOp Γ) z q)) hL).symm] at hl
                          exact L4  (i + 1) (by omega) (by omega) _ _ _ hW (lv_sub hl [5, 6, 4, 0] rfl)
                        · refine lv_iconst (v := 1) hx hb dL_areLinesSo_145 (by decide) ?_
                          refine lv_goto (tgt := 150) hx hb dL_areLinesSo_146 (by decide) ?_
                          refine lv_istore (lv' := [(7, .int 1), (6, .int (nI K1)), (5, .int (nI (xlo (v >>> ((nI (i % 16)) &&& 31)) (gNo Γ)))), (2, .int (nI ((xcnt (fun q => ∀ z, z < q → ¬ xR (gNo Γ) (gCb Γ) (gOp Γ) z q) i) + 0))), (0, .ref (E.2.2.2 0)), (1, .int v), (3, .int (nI i)), (4, .int 0)]) hx hb dL_areLinesSo_150 hl (by decide) rfl (fun ls hl => ?_)
                          refine lv_aload_n hx hb dL_areLinesSo_152 rfl (lv_at hl 4 rfl) ?_
                          refine lv_iload_n hx hb dL_areLinesSo_153 rfl (lv_at hl 6 rfl) ?_
                          refine lv_iload hx hb dL_areLinesSo_154 (lv_at hl 2 rfl) ?_
                          refine y_V (rm := rm0X3_areJoined) (As := [.int (nI i), .int (nI (xlo (v >>> ((nI (i % 16)) &&& 31)) (gNo Γ)))]) (Γ' := Γ) (rest := []) S (fun N F hR => c0_X3_areJoined l E N F xo0 Γ hG.1 hR (p2 := i) (by omega) (p7 := (xlo (v >>> ((nI (i % 16)) &&& 31)) (gNo Γ))) (by omega)) (cwV 2 S.2.2.2.2 gL_areLinesSo_X3_areJoined rfl rfl rfl (by decide +kernel) ⟨Nat.le_of_ble_eq_true rfl, Nat.le_of_ble_eq_true rfl⟩) hW rfl rfl hl.1 (Nat.le_of_ble_eq_true rfl) dL_areLinesSo_156 ⟨Nat.le_of_ble_eq_true rfl, Nat.le_of_ble_eq_true rfl⟩ (fun r156 H locs hq156 hW => ?_)
                          obtain rfl := hq156
                          refine lv_aload_n hx hb dL_areLinesSo_159 rfl (lv_at hl 4 rfl) ?_
                          refine lv_iload_n hx hb dL_areLinesSo_160 rfl (lv_at hl 6 rfl) ?_
                          refine lv_iload hx hb dL_areLinesSo_161 (lv_at hl 2 rfl) ?_
                          refine y_V (rm := rm0X3_areJoinedBySearch) (As := [.int (nI i), .int (nI (xlo (v >>> ((nI (i % 16)) &&& 31)) (gNo Γ)))]) (Γ' := Γ) (rest := [.int (xif (xR (gNo Γ) (gCb Γ) (gOp Γ) i (xlo (v >>> ((nI (i % 16)) &&& 31)) (gNo Γ))) 1 0)]) S (fun N F hR => c0_X3_areJoinedBySearch l E N F xo0 Γ hG.1 hR (p2 := i) (by omega) (p7 := (xlo (v >>> ((nI (i % 16)) &&& 31)) (gNo Γ))) (by omega)) (cwV 2 S.2.2.2.2 gL_areLinesSo_X3_areJoinedBySearch rfl rfl rfl (by decide +kernel) ⟨Nat.le_of_ble_eq_true rfl, Nat.le_of_ble_eq_true rfl⟩) hW rfl rfl hl.1 (Nat.le_of_ble_eq_true rfl) dL_areLinesSo_163 ⟨Nat.le_of_ble_eq_true rfl, Nat.le_of_ble_eq_true rfl⟩ (fun r163 H locs hq163 hW => ?_)
                          obtain rfl := hq163
                          refine lv_icmp_ne (tgt := 243) hx hb dL_areLinesSo_166 (by decide) (fun c166 => ?_) (fun c166 => ?_)
                          · exact absurd rfl c166
                          refine lv_aload_n hx hb dL_areLinesSo_169 rfl (lv_at hl 4 rfl) ?_
                          refine lv_iload_n hx hb dL_areLinesSo_170 rfl (lv_at hl 6 rfl) ?_
                          refine lv_aload_n hx hb dL_areLinesSo_171 rfl (lv_at hl 4 rfl) ?_
                          refine lv_iload_n hx hb dL_areLinesSo_172 rfl (lv_at hl 6 rfl) ?_
                          refine lv_iconst (v := 0) hx hb dL_areLinesSo_173 (by decide) ?_
                          refine y_V (rm := rm0X3_end) (As := [.int (nI i), .int (bz false)]) (Γ' := Γ) (rest := [.int (nI i), .ref (E.2.2.2 0)]) S (fun N F hR => c0_X3_end l E N F xo0 Γ hG.1 hR (p2 := i) (by omega) false) (cwV 2 S.2.2.2.2 gL_areLinesSo_X3_end rfl rfl rfl (by decide +kernel) ⟨Nat.le_of_ble_eq_true rfl, Nat.le_of_ble_eq_true rfl⟩) hW rfl rfl hl.1 (Nat.le_of_ble_eq_true rfl) dL_areLinesSo_174 ⟨Nat.le_of_ble_eq_true rfl, Nat.le_of_ble_eq_true rfl⟩ (fun r174 H locs hq174 hW => ?_)
                          obtain ⟨K174, hS174, rfl⟩ := hq174
                          obtain rfl := hS0.uniq hS174
                          obtain ⟨z174, hz174, ez174⟩ := hS0.get (no := gNo Γ) (by omega) hG.1.cb hG.1.op (by omega) (k := K0) (by omega)
                          refine x_topN (z174) (ez174) ?_
                          refine y_V (rm := rm0X3_areJoined) (As := [.int (nI i), .int (nI z174)]) (Γ' := Γ) (rest := []) S (fun N F hR => c0_X3_areJoined l E N F xo0 Γ hG.1 hR (p2 := i) (by omega) (p7 := z174) (hz174)) (cwV 2 S.2.2.2.2 gL_areLinesSo_X3_areJoined rfl rfl rfl (by decide +kernel) ⟨Nat.le_of_ble_eq_true rfl, Nat.le_of_ble_eq_true rfl⟩) hW rfl rfl hl.1 (Nat.le_of_ble_eq_true rfl) dL_areLinesSo_177 ⟨Nat.le_of_ble_eq_true rfl, Nat.le_of_ble_eq_true rfl⟩ (fun r177 H locs hq177 hW => ?_)
                          obtain rfl := hq177
                          refine x_topE (1) (xif_t (xw_R (by omega) hG.1.cb hG.1.op (by omega) K0 z174 hz174 ez174)) ?_
                          refine lv_if_eq (tgt := 243) hx hb dL_areLinesSo_180 (by decide) (fun c180 => ?_) (fun c180 => ?_)
                          · exact absurd c180 (by decide)
                          refine lv_aload_n hx hb dL_areLinesSo_183 rfl (lv_at hl 4 rfl) ?_
                          refine lv_iload_n hx hb dL_areLinesSo_184 rfl (lv_at hl 6 rfl) ?_
                          refine y_V (rm := rm0X3_isRing) (As := [.int (nI i)]) (Γ' := Γ) (rest := []) S (fun N F hR => c0_X3_isRing l E N F xo0 Γ hG.1 hR (p2 := i) (by omega)) (cwV 1 S.2.2.2.2 gL_areLinesSo_X3_isRing rfl rfl rfl (by decide +kernel) ⟨Nat.le_of_ble_eq_true rfl, Nat.le_of_ble_eq_true rfl⟩) hW rfl rfl hl.1 (Nat.le_of_ble_eq_true rfl) dL_areLinesSo_185 ⟨Nat.le_of_ble_eq_true rfl, Nat.le_of_ble_eq_true rfl⟩ (fun r185 H locs hq185 hW => ?_)
                          obtain rfl := hq185
                          refine x_topE (1) (xif_t ⟨K1, hS1, c132, by rw [ez138, c142]⟩) ?_
                          refine lv_iload hx hb dL_areLinesSo_188 (lv_at hl 0 rfl) ?_
                          refine lv_icmp_ne (tgt := 243) hx hb dL_areLinesSo_190 (by decide) (fun c190 => ?_) (fun c190 => ?_)
                          · exact absurd c190 (by decide)
                          refine lv_iload hx hb dL_areLinesSo_193 (lv_at hl 0 rfl) ?_
                          refine lv_if_eq (tgt := 232) hx hb dL_areLinesSo_195 (by decide) (fun c195 => ?_) (fun c195 => ?_)
                          · exact absurd c195 (by decide)
                          have hr9 := xring (no := gNo Γ) (by omega) hG.1.cb hG.1.op (by omega) hS1 c132 (by rw [ez138, c142])
                          have hk09 : K0 = K1 := hS0.uniq hr9.2.2
                          have hev9 := hr9.1
                          have hlen9 : gLen Γ false i K0 = gLen Γ true i K1 := by rw [hk09]; exact gLen_r hG (by omega) hS1 c132 (by rw [ez138, c142])
                          refine lv_aload_n hx hb dL_areLinesSo_198 rfl (lv_at hl 4 rfl) ?_
                          refine lv_iload_n hx hb dL_areLinesSo_199 rfl (lv_at hl 6 rfl) ?_
                          refine lv_iconst (v := 0) hx hb dL_areLinesSo_200 (by decide) ?_
                          refine y_V (rm := rm0X3_hops) (As := [.int (nI i), .int (bz false)]) (Γ' := Γ) (rest := []) S (fun N F hR => c0_X3_hops l E N F xo0 Γ hG.1 hR (p2 := i) (by omega) false) (cwV 2 S.2.2.2.2 gL_areLinesSo_X3_hops rfl rfl rfl (by decide +kernel) ⟨Nat.le_of_ble_eq_true rfl, Nat.le_of_ble_eq_true rfl⟩) hW rfl rfl hl.1 (Nat.le_of_ble_eq_true rfl) dL_areLinesSo_201 ⟨Nat.le_of_ble_eq_true rfl, Nat.le_of_ble_eq_true rfl⟩ (fun r201 H locs hq201 hW => ?_)
                          obtain ⟨K201, hS201, rfl⟩ := hq201
                          obtain rfl := hS0.uniq hS201
                          refine lv_iload hx hb dL_areLinesSo_204 (lv_at hl 1 rfl) ?_
                          refine x_icmp_ne (a := K0) (b := K1) (tgt := 243) hx hb dL_areLinesSo_206 (by decide) (by omega) (by omega) (fun c206 => ?_) (fun c206 => ?_)
                          · exact absurd hk09 c206
                          refine lv_iload hx hb dL_areLinesSo_209 (lv_at hl 1 rfl) ?_
                          refine lv_iconst (v := 2) hx hb dL_areLinesSo_211 (by decide) ?_
                          refine lv_irem hx hb dL_areLinesSo_212 (by decide) ?_
                          refine x_topN (K1 % 2) (x_rem (a := K1) (m := 2) (by omega) (by omega)) ?_
                          refine lv_iconst (v := 1) hx hb dL_areLinesSo_213 (by decide) ?_
                          refine x_icmp_eq (a := K1 % 2) (b := 1) (tgt := 243) hx hb dL_areLinesSo_214 (by decide) (by omega) (by omega) (fun c214 => ?_) (fun c214 => ?_)
                          · exact absurd c214 (by omega)
                          refine lv_aload_n hx hb dL_areLinesSo_217 rfl (lv_at hl 4 rfl) ?_
                          refine lv_iload_n hx hb dL_areLinesSo_218 rfl (lv_at hl 6 rfl) ?_
                          refine lv_iconst (v := 0) hx hb dL_areLinesSo_219 (by decide) ?_
                          refine y_V (rm := rm0X3_lengthOf) (As := [.int (nI i), .int (bz false)]) (Γ' := Γ) (rest := []) S (fun N F hR => c0_X3_lengthOf l E N F xo0 Γ hG.1 hR (p2 := i) (by omega) false) (cwV 2 S.2.2.2.2 gL_areLinesSo_X3_lengthOf rfl rfl rfl (by decide +kernel) ⟨Nat.le_of_ble_eq_true rfl, Nat.le_of_ble_eq_true rfl⟩) hW rfl rfl hl.1 (Nat.le_of_ble_eq_true rfl) dL_areLinesSo_220 ⟨Nat.le_of_ble_eq_true rfl, Nat.le_of_ble_eq_true rfl⟩ (fun r220 H locs hq220 hW => ?_)
                          obtain ⟨K220, hS220, rfl⟩ := hq220
                          obtain rfl := hS0.uniq hS220
                          refine lv_aload_n hx hb dL_areLinesSo_223 rfl (lv_at hl 4 rfl) ?_
                          refine lv_iload_n hx hb dL_areLinesSo_224 rfl (lv_at hl 6 rfl) ?_
                          refine lv_iconst (v := 1) hx hb dL_areLinesSo_225 (by decide) ?_
                          refine y_V (rm := rm0X3_lengthOf) (As := [.int (nI i), .int (bz true)]) (Γ' := Γ) (rest := [.int (gLen Γ false i K0)]) S (fun N F hR => c0_X3_lengthOf l E N F xo0 Γ hG.1 hR (p2 := i) (by omega) true) (cwV 2 S.2.2.2.2 gL_areLinesSo_X3_lengthOf rfl rfl rfl (by decide +kernel) ⟨Nat.le_of_ble_eq_true rfl, Nat.le_of_ble_eq_true rfl⟩) hW rfl rfl hl.1 (Nat.le_of_ble_eq_true rfl) dL_areLinesSo_226 ⟨Nat.le_of_ble_eq_true rfl, Nat.le_of_ble_eq_true rfl⟩ (fun r226 H locs hq226 hW => ?_)
                          obtain ⟨K226, hS226, rfl⟩ := hq226
                          obtain rfl := hS1.uniq hS226
                          refine lv_icmp_ne (tgt := 243) hx hb dL_areLinesSo_229 (by decide) (fun c229 => ?_) (fun c229 => ?_)
                          · exact absurd hlen9 c229
                          refine lv_aload_n hx hb dL_areLinesSo_232 rfl (lv_at hl 4 rfl) ?_
                          refine lv_iload_n hx hb dL_areLinesSo_233 rfl (lv_at hl 6 rfl) ?_
                          refine lv_iconst (v := 1) hx hb dL_areLinesSo_234 (by decide) ?_
                          refine y_V (rm := rm0X3_lengthOf) (As := [.int (nI i), .int (bz true)]) (Γ' := Γ) (rest := []) S (fun N F hR => c0_X3_lengthOf l E N F xo0 Γ hG.1 hR (p2 := i) (by omega) true) (cwV 2 S.2.2.2.2 gL_areLinesSo_X3_lengthOf rfl rfl rfl (by decide +kernel) ⟨Nat.le_of_ble_eq_true rfl, Nat.le_of_ble_eq_true rfl⟩) hW rfl rfl hl.1 (Nat.le_of_ble_eq_true rfl) dL_areLinesSo_235 ⟨Nat.le_of_ble_eq_true rfl, Nat.le_of_ble_eq_true rfl⟩ (fun r235 H locs hq235 hW => ?_)
                          obtain ⟨K235, hS235, rfl⟩ := hq235
                          obtain rfl := hS1.uniq hS235
                          obtain ⟨m9, hm91, hm92, em9⟩ := gLen_b hG (by omega) hS1 K1 (Nat.le_refl _)
                          refine x_topN (m9) (em9) ?_
                          refine lv_iload hx hb dL_areLinesSo_238 (lv_at hl 1 rfl) ?_
                          refine x_icmp_ge (a := m9) (b := K1) (tgt := 245) hx hb dL_areLinesSo_240 (by decide) (by omega) (by omega) (fun c240 => ?_) (fun c240 => ?_)
                          rotate_left
                          · exact absurd c240 (by omega)
                          refine lv_iinc (v := (nI (i + 1))) (lv' := [(3, .int (nI (i + 1))), (7, .int 1), (6, .int (nI K1)), (5, .int (nI (xlo (v >>> ((nI (i % 16)) &&& 31)) (gNo Γ)))), (2, .int (nI ((xcnt (fun q => ∀ z, z < q → ¬ xR (gNo Γ) (gCb Γ) (gOp Γ) z q) i) + 0))), (0, .ref (E.2.2.2 0)), (1, .int v), (4, .int 0)]) hx hb dL_areLinesSo_245 hl (k := 6) rfl (x_inc _) (by decide) rfl (fun ls hl => ?_)
                          refine lv_goto (tgt := 4) hx hb dL_areLinesSo_248 (by decide) ?_
                          rw [show xcnt (fun q => ∀ z, z < q → ¬ xR (gNo Γ) (gCb Γ) (gOp Γ) z q) i + 0 = xcnt (fun q => ∀ z, z < q → ¬ xR (gNo Γ) (gCb Γ) (gOp Γ) z q) (i + 1) from (xcnt_f (P := (fun q => ∀ z, z < q → ¬ xR (gNo Γ) (gCb Γ) (gOp Γ) z q)) hL).symm] at hl
                          exact L4  (i + 1) (by omega) (by omega) _ _ _ hW (lv_sub hl [5, 6, 4, 0] rfl)
                  · by_cases hA : (xlow (gCb Γ) (gOp Γ) false i K0 ∧ xlow (gCb Γ) (gOp Γ) true i h)
                    · rw [xif_t hA] at hv
                      subst hv
                      refine lv_iload hx hb dL_areLinesSo_48 (lv_at hl 4 rfl) ?_
                      refine lv_if_eq (tgt := 79) hx hb dL_areLinesSo_50 (by decide) (fun c50 => ?_) (fun c50 => ?_)
                      · exact absurd c50 (by decide)
                      refine lv_aload_n hx hb dL_areLinesSo_53 rfl (lv_at hl 0 rfl) ?_
                      refine lv_iload_n hx hb dL_areLinesSo_54 rfl (lv_at hl 3 rfl) ?_
                      refine lv_iload hx hb dL_areLinesSo_55 (lv_at hl 5 rfl) ?_
                      refine lv_iconst (v := 1) hx hb dL_areLinesSo_57 (by decide) ?_
                      refine lv_icmp_ne (tgt := 65) hx hb dL_areLinesSo_58 (by decide) (fun c58 => ?_) (fun c58 => ?_)
                      · exact absurd c58 (by decide)
                      refine lv_iconst (v := 1) hx hb dL_areLinesSo_61 (by decide) ?_
                      refine lv_goto (tgt := 66) hx hb dL_areLinesSo_62 (by decide) ?_
                      refine lv_iload hx hb dL_areLinesSo_66 (lv_at hl 6 rfl) ?_
                      refine y_V (rm := rm0X3_hopTo) (As := [.int (nI i), .int (bz true), .int (nI h)]) (Γ' := Γ) (rest := []) S (fun N F hR => c0_X3_hopTo l E N F xo0 Γ hG.1 hR (p2 := i) (by omega) true (h9 := h) hS1 (by omega)) (cwV 3 S.2.2.2.2 gL_areLinesSo_X3_hopTo rfl rfl rfl (by decide +kernel) ⟨Nat.le_of_ble_eq_true rfl, Nat.le_of_ble_eq_true rfl⟩) hW rfl rfl hl.1 (Nat.le_of_ble_eq_true rfl) dL_areLinesSo_68 ⟨Nat.le_of_ble_eq_true rfl, Nat.le_of_ble_eq_true rfl⟩ (fun r68 H locs hq68 hW => ?_)
                      obtain rfl := hq68
                      obtain ⟨z68, hz68, ez68⟩ := hS1.get (no := gNo Γ) (by omega) hG.1.cb hG.1.op (by omega) (k := h + 1) (by omega)
                      refine x_topN (z68) (ez68) ?_
                      refine lv_iload_n hx hb dL_areLinesSo_71 rfl (lv_at hl 3 rfl) ?_
                      refine x_icmp_lt (a := z68) (b := i) (tgt := 79) hx hb dL_areLinesSo_72 (by decide) (by omega) (by omega) (fun c72 => ?_) (fun c72 => ?_)
                      · refine lv_iconst (v := 0) hx hb dL_areLinesSo_79 (by decide) ?_
                        refine lv_istore (lv' := [(4, .int 0), (0, .ref (E.2.2.2 0)), (1, .int v), (2, .int (nI (xcnt (fun q => ∀ z, z < q → ¬ xR (gNo Γ) (gCb Γ) (gOp Γ) z q) i))), (3, .int (nI i)), (5, .int 1), (6, .int (nI h))]) hx hb dL_areLinesSo_80 hl (by decide) rfl (fun ls hl => ?_)
                        refine lv_iinc (v := (nI (h + 1))) (lv' := [(6, .int (nI (h + 1))), (4, .int 0), (0, .ref (E.2.2.2 0)), (1, .int v), (2, .int (nI (xcnt (fun q => ∀ z, z < q → ¬ xR (gNo Γ) (gCb Γ) (gOp Γ) z q) i))), (3, .int (nI i)), (5, .int 1)]) hx hb dL_areLinesSo_82 hl (k := 6) rfl (x_inc _) (by decide) rfl (fun ls hl => ?_)
                        refine lv_goto (tgt := 27) hx hb dL_areLinesSo_85 (by decide) ?_
                        exact L27b  (0) (h + 1) (by omega) (by omega) (by first | exact (xif_t ⟨hA.1, (xlow_s ez68 (by omega)).mpr ⟨hA.2, c72⟩⟩).symm | exact (xif_f (fun w => by have := ((xlow_s ez68 (by omega)).mp w.2).2; omega)).symm | exact (xif_f (fun w => hA ⟨w.1, fun k hk => w.2 k (by omega)⟩)).symm) _ _ _ hW (lv_sub hl [2, 3, 4, 5, 1, 6, 0] rfl)
                      · refine lv_iconst (v := 1) hx hb dL_areLinesSo_75 (by decide) ?_
                        refine lv_goto (tgt := 80) hx hb dL_areLinesSo_76 (by decide) ?_
                        refine lv_istore (lv' := [(4, .int 1), (0, .ref (E.2.2.2 0)), (1, .int v), (2, .int (nI (xcnt (fun q => ∀ z, z < q → ¬ xR (gNo Γ) (gCb Γ) (gOp Γ) z q) i))), (3, .int (nI i)), (5, .int 1), (6, .int (nI h))]) hx hb dL_areLinesSo_80 hl (by decide) rfl (fun ls hl => ?_)
                        refine lv_iinc (v := (nI (h + 1))) (lv' := [(6, .int (nI (h + 1))), (4, .int 1), (0, .ref (E.2.2.2 0)), (1, .int v), (2, .int (nI (xcnt (fun q => ∀ z, z < q → ¬ xR (gNo Γ) (gCb Γ) (gOp Γ) z q) i))), (3, .int (nI i)), (5, .int 1)]) hx hb dL_areLinesSo_82 hl (k := 6) rfl (x_inc _) (by decide) rfl (fun ls hl => ?_)
                        refine lv_goto (tgt := 27) hx hb dL_areLinesSo_85 (by decide) ?_
                        exact L27b  (1) (h + 1) (by omega) (by omega) (by first | exact (xif_t ⟨hA.1, (xlow_s ez68 (by omega)).mpr ⟨hA.2, c72⟩⟩).symm | exact (xif_f (fun w => by have := ((xlow_s ez68 (by omega)).mp w.2).2; omega)).symm | exact (xif_f (fun w => hA ⟨w.1, fun k hk => w.2 k (by omega)⟩)).symm) _ _ _ hW (lv_sub hl [2, 3, 4, 5, 1, 6, 0] rfl)
                    · rw [xif_f hA] at hv
                      subst hv
                      refine lv_iload hx hb dL_areLinesSo_48 (lv_at hl 4 rfl) ?_
                      refine lv_if_eq (tgt := 79) hx hb dL_areLinesSo_50 (by decide) (fun c50 => ?_) (fun c50 => ?_)
                      rotate_left
                      · exact absurd c50 (by decide)
                      refine lv_iconst (v := 0) hx hb dL_areLinesSo_79 (by decide) ?_
                      refine lv_istore (lv' := [(4, .int 0), (0, .ref (E.2.2.2 0)), (1, .int v), (2, .int (nI (xcnt (fun q => ∀ z, z < q → ¬ xR (gNo Γ) (gCb Γ) (gOp Γ) z q) i))), (3, .int (nI i)), (5, .int 1), (6, .int (nI h))]) hx hb dL_areLinesSo_80 hl (by decide) rfl (fun ls hl => ?_)
                      refine lv_iinc (v := (nI (h + 1))) (lv' := [(6, .int (nI (h + 1))), (4, .int 0), (0, .ref (E.2.2.2 0)), (1, .int v), (2, .int (nI (xcnt (fun q => ∀ z, z < q → ¬ xR (gNo Γ) (gCb Γ) (gOp Γ) z q) i))), (3, .int (nI i)), (5, .int 1)]) hx hb dL_areLinesSo_82 hl (k := 6) rfl (x_inc _) (by decide) rfl (fun ls hl => ?_)
                      refine lv_goto (tgt := 27) hx hb dL_areLinesSo_85 (by decide) ?_
                      exact L27b  (0) (h + 1) (by omega) (by omega) (by first | exact (xif_t ⟨hA.1, (xlow_s ez68 (by omega)).mpr ⟨hA.2, c72⟩⟩).symm | exact (xif_f (fun w => by have := ((xlow_s ez68 (by omega)).mp w.2).2; omega)).symm | exact (xif_f (fun w => hA ⟨w.1, fun k hk => w.2 k (by omega)⟩)).symm) _ _ _ hW (lv_sub hl [2, 3, 4, 5, 1, 6, 0] rfl)
              exact L27b _ (v4) (0) (Nat.lt_succ_self _) (by omega) (hv.trans (xif_c ⟨fun w => ⟨(show h = K0 by omega) ▸ w, xlow_0⟩, fun w => (show K0 = h by omega) ▸ w.1⟩)) _ _ _ hW (lv_sub hl [2, 3, 4, 5, 6, 1, 0] rfl)
            · by_cases hA : xlow (gCb Γ) (gOp Γ) false i h
              · rw [xif_t hA] at hv
                subst hv
                refine lv_iload hx hb dL_areLinesSo_48 (lv_at hl 4 rfl) ?_
                refine lv_if_eq (tgt := 79) hx hb dL_areLinesSo_50 (by decide) (fun c50 => ?_) (fun c50 => ?_)
                · exact absurd c50 (by decide)
                refine lv_aload_n hx hb dL_areLinesSo_53 rfl (lv_at hl 0 rfl) ?_
                refine lv_iload_n hx hb dL_areLinesSo_54 rfl (lv_at hl 3 rfl) ?_
                refine lv_iload hx hb dL_areLinesSo_55 (lv_at hl 5 rfl) ?_
                refine lv_iconst (v := 1) hx hb dL_areLinesSo_57 (by decide) ?_
                refine lv_icmp_ne (tgt := 65) hx hb dL_areLinesSo_58 (by decide) (fun c58 => ?_) (fun c58 => ?_)
                rotate_left
                · exact absurd c58 (by decide)
                refine lv_iconst (v := 0) hx hb dL_areLinesSo_65 (by decide) ?_
                refine lv_iload hx hb dL_areLinesSo_66 (lv_at hl 6 rfl) ?_
                refine y_V (rm := rm0X3_hopTo) (As := [.int (nI i), .int (bz false), .int (nI h)]) (Γ' := Γ) (rest := []) S (fun N F hR => c0_X3_hopTo l E N F xo0 Γ hG.1 hR (p2 := i) (by omega) false (h9 := h) hS0 (by omega)) (cwV 3 S.2.2.2.2 gL_areLinesSo_X3_hopTo rfl rfl rfl (by decide +kernel) ⟨Nat.le_of_ble_eq_true rfl, Nat.le_of_ble_eq_true rfl⟩) hW rfl rfl hl.1 (Nat.le_of_ble_eq_true rfl) dL_areLinesSo_68 ⟨Nat.le_of_ble_eq_true rfl, Nat.le_of_ble_eq_true rfl⟩ (fun r68 H locs hq68 hW => ?_)
                obtain rfl := hq68
                obtain ⟨z68, hz68, ez68⟩ := hS0.get (no := gNo Γ) (by omega) hG.1.cb hG.1.op (by omega) (k := h + 1) (by omega)
                refine x_topN (z68) (ez68) ?_
                refine lv_iload_n hx hb dL_areLinesSo_71 rfl (lv_at hl 3 rfl) ?_
                refine x_icmp_lt (a := z68) (b := i) (tgt := 79) hx hb dL_areLinesSo_72 (by decide) (by omega) (by omega) (fun c72 => ?_) (fun c72 => ?_)
                · refine lv_iconst (v := 0) hx hb dL_areLinesSo_79 (by decide) ?_
                  refine lv_istore (lv' := [(4, .int 0), (0, .ref (E.2.2.2 0)), (1, .int v), (2, .int (nI (xcnt (fun q => ∀ z, z < q → ¬ xR (gNo Γ) (gCb Γ) (gOp Γ) z q) i))), (3, .int (nI i)), (5, .int 0), (6, .int (nI h))]) hx hb dL_areLinesSo_80 hl (by decide) rfl (fun ls hl => ?_)
                  refine lv_iinc (v := (nI (h + 1))) (lv' := [(6, .int (nI (h + 1))), (4, .int 0), (0, .ref (E.2.2.2 0)), (1, .int v), (2, .int (nI (xcnt (fun q => ∀ z, z < q → ¬ xR (gNo Γ) (gCb Γ) (gOp Γ) z q) i))), (3, .int (nI i)), (5, .int 0)]) hx hb dL_areLinesSo_82 hl (k := 6) rfl (x_inc _) (by decide) rfl (fun ls hl => ?_)
                  refine lv_goto (tgt := 27) hx hb dL_areLinesSo_85 (by decide) ?_
                  exact L27a  (0) (h + 1) (by omega) (by omega) (by first | exact (xif_t ((xlow_s ez68 (by omega)).mpr ⟨hA, c72⟩)).symm | exact (xif_f (fun w => by have := ((xlow_s ez68 (by omega)).mp w).2; omega)).symm | exact (xif_f (fun w => hA (fun k hk => w k (by omega)))).symm) _ _ _ hW (lv_sub hl [2, 3, 4, 5, 1, 6, 0] rfl)
                · refine lv_iconst (v := 1) hx hb dL_areLinesSo_75 (by decide) ?_
                  refine lv_goto (tgt := 80) hx hb dL_areLinesSo_76 (by decide) ?_
                  refine lv_istore (lv' := [(4, .int 1), (0, .ref (E.2.2.2 0)), (1, .int v), (2, .int (nI (xcnt (fun q => ∀ z, z < q → ¬ xR (gNo Γ) (gCb Γ) (gOp Γ) z q) i))), (3, .int (nI i)), (5, .int 0), (6, .int (nI h))]) hx hb dL_areLinesSo_80 hl (by decide) rfl (fun ls hl => ?_)
                  refine lv_iinc (v := (nI (h + 1))) (lv' := [(6, .int (nI (h + 1))), (4, .int 1), (0, .ref (E.2.2.2 0)), (1, .int v), (2, .int (nI (xcnt (fun q => ∀ z, z < q → ¬ xR (gNo Γ) (gCb Γ) (gOp Γ) z q) i))), (3, .int (nI i)), (5, .int 0)]) hx hb dL_areLinesSo_82 hl (k := 6) rfl (x_inc _) (by decide) rfl (fun ls hl => ?_)
                  refine lv_goto (tgt := 27) hx hb dL_areLinesSo_85 (by decide) ?_
                  exact L27a  (1) (h + 1) (by omega) (by omega) (by first | exact (xif_t ((xlow_s ez68 (by omega)).mpr ⟨hA, c72⟩)).symm | exact (xif_f (fun w => by have := ((xlow_s ez68 (by omega)).mp w).2; omega)).symm | exact (xif_f (fun w => hA (fun k hk => w k (by omega)))).symm) _ _ _ hW (lv_sub hl [2, 3, 4, 5, 1, 6, 0] rfl)
              · rw [xif_f hA] at hv
                subst hv
                refine lv_iload hx hb dL_areLinesSo_48 (lv_at hl 4 rfl) ?_
                refine lv_if_eq (tgt := 79) hx hb dL_areLinesSo_50 (by decide) (fun c50 => ?_) (fun c50 => ?_)
                rotate_left
                · exact absurd c50 (by decide)
                refine lv_iconst (v := 0) hx hb dL_areLinesSo_79 (by decide) ?_
                refine lv_istore (lv' := [(4, .int 0), (0, .ref (E.2.2.2 0)), (1, .int v), (2, .int (nI (xcnt (fun q => ∀ z, z < q → ¬ xR (gNo Γ) (gCb Γ) (gOp Γ) z q) i))), (3, .int (nI i)), (5, .int 0), (6, .int (nI h))]) hx hb dL_areLinesSo_80 hl (by decide) rfl (fun ls hl => ?_)
                refine lv_iinc (v := (nI (h + 1))) (lv' := [(6, .int (nI (h + 1))), (4, .int 0), (0, .ref (E.2.2.2 0)), (1, .int v), (2, .int (nI (xcnt (fun q => ∀ z, z < q → ¬ xR (gNo Γ) (gCb Γ) (gOp Γ) z q) i))), (3, .int (nI i)), (5, .int 0)]) hx hb dL_areLinesSo_82 hl (k := 6) rfl (x_inc _) (by decide) rfl (fun ls hl => ?_)
                refine lv_goto (tgt := 27) hx hb dL_areLinesSo_85 (by decide) ?_
                exact L27a  (0) (h + 1) (by omega) (by omega) (by first | exact (xif_t ((xlow_s ez68 (by omega)).mpr ⟨hA, c72⟩)).symm | exact (xif_f (fun w => by have := ((xlow_s ez68 (by omega)).mp w).2; omega)).symm | exact (xif_f (fun w => hA (fun k hk => w k (by omega)))).symm) _ _ _ hW (lv_sub hl [2, 3, 4, 5, 1, 6, 0] rfl)
        exact L27a _ (1) (0) (Nat.lt_succ_self _) (by omega) ((xif_t xlow_0).symm) _ _ _ hW (lv_sub hl [3, 4, 5, 6, 2, 1, 0] rfl)
  exact L4 _ (0) (Nat.lt_succ_self _) (by omega) _ _ _ hW (lv_sub hl [2, 3, 1, 0] rfl)

abbrev rmL_isPlanSoA : Room := { frames := 9, cells := 12, slots := 72, locals := 153 }
set_option maxHeartbeats 4000000 in
set_option maxRecDepth 100000 in
theorem c_L_isPlanSoA (l : Launch) (X : xF) (hfl : l.stackTraces = false) (Γ : xG) (hG : xGd Γ) {a : Nat} (ha : a < gNo Γ) : pL l yL_isPlanSo wsL_isPlanSo rmL_isPlanSoA X [.ref (X.2.2.2.1 0), .ref (X.2.2.2.2 0), .int (nI a), .int (nI a)] Γ Γ 12 (fun r u => r = 1 ∧ ∃ Γ', xGd Γ' ∧ gNo Γ ≤ gNo Γ' ∧ u = (Γ', Γ')) := by
  refine p_start RL (by decide) rfl rfl (Nat.le_of_ble_eq_true rfl) ?_
  intro p e s m args below meth c ls S hr hlk hTh hNc hW hl
  have hx := S.1
  have hb := S.2.1
  have hl : lv_has ls 10 [(0, .ref (X.2.2.2.1 0)), (1, .ref (X.2.2.2.2 0)), (2, .int (nI a)), (3, .int (nI a))] := hl
  have hno := hG.1.no
  have hnt := hG.1.nt
  refine lv_aload_n hx hb dL_isPlanSo_0 rfl (lv_at hl 0 rfl) ?_
  refine p_V (rm := rmX3_cables) (As := []) (Γ' := Γ) (rest := []) S (fun E N F hR => c_X3_cables l E N F xo0 Γ hG.1 hR) (cwV 0 S.2.2.2.2 gL_isPlanSo_X3_cables rfl rfl rfl (by decide +kernel) ⟨Nat.le_of_ble_eq_true rfl, Nat.le_of_ble_eq_true rfl⟩) hW rfl rfl hl.1 (Nat.le_of_ble_eq_true rfl) dL_isPlanSo_1 ⟨Nat.le_of_ble_eq_true rfl, Nat.le_of_ble_eq_true rfl⟩ (fun r1 H locs hq1 hW => ?_)
  obtain rfl := hq1
  refine lv_istore (lv' := [(4, .int (nI (xcnt (fun q => nI q < gCb Γ q) (gNo Γ)))), (0, .ref (X.2.2.2.1 0)), (1, .ref (X.2.2.2.2 0)), (2, .int (nI a)), (3, .int (nI a))]) hx hb dL_isPlanSo_4 hl (by decide) rfl (fun ls hl => ?_)
  refine lv_aload_n hx hb dL_isPlanSo_6 rfl (lv_at hl 1 rfl) ?_
  refine lv_iload_n hx hb dL_isPlanSo_7 rfl (lv_at hl 3 rfl) ?_
  refine p_V (rm := rm0X3_byCable) (As := [.int (nI a)]) (Γ' := Γ) (rest := []) S (fun E N F hR => c0_X3_byCable l E N F xo0 Γ hG.1 hR (p2 := a) (ha)) (cwV 1 S.2.2.2.2 gL_isPlanSo_X3_byCable rfl rfl rfl (by decide +kernel) ⟨Nat.le_of_ble_eq_true rfl, Nat.le_of_ble_eq_true rfl⟩) hW rfl rfl hl.1 (Nat.le_of_ble_eq_true rfl) dL_isPlanSo_8 ⟨Nat.le_of_ble_eq_true rfl, Nat.le_of_ble_eq_true rfl⟩ (fun r8 H locs hq8 hW => ?_)
  obtain rfl := hq8
  refine lv_istore (lv' := [(5, .int (gCb Γ a)), (4, .int (nI (xcnt (fun q => nI q < gCb Γ q) (gNo Γ)))), (0, .ref (X.2.2.2.1 0)), (1, .ref (X.2.2.2.2 0)), (2, .int (nI a)), (3, .int (nI a))]) hx hb dL_isPlanSo_11 hl (by decide) rfl (fun ls hl => ?_)
  refine lv_aload_n hx hb dL_isPlanSo_13 rfl (lv_at hl 2 rfl) ?_
  refine lv_iload_n hx hb dL_isPlanSo_14 rfl (lv_at hl 4 rfl) ?_
  refine p_V (rm := rm0X3_colour) (As := [.int (nI a)]) (Γ' := Γ) (rest := []) S (fun E N F hR => c0_X3_colour l E N F xo0 Γ hG.1 hR (p2 := a) (ha)) (cwV 1 S.2.2.2.2 gL_isPlanSo_X3_colour rfl rfl rfl (by decide +kernel) ⟨Nat.le_of_ble_eq_true rfl, Nat.le_of_ble_eq_true rfl⟩) hW rfl rfl hl.1 (Nat.le_of_ble_eq_true rfl) dL_isPlanSo_15 ⟨Nat.le_of_ble_eq_true rfl, Nat.le_of_ble_eq_true rfl⟩ (fun r15 H locs hq15 hW => ?_)
  obtain rfl := hq15
  refine lv_istore (lv' := [(6, .int (gCl Γ a)), (5, .int (gCb Γ a)), (4, .int (nI (xcnt (fun q => nI q < gCb Γ q) (gNo Γ)))), (0, .ref (X.2.2.2.1 0)), (1, .ref (X.2.2.2.2 0)), (2, .int (nI a)), (3, .int (nI a))]) hx hb dL_isPlanSo_18 hl (by decide) rfl (fun ls hl => ?_)
  refine lv_aload_n hx hb dL_isPlanSo_20 rfl (lv_at hl 3 rfl) ?_
  refine p_V (rm := rmX3_dropPlan) (As := []) (Γ' := (gDrop Γ)) (rest := []) S (fun E N F hR => c_X3_dropPlan l E N F xo0 Γ hG.1 hR) (cwV 0 S.2.2.2.2 gL_isPlanSo_X3_dropPlan rfl rfl rfl (by decide +kernel) ⟨Nat.le_of_ble_eq_true rfl, Nat.le_of_ble_eq_true rfl⟩) hW rfl rfl hl.1 (Nat.le_of_ble_eq_true rfl) dL_isPlanSo_21 ⟨Nat.le_of_ble_eq_true rfl, Nat.le_of_ble_eq_true rfl⟩ (fun r21 H locs hq21 hW => ?_)
  obtain rfl := hq21
  refine lv_pop hx hb dL_isPlanSo_24 rfl ?_
  refine lv_aload_n hx hb dL_isPlanSo_25 rfl (lv_at hl 4 rfl) ?_
  refine p_Vq (rm := rmX3_dropPlan) (As := []) (Γ' := (gDrop Γ)) (rest := []) S (fun E N F hR => c_X3_dropPlan l E N F xo0 Γ hG.1 hR) (cwV 0 S.2.2.2.2 gL_isPlanSo_X3_dropPlan rfl rfl rfl (by decide +kernel) ⟨Nat.le_of_ble_eq_true rfl, Nat.le_of_ble_eq_true rfl⟩) hW rfl rfl hl.1 (Nat.le_of_ble_eq_true rfl) dL_isPlanSo_26 ⟨Nat.le_of_ble_eq_true rfl, Nat.le_of_ble_eq_true rfl⟩ (fun r26 H locs hq26 hW => ?_)
  obtain rfl := hq26
  refine lv_pop hx hb dL_isPlanSo_29 rfl ?_
  refine lv_aload_n hx hb dL_isPlanSo_30 rfl (lv_at hl 3 rfl) ?_
  refine lv_iconst (v := 3) hx hb dL_isPlanSo_31 (by decide) ?_
  refine lv_iload_n hx hb dL_isPlanSo_32 rfl (lv_at hl 5 rfl) ?_
  refine lv_iload_n hx hb dL_isPlanSo_33 rfl (lv_at hl 6 rfl) ?_
  refine lv_iconst (v := 0) hx hb dL_isPlanSo_34 (by decide) ?_
  refine p_SX (K := 3) (rm := rmL_does) (Bs := [.int 3, .int (nI a), .int (nI a), .int 0]) (rest := []) S (fun E => c_L_does3 l E hfl (gDrop Γ) (gd_drop hG) (nI a) (nI a) 0) (vx_cwSW 5 S.2.2.2.2 gL_isPlanSo_L_does rfl rfl rfl (by decide +kernel) ⟨Nat.le_of_ble_eq_true rfl, Nat.le_of_ble_eq_true rfl⟩) hW hTh hNc rfl rfl hl.1 (Nat.le_of_ble_eq_true rfl) dL_isPlanSo_35 ⟨Nat.le_of_ble_eq_true rfl, Nat.le_of_ble_eq_true rfl⟩ (fun r35 Γ35 H locs hq35 hW => ?_)
  rw [fMove_a ha] at hq35
  obtain ⟨rfl, rfl⟩ := Prod.mk.inj hq35
  refine lv_istore (lv' := [(7, .int (-99999)), (6, .int (gCl Γ a)), (5, .int (gCb Γ a)), (4, .int (nI (xcnt (fun q => nI q < gCb Γ q) (gNo Γ)))), (0, .ref (X.2.2.2.1 0)), (1, .ref (X.2.2.2.2 0)), (2, .int (nI a)), (3, .int (nI a))]) hx hb dL_isPlanSo_38 hl (by decide) rfl (fun ls hl => ?_)
  refine lv_aload_n hx hb dL_isPlanSo_40 rfl (lv_at hl 5 rfl) ?_
  refine lv_iconst (v := 3) hx hb dL_isPlanSo_41 (by decide) ?_
  refine lv_iload_n hx hb dL_isPlanSo_42 rfl (lv_at hl 6 rfl) ?_
  refine lv_iload_n hx hb dL_isPlanSo_43 rfl (lv_at hl 7 rfl) ?_
  refine lv_iconst (v := 0) hx hb dL_isPlanSo_44 (by decide) ?_
  refine p_SXq (K := 3) (rm := rmL_does) (Bs := [.int 3, .int (nI a), .int (nI a), .int 0]) (rest := []) S (fun E => c_L_does3 l E hfl (gDrop Γ) (gd_drop hG) (nI a) (nI a) 0) (vx_cwSW 5 S.2.2.2.2 gL_isPlanSo_L_does rfl rfl rfl (by decide +kernel) ⟨Nat.le_of_ble_eq_true rfl, Nat.le_of_ble_eq_true rfl⟩) hW hTh hNc rfl rfl hl.1 (Nat.le_of_ble_eq_true rfl) dL_isPlanSo_45 ⟨Nat.le_of_ble_eq_true rfl, Nat.le_of_ble_eq_true rfl⟩ (fun r45 Γ45 H locs hq45 hW => ?_)
  rw [fMove_a ha] at hq45
  obtain ⟨rfl, rfl⟩ := Prod.mk.inj hq45
  refine lv_iload hx hb dL_isPlanSo_48 (lv_at hl 0 rfl) ?_
  refine lv_icmp_ne (tgt := 81) hx hb dL_isPlanSo_50 (by decide) (fun c50 => ?_) (fun c50 => ?_)
  · exact absurd c50 (by decide)
  refine lv_iload hx hb dL_isPlanSo_53 (lv_at hl 0 rfl) ?_
  refine lv_iconst (v := 1) hx hb dL_isPlanSo_55 (by decide) ?_
  refine lv_icmp_ne (tgt := 63) hx hb dL_isPlanSo_56 (by decide) (fun c56 => ?_) (fun c56 => ?_)
  rotate_left
  · exact absurd c56 (by decide)
  refine lv_iconst (v := 0) hx hb dL_isPlanSo_63 (by decide) ?_
  refine lv_iload_n hx hb dL_isPlanSo_64 rfl (lv_at hl 6 rfl) ?_
  refine lv_iload_n hx hb dL_isPlanSo_65 rfl (lv_at hl 7 rfl) ?_
  refine lv_icmp_eq (tgt := 73) hx hb dL_isPlanSo_66 (by decide) (fun c66 => ?_) (fun c66 => ?_)
  rotate_left
  · exact absurd rfl c66
  refine lv_iconst (v := 0) hx hb dL_isPlanSo_73 (by decide) ?_
  refine lv_icmp_ne (tgt := 81) hx hb dL_isPlanSo_74 (by decide) (fun c74 => ?_) (fun c74 => ?_)
  · exact absurd c74 (by decide)
  refine lv_iconst (v := 1) hx hb dL_isPlanSo_77 (by decide) ?_
  refine lv_goto (tgt := 82) hx hb dL_isPlanSo_78 (by decide) ?_
  refine lv_istore (lv' := [(8, .int 1), (7, .int (-99999)), (6, .int (gCl Γ a)), (5, .int (gCb Γ a)), (4, .int (nI (xcnt (fun q => nI q < gCb Γ q) (gNo Γ)))), (0, .ref (X.2.2.2.1 0)), (1, .ref (X.2.2.2.2 0)), (2, .int (nI a)), (3, .int (nI a))]) hx hb dL_isPlanSo_82 hl (by decide) rfl (fun ls hl => ?_)
  refine lv_iload_n hx hb dL_isPlanSo_84 rfl (lv_at hl 7 rfl) ?_
  refine lv_iload_n hx hb dL_isPlanSo_85 rfl (lv_at hl 8 rfl) ?_
  refine lv_icmp_eq (tgt := 106) hx hb dL_isPlanSo_86 (by decide) (fun c86 => ?_) (fun c86 => ?_)
  rotate_left
  · exact absurd rfl c86
  refine lv_iconst (v := 0) hx hb dL_isPlanSo_106 (by decide) ?_
  refine lv_istore (lv' := [(9, .int 0), (8, .int 1), (7, .int (-99999)), (6, .int (gCl Γ a)), (5, .int (gCb Γ a)), (4, .int (nI (xcnt (fun q => nI q < gCb Γ q) (gNo Γ)))), (0, .ref (X.2.2.2.1 0)), (1, .ref (X.2.2.2.2 0)), (2, .int (nI a)), (3, .int (nI a))]) hx hb dL_isPlanSo_107 hl (by decide) rfl (fun ls hl => ?_)
  refine lv_iload_n hx hb dL_isPlanSo_109 rfl (lv_at hl 8 rfl) ?_
  refine lv_iload_n hx hb dL_isPlanSo_110 rfl (lv_at hl 9 rfl) ?_
  refine lv_icmp_ne (tgt := 154) hx hb dL_isPlanSo_111 (by decide) (fun c111 => ?_) (fun c111 => ?_)
  · exact absurd rfl c111
  refine lv_iload hx hb dL_isPlanSo_114 (lv_at hl 1 rfl) ?_
  refine lv_if_eq (tgt := 152) hx hb dL_isPlanSo_116 (by decide) (fun c116 => ?_) (fun c116 => ?_)
  · exact absurd c116 (by decide)
  refine lv_aload_n hx hb dL_isPlanSo_119 rfl (lv_at hl 6 rfl) ?_
  refine p_V (rm := rmX3_canCarryOut) (As := []) (Γ' := (gDrop Γ)) (rest := []) S (fun E N F hR => c_X3_canCarryOut l E N F xo0 (gDrop Γ) (gd_drop hG).1 hR) (cwV 0 S.2.2.2.2 gL_isPlanSo_X3_canCarryOut rfl rfl rfl (by decide +kernel) ⟨Nat.le_of_ble_eq_true rfl, Nat.le_of_ble_eq_true rfl⟩) hW rfl rfl hl.1 (Nat.le_of_ble_eq_true rfl) dL_isPlanSo_120 ⟨Nat.le_of_ble_eq_true rfl, Nat.le_of_ble_eq_true rfl⟩ (fun r120 H locs hq120 hW => ?_)
  obtain rfl := hq120
  refine x_topE (1) (xif_t gCanE) ?_
  refine lv_if_eq (tgt := 152) hx hb dL_isPlanSo_123 (by decide) (fun c123 => ?_) (fun c123 => ?_)
  · exact absurd c123 (by decide)
  refine lv_aload_n hx hb dL_isPlanSo_126 rfl (lv_at hl 6 rfl) ?_
  refine lv_iconst (v := 4) hx hb dL_isPlanSo_127 (by decide) ?_
  refine lv_iconst (v := 0) hx hb dL_isPlanSo_128 (by decide) ?_
  refine lv_iconst (v := 0) hx hb dL_isPlanSo_129 (by decide) ?_
  refine lv_iconst (v := 0) hx hb dL_isPlanSo_130 (by decide) ?_
  refine p_SX (K := 3) (rm := rmL_does) (Bs := [.int 4, .int 0, .int 0, .int 0]) (rest := []) S (fun E => c_L_does4 l E hfl (gDrop Γ) (gd_drop hG) 0 0 0) (vx_cwSW 5 S.2.2.2.2 gL_isPlanSo_L_does rfl rfl rfl (by decide +kernel) ⟨Nat.le_of_ble_eq_true rfl, Nat.le_of_ble_eq_true rfl⟩) hW hTh hNc rfl rfl hl.1 (Nat.le_of_ble_eq_true rfl) dL_isPlanSo_131 ⟨Nat.le_of_ble_eq_true rfl, Nat.le_of_ble_eq_true rfl⟩ (fun r131 Γ131 H locs hq131 hW => ?_)
  rw [fCarry_e] at hq131
  obtain ⟨rfl, rfl⟩ := Prod.mk.inj hq131
  refine lv_if_ne (tgt := 152) hx hb dL_isPlanSo_134 (by decide) (fun c134 => ?_) (fun c134 => ?_)
  · exact absurd c134 (by decide)
  refine lv_aload_n hx hb dL_isPlanSo_137 rfl (lv_at hl 7 rfl) ?_
  refine lv_iconst (v := 4) hx hb dL_isPlanSo_138 (by decide) ?_
  refine lv_iconst (v := 0) hx hb dL_isPlanSo_139 (by decide) ?_
  refine lv_iconst (v := 0) hx hb dL_isPlanSo_140 (by decide) ?_
  refine lv_iconst (v := 0) hx hb dL_isPlanSo_141 (by decide) ?_
  refine p_SXq (K := 3) (rm := rmL_does) (Bs := [.int 4, .int 0, .int 0, .int 0]) (rest := []) S (fun E => c_L_does4 l E hfl (gDrop Γ) (gd_drop hG) 0 0 0) (vx_cwSW 5 S.2.2.2.2 gL_isPlanSo_L_does rfl rfl rfl (by decide +kernel) ⟨Nat.le_of_ble_eq_true rfl, Nat.le_of_ble_eq_true rfl⟩) hW hTh hNc rfl rfl hl.1 (Nat.le_of_ble_eq_true rfl) dL_isPlanSo_142 ⟨Nat.le_of_ble_eq_true rfl, Nat.le_of_ble_eq_true rfl⟩ (fun r142 Γ142 H locs hq142 hW => ?_)
  rw [fCarry_e] at hq142
  obtain ⟨rfl, rfl⟩ := Prod.mk.inj hq142
  refine lv_if_ne (tgt := 152) hx hb dL_isPlanSo_145 (by decide) (fun c145 => ?_) (fun c145 => ?_)
  · exact absurd c145 (by decide)
  refine lv_iconst (v := 1) hx hb dL_isPlanSo_148 (by decide) ?_
  refine lv_goto (tgt := 153) hx hb dL_isPlanSo_149 (by decide) ?_
  exact p_rz S hr hlk hW (Nat.le_of_ble_eq_true rfl) (Nat.le_of_ble_eq_true rfl) dL_isPlanSo_153 (Or.inr rfl) (⟨rfl, gCarry (gDrop Γ), gd_carry (gd_drop hG) (xif_t gCanE), Nat.le_refl _, rfl⟩)

abbrev rmL_isPlanSoB : Room := { frames := 9, cells := 12, slots := 72, locals := 153 }
set_option maxHeartbeats 4000000 in
set_option maxRecDepth 100000 in
theorem c_L_isPlanSoB (l : Launch) (X : xF) (hfl : l.stackTraces = false) (Γ : xG) (hG : xGd Γ) {a b v : Nat} (ha : a < gNo Γ) (hbb : b < gNo Γ) (hv : v < gNo Γ) (hne : a ≠ b) (ea : gCb Γ a = nI v) (eb : gCb Γ b = -1) : pL l yL_isPlanSo wsL_isPlanSo rmL_isPlanSoB X [.ref (X.2.2.2.1 0), .ref (X.2.2.2.2 0), .int (nI a), .int (nI b)] Γ Γ 12 (fun r u => r = 1 ∧ ∃ Γ', xGd Γ' ∧ gNo Γ ≤ gNo Γ' ∧ u = (Γ', Γ')) := by
  refine p_start RL (by decide) rfl rfl (Nat.le_of_ble_eq_true rfl) ?_
  intro p e s m args below meth c ls S hr hlk hTh hNc hW hl
  have hx := S.1
  have hb := S.2.1
  have hl : lv_has ls 10 [(0, .ref (X.2.2.2.1 0)), (1, .ref (X.2.2.2.2 0)), (2, .int (nI a)), (3, .int (nI b))] := hl
  have hno := hG.1.no
  have hnt := hG.1.nt
  have hGm : xGd (gMove (gDrop Γ) a b) := ⟨good_move (good_drop hG.1) ha hbb hne (show ¬ (0 : Nat) = 12 by decide), hG.co, hG.sp, hG.tl, hG.tk⟩
  have hxl := xcnt_le (fun q => nI q < gCb Γ q) (gNo Γ)
  have hmay : gCb Γ a ≠ -1 ∧ gCb Γ b = -1 := ⟨by rw [ea]; exact nI_m1 (by omega), eb⟩
  have hGc : xGd (gCarry (gMove (gDrop Γ) a b)) := gd_carry hGm (xif_t ((gCanM hne).mpr hmay))
  have hone := gOne hG.1 ha hbb hv hne ea eb
  refine lv_aload_n hx hb dL_isPlanSo_0 rfl (lv_at hl 0 rfl) ?_
  refine p_V (rm := rmX3_cables) (As := []) (Γ' := Γ) (rest := []) S (fun E N F hR => c_X3_cables l E N F xo0 Γ hG.1 hR) (cwV 0 S.2.2.2.2 gL_isPlanSo_X3_cables rfl rfl rfl (by decide +kernel) ⟨Nat.le_of_ble_eq_true rfl, Nat.le_of_ble_eq_true rfl⟩) hW rfl rfl hl.1 (Nat.le_of_ble_eq_true rfl) dL_isPlanSo_1 ⟨Nat.le_of_ble_eq_true rfl, Nat.le_of_ble_eq_true rfl⟩ (fun r1 H locs hq1 hW => ?_)
  obtain rfl := hq1
  refine lv_istore (lv' := [(4, .int (nI (xcnt (fun q => nI q < gCb Γ q) (gNo Γ)))), (0, .ref (X.2.2.2.1 0)), (1, .ref (X.2.2.2.2 0)), (2, .int (nI a)), (3, .int (nI b))]) hx hb dL_isPlanSo_4 hl (by decide) rfl (fun ls hl => ?_)
  refine lv_aload_n hx hb dL_isPlanSo_6 rfl (lv_at hl 1 rfl) ?_
  refine lv_iload_n hx hb dL_isPlanSo_7 rfl (lv_at hl 3 rfl) ?_
  refine p_V (rm := rm0X3_byCable) (As := [.int (nI a)]) (Γ' := Γ) (rest := []) S (fun E N F hR => c0_X3_byCable l E N F xo0 Γ hG.1 hR (p2 := a) (ha)) (cwV 1 S.2.2.2.2 gL_isPlanSo_X3_byCable rfl rfl rfl (by decide +kernel) ⟨Nat.le_of_ble_eq_true rfl, Nat.le_of_ble_eq_true rfl⟩) hW rfl rfl hl.1 (Nat.le_of_ble_eq_true rfl) dL_isPlanSo_8 ⟨Nat.le_of_ble_eq_true rfl, Nat.le_of_ble_eq_true rfl⟩ (fun r8 H locs hq8 hW => ?_)
  obtain rfl := hq8
  refine x_topN (v) (ea) ?_
  refine lv_istore (lv' := [(5, .int (nI v)), (4, .int (nI (xcnt (fun q => nI q < gCb Γ q) (gNo Γ)))), (0, .ref (X.2.2.2.1 0)), (1, .ref (X.2.2.2.2 0)), (2, .int (nI a)), (3, .int (nI b))]) hx hb dL_isPlanSo_11 hl (by decide) rfl (fun ls hl => ?_)
  refine lv_aload_n hx hb dL_isPlanSo_13 rfl (lv_at hl 2 rfl) ?_
  refine lv_iload_n hx hb dL_isPlanSo_14 rfl (lv_at hl 4 rfl) ?_
  refine p_V (rm := rm0X3_colour) (As := [.int (nI a)]) (Γ' := Γ) (rest := []) S (fun E N F hR => c0_X3_colour l E N F xo0 Γ hG.1 hR (p2 := a) (ha)) (cwV 1 S.2.2.2.2 gL_isPlanSo_X3_colour rfl rfl rfl (by decide +kernel) ⟨Nat.le_of_ble_eq_true rfl, Nat.le_of_ble_eq_true rfl⟩) hW rfl rfl hl.1 (Nat.le_of_ble_eq_true rfl) dL_isPlanSo_15 ⟨Nat.le_of_ble_eq_true rfl, Nat.le_of_ble_eq_true rfl⟩ (fun r15 H locs hq15 hW => ?_)
  obtain rfl := hq15
  refine lv_istore (lv' := [(6, .int (gCl Γ a)), (5, .int (nI v)), (4, .int (nI (xcnt (fun q => nI q < gCb Γ q) (gNo Γ)))), (0, .ref (X.2.2.2.1 0)), (1, .ref (X.2.2.2.2 0)), (2, .int (nI a)), (3, .int (nI b))]) hx hb dL_isPlanSo_18 hl (by decide) rfl (fun ls hl => ?_)
  refine lv_aload_n hx hb dL_isPlanSo_20 rfl (lv_at hl 3 rfl) ?_
  refine p_V (rm := rmX3_dropPlan) (As := []) (Γ' := (gDrop Γ)) (rest := []) S (fun E N F hR => c_X3_dropPlan l E N F xo0 Γ hG.1 hR) (cwV 0 S.2.2.2.2 gL_isPlanSo_X3_dropPlan rfl rfl rfl (by decide +kernel) ⟨Nat.le_of_ble_eq_true rfl, Nat.le_of_ble_eq_true rfl⟩) hW rfl rfl hl.1 (Nat.le_of_ble_eq_true rfl) dL_isPlanSo_21 ⟨Nat.le_of_ble_eq_true rfl, Nat.le_of_ble_eq_true rfl⟩ (fun r21 H locs hq21 hW => ?_)
  obtain rfl := hq21
  refine lv_pop hx hb dL_isPlanSo_24 rfl ?_
  refine lv_aload_n hx hb dL_isPlanSo_25 rfl (lv_at hl 4 rfl) ?_
  refine p_Vq (rm := rmX3_dropPlan) (As := []) (Γ' := (gDrop Γ)) (rest := []) S (fun E N F hR => c_X3_dropPlan l E N F xo0 Γ hG.1 hR) (cwV 0 S.2.2.2.2 gL_isPlanSo_X3_dropPlan rfl rfl rfl (by decide +kernel) ⟨Nat.le_of_ble_eq_true rfl, Nat.le_of_ble_eq_true rfl⟩) hW rfl rfl hl.1 (Nat.le_of_ble_eq_true rfl) dL_isPlanSo_26 ⟨Nat.le_of_ble_eq_true rfl, Nat.le_of_ble_eq_true rfl⟩ (fun r26 H locs hq26 hW => ?_)
  obtain rfl := hq26
  refine lv_pop hx hb dL_isPlanSo_29 rfl ?_
  refine lv_aload_n hx hb dL_isPlanSo_30 rfl (lv_at hl 3 rfl) ?_
  refine lv_iconst (v := 3) hx hb dL_isPlanSo_31 (by decide) ?_
  refine lv_iload_n hx hb dL_isPlanSo_32 rfl (lv_at hl 5 rfl) ?_
  refine lv_iload_n hx hb dL_isPlanSo_33 rfl (lv_at hl 6 rfl) ?_
  refine lv_iconst (v := 0) hx hb dL_isPlanSo_34 (by decide) ?_
  refine p_SX (K := 3) (rm := rmL_does) (Bs := [.int 3, .int (nI a), .int (nI b), .int 0]) (rest := []) S (fun E => c_L_does3 l E hfl (gDrop Γ) (gd_drop hG) (nI a) (nI b) 0) (vx_cwSW 5 S.2.2.2.2 gL_isPlanSo_L_does rfl rfl rfl (by decide +kernel) ⟨Nat.le_of_ble_eq_true rfl, Nat.le_of_ble_eq_true rfl⟩) hW hTh hNc rfl rfl hl.1 (Nat.le_of_ble_eq_true rfl) dL_isPlanSo_35 ⟨Nat.le_of_ble_eq_true rfl, Nat.le_of_ble_eq_true rfl⟩ (fun r35 Γ35 H locs hq35 hW => ?_)
  rw [fMove_b hG.1 ha hbb hne] at hq35
  obtain ⟨rfl, rfl⟩ := Prod.mk.inj hq35
  refine lv_istore (lv' := [(7, .int 1), (6, .int (gCl Γ a)), (5, .int (nI v)), (4, .int (nI (xcnt (fun q => nI q < gCb Γ q) (gNo Γ)))), (0, .ref (X.2.2.2.1 0)), (1, .ref (X.2.2.2.2 0)), (2, .int (nI a)), (3, .int (nI b))]) hx hb dL_isPlanSo_38 hl (by decide) rfl (fun ls hl => ?_)
  refine lv_aload_n hx hb dL_isPlanSo_40 rfl (lv_at hl 5 rfl) ?_
  refine lv_iconst (v := 3) hx hb dL_isPlanSo_41 (by decide) ?_
  refine lv_iload_n hx hb dL_isPlanSo_42 rfl (lv_at hl 6 rfl) ?_
  refine lv_iload_n hx hb dL_isPlanSo_43 rfl (lv_at hl 7 rfl) ?_
  refine lv_iconst (v := 0) hx hb dL_isPlanSo_44 (by decide) ?_
  refine p_SXq (K := 3) (rm := rmL_does) (Bs := [.int 3, .int (nI a), .int (nI b), .int 0]) (rest := []) S (fun E => c_L_does3 l E hfl (gDrop Γ) (gd_drop hG) (nI a) (nI b) 0) (vx_cwSW 5 S.2.2.2.2 gL_isPlanSo_L_does rfl rfl rfl (by decide +kernel) ⟨Nat.le_of_ble_eq_true rfl, Nat.le_of_ble_eq_true rfl⟩) hW hTh hNc rfl rfl hl.1 (Nat.le_of_ble_eq_true rfl) dL_isPlanSo_45 ⟨Nat.le_of_ble_eq_true rfl, Nat.le_of_ble_eq_true rfl⟩ (fun r45 Γ45 H locs hq45 hW => ?_)
  rw [fMove_b hG.1 ha hbb hne] at hq45
  obtain ⟨rfl, rfl⟩ := Prod.mk.inj hq45
  refine lv_iload hx hb dL_isPlanSo_48 (lv_at hl 0 rfl) ?_
  refine lv_icmp_ne (tgt := 81) hx hb dL_isPlanSo_50 (by decide) (fun c50 => ?_) (fun c50 => ?_)
  · exact absurd c50 (by decide)
  refine lv_iload hx hb dL_isPlanSo_53 (lv_at hl 0 rfl) ?_
  refine lv_iconst (v := 1) hx hb dL_isPlanSo_55 (by decide) ?_
  refine lv_icmp_ne (tgt := 63) hx hb dL_isPlanSo_56 (by decide) (fun c56 => ?_) (fun c56 => ?_)
  · exact absurd c56 (by decide)
  refine lv_iconst (v := 1) hx hb dL_isPlanSo_59 (by decide) ?_
  refine lv_goto (tgt := 64) hx hb dL_isPlanSo_60 (by decide) ?_
  refine lv_iload_n hx hb dL_isPlanSo_64 rfl (lv_at hl 6 rfl) ?_
  refine lv_iload_n hx hb dL_isPlanSo_65 rfl (lv_at hl 7 rfl) ?_
  refine x_icmp_eq (a := a) (b := b) (tgt := 73) hx hb dL_isPlanSo_66 (by decide) (by omega) (by omega) (fun c66 => ?_) (fun c66 => ?_)
  · exact absurd c66 hne
  refine lv_iconst (v := 1) hx hb dL_isPlanSo_69 (by decide) ?_
  refine lv_goto (tgt := 74) hx hb dL_isPlanSo_70 (by decide) ?_
  refine lv_icmp_ne (tgt := 81) hx hb dL_isPlanSo_74 (by decide) (fun c74 => ?_) (fun c74 => ?_)
  · exact absurd c74 (by decide)
  refine lv_iconst (v := 1) hx hb dL_isPlanSo_77 (by decide) ?_
  refine lv_goto (tgt := 82) hx hb dL_isPlanSo_78 (by decide) ?_
  refine lv_istore (lv' := [(8, .int 1), (7, .int 1), (6, .int (gCl Γ a)), (5, .int (nI v)), (4, .int (nI (xcnt (fun q => nI q < gCb Γ q) (gNo Γ)))), (0, .ref (X.2.2.2.1 0)), (1, .ref (X.2.2.2.2 0)), (2, .int (nI a)), (3, .int (nI b))]) hx hb dL_isPlanSo_82 hl (by decide) rfl (fun ls hl => ?_)
  refine lv_iload_n hx hb dL_isPlanSo_84 rfl (lv_at hl 7 rfl) ?_
  refine lv_iload_n hx hb dL_isPlanSo_85 rfl (lv_at hl 8 rfl) ?_
  refine x_icmp_eq (a := a) (b := b) (tgt := 106) hx hb dL_isPlanSo_86 (by decide) (by omega) (by omega) (fun c86 => ?_) (fun c86 => ?_)
  · exact absurd c86 hne
  refine lv_iload hx hb dL_isPlanSo_89 (lv_at hl 3 rfl) ?_
  refine x_if_lt (tgt := 106) hx hb dL_isPlanSo_91 (by decide) (by omega) ?_
  refine lv_aload_n hx hb dL_isPlanSo_94 rfl (lv_at hl 5 rfl) ?_
  refine lv_iload_n hx hb dL_isPlanSo_95 rfl (lv_at hl 8 rfl) ?_
  refine p_V (rm := rm0X3_byCable) (As := [.int (nI b)]) (Γ' := (gMove (gDrop Γ) a b)) (rest := []) S (fun E N F hR => c0_X3_byCable l E N F xo0 (gMove (gDrop Γ) a b) hGm.1 hR (p2 := b) (hbb)) (cwV 1 S.2.2.2.2 gL_isPlanSo_X3_byCable rfl rfl rfl (by decide +kernel) ⟨Nat.le_of_ble_eq_true rfl, Nat.le_of_ble_eq_true rfl⟩) hW rfl rfl hl.1 (Nat.le_of_ble_eq_true rfl) dL_isPlanSo_96 ⟨Nat.le_of_ble_eq_true rfl, Nat.le_of_ble_eq_true rfl⟩ (fun r96 H locs hq96 hW => ?_)
  obtain rfl := hq96
  refine x_topE ((-1)) (eb) ?_
  refine lv_if_ge (tgt := 106) hx hb dL_isPlanSo_99 (by decide) (fun c99 => ?_) (fun c99 => ?_)
  · exact absurd c99 (by decide)
  refine lv_iconst (v := 1) hx hb dL_isPlanSo_102 (by decide) ?_
  refine lv_goto (tgt := 107) hx hb dL_isPlanSo_103 (by decide) ?_
  refine lv_istore (lv' := [(9, .int 1), (8, .int 1), (7, .int 1), (6, .int (gCl Γ a)), (5, .int (nI v)), (4, .int (nI (xcnt (fun q => nI q < gCb Γ q) (gNo Γ)))), (0, .ref (X.2.2.2.1 0)), (1, .ref (X.2.2.2.2 0)), (2, .int (nI a)), (3, .int (nI b))]) hx hb dL_isPlanSo_107 hl (by decide) rfl (fun ls hl => ?_)
  refine lv_iload_n hx hb dL_isPlanSo_109 rfl (lv_at hl 8 rfl) ?_
  refine lv_iload_n hx hb dL_isPlanSo_110 rfl (lv_at hl 9 rfl) ?_
  refine x_icmp_ne (a := a) (b := b) (tgt := 154) hx hb dL_isPlanSo_111 (by decide) (by omega) (by omega) (fun c111 => ?_) (fun c111 => ?_)
  rotate_left
  · exact absurd c111 hne
  refine lv_iload hx hb dL_isPlanSo_154 (lv_at hl 1 rfl) ?_
  refine lv_if_eq (tgt := 225) hx hb dL_isPlanSo_156 (by decide) (fun c156 => ?_) (fun c156 => ?_)
  · exact absurd c156 (by decide)
  refine lv_aload_n hx hb dL_isPlanSo_159 rfl (lv_at hl 6 rfl) ?_
  refine p_V (rm := rmX3_canCarryOut) (As := []) (Γ' := (gMove (gDrop Γ) a b)) (rest := []) S (fun E N F hR => c_X3_canCarryOut l E N F xo0 (gMove (gDrop Γ) a b) hGm.1 hR) (cwV 0 S.2.2.2.2 gL_isPlanSo_X3_canCarryOut rfl rfl rfl (by decide +kernel) ⟨Nat.le_of_ble_eq_true rfl, Nat.le_of_ble_eq_true rfl⟩) hW rfl rfl hl.1 (Nat.le_of_ble_eq_true rfl) dL_isPlanSo_160 ⟨Nat.le_of_ble_eq_true rfl, Nat.le_of_ble_eq_true rfl⟩ (fun r160 H locs hq160 hW => ?_)
  obtain rfl := hq160
  refine x_topE (1) (xif_t ((gCanM hne).mpr hmay)) ?_
  refine lv_iload hx hb dL_isPlanSo_163 (lv_at hl 0 rfl) ?_
  refine lv_icmp_ne (tgt := 225) hx hb dL_isPlanSo_165 (by decide) (fun c165 => ?_) (fun c165 => ?_)
  · exact absurd c165 (by decide)
  refine lv_aload_n hx hb dL_isPlanSo_168 rfl (lv_at hl 6 rfl) ?_
  refine lv_iconst (v := 4) hx hb dL_isPlanSo_169 (by decide) ?_
  refine lv_iconst (v := 0) hx hb dL_isPlanSo_170 (by decide) ?_
  refine lv_iconst (v := 0) hx hb dL_isPlanSo_171 (by decide) ?_
  refine lv_iconst (v := 0) hx hb dL_isPlanSo_172 (by decide) ?_
  refine p_SX (K := 3) (rm := rmL_does) (Bs := [.int 4, .int 0, .int 0, .int 0]) (rest := []) S (fun E => c_L_does4 l E hfl (gMove (gDrop Γ) a b) hGm 0 0 0) (vx_cwSW 5 S.2.2.2.2 gL_isPlanSo_L_does rfl rfl rfl (by decide +kernel) ⟨Nat.le_of_ble_eq_true rfl, Nat.le_of_ble_eq_true rfl⟩) hW hTh hNc rfl rfl hl.1 (Nat.le_of_ble_eq_true rfl) dL_isPlanSo_173 ⟨Nat.le_of_ble_eq_true rfl, Nat.le_of_ble_eq_true rfl⟩ (fun r173 Γ173 H locs hq173 hW => ?_)
  rw [fCarry_y hne hmay] at hq173
  obtain ⟨rfl, rfl⟩ := Prod.mk.inj hq173
  refine lv_iload hx hb dL_isPlanSo_176 (lv_at hl 0 rfl) ?_
  refine lv_if_eq (tgt := 185) hx hb dL_isPlanSo_178 (by decide) (fun c178 => ?_) (fun c178 => ?_)
  · exact absurd c178 (by decide)
  refine lv_iconst (v := 1) hx hb dL_isPlanSo_181 (by decide) ?_
  refine lv_goto (tgt := 187) hx hb dL_isPlanSo_182 (by decide) ?_
  refine lv_icmp_ne (tgt := 225) hx hb dL_isPlanSo_187 (by decide) (fun c187 => ?_) (fun c187 => ?_)
  · exact absurd c187 (by decide)
  refine lv_aload_n hx hb dL_isPlanSo_190 rfl (lv_at hl 7 rfl) ?_
  refine lv_iconst (v := 4) hx hb dL_isPlanSo_191 (by decide) ?_
  refine lv_iconst (v := 0) hx hb dL_isPlanSo_192 (by decide) ?_
  refine lv_iconst (v := 0) hx hb dL_isPlanSo_193 (by decide) ?_
  refine lv_iconst (v := 0) hx hb dL_isPlanSo_194 (by decide) ?_
  refine p_SXq (K := 3) (rm := rmL_does) (Bs := [.int 4, .int 0, .int 0, .int 0]) (rest := []) S (fun E => c_L_does4 l E hfl (gMove (gDrop Γ) a b) hGm 0 0 0) (vx_cwSW 5 S.2.2.2.2 gL_isPlanSo_L_does rfl rfl rfl (by decide +kernel) ⟨Nat.le_of_ble_eq_true rfl, Nat.le_of_ble_eq_true rfl⟩) hW hTh hNc rfl rfl hl.1 (Nat.le_of_ble_eq_true rfl) dL_isPlanSo_195 ⟨Nat.le_of_ble_eq_true rfl, Nat.le_of_ble_eq_true rfl⟩ (fun r195 Γ195 H locs hq195 hW => ?_)
  rw [fCarry_y hne hmay] at hq195
  obtain ⟨rfl, rfl⟩ := Prod.mk.inj hq195
  refine lv_iload hx hb dL_isPlanSo_198 (lv_at hl 0 rfl) ?_
  refine lv_if_eq (tgt := 207) hx hb dL_isPlanSo_200 (by decide) (fun c200 => ?_) (fun c200 => ?_)
  · exact absurd c200 (by decide)
  refine lv_iconst (v := 1) hx hb dL_isPlanSo_203 (by decide) ?_
  refine lv_goto (tgt := 209) hx hb dL_isPlanSo_204 (by decide) ?_
  refine lv_icmp_ne (tgt := 225) hx hb dL_isPlanSo_209 (by decide) (fun c209 => ?_) (fun c209 => ?_)
  · exact absurd c209 (by decide)
  refine lv_aload_n hx hb dL_isPlanSo_212 rfl (lv_at hl 6 rfl) ?_
  refine p_V (rm := rmX3_cables) (As := []) (Γ' := (gCarry (gMove (gDrop Γ) a b))) (rest := []) S (fun E N F hR => c_X3_cables l E N F xo0 (gCarry (gMove (gDrop Γ) a b)) hGc.1 hR) (cwV 0 S.2.2.2.2 gL_isPlanSo_X3_cables rfl rfl rfl (by decide +kernel) ⟨Nat.le_of_ble_eq_true rfl, Nat.le_of_ble_eq_true rfl⟩) hW rfl rfl hl.1 (Nat.le_of_ble_eq_true rfl) dL_isPlanSo_213 ⟨Nat.le_of_ble_eq_true rfl, Nat.le_of_ble_eq_true rfl⟩ (fun r213 H locs hq213 hW => ?_)
  obtain rfl := hq213
  refine x_topN (xcnt (fun q => nI q < gCb Γ q) (gNo Γ)) (congrArg nI hone.2.2.2) ?_
  refine lv_iload hx hb dL_isPlanSo_216 (lv_at hl 5 rfl) ?_
  refine lv_icmp_ne (tgt := 225) hx hb dL_isPlanSo_218 (by decide) (fun c218 => ?_) (fun c218 => ?_)
  · exact absurd rfl c218
  refine lv_iconst (v := 1) hx hb dL_isPlanSo_221 (by decide) ?_
  refine lv_goto (tgt := 226) hx hb dL_isPlanSo_222 (by decide) ?_
  refine lv_istore (lv' := [(8, .int 1), (9, .int 1), (7, .int 1), (6, .int (gCl Γ a)), (5, .int (nI v)), (4, .int (nI (xcnt (fun q => nI q < gCb Γ q) (gNo Γ)))), (0, .ref (X.2.2.2.1 0)), (1, .ref (X.2.2.2.2 0)), (2, .int (nI a)), (3, .int (nI b))]) hx hb dL_isPlanSo_226 hl (by decide) rfl (fun ls hl => ?_)
  refine lv_iload hx hb dL_isPlanSo_228 (lv_at hl 0 rfl) ?_
  refine lv_if_eq (tgt := 304) hx hb dL_isPlanSo_230 (by decide) (fun c230 => ?_) (fun c230 => ?_)
  · exact absurd c230 (by decide)
  refine lv_iload hx hb dL_isPlanSo_233 (lv_at hl 1 rfl) ?_
  refine lv_if_eq (tgt := 266) hx hb dL_isPlanSo_235 (by decide) (fun c235 => ?_) (fun c235 => ?_)
  · exact absurd c235 (by decide)
  refine lv_aload_n hx hb dL_isPlanSo_238 rfl (lv_at hl 6 rfl) ?_
  refine lv_iload_n hx hb dL_isPlanSo_239 rfl (lv_at hl 9 rfl) ?_
  refine p_V (rm := rm0X3_byCable) (As := [.int (nI b)]) (Γ' := (gCarry (gMove (gDrop Γ) a b))) (rest := []) S (fun E N F hR => c0_X3_byCable l E N F xo0 (gCarry (gMove (gDrop Γ) a b)) hGc.1 hR (p2 := b) (hbb)) (cwV 1 S.2.2.2.2 gL_isPlanSo_X3_byCable rfl rfl rfl (by decide +kernel) ⟨Nat.le_of_ble_eq_true rfl, Nat.le_of_ble_eq_true rfl⟩) hW rfl rfl hl.1 (Nat.le_of_ble_eq_true rfl) dL_isPlanSo_240 ⟨Nat.le_of_ble_eq_true rfl, Nat.le_of_ble_eq_true rfl⟩ (fun r240 H locs hq240 hW => ?_)
  obtain rfl := hq240
  refine x_topN (v) (hone.1) ?_
  refine lv_iload hx hb dL_isPlanSo_243 (lv_at hl 4 rfl) ?_
  refine lv_icmp_ne (tgt := 304) hx hb dL_isPlanSo_245 (by decide) (fun c245 => ?_) (fun c245 => ?_)
  · exact absurd rfl c245
  refine lv_aload_n hx hb dL_isPlanSo_248 rfl (lv_at hl 6 rfl) ?_
  refine lv_iload_n hx hb dL_isPlanSo_249 rfl (lv_at hl 8 rfl) ?_
  refine p_V (rm := rm0X3_byCable) (As := [.int (nI a)]) (Γ' := (gCarry (gMove (gDrop Γ) a b))) (rest := []) S (fun E N F hR => c0_X3_byCable l E N F xo0 (gCarry (gMove (gDrop Γ) a b)) hGc.1 hR (p2 := a) (ha)) (cwV 1 S.2.2.2.2 gL_isPlanSo_X3_byCable rfl rfl rfl (by decide +kernel) ⟨Nat.le_of_ble_eq_true rfl, Nat.le_of_ble_eq_true rfl⟩) hW rfl rfl hl.1 (Nat.le_of_ble_eq_true rfl) dL_isPlanSo_250 ⟨Nat.le_of_ble_eq_true rfl, Nat.le_of_ble_eq_true rfl⟩ (fun r250 H locs hq250 hW => ?_)
  obtain rfl := hq250
  refine x_topE ((-1)) (hone.2.1) ?_
  refine lv_if_ge (tgt := 304) hx hb dL_isPlanSo_253 (by decide) (fun c253 => ?_) (fun c253 => ?_)
  · exact absurd c253 (by decide)
  refine lv_aload_n hx hb dL_isPlanSo_256 rfl (lv_at hl 6 rfl) ?_
  refine lv_iload_n hx hb dL_isPlanSo_257 rfl (lv_at hl 9 rfl) ?_
  refine p_V (rm := rm0X3_colour) (As := [.int (nI b)]) (Γ' := (gCarry (gMove (gDrop Γ) a b))) (rest := []) S (fun E N F hR => c0_X3_colour l E N F xo0 (gCarry (gMove (gDrop Γ) a b)) hGc.1 hR (p2 := b) (hbb)) (cwV 1 S.2.2.2.2 gL_isPlanSo_X3_colour rfl rfl rfl (by decide +kernel) ⟨Nat.le_of_ble_eq_true rfl, Nat.le_of_ble_eq_true rfl⟩) hW rfl rfl hl.1 (Nat.le_of_ble_eq_true rfl) dL_isPlanSo_258 ⟨Nat.le_of_ble_eq_true rfl, Nat.le_of_ble_eq_true rfl⟩ (fun r258 H locs hq258 hW => ?_)
  obtain rfl := hq258
  refine x_topE ((gCl Γ a)) (hone.2.2.1) ?_
  refine lv_iload hx hb dL_isPlanSo_261 (lv_at hl 3 rfl) ?_
  refine lv_icmp_ne (tgt := 304) hx hb dL_isPlanSo_263 (by decide) (fun c263 => ?_) (fun c263 => ?_)
  · exact absurd rfl c263
  refine lv_aload_n hx hb dL_isPlanSo_266 rfl (lv_at hl 6 rfl) ?_
  refine p_V (rm := rmX3_dropPlan) (As := []) (Γ' := (gDrop (gCarry (gMove (gDrop Γ) a b)))) (rest := []) S (fun E N F hR => c_X3_dropPlan l E N F xo0 (gCarry (gMove (gDrop Γ) a b)) hGc.1 hR) (cwV 0 S.2.2.2.2 gL_isPlanSo_X3_dropPlan rfl rfl rfl (by decide +kernel) ⟨Nat.le_of_ble_eq_true rfl, Nat.le_of_ble_eq_true rfl⟩) hW rfl rfl hl.1 (Nat.le_of_ble_eq_true rfl) dL_isPlanSo_267 ⟨Nat.le_of_ble_eq_true rfl, Nat.le_of_ble_eq_true rfl⟩ (fun r267 H locs hq267 hW => ?_)
  obtain rfl := hq267
  refine x_topE (0) (rfl) ?_
  refine lv_iload hx hb dL_isPlanSo_270 (lv_at hl 1 rfl) ?_
  refine lv_if_eq (tgt := 279) hx hb dL_isPlanSo_272 (by decide) (fun c272 => ?_) (fun c272 => ?_)
  · exact absurd c272 (by decide)
  refine lv_iconst (v := 0) hx hb dL_isPlanSo_275 (by decide) ?_
  refine lv_goto (tgt := 280) hx hb dL_isPlanSo_276 (by decide) ?_
  refine lv_icmp_ne (tgt := 304) hx hb dL_isPlanSo_280 (by decide) (fun c280 => ?_) (fun c280 => ?_)
  · exact absurd c280 (by decide)
  refine lv_aload_n hx hb dL_isPlanSo_283 rfl (lv_at hl 7 rfl) ?_
  refine p_Vq (rm := rmX3_dropPlan) (As := []) (Γ' := (gDrop (gCarry (gMove (gDrop Γ) a b)))) (rest := []) S (fun E N F hR => c_X3_dropPlan l E N F xo0 (gCarry (gMove (gDrop Γ) a b)) hGc.1 hR) (cwV 0 S.2.2.2.2 gL_isPlanSo_X3_dropPlan rfl rfl rfl (by decide +kernel) ⟨Nat.le_of_ble_eq_true rfl, Nat.le_of_ble_eq_true rfl⟩) hW rfl rfl hl.1 (Nat.le_of_ble_eq_true rfl) dL_isPlanSo_284 ⟨Nat.le_of_ble_eq_true rfl, Nat.le_of_ble_eq_true rfl⟩ (fun r284 H locs hq284 hW => ?_)
  obtain rfl := hq284
  refine x_topE (0) (rfl) ?_
  refine lv_iload hx hb dL_isPlanSo_287 (lv_at hl 1 rfl) ?_
  refine lv_if_eq (tgt := 296) hx hb dL_isPlanSo_289 (by decide) (fun c289 => ?_) (fun c289 => ?_)
  · exact absurd c289 (by decide)
  refine lv_iconst (v := 0) hx hb dL_isPlanSo_292 (by decide) ?_
  refine lv_goto (tgt := 297) hx hb dL_isPlanSo_293 (by decide) ?_
  refine lv_icmp_ne (tgt := 304) hx hb dL_isPlanSo_297 (by decide) (fun c297 => ?_) (fun c297 => ?_)
  · exact absurd c297 (by decide)
  refine lv_iconst (v := 1) hx hb dL_isPlanSo_300 (by decide) ?_
  refine lv_goto (tgt := 305) hx hb dL_isPlanSo_301 (by decide) ?_
  exact p_rz S hr hlk hW (Nat.le_of_ble_eq_true rfl) (Nat.le_of_ble_eq_true rfl) dL_isPlanSo_305 (Or.inr rfl) (⟨rfl, gDrop (gCarry (gMove (gDrop Γ) a b)), gd_drop hGc, Nat.le_refl _, rfl⟩)

abbrev rmL_isPlanSoC : Room := { frames := 9, cells := 12, slots := 72, locals := 153 }
set_option maxHeartbeats 4000000 in
set_option maxRecDepth 100000 in
theorem c_L_isPlanSoC (l : Launch) (X : xF) (hfl : l.stackTraces = false) (Γ : xG) (hG : xGd Γ) {a b : Nat} (ha : a < gNo Γ) (hbb : b < gNo Γ) (hne : a ≠ b) (hmay : ¬ (gCb Γ a ≠ -1 ∧ gCb Γ b = -1)) : pL l yL_isPlanSo wsL_isPlanSo rmL_isPlanSoC X [.ref (X.2.2.2.1 0), .ref (X.2.2.2.2 0), .int (nI a), .int (nI b)] Γ Γ 12 (fun r u => r = 1 ∧ ∃ Γ', xGd Γ' ∧ gNo Γ ≤ gNo Γ' ∧ u = (Γ', Γ')) := by
  refine p_start RL (by decide) rfl rfl (Nat.le_of_ble_eq_true rfl) ?_
  intro p e s m args below meth c ls S hr hlk hTh hNc hW hl
  have hx := S.1
  have hb := S.2.1
  have hl : lv_has ls 10 [(0, .ref (X.2.2.2.1 0)), (1, .ref (X.2.2.2.2 0)), (2, .int (nI a)), (3, .int (nI b))] := hl
  have hno := hG.1.no
  have hnt := hG.1.nt
  have wq16 : Cond.constant RL 16 (-99999) ∈ wsL_isPlanSo := by decide +kernel
  have hGm : xGd (gMove (gDrop Γ) a b) := ⟨good_move (good_drop hG.1) ha hbb hne (show ¬ (0 : Nat) = 12 by decide), hG.co, hG.sp, hG.tl, hG.tk⟩
  have hxl := xcnt_le (fun q => nI q < gCb Γ q) (gNo Γ)
  refine lv_aload_n hx hb dL_isPlanSo_0 rfl (lv_at hl 0 rfl) ?_
  refine p_V (rm := rmX3_cables) (As := []) (Γ' := Γ) (rest := []) S (fun E N F hR => c_X3_cables l E N F xo0 Γ hG.1 hR) (cwV 0 S.2.2.2.2 gL_isPlanSo_X3_cables rfl rfl rfl (by decide +kernel) ⟨Nat.le_of_ble_eq_true rfl, Nat.le_of_ble_eq_true rfl⟩) hW rfl rfl hl.1 (Nat.le_of_ble_eq_true rfl) dL_isPlanSo_1 ⟨Nat.le_of_ble_eq_true rfl, Nat.le_of_ble_eq_true rfl⟩ (fun r1 H locs hq1 hW => ?_)
  obtain rfl := hq1
  refine lv_istore (lv' := [(4, .int (nI (xcnt (fun q => nI q < gCb Γ q) (gNo Γ)))), (0, .ref (X.2.2.2.1 0)), (1, .ref (X.2.2.2.2 0)), (2, .int (nI a)), (3, .int (nI b))]) hx hb dL_isPlanSo_4 hl (by decide) rfl (fun ls hl => ?_)
  refine lv_aload_n hx hb dL_isPlanSo_6 rfl (lv_at hl 1 rfl) ?_
  refine lv_iload_n hx hb dL_isPlanSo_7 rfl (lv_at hl 3 rfl) ?_
  refine p_V (rm := rm0X3_byCable) (As := [.int (nI a)]) (Γ' := Γ) (rest := []) S (fun E N F hR => c0_X3_byCable l E N F xo0 Γ hG.1 hR (p2 := a) (ha)) (cwV 1 S.2.2.2.2 gL_isPlanSo_X3_byCable rfl rfl rfl (by decide +kernel) ⟨Nat.le_of_ble_eq_true rfl, Nat.le_of_ble_eq_true rfl⟩) hW rfl rfl hl.1 (Nat.le_of_ble_eq_true rfl) dL_isPlanSo_8 ⟨Nat.le_of_ble_eq_true rfl, Nat.le_of_ble_eq_true rfl⟩ (fun r8 H locs hq8 hW => ?_)
  obtain rfl := hq8
  rcases hG.1.cb a ha with e4 | ⟨q4, hq4, hn4, e4, b4⟩
  · refine x_topE ((-1)) (e4) ?_
    refine lv_istore (lv' := [(5, .int (-1)), (4, .int (nI (xcnt (fun q => nI q < gCb Γ q) (gNo Γ)))), (0, .ref (X.2.2.2.1 0)), (1, .ref (X.2.2.2.2 0)), (2, .int (nI a)), (3, .int (nI b))]) hx hb dL_isPlanSo_11 hl (by decide) rfl (fun ls hl => ?_)
    refine lv_aload_n hx hb dL_isPlanSo_13 rfl (lv_at hl 2 rfl) ?_
    refine lv_iload_n hx hb dL_isPlanSo_14 rfl (lv_at hl 4 rfl) ?_
    refine p_V (rm := rm0X3_colour) (As := [.int (nI a)]) (Γ' := Γ) (rest := []) S (fun E N F hR => c0_X3_colour l E N F xo0 Γ hG.1 hR (p2 := a) (ha)) (cwV 1 S.2.2.2.2 gL_isPlanSo_X3_colour rfl rfl rfl (by decide +kernel) ⟨Nat.le_of_ble_eq_true rfl, Nat.le_of_ble_eq_true rfl⟩) hW rfl rfl hl.1 (Nat.le_of_ble_eq_true rfl) dL_isPlanSo_15 ⟨Nat.le_of_ble_eq_true rfl, Nat.le_of_ble_eq_true rfl⟩ (fun r15 H locs hq15 hW => ?_)
    obtain rfl := hq15
    refine lv_istore (lv' := [(6, .int (gCl Γ a)), (5, .int (-1)), (4, .int (nI (xcnt (fun q => nI q < gCb Γ q) (gNo Γ)))), (0, .ref (X.2.2.2.1 0)), (1, .ref (X.2.2.2.2 0)), (2, .int (nI a)), (3, .int (nI b))]) hx hb dL_isPlanSo_18 hl (by decide) rfl (fun ls hl => ?_)
    refine lv_aload_n hx hb dL_isPlanSo_20 rfl (lv_at hl 3 rfl) ?_
    refine p_V (rm := rmX3_dropPlan) (As := []) (Γ' := (gDrop Γ)) (rest := []) S (fun E N F hR => c_X3_dropPlan l E N F xo0 Γ hG.1 hR) (cwV 0 S.2.2.2.2 gL_isPlanSo_X3_dropPlan rfl rfl rfl (by decide +kernel) ⟨Nat.le_of_ble_eq_true rfl, Nat.le_of_ble_eq_true rfl⟩) hW rfl rfl hl.1 (Nat.le_of_ble_eq_true rfl) dL_isPlanSo_21 ⟨Nat.le_of_ble_eq_true rfl, Nat.le_of_ble_eq_true rfl⟩ (fun r21 H locs hq21 hW => ?_)
    obtain rfl := hq21
    refine lv_pop hx hb dL_isPlanSo_24 rfl ?_
    refine lv_aload_n hx hb dL_isPlanSo_25 rfl (lv_at hl 4 rfl) ?_
    refine p_Vq (rm := rmX3_dropPlan) (As := []) (Γ' := (gDrop Γ)) (rest := []) S (fun E N F hR => c_X3_dropPlan l E N F xo0 Γ hG.1 hR) (cwV 0 S.2.2.2.2 gL_isPlanSo_X3_dropPlan rfl rfl rfl (by decide +kernel) ⟨Nat.le_of_ble_eq_true rfl, Nat.le_of_ble_eq_true rfl⟩) hW rfl rfl hl.1 (Nat.le_of_ble_eq_true rfl) dL_isPlanSo_26 ⟨Nat.le_of_ble_eq_true rfl, Nat.le_of_ble_eq_true rfl⟩ (fun r26 H locs hq26 hW => ?_)
    obtain rfl := hq26
    refine lv_pop hx hb dL_isPlanSo_29 rfl ?_
    refine lv_aload_n hx hb dL_isPlanSo_30 rfl (lv_at hl 3 rfl) ?_
    refine lv_iconst (v := 3) hx hb dL_isPlanSo_31 (by decide) ?_
    refine lv_iload_n hx hb dL_isPlanSo_32 rfl (lv_at hl 5 rfl) ?_
    refine lv_iload_n hx hb dL_isPlanSo_33 rfl (lv_at hl 6 rfl) ?_
    refine lv_iconst (v := 0) hx hb dL_isPlanSo_34 (by decide) ?_
    refine p_SX (K := 3) (rm := rmL_does) (Bs := [.int 3, .int (nI a), .int (nI b), .int 0]) (rest := []) S (fun E => c_L_does3 l E hfl (gDrop Γ) (gd_drop hG) (nI a) (nI b) 0) (vx_cwSW 5 S.2.2.2.2 gL_isPlanSo_L_does rfl rfl rfl (by decide +kernel) ⟨Nat.le_of_ble_eq_true rfl, Nat.le_of_ble_eq_true rfl⟩) hW hTh hNc rfl rfl hl.1 (Nat.le_of_ble_eq_true rfl) dL_isPlanSo_35 ⟨Nat.le_of_ble_eq_true rfl, Nat.le_of_ble_eq_true rfl⟩ (fun r35 Γ35 H locs hq35 hW => ?_)
    rw [fMove_b hG.1 ha hbb hne] at hq35
    obtain ⟨rfl, rfl⟩ := Prod.mk.inj hq35
    refine lv_istore (lv' := [(7, .int 1), (6, .int (gCl Γ a)), (5, .int (-1)), (4, .int (nI (xcnt (fun q => nI q < gCb Γ q) (gNo Γ)))), (0, .ref (X.2.2.2.1 0)), (1, .ref (X.2.2.2.2 0)), (2, .int (nI a)), (3, .int (nI b))]) hx hb dL_isPlanSo_38 hl (by decide) rfl (fun ls hl => ?_)
    refine lv_aload_n hx hb dL_isPlanSo_40 rfl (lv_at hl 5 rfl) ?_
    refine lv_iconst (v := 3) hx hb dL_isPlanSo_41 (by decide) ?_
    refine lv_iload_n hx hb dL_isPlanSo_42 rfl (lv_at hl 6 rfl) ?_
    refine lv_iload_n hx hb dL_isPlanSo_43 rfl (lv_at hl 7 rfl) ?_
    refine lv_iconst (v := 0) hx hb dL_isPlanSo_44 (by decide) ?_
    refine p_SXq (K := 3) (rm := rmL_does) (Bs := [.int 3, .int (nI a), .int (nI b), .int 0]) (rest := []) S (fun E => c_L_does3 l E hfl (gDrop Γ) (gd_drop hG) (nI a) (nI b) 0) (vx_cwSW 5 S.2.2.2.2 gL_isPlanSo_L_does rfl rfl rfl (by decide +kernel) ⟨Nat.le_of_ble_eq_true rfl, Nat.le_of_ble_eq_true rfl⟩) hW hTh hNc rfl rfl hl.1 (Nat.le_of_ble_eq_true rfl) dL_isPlanSo_45 ⟨Nat.le_of_ble_eq_true rfl, Nat.le_of_ble_eq_true rfl⟩ (fun r45 Γ45 H locs hq45 hW => ?_)
    rw [fMove_b hG.1 ha hbb hne] at hq45
    obtain ⟨rfl, rfl⟩ := Prod.mk.inj hq45
    refine lv_iload hx hb dL_isPlanSo_48 (lv_at hl 0 rfl) ?_
    refine lv_icmp_ne (tgt := 81) hx hb dL_isPlanSo_50 (by decide) (fun c50 => ?_) (fun c50 => ?_)
    · exact absurd c50 (by decide)
    refine lv_iload hx hb dL_isPlanSo_53 (lv_at hl 0 rfl) ?_
    refine lv_iconst (v := 1) hx hb dL_isPlanSo_55 (by decide) ?_
    refine lv_icmp_ne (tgt := 63) hx hb dL_isPlanSo_56 (by decide) (fun c56 => ?_) (fun c56 => ?_)
    · exact absurd c56 (by decide)
    refine lv_iconst (v := 1) hx hb dL_isPlanSo_59 (by decide) ?_
    refine lv_goto (tgt := 64) hx hb dL_isPlanSo_60 (by decide) ?_
    refine lv_iload_n hx hb dL_isPlanSo_64 rfl (lv_at hl 6 rfl) ?_
    refine lv_iload_n hx hb dL_isPlanSo_65 rfl (lv_at hl 7 rfl) ?_
    refine x_icmp_eq (a := a) (b := b) (tgt := 73) hx hb dL_isPlanSo_66 (by decide) (by omega) (by omega) (fun c66 => ?_) (fun c66 => ?_)
    · exact absurd c66 hne
    refine lv_iconst (v := 1) hx hb dL_isPlanSo_69 (by decide) ?_
    refine lv_goto (tgt := 74) hx hb dL_isPlanSo_70 (by decide) ?_
    refine lv_icmp_ne (tgt := 81) hx hb dL_isPlanSo_74 (by decide) (fun c74 => ?_) (fun c74 => ?_)
    · exact absurd c74 (by decide)
    refine lv_iconst (v := 1) hx hb dL_isPlanSo_77 (by decide) ?_
    refine lv_goto (tgt := 82) hx hb dL_isPlanSo_78 (by decide) ?_
    refine lv_istore (lv' := [(8, .int 1), (7, .int 1), (6, .int (gCl Γ a)), (5, .int (-1)), (4, .int (nI (xcnt (fun q => nI q < gCb Γ q) (gNo Γ)))), (0, .ref (X.2.2.2.1 0)), (1, .ref (X.2.2.2.2 0)), (2, .int (nI a)), (3, .int (nI b))]) hx hb dL_isPlanSo_82 hl (by decide) rfl (fun ls hl => ?_)
    refine lv_iload_n hx hb dL_isPlanSo_84 rfl (lv_at hl 7 rfl) ?_
    refine lv_iload_n hx hb dL_isPlanSo_85 rfl (lv_at hl 8 rfl) ?_
    refine x_icmp_eq (a := a) (b := b) (tgt := 106) hx hb dL_isPlanSo_86 (by decide) (by omega) (by omega) (fun c86 => ?_) (fun c86 => ?_)
    · exact absurd c86 hne
    refine lv_iload hx hb dL_isPlanSo_89 (lv_at hl 3 rfl) ?_
    refine lv_if_lt (tgt := 106) hx hb dL_isPlanSo_91 (by decide) (fun c91 => ?_) (fun c91 => ?_)
    rotate_left
    · exact absurd c91 (by decide)
    refine lv_iconst (v := 0) hx hb dL_isPlanSo_106 (by decide) ?_
    refine lv_istore (lv' := [(9, .int 0), (8, .int 1), (7, .int 1), (6, .int (gCl Γ a)), (5, .int (-1)), (4, .int (nI (xcnt (fun q => nI q < gCb Γ q) (gNo Γ)))), (0, .ref (X.2.2.2.1 0)), (1, .ref (X.2.2.2.2 0)), (2, .int (nI a)), (3, .int (nI b))]) hx hb dL_isPlanSo_107 hl (by decide) rfl (fun ls hl => ?_)
    refine lv_iload_n hx hb dL_isPlanSo_109 rfl (lv_at hl 8 rfl) ?_
    refine lv_iload_n hx hb dL_isPlanSo_110 rfl (lv_at hl 9 rfl) ?_
    refine x_icmp_ne (a := a) (b := b) (tgt := 154) hx hb dL_isPlanSo_111 (by decide) (by omega) (by omega) (fun c111 => ?_) (fun c111 => ?_)
    rotate_left
    · exact absurd c111 hne
    refine lv_iload hx hb dL_isPlanSo_154 (lv_at hl 1 rfl) ?_
    refine lv_if_eq (tgt := 225) hx hb dL_isPlanSo_156 (by decide) (fun c156 => ?_) (fun c156 => ?_)
    · exact absurd c156 (by decide)
    refine lv_aload_n hx hb dL_isPlanSo_159 rfl (lv_at hl 6 rfl) ?_
    refine p_V (rm := rmX3_canCarryOut) (As := []) (Γ' := (gMove (gDrop Γ) a b)) (rest := []) S (fun E N F hR => c_X3_canCarryOut l E N F xo0 (gMove (gDrop Γ) a b) hGm.1 hR) (cwV 0 S.2.2.2.2 gL_isPlanSo_X3_canCarryOut rfl rfl rfl (by decide +kernel) ⟨Nat.le_of_ble_eq_true rfl, Nat.le_of_ble_eq_true rfl⟩) hW rfl rfl hl.1 (Nat.le_of_ble_eq_true rfl) dL_isPlanSo_160 ⟨Nat.le_of_ble_eq_true rfl, Nat.le_of_ble_eq_true rfl⟩ (fun r160 H locs hq160 hW => ?_)
    obtain rfl := hq160
    refine x_topE (0) (xif_f (fun z => hmay ((gCanM hne).mp z))) ?_
    refine lv_iload hx hb dL_isPlanSo_163 (lv_at hl 0 rfl) ?_
    refine lv_icmp_ne (tgt := 225) hx hb dL_isPlanSo_165 (by decide) (fun c165 => ?_) (fun c165 => ?_)
    · exact absurd c165 (by decide)
    refine lv_aload_n hx hb dL_isPlanSo_168 rfl (lv_at hl 6 rfl) ?_
    refine lv_iconst (v := 4) hx hb dL_isPlanSo_169 (by decide) ?_
    refine lv_iconst (v := 0) hx hb dL_isPlanSo_170 (by decide) ?_
    refine lv_iconst (v := 0) hx hb dL_isPlanSo_171 (by decide) ?_
    refine lv_iconst (v := 0) hx hb dL_isPlanSo_172 (by decide) ?_
    refine p_SX (K := 3) (rm := rmL_does) (Bs := [.int 4, .int 0, .int 0, .int 0]) (rest := []) S (fun E => c_L_does4 l E hfl (gMove (gDrop Γ) a b) hGm 0 0 0) (vx_cwSW 5 S.2.2.2.2 gL_isPlanSo_L_does rfl rfl rfl (by decide +kernel) ⟨Nat.le_of_ble_eq_true rfl, Nat.le_of_ble_eq_true rfl⟩) hW hTh hNc rfl rfl hl.1 (Nat.le_of_ble_eq_true rfl) dL_isPlanSo_173 ⟨Nat.le_of_ble_eq_true rfl, Nat.le_of_ble_eq_true rfl⟩ (fun r173 Γ173 H locs hq173 hW => ?_)
    rw [fCarry_n hne hmay] at hq173
    obtain ⟨rfl, rfl⟩ := Prod.mk.inj hq173
    refine lv_iload hx hb dL_isPlanSo_176 (lv_at hl 0 rfl) ?_
    refine lv_if_eq (tgt := 185) hx hb dL_isPlanSo_178 (by decide) (fun c178 => ?_) (fun c178 => ?_)
    rotate_left
    · exact absurd c178 (by decide)
    refine lv_ldc (own := RL) (v := (-99999)) hx hb S.2.2.2.1 (S.2.2.2.2 _ wq16) dL_isPlanSo_185 ?_
    refine lv_icmp_ne (tgt := 225) hx hb dL_isPlanSo_187 (by decide) (fun c187 => ?_) (fun c187 => ?_)
    · exact absurd c187 (by decide)
    refine lv_aload_n hx hb dL_isPlanSo_190 rfl (lv_at hl 7 rfl) ?_
    refine lv_iconst (v := 4) hx hb dL_isPlanSo_191 (by decide) ?_
    refine lv_iconst (v := 0) hx hb dL_isPlanSo_192 (by decide) ?_
    refine lv_iconst (v := 0) hx hb dL_isPlanSo_193 (by decide) ?_
    refine lv_iconst (v := 0) hx hb dL_isPlanSo_194 (by decide) ?_
    refine p_SXq (K := 3) (rm := rmL_does) (Bs := [.int 4, .int 0, .int 0, .int 0]) (rest := []) S (fun E => c_L_does4 l E hfl (gMove (gDrop Γ) a b) hGm 0 0 0) (vx_cwSW 5 S.2.2.2.2 gL_isPlanSo_L_does rfl rfl rfl (by decide +kernel) ⟨Nat.le_of_ble_eq_true rfl, Nat.le_of_ble_eq_true rfl⟩) hW hTh hNc rfl rfl hl.1 (Nat.le_of_ble_eq_true rfl) dL_isPlanSo_195 ⟨Nat.le_of_ble_eq_true rfl, Nat.le_of_ble_eq_true rfl⟩ (fun r195 Γ195 H locs hq195 hW => ?_)
    rw [fCarry_n hne hmay] at hq195
    obtain ⟨rfl, rfl⟩ := Prod.mk.inj hq195
    refine lv_iload hx hb dL_isPlanSo_198 (lv_at hl 0 rfl) ?_
    refine lv_if_eq (tgt := 207) hx hb dL_isPlanSo_200 (by decide) (fun c200 => ?_) (fun c200 => ?_)
    rotate_left
    · exact absurd c200 (by decide)
    refine lv_ldc (own := RL) (v := (-99999)) hx hb S.2.2.2.1 (S.2.2.2.2 _ wq16) dL_isPlanSo_207 ?_
    refine lv_icmp_ne (tgt := 225) hx hb dL_isPlanSo_209 (by decide) (fun c209 => ?_) (fun c209 => ?_)
    · exact absurd c209 (by decide)
    refine lv_aload_n hx hb dL_isPlanSo_212 rfl (lv_at hl 6 rfl) ?_
    refine p_V (rm := rmX3_cables) (As := []) (Γ' := (gMove (gDrop Γ) a b)) (rest := []) S (fun E N F hR => c_X3_cables l E N F xo0 (gMove (gDrop Γ) a b) hGm.1 hR) (cwV 0 S.2.2.2.2 gL_isPlanSo_X3_cables rfl rfl rfl (by decide +kernel) ⟨Nat.le_of_ble_eq_true rfl, Nat.le_of_ble_eq_true rfl⟩) hW rfl rfl hl.1 (Nat.le_of_ble_eq_true rfl) dL_isPlanSo_213 ⟨Nat.le_of_ble_eq_true rfl, Nat.le_of_ble_eq_true rfl⟩ (fun r213 H locs hq213 hW => ?_)
    obtain rfl := hq213
    refine x_topN (xcnt (fun q => nI q < gCb Γ q) (gNo Γ)) (rfl) ?_
    refine lv_iload hx hb dL_isPlanSo_216 (lv_at hl 5 rfl) ?_
    refine lv_icmp_ne (tgt := 225) hx hb dL_isPlanSo_218 (by decide) (fun c218 => ?_) (fun c218 => ?_)
    · exact absurd rfl c218
    refine lv_iconst (v := 1) hx hb dL_isPlanSo_221 (by decide) ?_
    refine lv_goto (tgt := 226) hx hb dL_isPlanSo_222 (by decide) ?_
    refine lv_istore (lv' := [(8, .int 1), (9, .int 0), (7, .int 1), (6, .int (gCl Γ a)), (5, .int (-1)), (4, .int (nI (xcnt (fun q => nI q < gCb Γ q) (gNo Γ)))), (0, .ref (X.2.2.2.1 0)), (1, .ref (X.2.2.2.2 0)), (2, .int (nI a)), (3, .int (nI b))]) hx hb dL_isPlanSo_226 hl (by decide) rfl (fun ls hl => ?_)
    refine lv_iload hx hb dL_isPlanSo_228 (lv_at hl 0 rfl) ?_
    refine lv_if_eq (tgt := 304) hx hb dL_isPlanSo_230 (by decide) (fun c230 => ?_) (fun c230 => ?_)
    · exact absurd c230 (by decide)
    refine lv_iload hx hb dL_isPlanSo_233 (lv_at hl 1 rfl) ?_
    refine lv_if_eq (tgt := 266) hx hb dL_isPlanSo_235 (by decide) (fun c235 => ?_) (fun c235 => ?_)
    rotate_left
    · exact absurd c235 (by decide)
    refine lv_aload_n hx hb dL_isPlanSo_266 rfl (lv_at hl 6 rfl) ?_
    refine p_V (rm := rmX3_dropPlan) (As := []) (Γ' := (gDrop (gMove (gDrop Γ) a b))) (rest := []) S (fun E N F hR => c_X3_dropPlan l E N F xo0 (gMove (gDrop Γ) a b) hGm.1 hR) (cwV 0 S.2.2.2.2 gL_isPlanSo_X3_dropPlan rfl rfl rfl (by decide +kernel) ⟨Nat.le_of_ble_eq_true rfl, Nat.le_of_ble_eq_true rfl⟩) hW rfl rfl hl.1 (Nat.le_of_ble_eq_true rfl) dL_isPlanSo_267 ⟨Nat.le_of_ble_eq_true rfl, Nat.le_of_ble_eq_true rfl⟩ (fun r267 H locs hq267 hW => ?_)
    obtain rfl := hq267
    refine x_topE (1) (rfl) ?_
    refine lv_iload hx hb dL_isPlanSo_270 (lv_at hl 1 rfl) ?_
    refine lv_if_eq (tgt := 279) hx hb dL_isPlanSo_272 (by decide) (fun c272 => ?_) (fun c272 => ?_)
    rotate_left
    · exact absurd c272 (by decide)
    refine lv_iconst (v := 1) hx hb dL_isPlanSo_279 (by decide) ?_
    refine lv_icmp_ne (tgt := 304) hx hb dL_isPlanSo_280 (by decide) (fun c280 => ?_) (fun c280 => ?_)
    · exact absurd c280 (by decide)
    refine lv_aload_n hx hb dL_isPlanSo_283 rfl (lv_at hl 7 rfl) ?_
    refine p_Vq (rm := rmX3_dropPlan) (As := []) (Γ' := (gDrop (gMove (gDrop Γ) a b))) (rest := []) S (fun E N F hR => c_X3_dropPlan l E N F xo0 (gMove (gDrop Γ) a b) hGm.1 hR) (cwV 0 S.2.2.2.2 gL_isPlanSo_X3_dropPlan rfl rfl rfl (by decide +kernel) ⟨Nat.le_of_ble_eq_true rfl, Nat.le_of_ble_eq_true rfl⟩) hW rfl rfl hl.1 (Nat.le_of_ble_eq_true rfl) dL_isPlanSo_284 ⟨Nat.le_of_ble_eq_true rfl, Nat.le_of_ble_eq_true rfl⟩ (fun r284 H locs hq284 hW => ?_)
    obtain rfl := hq284
    refine x_topE (1) (rfl) ?_
    refine lv_iload hx hb dL_isPlanSo_287 (lv_at hl 1 rfl) ?_
    refine lv_if_eq (tgt := 296) hx hb dL_isPlanSo_289 (by decide) (fun c289 => ?_) (fun c289 => ?_)
    rotate_left
    · exact absurd c289 (by decide)
    refine lv_iconst (v := 1) hx hb dL_isPlanSo_296 (by decide) ?_
    refine lv_icmp_ne (tgt := 304) hx hb dL_isPlanSo_297 (by decide) (fun c297 => ?_) (fun c297 => ?_)
    · exact absurd c297 (by decide)
    refine lv_iconst (v := 1) hx hb dL_isPlanSo_300 (by decide) ?_
    refine lv_goto (tgt := 305) hx hb dL_isPlanSo_301 (by decide) ?_
    exact p_rz S hr hlk hW (Nat.le_of_ble_eq_true rfl) (Nat.le_of_ble_eq_true rfl) dL_isPlanSo_305 (Or.inr rfl) (⟨rfl, gDrop (gMove (gDrop Γ) a b), gd_drop hGm, Nat.le_refl _, rfl⟩)
  · refine x_topN (q4) (e4) ?_
    refine lv_istore (lv' := [(5, .int (nI q4)), (4, .int (nI (xcnt (fun q => nI q < gCb Γ q) (gNo Γ)))), (0, .ref (X.2.2.2.1 0)), (1, .ref (X.2.2.2.2 0)), (2, .int (nI a)), (3, .int (nI b))]) hx hb dL_isPlanSo_11 hl (by decide) rfl (fun ls hl => ?_)
    refine lv_aload_n hx hb dL_isPlanSo_13 rfl (lv_at hl 2 rfl) ?_
    refine lv_iload_n hx hb dL_isPlanSo_14 rfl (lv_at hl 4 rfl) ?_
    refine p_V (rm := rm0X3_colour) (As := [.int (nI a)]) (Γ' := Γ) (rest := []) S (fun E N F hR => c0_X3_colour l E N F xo0 Γ hG.1 hR (p2 := a) (ha)) (cwV 1 S.2.2.2.2 gL_isPlanSo_X3_colour rfl rfl rfl (by decide +kernel) ⟨Nat.le_of_ble_eq_true rfl, Nat.le_of_ble_eq_true rfl⟩) hW rfl rfl hl.1 (Nat.le_of_ble_eq_true rfl) dL_isPlanSo_15 ⟨Nat.le_of_ble_eq_true rfl, Nat.le_of_ble_eq_true rfl⟩ (fun r15 H locs hq15 hW => ?_)
    obtain rfl := hq15
    refine lv_istore (lv' := [(6, .int (gCl Γ a)), (5, .int (nI q4)), (4, .int (nI (xcnt (fun q => nI q < gCb Γ q) (gNo Γ)))), (0, .ref (X.2.2.2.1 0)), (1, .ref (X.2.2.2.2 0)), (2, .int (nI a)), (3, .int (nI b))]) hx hb dL_isPlanSo_18 hl (by decide) rfl (fun ls hl => ?_)
    refine lv_aload_n hx hb dL_isPlanSo_20 rfl (lv_at hl 3 rfl) ?_
    refine p_V (rm := rmX3_dropPlan) (As := []) (Γ' := (gDrop Γ)) (rest := []) S (fun E N F hR => c_X3_dropPlan l E N F xo0 Γ hG.1 hR) (cwV 0 S.2.2.2.2 gL_isPlanSo_X3_dropPlan rfl rfl rfl (by decide +kernel) ⟨Nat.le_of_ble_eq_true rfl, Nat.le_of_ble_eq_true rfl⟩) hW rfl rfl hl.1 (Nat.le_of_ble_eq_true rfl) dL_isPlanSo_21 ⟨Nat.le_of_ble_eq_true rfl, Nat.le_of_ble_eq_true rfl⟩ (fun r21 H locs hq21 hW => ?_)
    obtain rfl := hq21
    refine lv_pop hx hb dL_isPlanSo_24 rfl ?_
    refine lv_aload_n hx hb dL_isPlanSo_25 rfl (lv_at hl 4 rfl) ?_
    refine p_Vq (rm := rmX3_dropPlan) (As := []) (Γ' := (gDrop Γ)) (rest := []) S (fun E N F hR => c_X3_dropPlan l E N F xo0 Γ hG.1 hR) (cwV 0 S.2.2.2.2 gL_isPlanSo_X3_dropPlan rfl rfl rfl (by decide +kernel) ⟨Nat.le_of_ble_eq_true rfl, Nat.le_of_ble_eq_true rfl⟩) hW rfl rfl hl.1 (Nat.le_of_ble_eq_true rfl) dL_isPlanSo_26 ⟨Nat.le_of_ble_eq_true rfl, Nat.le_of_ble_eq_true rfl⟩ (fun r26 H locs hq26 hW => ?_)
    obtain rfl := hq26
    refine lv_pop hx hb dL_isPlanSo_29 rfl ?_
    refine lv_aload_n hx hb dL_isPlanSo_30 rfl (lv_at hl 3 rfl) ?_
    refine lv_iconst (v := 3) hx hb dL_isPlanSo_31 (by decide) ?_
    refine lv_iload_n hx hb dL_isPlanSo_32 rfl (lv_at hl 5 rfl) ?_
    refine lv_iload_n hx hb dL_isPlanSo_33 rfl (lv_at hl 6 rfl) ?_
    refine lv_iconst (v := 0) hx hb dL_isPlanSo_34 (by decide) ?_
    refine p_SX (K := 3) (rm := rmL_does) (Bs := [.int 3, .int (nI a), .int (nI b), .int 0]) (rest := []) S (fun E => c_L_does3 l E hfl (gDrop Γ) (gd_drop hG) (nI a) (nI b) 0) (vx_cwSW 5 S.2.2.2.2 gL_isPlanSo_L_does rfl rfl rfl (by decide +kernel) ⟨Nat.le_of_ble_eq_true rfl, Nat.le_of_ble_eq_true rfl⟩) hW hTh hNc rfl rfl hl.1 (Nat.le_of_ble_eq_true rfl) dL_isPlanSo_35 ⟨Nat.le_of_ble_eq_true rfl, Nat.le_of_ble_eq_true rfl⟩ (fun r35 Γ35 H locs hq35 hW => ?_)
    rw [fMove_b hG.1 ha hbb hne] at hq35
    obtain ⟨rfl, rfl⟩ := Prod.mk.inj hq35
    refine lv_istore (lv' := [(7, .int 1), (6, .int (gCl Γ a)), (5, .int (nI q4)), (4, .int (nI (xcnt (fun q => nI q < gCb Γ q) (gNo Γ)))), (0, .ref (X.2.2.2.1 0)), (1, .ref (X.2.2.2.2 0)), (2, .int (nI a)), (3, .int (nI b))]) hx hb dL_isPlanSo_38 hl (by decide) rfl (fun ls hl => ?_)
    refine lv_aload_n hx hb dL_isPlanSo_40 rfl (lv_at hl 5 rfl) ?_
    refine lv_iconst (v := 3) hx hb dL_isPlanSo_41 (by decide) ?_
    refine lv_iload_n hx hb dL_isPlanSo_42 rfl (lv_at hl 6 rfl) ?_
    refine lv_iload_n hx hb dL_isPlanSo_43 rfl (lv_at hl 7 rfl) ?_
    refine lv_iconst (v := 0) hx hb dL_isPlanSo_44 (by decide) ?_
    refine p_SXq (K := 3) (rm := rmL_does) (Bs := [.int 3, .int (nI a), .int (nI b), .int 0]) (rest := []) S (fun E => c_L_does3 l E hfl (gDrop Γ) (gd_drop hG) (nI a) (nI b) 0) (vx_cwSW 5 S.2.2.2.2 gL_isPlanSo_L_does rfl rfl rfl (by decide +kernel) ⟨Nat.le_of_ble_eq_true rfl, Nat.le_of_ble_eq_true rfl⟩) hW hTh hNc rfl rfl hl.1 (Nat.le_of_ble_eq_true rfl) dL_isPlanSo_45 ⟨Nat.le_of_ble_eq_true rfl, Nat.le_of_ble_eq_true rfl⟩ (fun r45 Γ45 H locs hq45 hW => ?_)
    rw [fMove_b hG.1 ha hbb hne] at hq45
    obtain ⟨rfl, rfl⟩ := Prod.mk.inj hq45
    refine lv_iload hx hb dL_isPlanSo_48 (lv_at hl 0 rfl) ?_
    refine lv_icmp_ne (tgt := 81) hx hb dL_isPlanSo_50 (by decide) (fun c50 => ?_) (fun c50 => ?_)
    · exact absurd c50 (by decide)
    refine lv_iload hx hb dL_isPlanSo_53 (lv_at hl 0 rfl) ?_
    refine lv_iconst (v := 1) hx hb dL_isPlanSo_55 (by decide) ?_
    refine lv_icmp_ne (tgt := 63) hx hb dL_isPlanSo_56 (by decide) (fun c56 => ?_) (fun c56 => ?_)
    · exact absurd c56 (by decide)
    refine lv_iconst (v := 1) hx hb dL_isPlanSo_59 (by decide) ?_
    refine lv_goto (tgt := 64) hx hb dL_isPlanSo_60 (by decide) ?_
    refine lv_iload_n hx hb dL_isPlanSo_64 rfl (lv_at hl 6 rfl) ?_
    refine lv_iload_n hx hb dL_isPlanSo_65 rfl (lv_at hl 7 rfl) ?_
    refine x_icmp_eq (a := a) (b := b) (tgt := 73) hx hb dL_isPlanSo_66 (by decide) (by omega) (by omega) (fun c66 => ?_) (fun c66 => ?_)
    · exact absurd c66 hne
    refine lv_iconst (v := 1) hx hb dL_isPlanSo_69 (by decide) ?_
    refine lv_goto (tgt := 74) hx hb dL_isPlanSo_70 (by decide) ?_
    refine lv_icmp_ne (tgt := 81) hx hb dL_isPlanSo_74 (by decide) (fun c74 => ?_) (fun c74 => ?_)
    · exact absurd c74 (by decide)
    refine lv_iconst (v := 1) hx hb dL_isPlanSo_77 (by decide) ?_
    refine lv_goto (tgt := 82) hx hb dL_isPlanSo_78 (by decide) ?_
    refine lv_istore (lv' := [(8, .int 1), (7, .int 1), (6, .int (gCl Γ a)), (5, .int (nI q4)), (4, .int (nI (xcnt (fun q => nI q < gCb Γ q) (gNo Γ)))), (0, .ref (X.2.2.2.1 0)), (1, .ref (X.2.2.2.2 0)), (2, .int (nI a)), (3, .int (nI b))]) hx hb dL_isPlanSo_82 hl (by decide) rfl (fun ls hl => ?_)
    refine lv_iload_n hx hb dL_isPlanSo_84 rfl (lv_at hl 7 rfl) ?_
    refine lv_iload_n hx hb dL_isPlanSo_85 rfl (lv_at hl 8 rfl) ?_
    refine x_icmp_eq (a := a) (b := b) (tgt := 106) hx hb dL_isPlanSo_86 (by decide) (by omega) (by omega) (fun c86 => ?_) (fun c86 => ?_)
    · exact absurd c86 hne
    refine lv_iload hx hb dL_isPlanSo_89 (lv_at hl 3 rfl) ?_
    refine x_if_lt (tgt := 106) hx hb dL_isPlanSo_91 (by decide) (by omega) ?_
    refine lv_aload_n hx hb dL_isPlanSo_94 rfl (lv_at hl 5 rfl) ?_
    refine lv_iload_n hx hb dL_isPlanSo_95 rfl (lv_at hl 8 rfl) ?_
    refine p_V (rm := rm0X3_byCable) (As := [.int (nI b)]) (Γ' := (gMove (gDrop Γ) a b)) (rest := []) S (fun E N F hR => c0_X3_byCable l E N F xo0 (gMove (gDrop Γ) a b) hGm.1 hR (p2 := b) (hbb)) (cwV 1 S.2.2.2.2 gL_isPlanSo_X3_byCable rfl rfl rfl (by decide +kernel) ⟨Nat.le_of_ble_eq_true rfl, Nat.le_of_ble_eq_true rfl⟩) hW rfl rfl hl.1 (Nat.le_of_ble_eq_true rfl) dL_isPlanSo_96 ⟨Nat.le_of_ble_eq_true rfl, Nat.le_of_ble_eq_true rfl⟩ (fun r96 H locs hq96 hW => ?_)
    obtain rfl := hq96
    obtain ⟨w9, hw9, -, ew9, -⟩ := (hG.1.cb b hbb).resolve_left (fun z => hmay ⟨by rw [e4]; exact nI_m1 (by omega), z⟩)
    refine x_topN (w9) (ew9) ?_
    refine x_if_ge (tgt := 106) hx hb dL_isPlanSo_99 (by decide) (by omega) ?_
    refine lv_iconst (v := 0) hx hb dL_isPlanSo_106 (by decide) ?_
    refine lv_istore (lv' := [(9, .int 0), (8, .int 1), (7, .int 1), (6, .int (gCl Γ a)), (5, .int (nI q4)), (4, .int (nI (xcnt (fun q => nI q < gCb Γ q) (gNo Γ)))), (0, .ref (X.2.2.2.1 0)), (1, .ref (X.2.2.2.2 0)), (2, .int (nI a)), (3, .int (nI b))]) hx hb dL_isPlanSo_107 hl (by decide) rfl (fun ls hl => ?_)
    refine lv_iload_n hx hb dL_isPlanSo_109 rfl (lv_at hl 8 rfl) ?_
    refine lv_iload_n hx hb dL_isPlanSo_110 rfl (lv_at hl 9 rfl) ?_
    refine x_icmp_ne (a := a) (b := b) (tgt := 154) hx hb dL_isPlanSo_111 (by decide) (by omega) (by omega) (fun c111 => ?_) (fun c111 => ?_)
    rotate_left
    · exact absurd c111 hne
    refine lv_iload hx hb dL_isPlanSo_154 (lv_at hl 1 rfl) ?_
    refine lv_if_eq (tgt := 225) hx hb dL_isPlanSo_156 (by decide) (fun c156 => ?_) (fun c156 => ?_)
    · exact absurd c156 (by decide)
    refine lv_aload_n hx hb dL_isPlanSo_159 rfl (lv_at hl 6 rfl) ?_
    refine p_V (rm := rmX3_canCarryOut) (As := []) (Γ' := (gMove (gDrop Γ) a b)) (rest := []) S (fun E N F hR => c_X3_canCarryOut l E N F xo0 (gMove (gDrop Γ) a b) hGm.1 hR) (cwV 0 S.2.2.2.2 gL_isPlanSo_X3_canCarryOut rfl rfl rfl (by decide +kernel) ⟨Nat.le_of_ble_eq_true rfl, Nat.le_of_ble_eq_true rfl⟩) hW rfl rfl hl.1 (Nat.le_of_ble_eq_true rfl) dL_isPlanSo_160 ⟨Nat.le_of_ble_eq_true rfl, Nat.le_of_ble_eq_true rfl⟩ (fun r160 H locs hq160 hW => ?_)
    obtain rfl := hq160
    refine x_topE (0) (xif_f (fun z => hmay ((gCanM hne).mp z))) ?_
    refine lv_iload hx hb dL_isPlanSo_163 (lv_at hl 0 rfl) ?_
    refine lv_icmp_ne (tgt := 225) hx hb dL_isPlanSo_165 (by decide) (fun c165 => ?_) (fun c165 => ?_)
    · exact absurd c165 (by decide)
    refine lv_aload_n hx hb dL_isPlanSo_168 rfl (lv_at hl 6 rfl) ?_
    refine lv_iconst (v := 4) hx hb dL_isPlanSo_169 (by decide) ?_
    refine lv_iconst (v := 0) hx hb dL_isPlanSo_170 (by decide) ?_
    refine lv_iconst (v := 0) hx hb dL_isPlanSo_171 (by decide) ?_
    refine lv_iconst (v := 0) hx hb dL_isPlanSo_172 (by decide) ?_
    refine p_SX (K := 3) (rm := rmL_does) (Bs := [.int 4, .int 0, .int 0, .int 0]) (rest := []) S (fun E => c_L_does4 l E hfl (gMove (gDrop Γ) a b) hGm 0 0 0) (vx_cwSW 5 S.2.2.2.2 gL_isPlanSo_L_does rfl rfl rfl (by decide +kernel) ⟨Nat.le_of_ble_eq_true rfl, Nat.le_of_ble_eq_true rfl⟩) hW hTh hNc rfl rfl hl.1 (Nat.le_of_ble_eq_true rfl) dL_isPlanSo_173 ⟨Nat.le_of_ble_eq_true rfl, Nat.le_of_ble_eq_true rfl⟩ (fun r173 Γ173 H locs hq173 hW => ?_)
    rw [fCarry_n hne hmay] at hq173
    obtain ⟨rfl, rfl⟩ := Prod.mk.inj hq173
    refine lv_iload hx hb dL_isPlanSo_176 (lv_at hl 0 rfl) ?_
    refine lv_if_eq (tgt := 185) hx hb dL_isPlanSo_178 (by decide) (fun c178 => ?_) (fun c178 => ?_)
    rotate_left
    · exact absurd c178 (by decide)
    refine lv_ldc (own := RL) (v := (-99999)) hx hb S.2.2.2.1 (S.2.2.2.2 _ wq16) dL_isPlanSo_185 ?_
    refine lv_icmp_ne (tgt := 225) hx hb dL_isPlanSo_187 (by decide) (fun c187 => ?_) (fun c187 => ?_)
    · exact absurd c187 (by decide)
    refine lv_aload_n hx hb dL_isPlanSo_190 rfl (lv_at hl 7 rfl) ?_
    refine lv_iconst (v := 4) hx hb dL_isPlanSo_191 (by decide) ?_
    refine lv_iconst (v := 0) hx hb dL_isPlanSo_192 (by decide) ?_
    refine lv_iconst (v := 0) hx hb dL_isPlanSo_193 (by decide) ?_
    refine lv_iconst (v := 0) hx hb dL_isPlanSo_194 (by decide) ?_
    refine p_SXq (K := 3) (rm := rmL_does) (Bs := [.int 4, .int 0, .int 0, .int 0]) (rest := []) S (fun E => c_L_does4 l E hfl (gMove (gDrop Γ) a b) hGm 0 0 0) (vx_cwSW 5 S.2.2.2.2 gL_isPlanSo_L_does rfl rfl rfl (by decide +kernel) ⟨Nat.le_of_ble_eq_true rfl, Nat.le_of_ble_eq_true rfl⟩) hW hTh hNc rfl rfl hl.1 (Nat.le_of_ble_eq_true rfl) dL_isPlanSo_195 ⟨Nat.le_of_ble_eq_true rfl, Nat.le_of_ble_eq_true rfl⟩ (fun r195 Γ195 H locs hq195 hW => ?_)
    rw [fCarry_n hne hmay] at hq195
    obtain ⟨rfl, rfl⟩ := Prod.mk.inj hq195
    refine lv_iload hx hb dL_isPlanSo_198 (lv_at hl 0 rfl) ?_
    refine lv_if_eq (tgt := 207) hx hb dL_isPlanSo_200 (by decide) (fun c200 => ?_) (fun c200 => ?_)
    rotate_left
    · exact absurd c200 (by decide)
    refine lv_ldc (own := RL) (v := (-99999)) hx hb S.2.2.2.1 (S.2.2.2.2 _ wq16) dL_isPlanSo_207 ?_
    refine lv_icmp_ne (tgt := 225) hx hb dL_isPlanSo_209 (by decide) (fun c209 => ?_) (fun c209 => ?_)
    · exact absurd c209 (by decide)
    refine lv_aload_n hx hb dL_isPlanSo_212 rfl (lv_at hl 6 rfl) ?_
    refine p_V (rm := rmX3_cables) (As := []) (Γ' := (gMove (gDrop Γ) a b)) (rest := []) S (fun E N F hR => c_X3_cables l E N F xo0 (gMove (gDrop Γ) a b) hGm.1 hR) (cwV 0 S.2.2.2.2 gL_isPlanSo_X3_cables rfl rfl rfl (by decide +kernel) ⟨Nat.le_of_ble_eq_true rfl, Nat.le_of_ble_eq_true rfl⟩) hW rfl rfl hl.1 (Nat.le_of_ble_eq_true rfl) dL_isPlanSo_213 ⟨Nat.le_of_ble_eq_true rfl, Nat.le_of_ble_eq_true rfl⟩ (fun r213 H locs hq213 hW => ?_)
    obtain rfl := hq213
    refine x_topN (xcnt (fun q => nI q < gCb Γ q) (gNo Γ)) (rfl) ?_
    refine lv_iload hx hb dL_isPlanSo_216 (lv_at hl 5 rfl) ?_
    refine lv_icmp_ne (tgt := 225) hx hb dL_isPlanSo_218 (by decide) (fun c218 => ?_) (fun c218 => ?_)
    · exact absurd rfl c218
    refine lv_iconst (v := 1) hx hb dL_isPlanSo_221 (by decide) ?_
    refine lv_goto (tgt := 226) hx hb dL_isPlanSo_222 (by decide) ?_
    refine lv_istore (lv' := [(8, .int 1), (9, .int 0), (7, .int 1), (6, .int (gCl Γ a)), (5, .int (nI q4)), (4, .int (nI (xcnt (fun q => nI q < gCb Γ q) (gNo Γ)))), (0, .ref (X.2.2.2.1 0)), (1, .ref (X.2.2.2.2 0)), (2, .int (nI a)), (3, .int (nI b))]) hx hb dL_isPlanSo_226 hl (by decide) rfl (fun ls hl => ?_)
    refine lv_iload hx hb dL_isPlanSo_228 (lv_at hl 0 rfl) ?_
    refine lv_if_eq (tgt := 304) hx hb dL_isPlanSo_230 (by decide) (fun c230 => ?_) (fun c230 => ?_)
    · exact absurd c230 (by decide)
    refine lv_iload hx hb dL_isPlanSo_233 (lv_at hl 1 rfl) ?_
    refine lv_if_eq (tgt := 266) hx hb dL_isPlanSo_235 (by decide) (fun c235 => ?_) (fun c235 => ?_)
    rotate_left
    · exact absurd c235 (by decide)
    refine lv_aload_n hx hb dL_isPlanSo_266 rfl (lv_at hl 6 rfl) ?_
    refine p_V (rm := rmX3_dropPlan) (As := []) (Γ' := (gDrop (gMove (gDrop Γ) a b))) (rest := []) S (fun E N F hR => c_X3_dropPlan l E N F xo0 (gMove (gDrop Γ) a b) hGm.1 hR) (cwV 0 S.2.2.2.2 gL_isPlanSo_X3_dropPlan rfl rfl rfl (by decide +kernel) ⟨Nat.le_of_ble_eq_true rfl, Nat.le_of_ble_eq_true rfl⟩) hW rfl rfl hl.1 (Nat.le_of_ble_eq_true rfl) dL_isPlanSo_267 ⟨Nat.le_of_ble_eq_true rfl, Nat.le_of_ble_eq_true rfl⟩ (fun r267 H locs hq267 hW => ?_)
    obtain rfl := hq267
    refine x_topE (1) (rfl) ?_
    refine lv_iload hx hb dL_isPlanSo_270 (lv_at hl 1 rfl) ?_
    refine lv_if_eq (tgt := 279) hx hb dL_isPlanSo_272 (by decide) (fun c272 => ?_) (fun c272 => ?_)
    rotate_left
    · exact absurd c272 (by decide)
    refine lv_iconst (v := 1) hx hb dL_isPlanSo_279 (by decide) ?_
    refine lv_icmp_ne (tgt := 304) hx hb dL_isPlanSo_280 (by decide) (fun c280 => ?_) (fun c280 => ?_)
    · exact absurd c280 (by decide)
    refine lv_aload_n hx hb dL_isPlanSo_283 rfl (lv_at hl 7 rfl) ?_
    refine p_Vq (rm := rmX3_dropPlan) (As := []) (Γ' := (gDrop (gMove (gDrop Γ) a b))) (rest := []) S (fun E N F hR => c_X3_dropPlan l E N F xo0 (gMove (gDrop Γ) a b) hGm.1 hR) (cwV 0 S.2.2.2.2 gL_isPlanSo_X3_dropPlan rfl rfl rfl (by decide +kernel) ⟨Nat.le_of_ble_eq_true rfl, Nat.le_of_ble_eq_true rfl⟩) hW rfl rfl hl.1 (Nat.le_of_ble_eq_true rfl) dL_isPlanSo_284 ⟨Nat.le_of_ble_eq_true rfl, Nat.le_of_ble_eq_true rfl⟩ (fun r284 H locs hq284 hW => ?_)
    obtain rfl := hq284
    refine x_topE (1) (rfl) ?_
    refine lv_iload hx hb dL_isPlanSo_287 (lv_at hl 1 rfl) ?_
    refine lv_if_eq (tgt := 296) hx hb dL_isPlanSo_289 (by decide) (fun c289 => ?_) (fun c289 => ?_)
    rotate_left
    · exact absurd c289 (by decide)
    refine lv_iconst (v := 1) hx hb dL_isPlanSo_296 (by decide) ?_
    refine lv_icmp_ne (tgt := 304) hx hb dL_isPlanSo_297 (by decide) (fun c297 => ?_) (fun c297 => ?_)
    · exact absurd c297 (by decide)
    refine lv_iconst (v := 1) hx hb dL_isPlanSo_300 (by decide) ?_
    refine lv_goto (tgt := 305) hx hb dL_isPlanSo_301 (by decide) ?_
    exact p_rz S hr hlk hW (Nat.le_of_ble_eq_true rfl) (Nat.le_of_ble_eq_true rfl) dL_isPlanSo_305 (Or.inr rfl) (⟨rfl, gDrop (gMove (gDrop Γ) a b), gd_drop hGm, Nat.le_refl _, rfl⟩)
