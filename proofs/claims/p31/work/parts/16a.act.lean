/-! the law: a number out of a cell, what happens -/
abbrev rmL_low : Room := { frames := 0, cells := 0, slots := 0, locals := 0 }
set_option maxHeartbeats 4000000 in
set_option maxRecDepth 100000 in
theorem c_L_low (l : Launch) (E : xE) (hfl : l.stackTraces = false) (Γ : xG) (hG : xGd Γ) (v : Int32) {k : Nat} (h0 : 0 < k) (h1 : k < 2 ^ 31) : gL l yL_low wsL_low rmL_low E [.int v, .int (nI k)] Γ 0 (fun r Γ' => r = nI (xlo v k) ∧ Γ' = Γ) := by
  refine g_start RL (by decide) rfl rfl (Nat.le_of_ble_eq_true rfl) ?_
  intro p e s m args below meth c ls S hr hlk hTh hNc hW hl
  have hx := S.1
  have hb := S.2.1
  have hl : lv_has ls 2 [(0, .int v), (1, .int (nI k))] := hl
  have hno := hG.1.no
  have hnt := hG.1.nt
  have wq7 : Cond.constant RL 7 2147483647 ∈ wsL_low := by decide +kernel
  refine lv_iload_n hx hb dL_low_0 rfl (lv_at hl 0 rfl) ?_
  refine lv_ldc (own := RL) (v := 2147483647) hx hb S.2.2.2.1 (S.2.2.2.2 _ wq7) dL_low_1 ?_
  refine lv_iand hx hb dL_low_3 ?_
  refine lv_iload_n hx hb dL_low_4 rfl (lv_at hl 1 rfl) ?_
  refine lv_irem hx hb dL_low_5 (x_nz h0 h1) ?_
  exact g_ri S hr hlk hW (Nat.le_of_ble_eq_true rfl) (Nat.le_of_ble_eq_true rfl) dL_low_6 (⟨x_lo h1, rfl⟩)

abbrev rmL_act : Room := { frames := 9, cells := 3, slots := 18, locals := 154 }
set_option maxHeartbeats 4000000 in
set_option maxRecDepth 100000 in
theorem c_L_act (l : Launch) (E : xE) (hfl : l.stackTraces = false) (Γ : xG) (hG : xGd Γ) (v : Int32) : gL l yL_act wsL_act rmL_act E [.ref (E.2.2.2 0), .int v] Γ 3 (fun r Γ' => (r, Γ') = fAct Γ v) := by
  refine g_start RL (by decide) rfl rfl (Nat.le_of_ble_eq_true rfl) ?_
  intro p e s m args below meth c ls S hr hlk hTh hNc hW hl
  have hx := S.1
  have hb := S.2.1
  have hl : lv_has ls 6 [(0, .ref (E.2.2.2 0)), (1, .int v)] := hl
  have hno := hG.1.no
  have hnt := hG.1.nt
  refine lv_iload_n hx hb dL_act_0 rfl (lv_at hl 1 rfl) ?_
  refine lv_bipush (v := 24) hx hb dL_act_1 (by decide) ?_
  refine lv_ishr hx hb dL_act_3 ?_
  refine lv_bipush (v := 8) hx hb dL_act_4 (by decide) ?_
  refine y_S (K := 0) (rm := rmL_low) (As := [.int (v >>> (24 &&& 31)), .int 8]) (rest := []) S (c_L_low l E hfl Γ hG (v >>> (24 &&& 31)) (k := 8) (by omega) (by omega)) (cwS 2 S.2.2.2.2 gL_act_L_low rfl rfl rfl (by decide +kernel) ⟨Nat.le_of_ble_eq_true rfl, Nat.le_of_ble_eq_true rfl⟩) hW hTh hNc rfl rfl hl.1 (Nat.le_of_ble_eq_true rfl) dL_act_6 ⟨Nat.le_of_ble_eq_true rfl, Nat.le_of_ble_eq_true rfl⟩ (fun r6 Γ6 H locs hq6 hW => ?_)
  obtain ⟨rfl, eΓ6⟩ := hq6
  obtain rfl := eΓ6.symm
  have hlo6 := xlo_lt (v >>> (24 &&& 31)) (m := 8) (by omega)
  refine x_if_ne (tgt := 16) hx hb dL_act_9 (by decide) (by omega) (fun c9 => ?_) (fun c9 => ?_)
  · refine lv_iconst (v := 0) hx hb dL_act_16 (by decide) ?_
    refine lv_istore_n (lv' := [(2, .int 0), (0, .ref (E.2.2.2 0)), (1, .int v)]) hx hb dL_act_17 rfl hl (by decide) rfl (fun ls hl => ?_)
    refine lv_iload_n hx hb dL_act_18 rfl (lv_at hl 2 rfl) ?_
    refine lv_iconst (v := 4) hx hb dL_act_19 (by decide) ?_
    refine lv_ishr hx hb dL_act_20 ?_
    refine lv_iload_n hx hb dL_act_21 rfl (lv_at hl 0 rfl) ?_
    refine lv_if_eq (tgt := 31) hx hb dL_act_22 (by decide) (fun c22 => ?_) (fun c22 => ?_)
    rotate_left
    · exact absurd c22 (by decide)
    refine lv_aload_n hx hb dL_act_31 rfl (lv_at hl 1 rfl) ?_
    refine y_V (rm := rmX3_ports) (As := []) (Γ' := Γ) (rest := [.int (v >>> (4 &&& 31))]) S (fun N F hR => c_X3_ports l E N F xo0 Γ hG.1 hR) (cwV 0 S.2.2.2.2 gL_act_X3_ports rfl rfl rfl (by decide +kernel) ⟨Nat.le_of_ble_eq_true rfl, Nat.le_of_ble_eq_true rfl⟩) hW rfl rfl hl.1 (Nat.le_of_ble_eq_true rfl) dL_act_32 ⟨Nat.le_of_ble_eq_true rfl, Nat.le_of_ble_eq_true rfl⟩ (fun r32 H locs hq32 hW => ?_)
    obtain rfl := hq32
    refine lv_iconst (v := 1) hx hb dL_act_35 (by decide) ?_
    refine x_iadd (a := gNo Γ) (b := 1) hx hb dL_act_36 ?_
    refine y_S (K := 0) (rm := rmL_low) (As := [.int (v >>> (4 &&& 31)), .int (nI ((gNo Γ) + 1))]) (rest := []) S (c_L_low l E hfl Γ hG (v >>> (4 &&& 31)) (k := ((gNo Γ) + 1)) (by omega) (by omega)) (cwS 2 S.2.2.2.2 gL_act_L_low rfl rfl rfl (by decide +kernel) ⟨Nat.le_of_ble_eq_true rfl, Nat.le_of_ble_eq_true rfl⟩) hW hTh hNc rfl rfl hl.1 (Nat.le_of_ble_eq_true rfl) dL_act_37 ⟨Nat.le_of_ble_eq_true rfl, Nat.le_of_ble_eq_true rfl⟩ (fun r37 Γ37 H locs hq37 hW => ?_)
    obtain ⟨rfl, eΓ37⟩ := hq37
    obtain rfl := eΓ37.symm
    have hlo37 := xlo_lt (v >>> (4 &&& 31)) (m := ((gNo Γ) + 1)) (by omega)
    refine lv_istore_n (lv' := [(3, .int (nI (xlo (v >>> (4 &&& 31)) ((gNo Γ) + 1)))), (2, .int 0), (0, .ref (E.2.2.2 0)), (1, .int v)]) hx hb dL_act_40 rfl hl (by decide) rfl (fun ls hl => ?_)
    refine lv_iload_n hx hb dL_act_41 rfl (lv_at hl 3 rfl) ?_
    refine lv_bipush (v := 9) hx hb dL_act_42 (by decide) ?_
    refine lv_ishr hx hb dL_act_44 ?_
    refine lv_iload_n hx hb dL_act_45 rfl (lv_at hl 1 rfl) ?_
    refine lv_if_eq (tgt := 55) hx hb dL_act_46 (by decide) (fun c46 => ?_) (fun c46 => ?_)
    rotate_left
    · exact absurd c46 (by decide)
    refine lv_aload_n hx hb dL_act_55 rfl (lv_at hl 2 rfl) ?_
    refine y_V (rm := rmX3_ports) (As := []) (Γ' := Γ) (rest := [.int (v >>> (9 &&& 31))]) S (fun N F hR => c_X3_ports l E N F xo0 Γ hG.1 hR) (cwV 0 S.2.2.2.2 gL_act_X3_ports rfl rfl rfl (by decide +kernel) ⟨Nat.le_of_ble_eq_true rfl, Nat.le_of_ble_eq_true rfl⟩) hW rfl rfl hl.1 (Nat.le_of_ble_eq_true rfl) dL_act_56 ⟨Nat.le_of_ble_eq_true rfl, Nat.le_of_ble_eq_true rfl⟩ (fun r56 H locs hq56 hW => ?_)
    obtain rfl := hq56
    refine lv_iconst (v := 1) hx hb dL_act_59 (by decide) ?_
    refine x_iadd (a := gNo Γ) (b := 1) hx hb dL_act_60 ?_
    refine y_S (K := 0) (rm := rmL_low) (As := [.int (v >>> (9 &&& 31)), .int (nI ((gNo Γ) + 1))]) (rest := []) S (c_L_low l E hfl Γ hG (v >>> (9 &&& 31)) (k := ((gNo Γ) + 1)) (by omega) (by omega)) (cwS 2 S.2.2.2.2 gL_act_L_low rfl rfl rfl (by decide +kernel) ⟨Nat.le_of_ble_eq_true rfl, Nat.le_of_ble_eq_true rfl⟩) hW hTh hNc rfl rfl hl.1 (Nat.le_of_ble_eq_true rfl) dL_act_61 ⟨Nat.le_of_ble_eq_true rfl, Nat.le_of_ble_eq_true rfl⟩ (fun r61 Γ61 H locs hq61 hW => ?_)
    obtain ⟨rfl, eΓ61⟩ := hq61
    obtain rfl := eΓ61.symm
    have hlo61 := xlo_lt (v >>> (9 &&& 31)) (m := ((gNo Γ) + 1)) (by omega)
    refine lv_istore (lv' := [(4, .int (nI (xlo (v >>> (9 &&& 31)) ((gNo Γ) + 1)))), (3, .int (nI (xlo (v >>> (4 &&& 31)) ((gNo Γ) + 1)))), (2, .int 0), (0, .ref (E.2.2.2 0)), (1, .int v)]) hx hb dL_act_64 hl (by decide) rfl (fun ls hl => ?_)
    refine lv_iload_n hx hb dL_act_66 rfl (lv_at hl 4 rfl) ?_
    refine lv_bipush (v := 24) hx hb dL_act_67 (by decide) ?_
    refine y_S (K := 0) (rm := rmL_low) (As := [.int v, .int 24]) (rest := []) S (c_L_low l E hfl Γ hG v (k := 24) (by omega) (by omega)) (cwS 2 S.2.2.2.2 gL_act_L_low rfl rfl rfl (by decide +kernel) ⟨Nat.le_of_ble_eq_true rfl, Nat.le_of_ble_eq_true rfl⟩) hW hTh hNc rfl rfl hl.1 (Nat.le_of_ble_eq_true rfl) dL_act_69 ⟨Nat.le_of_ble_eq_true rfl, Nat.le_of_ble_eq_true rfl⟩ (fun r69 Γ69 H locs hq69 hW => ?_)
    obtain ⟨rfl, eΓ69⟩ := hq69
    obtain rfl := eΓ69.symm
    have hlo69 := xlo_lt v (m := 24) (by omega)
    refine lv_istore (lv' := [(5, .int (nI (xlo v 24))), (4, .int (nI (xlo (v >>> (9 &&& 31)) ((gNo Γ) + 1)))), (3, .int (nI (xlo (v >>> (4 &&& 31)) ((gNo Γ) + 1)))), (2, .int 0), (0, .ref (E.2.2.2 0)), (1, .int v)]) hx hb dL_act_72 hl (by decide) rfl (fun ls hl => ?_)
    refine lv_iload hx hb dL_act_74 (lv_at hl 0 rfl) ?_
    refine lv_iconst (v := 2) hx hb dL_act_76 (by decide) ?_
    refine x_icmp_ge (a := xlo v 24) (b := 2) (tgt := 130) hx hb dL_act_77 (by decide) (by omega) (by omega) (fun c77 => ?_) (fun c77 => ?_)
    · refine lv_iload hx hb dL_act_130 (lv_at hl 0 rfl) ?_
      refine lv_iconst (v := 5) hx hb dL_act_132 (by decide) ?_
      refine x_icmp_ge (a := xlo v 24) (b := 5) (tgt := 199) hx hb dL_act_133 (by decide) (by omega) (by omega) (fun c133 => ?_) (fun c133 => ?_)
      · refine lv_iload hx hb dL_act_199 (lv_at hl 0 rfl) ?_
        refine lv_bipush (v := 8) hx hb dL_act_201 (by decide) ?_
        refine x_icmp_ge (a := xlo v 24) (b := 8) (tgt := 234) hx hb dL_act_203 (by decide) (by omega) (by omega) (fun c203 => ?_) (fun c203 => ?_)
        · refine lv_iload hx hb dL_act_234 (lv_at hl 0 rfl) ?_
          refine lv_bipush (v := 15) hx hb dL_act_236 (by decide) ?_
          refine x_icmp_ge (a := xlo v 24) (b := 15) (tgt := 278) hx hb dL_act_238 (by decide) (by omega) (by omega) (fun c238 => ?_) (fun c238 => ?_)
          · refine lv_iload hx hb dL_act_278 (lv_at hl 0 rfl) ?_
            refine lv_bipush (v := 15) hx hb dL_act_280 (by decide) ?_
            refine x_icmp_ne (a := xlo v 24) (b := 15) (tgt := 294) hx hb dL_act_282 (by decide) (by omega) (by omega) (fun c282 => ?_) (fun c282 => ?_)
            · refine lv_iload hx hb dL_act_294 (lv_at hl 0 rfl) ?_
              refine lv_bipush (v := 20) hx hb dL_act_296 (by decide) ?_
              refine x_icmp_ge (a := xlo v 24) (b := 20) (tgt := 313) hx hb dL_act_298 (by decide) (by omega) (by omega) (fun c298 => ?_) (fun c298 => ?_)
              · refine lv_iload hx hb dL_act_313 (lv_at hl 0 rfl) ?_
                refine lv_bipush (v := 20) hx hb dL_act_315 (by decide) ?_
                refine x_icmp_ne (a := xlo v 24) (b := 20) (tgt := 327) hx hb dL_act_317 (by decide) (by omega) (by omega) (fun c317 => ?_) (fun c317 => ?_)
                · refine lv_aload_n hx hb dL_act_327 rfl (lv_at hl 4 rfl) ?_
                  refine lv_iconst (v := 4) hx hb dL_act_328 (by decide) ?_
                  refine lv_iconst (v := 0) hx hb dL_act_329 (by decide) ?_
                  refine lv_iconst (v := 0) hx hb dL_act_330 (by decide) ?_
                  refine lv_iconst (v := 0) hx hb dL_act_331 (by decide) ?_
                  refine y_SX (K := 3) (rm := rmL_does) (As := [.ref (E.2.2.2 0), .int 4, .int 0, .int 0, .int 0]) (rest := []) S (c_L_does4 l E hfl Γ hG 0 0 0) (vx_cwSW 5 S.2.2.2.2 gL_act_L_does rfl rfl rfl (by decide +kernel) ⟨Nat.le_of_ble_eq_true rfl, Nat.le_of_ble_eq_true rfl⟩) hW hTh hNc rfl rfl hl.1 (Nat.le_of_ble_eq_true rfl) dL_act_332 ⟨Nat.le_of_ble_eq_true rfl, Nat.le_of_ble_eq_true rfl⟩ (fun r332 Γ332 H locs hq332 hW => ?_)
                  exact g_ri S hr hlk hW (Nat.le_of_ble_eq_true rfl) (Nat.le_of_ble_eq_true rfl) dL_act_335 (by rw [fAct, if_neg c9, fActE, if_neg (by omega), if_neg (by omega), if_neg (by omega), if_neg (by omega), if_neg (by omega), if_neg (by omega), if_neg (by omega)]; exact hq332)
                · refine lv_aload_n hx hb dL_act_320 rfl (lv_at hl 4 rfl) ?_
                  refine y_V (rm := rmX3_dropPlan) (As := []) (Γ' := (gDrop Γ)) (rest := []) S (fun N F hR => c_X3_dropPlan l E N F xo0 Γ hG.1 hR) (cwV 0 S.2.2.2.2 gL_act_X3_dropPlan rfl rfl rfl (by decide +kernel) ⟨Nat.le_of_ble_eq_true rfl, Nat.le_of_ble_eq_true rfl⟩) hW rfl rfl hl.1 (Nat.le_of_ble_eq_true rfl) dL_act_321 ⟨Nat.le_of_ble_eq_true rfl, Nat.le_of_ble_eq_true rfl⟩ (fun r321 H locs hq321 hW => ?_)
                  obtain rfl := hq321
                  refine lv_goto (tgt := 335) hx hb dL_act_324 (by decide) ?_
                  exact g_ri S hr hlk hW (Nat.le_of_ble_eq_true rfl) (Nat.le_of_ble_eq_true rfl) dL_act_335 (by rw [fAct, if_neg c9, fActE, if_neg (by omega), if_neg (by omega), if_neg (by omega), if_neg (by omega), if_neg (by omega), if_neg (by omega), if_pos (by omega)])
              · refine lv_aload_n hx hb dL_act_301 rfl (lv_at hl 4 rfl) ?_
                refine lv_iconst (v := 3) hx hb dL_act_302 (by decide) ?_
                refine lv_iload_n hx hb dL_act_303 rfl (lv_at hl 2 rfl) ?_
                refine lv_iload hx hb dL_act_304 (lv_at hl 1 rfl) ?_
                refine lv_iconst (v := 0) hx hb dL_act_306 (by decide) ?_
                refine y_SX (K := 3) (rm := rmL_does) (As := [.ref (E.2.2.2 0), .int 3, .int (nI (xlo (v >>> (4 &&& 31)) ((gNo Γ) + 1))), .int (nI (xlo (v >>> (9 &&& 31)) ((gNo Γ) + 1))), .int 0]) (rest := []) S (c_L_does3 l E hfl Γ hG (nI (xlo (v >>> (4 &&& 31)) ((gNo Γ) + 1))) (nI (xlo (v >>> (9 &&& 31)) ((gNo Γ) + 1))) 0) (vx_cwSW 5 S.2.2.2.2 gL_act_L_does rfl rfl rfl (by decide +kernel) ⟨Nat.le_of_ble_eq_true rfl, Nat.le_of_ble_eq_true rfl⟩) hW hTh hNc rfl rfl hl.1 (Nat.le_of_ble_eq_true rfl) dL_act_307 ⟨Nat.le_of_ble_eq_true rfl, Nat.le_of_ble_eq_true rfl⟩ (fun r307 Γ307 H locs hq307 hW => ?_)
                refine lv_goto (tgt := 335) hx hb dL_act_310 (by decide) ?_
                exact g_ri S hr hlk hW (Nat.le_of_ble_eq_true rfl) (Nat.le_of_ble_eq_true rfl) dL_act_335 (by rw [fAct, if_neg c9, fActE, if_neg (by omega), if_neg (by omega), if_neg (by omega), if_neg (by omega), if_neg (by omega), if_pos (by omega)]; exact hq307)
            · refine lv_aload_n hx hb dL_act_285 rfl (lv_at hl 4 rfl) ?_
              refine lv_iconst (v := 2) hx hb dL_act_286 (by decide) ?_
              refine lv_iload_n hx hb dL_act_287 rfl (lv_at hl 2 rfl) ?_
              refine lv_iconst (v := 0) hx hb dL_act_288 (by decide) ?_
              refine lv_iconst (v := 0) hx hb dL_act_289 (by decide) ?_
              refine y_SX (K := 3) (rm := rmL_does) (As := [.ref (E.2.2.2 0), .int 2, .int (nI (xlo (v >>> (4 &&& 31)) ((gNo Γ) + 1))), .int 0, .int 0]) (rest := []) S (c_L_does2 l E hfl Γ hG (nI (xlo (v >>> (4 &&& 31)) ((gNo Γ) + 1))) 0 0) (vx_cwSW 5 S.2.2.2.2 gL_act_L_does rfl rfl rfl (by decide +kernel) ⟨Nat.le_of_ble_eq_true rfl, Nat.le_of_ble_eq_true rfl⟩) hW hTh hNc rfl rfl hl.1 (Nat.le_of_ble_eq_true rfl) dL_act_290 ⟨Nat.le_of_ble_eq_true rfl, Nat.le_of_ble_eq_true rfl⟩ (fun r290 Γ290 H locs hq290 hW => ?_)
              exact g_ri S hr hlk hW (Nat.le_of_ble_eq_true rfl) (Nat.le_of_ble_eq_true rfl) dL_act_293 (by rw [fAct, if_neg c9, fActE, if_neg (by omega), if_neg (by omega), if_neg (by omega), if_neg (by omega), if_pos (by omega)]; exact hq290)
          · refine lv_aload_n hx hb dL_act_241 rfl (lv_at hl 4 rfl) ?_
            refine lv_iconst (v := 1) hx hb dL_act_242 (by decide) ?_
            refine lv_iload_n hx hb dL_act_243 rfl (lv_at hl 2 rfl) ?_
            refine lv_iload hx hb dL_act_244 (lv_at hl 1 rfl) ?_
            refine lv_iload_n hx hb dL_act_246 rfl (lv_at hl 5 rfl) ?_
            refine lv_bipush (v := 13) hx hb dL_act_247 (by decide) ?_
            refine lv_ishr hx hb dL_act_249 ?_
            refine lv_iload_n hx hb dL_act_250 rfl (lv_at hl 3 rfl) ?_
            refine lv_if_eq (tgt := 259) hx hb dL_act_251 (by decide) (fun c251 => ?_) (fun c251 => ?_)
            rotate_left
            · exact absurd c251 (by decide)
            refine lv_bipush (v := 9) hx hb dL_act_259 (by decide) ?_
            refine y_S (K := 0) (rm := rmL_low) (As := [.int (v >>> (13 &&& 31)), .int 9]) (rest := [.int (nI (xlo (v >>> (9 &&& 31)) ((gNo Γ) + 1))), .int (nI (xlo (v >>> (4 &&& 31)) ((gNo Γ) + 1))), .int 1, .ref (E.2.2.2 0)]) S (c_L_low l E hfl Γ hG (v >>> (13 &&& 31)) (k := 9) (by omega) (by omega)) (cwS 2 S.2.2.2.2 gL_act_L_low rfl rfl rfl (by decide +kernel) ⟨Nat.le_of_ble_eq_true rfl, Nat.le_of_ble_eq_true rfl⟩) hW hTh hNc rfl rfl hl.1 (Nat.le_of_ble_eq_true rfl) dL_act_261 ⟨Nat.le_of_ble_eq_true rfl, Nat.le_of_ble_eq_true rfl⟩ (fun r261 Γ261 H locs hq261 hW => ?_)
            obtain ⟨rfl, eΓ261⟩ := hq261
            obtain rfl := eΓ261.symm
            have hlo261 := xlo_lt (v >>> (13 &&& 31)) (m := 9) (by omega)
            refine lv_iload_n hx hb dL_act_264 rfl (lv_at hl 3 rfl) ?_
            refine lv_if_eq (tgt := 272) hx hb dL_act_265 (by decide) (fun c265 => ?_) (fun c265 => ?_)
            rotate_left
            · exact absurd c265 (by decide)
            refine lv_iconst (v := 1) hx hb dL_act_272 (by decide) ?_
            refine x_iadd (a := xlo (v >>> (13 &&& 31)) 9) (b := 1) hx hb dL_act_273 ?_
            refine y_SX (K := 3) (rm := rmL_does) (As := [.ref (E.2.2.2 0), .int 1, .int (nI (xlo (v >>> (4 &&& 31)) ((gNo Γ) + 1))), .int (nI (xlo (v >>> (9 &&& 31)) ((gNo Γ) + 1))), .int (nI ((xlo (v >>> (13 &&& 31)) 9) + 1))]) (rest := []) S (c_L_does1 l E hfl Γ hG (nI (xlo (v >>> (4 &&& 31)) ((gNo Γ) + 1))) (nI (xlo (v >>> (9 &&& 31)) ((gNo Γ) + 1))) (nI ((xlo (v >>> (13 &&& 31)) 9) + 1))) (vx_cwSW 5 S.2.2.2.2 gL_act_L_does rfl rfl rfl (by decide +kernel) ⟨Nat.le_of_ble_eq_true rfl, Nat.le_of_ble_eq_true rfl⟩) hW hTh hNc rfl rfl hl.1 (Nat.le_of_ble_eq_true rfl) dL_act_274 ⟨Nat.le_of_ble_eq_true rfl, Nat.le_of_ble_eq_true rfl⟩ (fun r274 Γ274 H locs hq274 hW => ?_)
            exact g_ri S hr hlk hW (Nat.le_of_ble_eq_true rfl) (Nat.le_of_ble_eq_true rfl) dL_act_277 (by rw [fAct, if_neg c9, fActE, if_neg (by omega), if_neg (by omega), if_neg (by omega), if_pos (by omega)]; exact hq274)
        · refine lv_aload_n hx hb dL_act_206 rfl (lv_at hl 4 rfl) ?_
          refine lv_iconst (v := 0) hx hb dL_act_207 (by decide) ?_
          refine lv_iload_n hx hb dL_act_208 rfl (lv_at hl 5 rfl) ?_
          refine lv_iconst (v := 4) hx hb dL_act_209 (by decide) ?_
          refine lv_ishr hx hb dL_act_210 ?_
          refine lv_bipush (v := 10) hx hb dL_act_211 (by decide) ?_
          refine y_S (K := 0) (rm := rmL_low) (As := [.int (v >>> (4 &&& 31)), .int 10]) (rest := [.int 0, .ref (E.2.2.2 0)]) S (c_L_low l E hfl Γ hG (v >>> (4 &&& 31)) (k := 10) (by omega) (by omega)) (cwS 2 S.2.2.2.2 gL_act_L_low rfl rfl rfl (by decide +kernel) ⟨Nat.le_of_ble_eq_true rfl, Nat.le_of_ble_eq_true rfl⟩) hW hTh hNc rfl rfl hl.1 (Nat.le_of_ble_eq_true rfl) dL_act_213 ⟨Nat.le_of_ble_eq_true rfl, Nat.le_of_ble_eq_true rfl⟩ (fun r213 Γ213 H locs hq213 hW => ?_)
          obtain ⟨rfl, eΓ213⟩ := hq213
          obtain rfl := eΓ213.symm
          have hlo213 := xlo_lt (v >>> (4 &&& 31)) (m := 10) (by omega)
          refine lv_iload_n hx hb dL_act_216 rfl (lv_at hl 5 rfl) ?_
          refine lv_bipush (v := 8) hx hb dL_act_217 (by decide) ?_
          refine lv_ishr hx hb dL_act_219 ?_
          refine lv_iconst (v := 4) hx hb dL_act_220 (by decide) ?_
          refine y_S (K := 0) (rm := rmL_low) (As := [.int (v >>> (8 &&& 31)), .int 4]) (rest := [.int (nI (xlo (v >>> (4 &&& 31)) 10)), .int 0, .ref (E.2.2.2 0)]) S (c_L_low l E hfl Γ hG (v >>> (8 &&& 31)) (k := 4) (by omega) (by omega)) (cwS 2 S.2.2.2.2 gL_act_L_low rfl rfl rfl (by decide +kernel) ⟨Nat.le_of_ble_eq_true rfl, Nat.le_of_ble_eq_true rfl⟩) hW hTh hNc rfl rfl hl.1 (Nat.le_of_ble_eq_true rfl) dL_act_221 ⟨Nat.le_of_ble_eq_true rfl, Nat.le_of_ble_eq_true rfl⟩ (fun r221 Γ221 H locs hq221 hW => ?_)
          obtain ⟨rfl, eΓ221⟩ := hq221
          obtain rfl := eΓ221.symm
          have hlo221 := xlo_lt (v >>> (8 &&& 31)) (m := 4) (by omega)
          refine lv_iload_n hx hb dL_act_224 rfl (lv_at hl 5 rfl) ?_
          refine lv_bipush (v := 12) hx hb dL_act_225 (by decide) ?_
          refine lv_ishr hx hb dL_act_227 ?_
          refine lv_iconst (v := 1) hx hb dL_act_228 (by decide) ?_
          refine lv_iand hx hb dL_act_229 ?_
          refine y_SX (K := 3) (rm := rmL_does) (As := [.ref (E.2.2.2 0), .int 0, .int (nI (xlo (v >>> (4 &&& 31)) 10)), .int (nI (xlo (v >>> (8 &&& 31)) 4)), .int ((v >>> (12 &&& 31)) &&& 1)]) (rest := []) S (c_L_does0 l E hfl Γ hG (nI (xlo (v >>> (4 &&& 31)) 10)) (nI (xlo (v >>> (8 &&& 31)) 4)) ((v >>> (12 &&& 31)) &&& 1)) (vx_cwSW 5 S.2.2.2.2 gL_act_L_does rfl rfl rfl (by decide +kernel) ⟨Nat.le_of_ble_eq_true rfl, Nat.le_of_ble_eq_true rfl⟩) hW hTh hNc rfl rfl hl.1 (Nat.le_of_ble_eq_true rfl) dL_act_230 ⟨Nat.le_of_ble_eq_true rfl, Nat.le_of_ble_eq_true rfl⟩ (fun r230 Γ230 H locs hq230 hW => ?_)
          exact g_ri S hr hlk hW (Nat.le_of_ble_eq_true rfl) (Nat.le_of_ble_eq_true rfl) dL_act_233 (by rw [fAct, if_neg c9, fActE, if_neg (by omega), if_neg (by omega), if_pos (by omega)]; exact hq230)
      · refine lv_aload_n hx hb dL_act_136 rfl (lv_at hl 4 rfl) ?_
        refine lv_iload_n hx hb dL_act_137 rfl (lv_at hl 2 rfl) ?_
        refine lv_iload hx hb dL_act_138 (lv_at hl 1 rfl) ?_
        refine lv_iload_n hx hb dL_act_140 rfl (lv_at hl 5 rfl) ?_
        refine lv_bipush (v := 13) hx hb dL_act_141 (by decide) ?_
        refine lv_ishr hx hb dL_act_143 ?_
        refine lv_iload_n hx hb dL_act_144 rfl (lv_at hl 3 rfl) ?_
        refine lv_if_eq (tgt := 153) hx hb dL_act_145 (by decide) (fun c145 => ?_) (fun c145 => ?_)
        rotate_left
        · exact absurd c145 (by decide)
        refine lv_iconst (v := 4) hx hb dL_act_153 (by decide) ?_
        refine y_S (K := 0) (rm := rmL_low) (As := [.int (v >>> (13 &&& 31)), .int 4]) (rest := [.int (nI (xlo (v >>> (9 &&& 31)) ((gNo Γ) + 1))), .int (nI (xlo (v >>> (4 &&& 31)) ((gNo Γ) + 1))), .ref (E.2.2.2 0)]) S (c_L_low l E hfl Γ hG (v >>> (13 &&& 31)) (k := 4) (by omega) (by omega)) (cwS 2 S.2.2.2.2 gL_act_L_low rfl rfl rfl (by decide +kernel) ⟨Nat.le_of_ble_eq_true rfl, Nat.le_of_ble_eq_true rfl⟩) hW hTh hNc rfl rfl hl.1 (Nat.le_of_ble_eq_true rfl) dL_act_154 ⟨Nat.le_of_ble_eq_true rfl, Nat.le_of_ble_eq_true rfl⟩ (fun r154 Γ154 H locs hq154 hW => ?_)
        obtain ⟨rfl, eΓ154⟩ := hq154
        obtain rfl := eΓ154.symm
        have hlo154 := xlo_lt (v >>> (13 &&& 31)) (m := 4) (by omega)
        refine lv_iload_n hx hb dL_act_157 rfl (lv_at hl 3 rfl) ?_
        refine lv_if_eq (tgt := 165) hx hb dL_act_158 (by decide) (fun c158 => ?_) (fun c158 => ?_)
        rotate_left
        · exact absurd c158 (by decide)
        refine lv_iconst (v := 1) hx hb dL_act_165 (by decide) ?_
        refine x_iadd (a := xlo (v >>> (13 &&& 31)) 4) (b := 1) hx hb dL_act_166 ?_
        refine lv_iload_n hx hb dL_act_167 rfl (lv_at hl 5 rfl) ?_
        refine lv_iconst (v := 5) hx hb dL_act_168 (by decide) ?_
        refine lv_ishr hx hb dL_act_169 ?_
        refine lv_iload_n hx hb dL_act_170 rfl (lv_at hl 3 rfl) ?_
        refine lv_if_eq (tgt := 180) hx hb dL_act_171 (by decide) (fun c171 => ?_) (fun c171 => ?_)
        rotate_left
        · exact absurd c171 (by decide)
        refine lv_bipush (v := 90) hx hb dL_act_180 (by decide) ?_
        refine y_S (K := 0) (rm := rmL_low) (As := [.int (v >>> (5 &&& 31)), .int 90]) (rest := [.int (nI ((xlo (v >>> (13 &&& 31)) 4) + 1)), .int (nI (xlo (v >>> (9 &&& 31)) ((gNo Γ) + 1))), .int (nI (xlo (v >>> (4 &&& 31)) ((gNo Γ) + 1))), .ref (E.2.2.2 0)]) S (c_L_low l E hfl Γ hG (v >>> (5 &&& 31)) (k := 90) (by omega) (by omega)) (cwS 2 S.2.2.2.2 gL_act_L_low rfl rfl rfl (by decide +kernel) ⟨Nat.le_of_ble_eq_true rfl, Nat.le_of_ble_eq_true rfl⟩) hW hTh hNc rfl rfl hl.1 (Nat.le_of_ble_eq_true rfl) dL_act_182 ⟨Nat.le_of_ble_eq_true rfl, Nat.le_of_ble_eq_true rfl⟩ (fun r182 Γ182 H locs hq182 hW => ?_)
        obtain ⟨rfl, eΓ182⟩ := hq182
        obtain rfl := eΓ182.symm
        have hlo182 := xlo_lt (v >>> (5 &&& 31)) (m := 90) (by omega)
        refine lv_iload_n hx hb dL_act_185 rfl (lv_at hl 3 rfl) ?_
        refine lv_if_eq (tgt := 193) hx hb dL_act_186 (by decide) (fun c186 => ?_) (fun c186 => ?_)
        rotate_left
        · exact absurd c186 (by decide)
        refine lv_iconst (v := 1) hx hb dL_act_193 (by decide) ?_
        refine x_iadd (a := xlo (v >>> (5 &&& 31)) 90) (b := 1) hx hb dL_act_194 ?_
        refine y_SX (K := 3) (rm := rmL_addTrunk) (As := [.ref (E.2.2.2 0), .int (nI (xlo (v >>> (4 &&& 31)) ((gNo Γ) + 1))), .int (nI (xlo (v >>> (9 &&& 31)) ((gNo Γ) + 1))), .int (nI ((xlo (v >>> (13 &&& 31)) 4) + 1)), .int (nI ((xlo (v >>> (5 &&& 31)) 90) + 1))]) (rest := []) S (c_L_addTrunk l E hfl Γ hG (nI (xlo (v >>> (4 &&& 31)) ((gNo Γ) + 1))) (nI (xlo (v >>> (9 &&& 31)) ((gNo Γ) + 1))) (nI ((xlo (v >>> (13 &&& 31)) 4) + 1)) (nI ((xlo (v >>> (5 &&& 31)) 90) + 1))) (vx_cwSW 5 S.2.2.2.2 gL_act_L_addTrunk rfl rfl rfl (by decide +kernel) ⟨Nat.le_of_ble_eq_true rfl, Nat.le_of_ble_eq_true rfl⟩) hW hTh hNc rfl rfl hl.1 (Nat.le_of_ble_eq_true rfl) dL_act_195 ⟨Nat.le_of_ble_eq_true rfl, Nat.le_of_ble_eq_true rfl⟩ (fun r195 Γ195 H locs hq195 hW => ?_)
        exact g_ri S hr hlk hW (Nat.le_of_ble_eq_true rfl) (Nat.le_of_ble_eq_true rfl) dL_act_198 (by rw [fAct, if_neg c9, fActE, if_neg (by omega), if_pos (by omega)]; exact hq195)
    · refine lv_aload_n hx hb dL_act_80 rfl (lv_at hl 4 rfl) ?_
      refine lv_iload_n hx hb dL_act_81 rfl (lv_at hl 5 rfl) ?_
      refine lv_iconst (v := 5) hx hb dL_act_82 (by decide) ?_
      refine lv_ishr hx hb dL_act_83 ?_
      refine lv_iload_n hx hb dL_act_84 rfl (lv_at hl 3 rfl) ?_
      refine lv_if_eq (tgt := 93) hx hb dL_act_85 (by decide) (fun c85 => ?_) (fun c85 => ?_)
      rotate_left
      · exact absurd c85 (by decide)
      refine lv_bipush (v := 10) hx hb dL_act_93 (by decide) ?_
      refine y_S (K := 0) (rm := rmL_low) (As := [.int (v >>> (5 &&& 31)), .int 10]) (rest := [.ref (E.2.2.2 0)]) S (c_L_low l E hfl Γ hG (v >>> (5 &&& 31)) (k := 10) (by omega) (by omega)) (cwS 2 S.2.2.2.2 gL_act_L_low rfl rfl rfl (by decide +kernel) ⟨Nat.le_of_ble_eq_true rfl, Nat.le_of_ble_eq_true rfl⟩) hW hTh hNc rfl rfl hl.1 (Nat.le_of_ble_eq_true rfl) dL_act_95 ⟨Nat.le_of_ble_eq_true rfl, Nat.le_of_ble_eq_true rfl⟩ (fun r95 Γ95 H locs hq95 hW => ?_)
      obtain ⟨rfl, eΓ95⟩ := hq95
      obtain rfl := eΓ95.symm
      have hlo95 := xlo_lt (v >>> (5 &&& 31)) (m := 10) (by omega)
      refine lv_iload_n hx hb dL_act_98 rfl (lv_at hl 5 rfl) ?_
      refine lv_bipush (v := 8) hx hb dL_act_99 (by decide) ?_
      refine lv_ishr hx hb dL_act_101 ?_
      refine lv_iload_n hx hb dL_act_102 rfl (lv_at hl 3 rfl) ?_
      refine lv_if_eq (tgt := 111) hx hb dL_act_103 (by decide) (fun c103 => ?_) (fun c103 => ?_)
      rotate_left
      · exact absurd c103 (by decide)
      refine lv_bipush (v := 12) hx hb dL_act_111 (by decide) ?_
      refine y_S (K := 0) (rm := rmL_low) (As := [.int (v >>> (8 &&& 31)), .int 12]) (rest := [.int (nI (xlo (v >>> (5 &&& 31)) 10)), .ref (E.2.2.2 0)]) S (c_L_low l E hfl Γ hG (v >>> (8 &&& 31)) (k := 12) (by omega) (by omega)) (cwS 2 S.2.2.2.2 gL_act_L_low rfl rfl rfl (by decide +kernel) ⟨Nat.le_of_ble_eq_true rfl, Nat.le_of_ble_eq_true rfl⟩) hW hTh hNc rfl rfl hl.1 (Nat.le_of_ble_eq_true rfl) dL_act_113 ⟨Nat.le_of_ble_eq_true rfl, Nat.le_of_ble_eq_true rfl⟩ (fun r113 Γ113 H locs hq113 hW => ?_)
      obtain ⟨rfl, eΓ113⟩ := hq113
      obtain rfl := eΓ113.symm
      have hlo113 := xlo_lt (v >>> (8 &&& 31)) (m := 12) (by omega)
      refine lv_iload_n hx hb dL_act_116 rfl (lv_at hl 3 rfl) ?_
      refine lv_if_eq (tgt := 124) hx hb dL_act_117 (by decide) (fun c117 => ?_) (fun c117 => ?_)
      rotate_left
      · exact absurd c117 (by decide)
      refine lv_iconst (v := 1) hx hb dL_act_124 (by decide) ?_
      refine x_iadd (a := xlo (v >>> (8 &&& 31)) 12) (b := 1) hx hb dL_act_125 ?_
      refine y_SX (K := 1) (rm := rmL_addPanel) (As := [.ref (E.2.2.2 0), .int (nI (xlo (v >>> (5 &&& 31)) 10)), .int (nI ((xlo (v >>> (8 &&& 31)) 12) + 1))]) (rest := []) S (c_L_addPanel l E hfl Γ hG (nI (xlo (v >>> (5 &&& 31)) 10)) (nI ((xlo (v >>> (8 &&& 31)) 12) + 1))) (vx_cwSW 3 S.2.2.2.2 gL_act_L_addPanel rfl rfl rfl (by decide +kernel) ⟨Nat.le_of_ble_eq_true rfl, Nat.le_of_ble_eq_true rfl⟩) hW hTh hNc rfl rfl hl.1 (Nat.le_of_ble_eq_true rfl) dL_act_126 ⟨Nat.le_of_ble_eq_true rfl, Nat.le_of_ble_eq_true rfl⟩ (fun r126 Γ126 H locs hq126 hW => ?_)
      exact g_ri S hr hlk hW (Nat.le_of_ble_eq_true rfl) (Nat.le_of_ble_eq_true rfl) dL_act_129 (by rw [fAct, if_neg c9, fActE, if_pos (by omega)]; exact hq126)
  · refine lv_iconst (v := 1) hx hb dL_act_12 (by decide) ?_
    refine lv_goto (tgt := 17) hx hb dL_act_13 (by decide) ?_
    refine lv_istore_n (lv' := [(2, .int 1), (0, .ref (E.2.2.2 0)), (1, .int v)]) hx hb dL_act_17 rfl hl (by decide) rfl (fun ls hl => ?_)
    refine lv_iload_n hx hb dL_act_18 rfl (lv_at hl 2 rfl) ?_
    refine lv_iconst (v := 4) hx hb dL_act_19 (by decide) ?_
    refine lv_ishr hx hb dL_act_20 ?_
    refine lv_iload_n hx hb dL_act_21 rfl (lv_at hl 0 rfl) ?_
    refine lv_if_eq (tgt := 31) hx hb dL_act_22 (by decide) (fun c22 => ?_) (fun c22 => ?_)
    · exact absurd c22 (by decide)
    refine lv_sipush (v := 150) hx hb dL_act_25 (by decide) ?_
    refine lv_goto (tgt := 37) hx hb dL_act_28 (by decide) ?_
    refine y_S (K := 0) (rm := rmL_low) (As := [.int (v >>> (4 &&& 31)), .int 150]) (rest := []) S (c_L_low l E hfl Γ hG (v >>> (4 &&& 31)) (k := 150) (by omega) (by omega)) (cwS 2 S.2.2.2.2 gL_act_L_low rfl rfl rfl (by decide +kernel) ⟨Nat.le_of_ble_eq_true rfl, Nat.le_of_ble_eq_true rfl⟩) hW hTh hNc rfl rfl hl.1 (Nat.le_of_ble_eq_true rfl) dL_act_37 ⟨Nat.le_of_ble_eq_true rfl, Nat.le_of_ble_eq_true rfl⟩ (fun r37 Γ37 H locs hq37 hW => ?_)
    obtain ⟨rfl, eΓ37⟩ := hq37
    obtain rfl := eΓ37.symm
    have hlo37 := xlo_lt (v >>> (4 &&& 31)) (m := 150) (by omega)
    refine lv_istore_n (lv' := [(3, .int (nI (xlo (v >>> (4 &&& 31)) 150))), (2, .int 1), (0, .ref (E.2.2.2 0)), (1, .int v)]) hx hb dL_act_40 rfl hl (by decide) rfl (fun ls hl => ?_)
    refine lv_iload_n hx hb dL_act_41 rfl (lv_at hl 3 rfl) ?_
    refine lv_bipush (v := 9) hx hb dL_act_42 (by decide) ?_
    refine lv_ishr hx hb dL_act_44 ?_
    refine lv_iload_n hx hb dL_act_45 rfl (lv_at hl 1 rfl) ?_
    refine lv_if_eq (tgt := 55) hx hb dL_act_46 (by decide) (fun c46 => ?_) (fun c46 => ?_)
    · exact absurd c46 (by decide)
    refine lv_sipush (v := 150) hx hb dL_act_49 (by decide) ?_
    refine lv_goto (tgt := 61) hx hb dL_act_52 (by decide) ?_
    refine y_S (K := 0) (rm := rmL_low) (As := [.int (v >>> (9 &&& 31)), .int 150]) (rest := []) S (c_L_low l E hfl Γ hG (v >>> (9 &&& 31)) (k := 150) (by omega) (by omega)) (cwS 2 S.2.2.2.2 gL_act_L_low rfl rfl rfl (by decide +kernel) ⟨Nat.le_of_ble_eq_true rfl, Nat.le_of_ble_eq_true rfl⟩) hW hTh hNc rfl rfl hl.1 (Nat.le_of_ble_eq_true rfl) dL_act_61 ⟨Nat.le_of_ble_eq_true rfl, Nat.le_of_ble_eq_true rfl⟩ (fun r61 Γ61 H locs hq61 hW => ?_)
    obtain ⟨rfl, eΓ61⟩ := hq61
    obtain rfl := eΓ61.symm
    have hlo61 := xlo_lt (v >>> (9 &&& 31)) (m := 150) (by omega)
    refine lv_istore (lv' := [(4, .int (nI (xlo (v >>> (9 &&& 31)) 150))), (3, .int (nI (xlo (v >>> (4 &&& 31)) 150))), (2, .int 1), (0, .ref (E.2.2.2 0)), (1, .int v)]) hx hb dL_act_64 hl (by decide) rfl (fun ls hl => ?_)
    refine lv_iload_n hx hb dL_act_66 rfl (lv_at hl 4 rfl) ?_
    refine lv_bipush (v := 24) hx hb dL_act_67 (by decide) ?_
    refine y_S (K := 0) (rm := rmL_low) (As := [.int v, .int 24]) (rest := []) S (c_L_low l E hfl Γ hG v (k := 24) (by omega) (by omega)) (cwS 2 S.2.2.2.2 gL_act_L_low rfl rfl rfl (by decide +kernel) ⟨Nat.le_of_ble_eq_true rfl, Nat.le_of_ble_eq_true rfl⟩) hW hTh hNc rfl rfl hl.1 (Nat.le_of_ble_eq_true rfl) dL_act_69 ⟨Nat.le_of_ble_eq_true rfl, Nat.le_of_ble_eq_true rfl⟩ (fun r69 Γ69 H locs hq69 hW => ?_)
    obtain ⟨rfl, eΓ69⟩ := hq69
    obtain rfl := eΓ69.symm
    have hlo69 := xlo_lt v (m := 24) (by omega)
    refine lv_istore (lv' := [(5, .int (nI (xlo v 24))), (4, .int (nI (xlo (v >>> (9 &&& 31)) 150))), (3, .int (nI (xlo (v >>> (4 &&& 31)) 150))), (2, .int 1), (0, .ref (E.2.2.2 0)), (1, .int v)]) hx hb dL_act_72 hl (by decide) rfl (fun ls hl => ?_)
    refine lv_iload hx hb dL_act_74 (lv_at hl 0 rfl) ?_
    refine lv_iconst (v := 2) hx hb dL_act_76 (by decide) ?_
    refine x_icmp_ge (a := xlo v 24) (b := 2) (tgt := 130) hx hb dL_act_77 (by decide) (by omega) (by omega) (fun c77 => ?_) (fun c77 => ?_)
    · refine lv_iload hx hb dL_act_130 (lv_at hl 0 rfl) ?_
      refine lv_iconst (v := 5) hx hb dL_act_132 (by decide) ?_
      refine x_icmp_ge (a := xlo v 24) (b := 5) (tgt := 199) hx hb dL_act_133 (by decide) (by omega) (by omega) (fun c133 => ?_) (fun c133 => ?_)
      · refine lv_iload hx hb dL_act_199 (lv_at hl 0 rfl) ?_
        refine lv_bipush (v := 8) hx hb dL_act_201 (by decide) ?_
        refine x_icmp_ge (a := xlo v 24) (b := 8) (tgt := 234) hx hb dL_act_203 (by decide) (by omega) (by omega) (fun c203 => ?_) (fun c203 => ?_)
        · refine lv_iload hx hb dL_act_234 (lv_at hl 0 rfl) ?_
          refine lv_bipush (v := 15) hx hb dL_act_236 (by decide) ?_
          refine x_icmp_ge (a := xlo v 24) (b := 15) (tgt := 278) hx hb dL_act_238 (by decide) (by omega) (by omega) (fun c238 => ?_) (fun c238 => ?_)
          · refine lv_iload hx hb dL_act_278 (lv_at hl 0 rfl) ?_
            refine lv_bipush (v := 15) hx hb dL_act_280 (by decide) ?_
            refine x_icmp_ne (a := xlo v 24) (b := 15) (tgt := 294) hx hb dL_act_282 (by decide) (by omega) (by omega) (fun c282 => ?_) (fun c282 => ?_)
            · refine lv_iload hx hb dL_act_294 (lv_at hl 0 rfl) ?_
              refine lv_bipush (v := 20) hx hb dL_act_296 (by decide) ?_
              refine x_icmp_ge (a := xlo v 24) (b := 20) (tgt := 313) hx hb dL_act_298 (by decide) (by omega) (by omega) (fun c298 => ?_) (fun c298 => ?_)
              · refine lv_iload hx hb dL_act_313 (lv_at hl 0 rfl) ?_
                refine lv_bipush (v := 20) hx hb dL_act_315 (by decide) ?_
                refine x_icmp_ne (a := xlo v 24) (b := 20) (tgt := 327) hx hb dL_act_317 (by decide) (by omega) (by omega) (fun c317 => ?_) (fun c317 => ?_)
                · refine lv_aload_n hx hb dL_act_327 rfl (lv_at hl 4 rfl) ?_
                  refine lv_iconst (v := 4) hx hb dL_act_328 (by decide) ?_
                  refine lv_iconst (v := 0) hx hb dL_act_329 (by decide) ?_
                  refine lv_iconst (v := 0) hx hb dL_act_330 (by decide) ?_
                  refine lv_iconst (v := 0) hx hb dL_act_331 (by decide) ?_
                  refine y_SX (K := 3) (rm := rmL_does) (As := [.ref (E.2.2.2 0), .int 4, .int 0, .int 0, .int 0]) (rest := []) S (c_L_does4 l E hfl Γ hG 0 0 0) (vx_cwSW 5 S.2.2.2.2 gL_act_L_does rfl rfl rfl (by decide +kernel) ⟨Nat.le_of_ble_eq_true rfl, Nat.le_of_ble_eq_true rfl⟩) hW hTh hNc rfl rfl hl.1 (Nat.le_of_ble_eq_true rfl) dL_act_332 ⟨Nat.le_of_ble_eq_true rfl, Nat.le_of_ble_eq_true rfl⟩ (fun r332 Γ332 H locs hq332 hW => ?_)
                  exact g_ri S hr hlk hW (Nat.le_of_ble_eq_true rfl) (Nat.le_of_ble_eq_true rfl) dL_act_335 (by rw [fAct, if_pos c9, fActO, if_neg (by omega), if_neg (by omega), if_neg (by omega), if_neg (by omega), if_neg (by omega), if_neg (by omega), if_neg (by omega)]; exact hq332)
                · refine lv_aload_n hx hb dL_act_320 rfl (lv_at hl 4 rfl) ?_
                  refine y_V (rm := rmX3_dropPlan) (As := []) (Γ' := (gDrop Γ)) (rest := []) S (fun N F hR => c_X3_dropPlan l E N F xo0 Γ hG.1 hR) (cwV 0 S.2.2.2.2 gL_act_X3_dropPlan rfl rfl rfl (by decide +kernel) ⟨Nat.le_of_ble_eq_true rfl, Nat.le_of_ble_eq_true rfl⟩) hW rfl rfl hl.1 (Nat.le_of_ble_eq_true rfl) dL_act_321 ⟨Nat.le_of_ble_eq_true rfl, Nat.le_of_ble_eq_true rfl⟩ (fun r321 H locs hq321 hW => ?_)
                  obtain rfl := hq321
                  refine lv_goto (tgt := 335) hx hb dL_act_324 (by decide) ?_
                  exact g_ri S hr hlk hW (Nat.le_of_ble_eq_true rfl) (Nat.le_of_ble_eq_true rfl) dL_act_335 (by rw [fAct, if_pos c9, fActO, if_neg (by omega), if_neg (by omega), if_neg (by omega), if_neg (by omega), if_neg (by omega), if_neg (by omega), if_pos (by omega)])
              · refine lv_aload_n hx hb dL_act_301 rfl (lv_at hl 4 rfl) ?_
                refine lv_iconst (v := 3) hx hb dL_act_302 (by decide) ?_
                refine lv_iload_n hx hb dL_act_303 rfl (lv_at hl 2 rfl) ?_
                refine lv_iload hx hb dL_act_304 (lv_at hl 1 rfl) ?_
                refine lv_iconst (v := 0) hx hb dL_act_306 (by decide) ?_
                refine y_SX (K := 3) (rm := rmL_does) (As := [.ref (E.2.2.2 0), .int 3, .int (nI (xlo (v >>> (4 &&& 31)) 150)), .int (nI (xlo (v >>> (9 &&& 31)) 150)), .int 0]) (rest := []) S (c_L_does3 l E hfl Γ hG (nI (xlo (v >>> (4 &&& 31)) 150)) (nI (xlo (v >>> (9 &&& 31)) 150)) 0) (vx_cwSW 5 S.2.2.2.2 gL_act_L_does rfl rfl rfl (by decide +kernel) ⟨Nat.le_of_ble_eq_true rfl, Nat.le_of_ble_eq_true rfl⟩) hW hTh hNc rfl rfl hl.1 (Nat.le_of_ble_eq_true rfl) dL_act_307 ⟨Nat.le_of_ble_eq_true rfl, Nat.le_of_ble_eq_true rfl⟩ (fun r307 Γ307 H locs hq307 hW => ?_)
                refine lv_goto (tgt := 335) hx hb dL_act_310 (by decide) ?_
                exact g_ri S hr hlk hW (Nat.le_of_ble_eq_true rfl) (Nat.le_of_ble_eq_true rfl) dL_act_335 (by rw [fAct, if_pos c9, fActO, if_neg (by omega), if_neg (by omega), if_neg (by omega), if_neg (by omega), if_neg (by omega), if_pos (by omega)]; exact hq307)
            · refine lv_aload_n hx hb dL_act_285 rfl (lv_at hl 4 rfl) ?_
              refine lv_iconst (v := 2) hx hb dL_act_286 (by decide) ?_
              refine lv_iload_n hx hb dL_act_287 rfl (lv_at hl 2 rfl) ?_
              refine lv_iconst (v := 0) hx hb dL_act_288 (by decide) ?_
              refine lv_iconst (v := 0) hx hb dL_act_289 (by decide) ?_
              refine y_SX (K := 3) (rm := rmL_does) (As := [.ref (E.2.2.2 0), .int 2, .int (nI (xlo (v >>> (4 &&& 31)) 150)), .int 0, .int 0]) (rest := []) S (c_L_does2 l E hfl Γ hG (nI (xlo (v >>> (4 &&& 31)) 150)) 0 0) (vx_cwSW 5 S.2.2.2.2 gL_act_L_does rfl rfl rfl (by decide +kernel) ⟨Nat.le_of_ble_eq_true rfl, Nat.le_of_ble_eq_true rfl⟩) hW hTh hNc rfl rfl hl.1 (Nat.le_of_ble_eq_true rfl) dL_act_290 ⟨Nat.le_of_ble_eq_true rfl, Nat.le_of_ble_eq_true rfl⟩ (fun r290 Γ290 H locs hq290 hW => ?_)
              exact g_ri S hr hlk hW (Nat.le_of_ble_eq_true rfl) (Nat.le_of_ble_eq_true rfl) dL_act_293 (by rw [fAct, if_pos c9, fActO, if_neg (by omega), if_neg (by omega), if_neg (by omega), if_neg (by omega), if_pos (by omega)]; exact hq290)
          · refine lv_aload_n hx hb dL_act_241 rfl (lv_at hl 4 rfl) ?_
            refine lv_iconst (v := 1) hx hb dL_act_242 (by decide) ?_
            refine lv_iload_n hx hb dL_act_243 rfl (lv_at hl 2 rfl) ?_
            refine lv_iload hx hb dL_act_244 (lv_at hl 1 rfl) ?_
            refine lv_iload_n hx hb dL_act_246 rfl (lv_at hl 5 rfl) ?_
            refine lv_bipush (v := 13) hx hb dL_act_247 (by decide) ?_
            refine lv_ishr hx hb dL_act_249 ?_
            refine lv_iload_n hx hb dL_act_250 rfl (lv_at hl 3 rfl) ?_
            refine lv_if_eq (tgt := 259) hx hb dL_act_251 (by decide) (fun c251 => ?_) (fun c251 => ?_)
            · exact absurd c251 (by decide)
            refine lv_bipush (v := 12) hx hb dL_act_254 (by decide) ?_
            refine lv_goto (tgt := 261) hx hb dL_act_256 (by decide) ?_
            refine y_S (K := 0) (rm := rmL_low) (As := [.int (v >>> (13 &&& 31)), .int 12]) (rest := [.int (nI (xlo (v >>> (9 &&& 31)) 150)), .int (nI (xlo (v >>> (4 &&& 31)) 150)), .int 1, .ref (E.2.2.2 0)]) S (c_L_low l E hfl Γ hG (v >>> (13 &&& 31)) (k := 12) (by omega) (by omega)) (cwS 2 S.2.2.2.2 gL_act_L_low rfl rfl rfl (by decide +kernel) ⟨Nat.le_of_ble_eq_true rfl, Nat.le_of_ble_eq_true rfl⟩) hW hTh hNc rfl rfl hl.1 (Nat.le_of_ble_eq_true rfl) dL_act_261 ⟨Nat.le_of_ble_eq_true rfl, Nat.le_of_ble_eq_true rfl⟩ (fun r261 Γ261 H locs hq261 hW => ?_)
            obtain ⟨rfl, eΓ261⟩ := hq261
            obtain rfl := eΓ261.symm
            have hlo261 := xlo_lt (v >>> (13 &&& 31)) (m := 12) (by omega)
            refine lv_iload_n hx hb dL_act_264 rfl (lv_at hl 3 rfl) ?_
            refine lv_if_eq (tgt := 272) hx hb dL_act_265 (by decide) (fun c265 => ?_) (fun c265 => ?_)
            · exact absurd c265 (by decide)
            refine lv_iconst (v := 0) hx hb dL_act_268 (by decide) ?_
            refine lv_goto (tgt := 273) hx hb dL_act_269 (by decide) ?_
            refine x_iadd (a := xlo (v >>> (13 &&& 31)) 12) (b := 0) hx hb dL_act_273 ?_
            refine y_SX (K := 3) (rm := rmL_does) (As := [.ref (E.2.2.2 0), .int 1, .int (nI (xlo (v >>> (4 &&& 31)) 150)), .int (nI (xlo (v >>> (9 &&& 31)) 150)), .int (nI ((xlo (v >>> (13 &&& 31)) 12) + 0))]) (rest := []) S (c_L_does1 l E hfl Γ hG (nI (xlo (v >>> (4 &&& 31)) 150)) (nI (xlo (v >>> (9 &&& 31)) 150)) (nI ((xlo (v >>> (13 &&& 31)) 12) + 0))) (vx_cwSW 5 S.2.2.2.2 gL_act_L_does rfl rfl rfl (by decide +kernel) ⟨Nat.le_of_ble_eq_true rfl, Nat.le_of_ble_eq_true rfl⟩) hW hTh hNc rfl rfl hl.1 (Nat.le_of_ble_eq_true rfl) dL_act_274 ⟨Nat.le_of_ble_eq_true rfl, Nat.le_of_ble_eq_true rfl⟩ (fun r274 Γ274 H locs hq274 hW => ?_)
            exact g_ri S hr hlk hW (Nat.le_of_ble_eq_true rfl) (Nat.le_of_ble_eq_true rfl) dL_act_277 (by rw [fAct, if_pos c9, fActO, if_neg (by omega), if_neg (by omega), if_neg (by omega), if_pos (by omega)]; exact hq274)
        · refine lv_aload_n hx hb dL_act_206 rfl (lv_at hl 4 rfl) ?_
          refine lv_iconst (v := 0) hx hb dL_act_207 (by decide) ?_
          refine lv_iload_n hx hb dL_act_208 rfl (lv_at hl 5 rfl) ?_
          refine lv_iconst (v := 4) hx hb dL_act_209 (by decide) ?_
          refine lv_ishr hx hb dL_act_210 ?_
          refine lv_bipush (v := 10) hx hb dL_act_211 (by decide) ?_
          refine y_S (K := 0) (rm := rmL_low) (As := [.int (v >>> (4 &&& 31)), .int 10]) (rest := [.int 0, .ref (E.2.2.2 0)]) S (c_L_low l E hfl Γ hG (v >>> (4 &&& 31)) (k := 10) (by omega) (by omega)) (cwS 2 S.2.2.2.2 gL_act_L_low rfl rfl rfl (by decide +kernel) ⟨Nat.le_of_ble_eq_true rfl, Nat.le_of_ble_eq_true rfl⟩) hW hTh hNc rfl rfl hl.1 (Nat.le_of_ble_eq_true rfl) dL_act_213 ⟨Nat.le_of_ble_eq_true rfl, Nat.le_of_ble_eq_true rfl⟩ (fun r213 Γ213 H locs hq213 hW => ?_)
          obtain ⟨rfl, eΓ213⟩ := hq213
          obtain rfl := eΓ213.symm
          have hlo213 := xlo_lt (v >>> (4 &&& 31)) (m := 10) (by omega)
          refine lv_iload_n hx hb dL_act_216 rfl (lv_at hl 5 rfl) ?_
          refine lv_bipush (v := 8) hx hb dL_act_217 (by decide) ?_
          refine lv_ishr hx hb dL_act_219 ?_
          refine lv_iconst (v := 4) hx hb dL_act_220 (by decide) ?_
          refine y_S (K := 0) (rm := rmL_low) (As := [.int (v >>> (8 &&& 31)), .int 4]) (rest := [.int (nI (xlo (v >>> (4 &&& 31)) 10)), .int 0, .ref (E.2.2.2 0)]) S (c_L_low l E hfl Γ hG (v >>> (8 &&& 31)) (k := 4) (by omega) (by omega)) (cwS 2 S.2.2.2.2 gL_act_L_low rfl rfl rfl (by decide +kernel) ⟨Nat.le_of_ble_eq_true rfl, Nat.le_of_ble_eq_true rfl⟩) hW hTh hNc rfl rfl hl.1 (Nat.le_of_ble_eq_true rfl) dL_act_221 ⟨Nat.le_of_ble_eq_true rfl, Nat.le_of_ble_eq_true rfl⟩ (fun r221 Γ221 H locs hq221 hW => ?_)
          obtain ⟨rfl, eΓ221⟩ := hq221
          obtain rfl := eΓ221.symm
          have hlo221 := xlo_lt (v >>> (8 &&& 31)) (m := 4) (by omega)
          refine lv_iload_n hx hb dL_act_224 rfl (lv_at hl 5 rfl) ?_
          refine lv_bipush (v := 12) hx hb dL_act_225 (by decide) ?_
          refine lv_ishr hx hb dL_act_227 ?_
          refine lv_iconst (v := 1) hx hb dL_act_228 (by decide) ?_
          refine lv_iand hx hb dL_act_229 ?_
          refine y_SX (K := 3) (rm := rmL_does) (As := [.ref (E.2.2.2 0), .int 0, .int (nI (xlo (v >>> (4 &&& 31)) 10)), .int (nI (xlo (v >>> (8 &&& 31)) 4)), .int ((v >>> (12 &&& 31)) &&& 1)]) (rest := []) S (c_L_does0 l E hfl Γ hG (nI (xlo (v >>> (4 &&& 31)) 10)) (nI (xlo (v >>> (8 &&& 31)) 4)) ((v >>> (12 &&& 31)) &&& 1)) (vx_cwSW 5 S.2.2.2.2 gL_act_L_does rfl rfl rfl (by decide +kernel) ⟨Nat.le_of_ble_eq_true rfl, Nat.le_of_ble_eq_true rfl⟩) hW hTh hNc rfl rfl hl.1 (Nat.le_of_ble_eq_true rfl) dL_act_230 ⟨Nat.le_of_ble_eq_true rfl, Nat.le_of_ble_eq_true rfl⟩ (fun r230 Γ230 H locs hq230 hW => ?_)
          exact g_ri S hr hlk hW (Nat.le_of_ble_eq_true rfl) (Nat.le_of_ble_eq_true rfl) dL_act_233 (by rw [fAct, if_pos c9, fActO, if_neg (by omega), if_neg (by omega), if_pos (by omega)]; exact hq230)
      · refine lv_aload_n hx hb dL_act_136 rfl (lv_at hl 4 rfl) ?_
        refine lv_iload_n hx hb dL_act_137 rfl (lv_at hl 2 rfl) ?_
        refine lv_iload hx hb dL_act_138 (lv_at hl 1 rfl) ?_
        refine lv_iload_n hx hb dL_act_140 rfl (lv_at hl 5 rfl) ?_
        refine lv_bipush (v := 13) hx hb dL_act_141 (by decide) ?_
        refine lv_ishr hx hb dL_act_143 ?_
        refine lv_iload_n hx hb dL_act_144 rfl (lv_at hl 3 rfl) ?_
        refine lv_if_eq (tgt := 153) hx hb dL_act_145 (by decide) (fun c145 => ?_) (fun c145 => ?_)
        · exact absurd c145 (by decide)
        refine lv_bipush (v := 15) hx hb dL_act_148 (by decide) ?_
        refine lv_goto (tgt := 154) hx hb dL_act_150 (by decide) ?_
        refine y_S (K := 0) (rm := rmL_low) (As := [.int (v >>> (13 &&& 31)), .int 15]) (rest := [.int (nI (xlo (v >>> (9 &&& 31)) 150)), .int (nI (xlo (v >>> (4 &&& 31)) 150)), .ref (E.2.2.2 0)]) S (c_L_low l E hfl Γ hG (v >>> (13 &&& 31)) (k := 15) (by omega) (by omega)) (cwS 2 S.2.2.2.2 gL_act_L_low rfl rfl rfl (by decide +kernel) ⟨Nat.le_of_ble_eq_true rfl, Nat.le_of_ble_eq_true rfl⟩) hW hTh hNc rfl rfl hl.1 (Nat.le_of_ble_eq_true rfl) dL_act_154 ⟨Nat.le_of_ble_eq_true rfl, Nat.le_of_ble_eq_true rfl⟩ (fun r154 Γ154 H locs hq154 hW => ?_)
        obtain ⟨rfl, eΓ154⟩ := hq154
        obtain rfl := eΓ154.symm
        have hlo154 := xlo_lt (v >>> (13 &&& 31)) (m := 15) (by omega)
        refine lv_iload_n hx hb dL_act_157 rfl (lv_at hl 3 rfl) ?_
        refine lv_if_eq (tgt := 165) hx hb dL_act_158 (by decide) (fun c158 => ?_) (fun c158 => ?_)
        · exact absurd c158 (by decide)
        refine lv_iconst (v := 0) hx hb dL_act_161 (by decide) ?_
        refine lv_goto (tgt := 166) hx hb dL_act_162 (by decide) ?_
        refine x_iadd (a := xlo (v >>> (13 &&& 31)) 15) (b := 0) hx hb dL_act_166 ?_
        refine lv_iload_n hx hb dL_act_167 rfl (lv_at hl 5 rfl) ?_
        refine lv_iconst (v := 5) hx hb dL_act_168 (by decide) ?_
        refine lv_ishr hx hb dL_act_169 ?_
        refine lv_iload_n hx hb dL_act_170 rfl (lv_at hl 3 rfl) ?_
        refine lv_if_eq (tgt := 180) hx hb dL_act_171 (by decide) (fun c171 => ?_) (fun c171 => ?_)
        · exact absurd c171 (by decide)
        refine lv_sipush (v := 600) hx hb dL_act_174 (by decide) ?_
        refine lv_goto (tgt := 182) hx hb dL_act_177 (by decide) ?_
        refine y_S (K := 0) (rm := rmL_low) (As := [.int (v >>> (5 &&& 31)), .int 600]) (rest := [.int (nI ((xlo (v >>> (13 &&& 31)) 15) + 0)), .int (nI (xlo (v >>> (9 &&& 31)) 150)), .int (nI (xlo (v >>> (4 &&& 31)) 150)), .ref (E.2.2.2 0)]) S (c_L_low l E hfl Γ hG (v >>> (5 &&& 31)) (k := 600) (by omega) (by omega)) (cwS 2 S.2.2.2.2 gL_act_L_low rfl rfl rfl (by decide +kernel) ⟨Nat.le_of_ble_eq_true rfl, Nat.le_of_ble_eq_true rfl⟩) hW hTh hNc rfl rfl hl.1 (Nat.le_of_ble_eq_true rfl) dL_act_182 ⟨Nat.le_of_ble_eq_true rfl, Nat.le_of_ble_eq_true rfl⟩ (fun r182 Γ182 H locs hq182 hW => ?_)
        obtain ⟨rfl, eΓ182⟩ := hq182
        obtain rfl := eΓ182.symm
        have hlo182 := xlo_lt (v >>> (5 &&& 31)) (m := 600) (by omega)
        refine lv_iload_n hx hb dL_act_185 rfl (lv_at hl 3 rfl) ?_
        refine lv_if_eq (tgt := 193) hx hb dL_act_186 (by decide) (fun c186 => ?_) (fun c186 => ?_)
        · exact absurd c186 (by decide)
        refine lv_iconst (v := 0) hx hb dL_act_189 (by decide) ?_
        refine lv_goto (tgt := 194) hx hb dL_act_190 (by decide) ?_
        refine x_iadd (a := xlo (v >>> (5 &&& 31)) 600) (b := 0) hx hb dL_act_194 ?_
        refine y_SX (K := 3) (rm := rmL_addTrunk) (As := [.ref (E.2.2.2 0), .int (nI (xlo (v >>> (4 &&& 31)) 150)), .int (nI (xlo (v >>> (9 &&& 31)) 150)), .int (nI ((xlo (v >>> (13 &&& 31)) 15) + 0)), .int (nI ((xlo (v >>> (5 &&& 31)) 600) + 0))]) (rest := []) S (c_L_addTrunk l E hfl Γ hG (nI (xlo (v >>> (4 &&& 31)) 150)) (nI (xlo (v >>> (9 &&& 31)) 150)) (nI ((xlo (v >>> (13 &&& 31)) 15) + 0)) (nI ((xlo (v >>> (5 &&& 31)) 600) + 0))) (vx_cwSW 5 S.2.2.2.2 gL_act_L_addTrunk rfl rfl rfl (by decide +kernel) ⟨Nat.le_of_ble_eq_true rfl, Nat.le_of_ble_eq_true rfl⟩) hW hTh hNc rfl rfl hl.1 (Nat.le_of_ble_eq_true rfl) dL_act_195 ⟨Nat.le_of_ble_eq_true rfl, Nat.le_of_ble_eq_true rfl⟩ (fun r195 Γ195 H locs hq195 hW => ?_)
        exact g_ri S hr hlk hW (Nat.le_of_ble_eq_true rfl) (Nat.le_of_ble_eq_true rfl) dL_act_198 (by rw [fAct, if_pos c9, fActO, if_neg (by omega), if_pos (by omega)]; exact hq195)
    · refine lv_aload_n hx hb dL_act_80 rfl (lv_at hl 4 rfl) ?_
      refine lv_iload_n hx hb dL_act_81 rfl (lv_at hl 5 rfl) ?_
      refine lv_iconst (v := 5) hx hb dL_act_82 (by decide) ?_
      refine lv_ishr hx hb dL_act_83 ?_
      refine lv_iload_n hx hb dL_act_84 rfl (lv_at hl 3 rfl) ?_
      refine lv_if_eq (tgt := 93) hx hb dL_act_85 (by decide) (fun c85 => ?_) (fun c85 => ?_)
      · exact absurd c85 (by decide)
      refine lv_bipush (v := 13) hx hb dL_act_88 (by decide) ?_
      refine lv_goto (tgt := 95) hx hb dL_act_90 (by decide) ?_
      refine y_S (K := 0) (rm := rmL_low) (As := [.int (v >>> (5 &&& 31)), .int 13]) (rest := [.ref (E.2.2.2 0)]) S (c_L_low l E hfl Γ hG (v >>> (5 &&& 31)) (k := 13) (by omega) (by omega)) (cwS 2 S.2.2.2.2 gL_act_L_low rfl rfl rfl (by decide +kernel) ⟨Nat.le_of_ble_eq_true rfl, Nat.le_of_ble_eq_true rfl⟩) hW hTh hNc rfl rfl hl.1 (Nat.le_of_ble_eq_true rfl) dL_act_95 ⟨Nat.le_of_ble_eq_true rfl, Nat.le_of_ble_eq_true rfl⟩ (fun r95 Γ95 H locs hq95 hW => ?_)
      obtain ⟨rfl, eΓ95⟩ := hq95
      obtain rfl := eΓ95.symm
      have hlo95 := xlo_lt (v >>> (5 &&& 31)) (m := 13) (by omega)
      refine lv_iload_n hx hb dL_act_98 rfl (lv_at hl 5 rfl) ?_
      refine lv_bipush (v := 8) hx hb dL_act_99 (by decide) ?_
      refine lv_ishr hx hb dL_act_101 ?_
      refine lv_iload_n hx hb dL_act_102 rfl (lv_at hl 3 rfl) ?_
      refine lv_if_eq (tgt := 111) hx hb dL_act_103 (by decide) (fun c103 => ?_) (fun c103 => ?_)
      · exact absurd c103 (by decide)
      refine lv_bipush (v := 16) hx hb dL_act_106 (by decide) ?_
      refine lv_goto (tgt := 113) hx hb dL_act_108 (by decide) ?_
      refine y_S (K := 0) (rm := rmL_low) (As := [.int (v >>> (8 &&& 31)), .int 16]) (rest := [.int (nI (xlo (v >>> (5 &&& 31)) 13)), .ref (E.2.2.2 0)]) S (c_L_low l E hfl Γ hG (v >>> (8 &&& 31)) (k := 16) (by omega) (by omega)) (cwS 2 S.2.2.2.2 gL_act_L_low rfl rfl rfl (by decide +kernel) ⟨Nat.le_of_ble_eq_true rfl, Nat.le_of_ble_eq_true rfl⟩) hW hTh hNc rfl rfl hl.1 (Nat.le_of_ble_eq_true rfl) dL_act_113 ⟨Nat.le_of_ble_eq_true rfl, Nat.le_of_ble_eq_true rfl⟩ (fun r113 Γ113 H locs hq113 hW => ?_)
      obtain ⟨rfl, eΓ113⟩ := hq113
      obtain rfl := eΓ113.symm
      have hlo113 := xlo_lt (v >>> (8 &&& 31)) (m := 16) (by omega)
      refine lv_iload_n hx hb dL_act_116 rfl (lv_at hl 3 rfl) ?_
      refine lv_if_eq (tgt := 124) hx hb dL_act_117 (by decide) (fun c117 => ?_) (fun c117 => ?_)
      · exact absurd c117 (by decide)
      refine lv_iconst (v := 0) hx hb dL_act_120 (by decide) ?_
      refine lv_goto (tgt := 125) hx hb dL_act_121 (by decide) ?_
      refine x_iadd (a := xlo (v >>> (8 &&& 31)) 16) (b := 0) hx hb dL_act_125 ?_
      refine y_SX (K := 1) (rm := rmL_addPanel) (As := [.ref (E.2.2.2 0), .int (nI (xlo (v >>> (5 &&& 31)) 13)), .int (nI ((xlo (v >>> (8 &&& 31)) 16) + 0))]) (rest := []) S (c_L_addPanel l E hfl Γ hG (nI (xlo (v >>> (5 &&& 31)) 13)) (nI ((xlo (v >>> (8 &&& 31)) 16) + 0))) (vx_cwSW 3 S.2.2.2.2 gL_act_L_addPanel rfl rfl rfl (by decide +kernel) ⟨Nat.le_of_ble_eq_true rfl, Nat.le_of_ble_eq_true rfl⟩) hW hTh hNc rfl rfl hl.1 (Nat.le_of_ble_eq_true rfl) dL_act_126 ⟨Nat.le_of_ble_eq_true rfl, Nat.le_of_ble_eq_true rfl⟩ (fun r126 Γ126 H locs hq126 hW => ?_)
      exact g_ri S hr hlk hW (Nat.le_of_ble_eq_true rfl) (Nat.le_of_ble_eq_true rfl) dL_act_129 (by rw [fAct, if_pos c9, fActO, if_pos (by omega)]; exact hq126)
