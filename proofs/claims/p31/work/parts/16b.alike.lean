/-! the law: books alike, ports as they should be -/
abbrev rmL_areAlike : Room := { frames := 6, cells := 0, slots := 0, locals := 127 }
set_option maxHeartbeats 4000000 in
set_option maxRecDepth 100000 in
theorem c_L_areAlike (l : Launch) (X : xF) (hfl : l.stackTraces = false) (Γ : xG) (hG : xGd Γ) : pL l yL_areAlike wsL_areAlike rmL_areAlike X [.ref (X.2.2.2.1 0), .ref (X.2.2.2.2 0)] Γ Γ 0 (fun r u => r = 1 ∧ u = (Γ, Γ)) := by
  refine p_start RL (by decide) rfl rfl (Nat.le_of_ble_eq_true rfl) ?_
  intro p e s m args below meth c ls S hr hlk hTh hNc hW hl
  have hx := S.1
  have hb := S.2.1
  have hl : lv_has ls 4 [(0, .ref (X.2.2.2.1 0)), (1, .ref (X.2.2.2.2 0))] := hl
  have hno := hG.1.no
  have hnt := hG.1.nt
  refine lv_aload_n hx hb dL_areAlike_0 rfl (lv_at hl 0 rfl) ?_
  refine p_V (rm := rmX3_ports) (As := []) (Γ' := Γ) (rest := []) S (fun E N F hR => c_X3_ports l E N F xo0 Γ hG.1 hR) (cwV 0 S.2.2.2.2 gL_areAlike_X3_ports rfl rfl rfl (by decide +kernel) ⟨Nat.le_of_ble_eq_true rfl, Nat.le_of_ble_eq_true rfl⟩) hW rfl rfl hl.1 (Nat.le_of_ble_eq_true rfl) dL_areAlike_1 ⟨Nat.le_of_ble_eq_true rfl, Nat.le_of_ble_eq_true rfl⟩ (fun r1 H locs hq1 hW => ?_)
  obtain rfl := hq1
  refine lv_aload_n hx hb dL_areAlike_4 rfl (lv_at hl 1 rfl) ?_
  refine p_Vq (rm := rmX3_ports) (As := []) (Γ' := Γ) (rest := [.int (nI (gNo Γ))]) S (fun E N F hR => c_X3_ports l E N F xo0 Γ hG.1 hR) (cwV 0 S.2.2.2.2 gL_areAlike_X3_ports rfl rfl rfl (by decide +kernel) ⟨Nat.le_of_ble_eq_true rfl, Nat.le_of_ble_eq_true rfl⟩) hW rfl rfl hl.1 (Nat.le_of_ble_eq_true rfl) dL_areAlike_5 ⟨Nat.le_of_ble_eq_true rfl, Nat.le_of_ble_eq_true rfl⟩ (fun r5 H locs hq5 hW => ?_)
  obtain rfl := hq5
  refine lv_icmp_ne (tgt := 70) hx hb dL_areAlike_8 (by decide) (fun c8 => ?_) (fun c8 => ?_)
  · exact absurd rfl c8
  refine lv_aload_n hx hb dL_areAlike_11 rfl (lv_at hl 0 rfl) ?_
  refine p_V (rm := rmX3_trunks) (As := []) (Γ' := Γ) (rest := []) S (fun E N F hR => c_X3_trunks l E N F xo0 Γ hG.1 hR) (cwV 0 S.2.2.2.2 gL_areAlike_X3_trunks rfl rfl rfl (by decide +kernel) ⟨Nat.le_of_ble_eq_true rfl, Nat.le_of_ble_eq_true rfl⟩) hW rfl rfl hl.1 (Nat.le_of_ble_eq_true rfl) dL_areAlike_12 ⟨Nat.le_of_ble_eq_true rfl, Nat.le_of_ble_eq_true rfl⟩ (fun r12 H locs hq12 hW => ?_)
  obtain rfl := hq12
  refine lv_aload_n hx hb dL_areAlike_15 rfl (lv_at hl 1 rfl) ?_
  refine p_Vq (rm := rmX3_trunks) (As := []) (Γ' := Γ) (rest := [.int (nI (gNt Γ))]) S (fun E N F hR => c_X3_trunks l E N F xo0 Γ hG.1 hR) (cwV 0 S.2.2.2.2 gL_areAlike_X3_trunks rfl rfl rfl (by decide +kernel) ⟨Nat.le_of_ble_eq_true rfl, Nat.le_of_ble_eq_true rfl⟩) hW rfl rfl hl.1 (Nat.le_of_ble_eq_true rfl) dL_areAlike_16 ⟨Nat.le_of_ble_eq_true rfl, Nat.le_of_ble_eq_true rfl⟩ (fun r16 H locs hq16 hW => ?_)
  obtain rfl := hq16
  refine lv_icmp_ne (tgt := 70) hx hb dL_areAlike_19 (by decide) (fun c19 => ?_) (fun c19 => ?_)
  · exact absurd rfl c19
  refine lv_aload_n hx hb dL_areAlike_22 rfl (lv_at hl 0 rfl) ?_
  refine p_V (rm := rmX3_cables) (As := []) (Γ' := Γ) (rest := []) S (fun E N F hR => c_X3_cables l E N F xo0 Γ hG.1 hR) (cwV 0 S.2.2.2.2 gL_areAlike_X3_cables rfl rfl rfl (by decide +kernel) ⟨Nat.le_of_ble_eq_true rfl, Nat.le_of_ble_eq_true rfl⟩) hW rfl rfl hl.1 (Nat.le_of_ble_eq_true rfl) dL_areAlike_23 ⟨Nat.le_of_ble_eq_true rfl, Nat.le_of_ble_eq_true rfl⟩ (fun r23 H locs hq23 hW => ?_)
  obtain rfl := hq23
  refine lv_aload_n hx hb dL_areAlike_26 rfl (lv_at hl 1 rfl) ?_
  refine p_Vq (rm := rmX3_cables) (As := []) (Γ' := Γ) (rest := [.int (nI (xcnt (fun q => nI q < gCb Γ q) (gNo Γ)))]) S (fun E N F hR => c_X3_cables l E N F xo0 Γ hG.1 hR) (cwV 0 S.2.2.2.2 gL_areAlike_X3_cables rfl rfl rfl (by decide +kernel) ⟨Nat.le_of_ble_eq_true rfl, Nat.le_of_ble_eq_true rfl⟩) hW rfl rfl hl.1 (Nat.le_of_ble_eq_true rfl) dL_areAlike_27 ⟨Nat.le_of_ble_eq_true rfl, Nat.le_of_ble_eq_true rfl⟩ (fun r27 H locs hq27 hW => ?_)
  obtain rfl := hq27
  refine lv_icmp_ne (tgt := 70) hx hb dL_areAlike_30 (by decide) (fun c30 => ?_) (fun c30 => ?_)
  · exact absurd rfl c30
  refine lv_aload_n hx hb dL_areAlike_33 rfl (lv_at hl 0 rfl) ?_
  refine p_V (rm := rmX3_cableLength) (As := []) (Γ' := Γ) (rest := []) S (fun E N F hR => c_X3_cableLength l E N F xo0 Γ hG.1 hR) (cwV 0 S.2.2.2.2 gL_areAlike_X3_cableLength rfl rfl rfl (by decide +kernel) ⟨Nat.le_of_ble_eq_true rfl, Nat.le_of_ble_eq_true rfl⟩) hW rfl rfl hl.1 (Nat.le_of_ble_eq_true rfl) dL_areAlike_34 ⟨Nat.le_of_ble_eq_true rfl, Nat.le_of_ble_eq_true rfl⟩ (fun r34 H locs hq34 hW => ?_)
  obtain rfl := hq34
  refine lv_aload_n hx hb dL_areAlike_37 rfl (lv_at hl 1 rfl) ?_
  refine p_Vq (rm := rmX3_cableLength) (As := []) (Γ' := Γ) (rest := [.int (gSum Γ (gNo Γ))]) S (fun E N F hR => c_X3_cableLength l E N F xo0 Γ hG.1 hR) (cwV 0 S.2.2.2.2 gL_areAlike_X3_cableLength rfl rfl rfl (by decide +kernel) ⟨Nat.le_of_ble_eq_true rfl, Nat.le_of_ble_eq_true rfl⟩) hW rfl rfl hl.1 (Nat.le_of_ble_eq_true rfl) dL_areAlike_38 ⟨Nat.le_of_ble_eq_true rfl, Nat.le_of_ble_eq_true rfl⟩ (fun r38 H locs hq38 hW => ?_)
  obtain rfl := hq38
  refine lv_icmp_ne (tgt := 70) hx hb dL_areAlike_41 (by decide) (fun c41 => ?_) (fun c41 => ?_)
  · exact absurd rfl c41
  refine lv_aload_n hx hb dL_areAlike_44 rfl (lv_at hl 0 rfl) ?_
  refine p_V (rm := rmX3_lines) (As := []) (Γ' := Γ) (rest := []) S (fun E N F hR => c_X3_lines l E N F xo0 Γ hG.1 hR) (cwV 0 S.2.2.2.2 gL_areAlike_X3_lines rfl rfl rfl (by decide +kernel) ⟨Nat.le_of_ble_eq_true rfl, Nat.le_of_ble_eq_true rfl⟩) hW rfl rfl hl.1 (Nat.le_of_ble_eq_true rfl) dL_areAlike_45 ⟨Nat.le_of_ble_eq_true rfl, Nat.le_of_ble_eq_true rfl⟩ (fun r45 H locs hq45 hW => ?_)
  obtain rfl := hq45
  refine lv_aload_n hx hb dL_areAlike_48 rfl (lv_at hl 1 rfl) ?_
  refine p_Vq (rm := rmX3_lines) (As := []) (Γ' := Γ) (rest := [.int (nI (xcnt (fun q => ∀ z, z < q → ¬ xR (gNo Γ) (gCb Γ) (gOp Γ) z q) (gNo Γ)))]) S (fun E N F hR => c_X3_lines l E N F xo0 Γ hG.1 hR) (cwV 0 S.2.2.2.2 gL_areAlike_X3_lines rfl rfl rfl (by decide +kernel) ⟨Nat.le_of_ble_eq_true rfl, Nat.le_of_ble_eq_true rfl⟩) hW rfl rfl hl.1 (Nat.le_of_ble_eq_true rfl) dL_areAlike_49 ⟨Nat.le_of_ble_eq_true rfl, Nat.le_of_ble_eq_true rfl⟩ (fun r49 H locs hq49 hW => ?_)
  obtain rfl := hq49
  refine lv_icmp_ne (tgt := 70) hx hb dL_areAlike_52 (by decide) (fun c52 => ?_) (fun c52 => ?_)
  · exact absurd rfl c52
  refine lv_aload_n hx hb dL_areAlike_55 rfl (lv_at hl 0 rfl) ?_
  refine p_V (rm := rmX3_canCarryOut) (As := []) (Γ' := Γ) (rest := []) S (fun E N F hR => c_X3_canCarryOut l E N F xo0 Γ hG.1 hR) (cwV 0 S.2.2.2.2 gL_areAlike_X3_canCarryOut rfl rfl rfl (by decide +kernel) ⟨Nat.le_of_ble_eq_true rfl, Nat.le_of_ble_eq_true rfl⟩) hW rfl rfl hl.1 (Nat.le_of_ble_eq_true rfl) dL_areAlike_56 ⟨Nat.le_of_ble_eq_true rfl, Nat.le_of_ble_eq_true rfl⟩ (fun r56 H locs hq56 hW => ?_)
  obtain rfl := hq56
  refine lv_aload_n hx hb dL_areAlike_59 rfl (lv_at hl 1 rfl) ?_
  refine p_Vq (rm := rmX3_canCarryOut) (As := []) (Γ' := Γ) (rest := [.int (xif (gPos Γ) 1 0)]) S (fun E N F hR => c_X3_canCarryOut l E N F xo0 Γ hG.1 hR) (cwV 0 S.2.2.2.2 gL_areAlike_X3_canCarryOut rfl rfl rfl (by decide +kernel) ⟨Nat.le_of_ble_eq_true rfl, Nat.le_of_ble_eq_true rfl⟩) hW rfl rfl hl.1 (Nat.le_of_ble_eq_true rfl) dL_areAlike_60 ⟨Nat.le_of_ble_eq_true rfl, Nat.le_of_ble_eq_true rfl⟩ (fun r60 H locs hq60 hW => ?_)
  obtain rfl := hq60
  refine lv_icmp_ne (tgt := 70) hx hb dL_areAlike_63 (by decide) (fun c63 => ?_) (fun c63 => ?_)
  · exact absurd rfl c63
  refine lv_iconst (v := 1) hx hb dL_areAlike_66 (by decide) ?_
  refine lv_goto (tgt := 71) hx hb dL_areAlike_67 (by decide) ?_
  refine lv_istore_n (lv' := [(2, .int 1), (0, .ref (X.2.2.2.1 0)), (1, .ref (X.2.2.2.2 0))]) hx hb dL_areAlike_71 rfl hl (by decide) rfl (fun ls hl => ?_)
  refine lv_iconst (v := 0) hx hb dL_areAlike_72 (by decide) ?_
  refine lv_istore_n (lv' := [(3, .int 0), (2, .int 1), (0, .ref (X.2.2.2.1 0)), (1, .ref (X.2.2.2.2 0))]) hx hb dL_areAlike_73 rfl hl (by decide) rfl (fun ls hl => ?_)
  have L74 : ∀ (fu74 : Nat) (i : Nat) (hμ74 : gNo Γ + 1 - i < fu74) (hi : i ≤ gNo Γ) (H : Heap) (locs : List Loc) (ls : Array Slot), pSt X Γ Γ s s.heap H locs → lv_has ls 4 [(0, .ref (X.2.2.2.1 0)), (1, .ref (X.2.2.2.2 0)), (2, .int 1), (3, .int (nI i))] → W p l e rmL_areAlike s m args below meth c H locs 0 0 (vx_MQ below (va_Qi (fun r u => r = 1 ∧ u = (Γ, Γ)) (pWd X) (xAF X)) (pPx X) args s 0 (6 * 0) (xAF X)) (F0 m 74 ls []) := by
    intro fu74
    induction fu74 with
    | zero => intro i hμ74; exact absurd hμ74 (Nat.not_lt_zero _)
    | succ fu74 L74 =>
      intro i hμ74 hi H locs ls hW hl
      refine lv_iload_n hx hb dL_areAlike_74 rfl (lv_at hl 3 rfl) ?_
      refine lv_aload_n hx hb dL_areAlike_75 rfl (lv_at hl 0 rfl) ?_
      refine p_V (rm := rmX3_ports) (As := []) (Γ' := Γ) (rest := [.int (nI i)]) S (fun E N F hR => c_X3_ports l E N F xo0 Γ hG.1 hR) (cwV 0 S.2.2.2.2 gL_areAlike_X3_ports rfl rfl rfl (by decide +kernel) ⟨Nat.le_of_ble_eq_true rfl, Nat.le_of_ble_eq_true rfl⟩) hW rfl rfl hl.1 (Nat.le_of_ble_eq_true rfl) dL_areAlike_76 ⟨Nat.le_of_ble_eq_true rfl, Nat.le_of_ble_eq_true rfl⟩ (fun r76 H locs hq76 hW => ?_)
      obtain rfl := hq76
      refine x_icmp_ge (a := i) (b := gNo Γ) (tgt := 165) hx hb dL_areAlike_79 (by decide) (by omega) (by omega) (fun c79 => ?_) (fun c79 => ?_)
      · refine lv_iload_n hx hb dL_areAlike_165 rfl (lv_at hl 2 rfl) ?_
        exact p_rz S hr hlk hW (Nat.le_of_ble_eq_true rfl) (Nat.le_of_ble_eq_true rfl) dL_areAlike_166 (Or.inr rfl) (⟨rfl, rfl⟩)
      · refine lv_iload_n hx hb dL_areAlike_82 rfl (lv_at hl 2 rfl) ?_
        refine lv_if_eq (tgt := 165) hx hb dL_areAlike_83 (by decide) (fun c83 => ?_) (fun c83 => ?_)
        · exact absurd c83 (by decide)
        refine lv_aload_n hx hb dL_areAlike_86 rfl (lv_at hl 0 rfl) ?_
        refine lv_iload_n hx hb dL_areAlike_87 rfl (lv_at hl 3 rfl) ?_
        refine p_V (rm := rm0X3_byCable) (As := [.int (nI i)]) (Γ' := Γ) (rest := []) S (fun E N F hR => c0_X3_byCable l E N F xo0 Γ hG.1 hR (p2 := i) (by omega)) (cwV 1 S.2.2.2.2 gL_areAlike_X3_byCable rfl rfl rfl (by decide +kernel) ⟨Nat.le_of_ble_eq_true rfl, Nat.le_of_ble_eq_true rfl⟩) hW rfl rfl hl.1 (Nat.le_of_ble_eq_true rfl) dL_areAlike_88 ⟨Nat.le_of_ble_eq_true rfl, Nat.le_of_ble_eq_true rfl⟩ (fun r88 H locs hq88 hW => ?_)
        obtain rfl := hq88
        refine lv_aload_n hx hb dL_areAlike_91 rfl (lv_at hl 1 rfl) ?_
        refine lv_iload_n hx hb dL_areAlike_92 rfl (lv_at hl 3 rfl) ?_
        refine p_Vq (rm := rm0X3_byCable) (As := [.int (nI i)]) (Γ' := Γ) (rest := [.int (gCb Γ i)]) S (fun E N F hR => c0_X3_byCable l E N F xo0 Γ hG.1 hR (p2 := i) (by omega)) (cwV 1 S.2.2.2.2 gL_areAlike_X3_byCable rfl rfl rfl (by decide +kernel) ⟨Nat.le_of_ble_eq_true rfl, Nat.le_of_ble_eq_true rfl⟩) hW rfl rfl hl.1 (Nat.le_of_ble_eq_true rfl) dL_areAlike_93 ⟨Nat.le_of_ble_eq_true rfl, Nat.le_of_ble_eq_true rfl⟩ (fun r93 H locs hq93 hW => ?_)
        obtain rfl := hq93
        refine lv_icmp_ne (tgt := 157) hx hb dL_areAlike_96 (by decide) (fun c96 => ?_) (fun c96 => ?_)
        · exact absurd rfl c96
        refine lv_aload_n hx hb dL_areAlike_99 rfl (lv_at hl 0 rfl) ?_
        refine lv_iload_n hx hb dL_areAlike_100 rfl (lv_at hl 3 rfl) ?_
        refine p_V (rm := rm0X3_byStrand) (As := [.int (nI i)]) (Γ' := Γ) (rest := []) S (fun E N F hR => c0_X3_byStrand l E N F xo0 Γ hG.1 hR (p2 := i) (by omega)) (cwV 1 S.2.2.2.2 gL_areAlike_X3_byStrand rfl rfl rfl (by decide +kernel) ⟨Nat.le_of_ble_eq_true rfl, Nat.le_of_ble_eq_true rfl⟩) hW rfl rfl hl.1 (Nat.le_of_ble_eq_true rfl) dL_areAlike_101 ⟨Nat.le_of_ble_eq_true rfl, Nat.le_of_ble_eq_true rfl⟩ (fun r101 H locs hq101 hW => ?_)
        obtain rfl := hq101
        refine lv_aload_n hx hb dL_areAlike_104 rfl (lv_at hl 1 rfl) ?_
        refine lv_iload_n hx hb dL_areAlike_105 rfl (lv_at hl 3 rfl) ?_
        refine p_Vq (rm := rm0X3_byStrand) (As := [.int (nI i)]) (Γ' := Γ) (rest := [.int (gSt Γ i)]) S (fun E N F hR => c0_X3_byStrand l E N F xo0 Γ hG.1 hR (p2 := i) (by omega)) (cwV 1 S.2.2.2.2 gL_areAlike_X3_byStrand rfl rfl rfl (by decide +kernel) ⟨Nat.le_of_ble_eq_true rfl, Nat.le_of_ble_eq_true rfl⟩) hW rfl rfl hl.1 (Nat.le_of_ble_eq_true rfl) dL_areAlike_106 ⟨Nat.le_of_ble_eq_true rfl, Nat.le_of_ble_eq_true rfl⟩ (fun r106 H locs hq106 hW => ?_)
        obtain rfl := hq106
        refine lv_icmp_ne (tgt := 157) hx hb dL_areAlike_109 (by decide) (fun c109 => ?_) (fun c109 => ?_)
        · exact absurd rfl c109
        refine lv_aload_n hx hb dL_areAlike_112 rfl (lv_at hl 0 rfl) ?_
        refine lv_iload_n hx hb dL_areAlike_113 rfl (lv_at hl 3 rfl) ?_
        refine p_V (rm := rm0X3_colour) (As := [.int (nI i)]) (Γ' := Γ) (rest := []) S (fun E N F hR => c0_X3_colour l E N F xo0 Γ hG.1 hR (p2 := i) (by omega)) (cwV 1 S.2.2.2.2 gL_areAlike_X3_colour rfl rfl rfl (by decide +kernel) ⟨Nat.le_of_ble_eq_true rfl, Nat.le_of_ble_eq_true rfl⟩) hW rfl rfl hl.1 (Nat.le_of_ble_eq_true rfl) dL_areAlike_114 ⟨Nat.le_of_ble_eq_true rfl, Nat.le_of_ble_eq_true rfl⟩ (fun r114 H locs hq114 hW => ?_)
        obtain rfl := hq114
        refine lv_aload_n hx hb dL_areAlike_117 rfl (lv_at hl 1 rfl) ?_
        refine lv_iload_n hx hb dL_areAlike_118 rfl (lv_at hl 3 rfl) ?_
        refine p_Vq (rm := rm0X3_colour) (As := [.int (nI i)]) (Γ' := Γ) (rest := [.int (gCl Γ i)]) S (fun E N F hR => c0_X3_colour l E N F xo0 Γ hG.1 hR (p2 := i) (by omega)) (cwV 1 S.2.2.2.2 gL_areAlike_X3_colour rfl rfl rfl (by decide +kernel) ⟨Nat.le_of_ble_eq_true rfl, Nat.le_of_ble_eq_true rfl⟩) hW rfl rfl hl.1 (Nat.le_of_ble_eq_true rfl) dL_areAlike_119 ⟨Nat.le_of_ble_eq_true rfl, Nat.le_of_ble_eq_true rfl⟩ (fun r119 H locs hq119 hW => ?_)
        obtain rfl := hq119
        refine lv_icmp_ne (tgt := 157) hx hb dL_areAlike_122 (by decide) (fun c122 => ?_) (fun c122 => ?_)
        · exact absurd rfl c122
        refine lv_aload_n hx hb dL_areAlike_125 rfl (lv_at hl 0 rfl) ?_
        refine lv_iload_n hx hb dL_areAlike_126 rfl (lv_at hl 3 rfl) ?_
        refine p_V (rm := rm0X3_panelOf) (As := [.int (nI i)]) (Γ' := Γ) (rest := []) S (fun E N F hR => c0_X3_panelOf l E N F xo0 Γ hG.1 hR (p2 := i) (by omega)) (cwV 1 S.2.2.2.2 gL_areAlike_X3_panelOf rfl rfl rfl (by decide +kernel) ⟨Nat.le_of_ble_eq_true rfl, Nat.le_of_ble_eq_true rfl⟩) hW rfl rfl hl.1 (Nat.le_of_ble_eq_true rfl) dL_areAlike_127 ⟨Nat.le_of_ble_eq_true rfl, Nat.le_of_ble_eq_true rfl⟩ (fun r127 H locs hq127 hW => ?_)
        obtain rfl := hq127
        refine lv_aload_n hx hb dL_areAlike_130 rfl (lv_at hl 1 rfl) ?_
        refine lv_iload_n hx hb dL_areAlike_131 rfl (lv_at hl 3 rfl) ?_
        refine p_Vq (rm := rm0X3_panelOf) (As := [.int (nI i)]) (Γ' := Γ) (rest := [.int (nI (gPn Γ i))]) S (fun E N F hR => c0_X3_panelOf l E N F xo0 Γ hG.1 hR (p2 := i) (by omega)) (cwV 1 S.2.2.2.2 gL_areAlike_X3_panelOf rfl rfl rfl (by decide +kernel) ⟨Nat.le_of_ble_eq_true rfl, Nat.le_of_ble_eq_true rfl⟩) hW rfl rfl hl.1 (Nat.le_of_ble_eq_true rfl) dL_areAlike_132 ⟨Nat.le_of_ble_eq_true rfl, Nat.le_of_ble_eq_true rfl⟩ (fun r132 H locs hq132 hW => ?_)
        obtain rfl := hq132
        refine lv_icmp_ne (tgt := 157) hx hb dL_areAlike_135 (by decide) (fun c135 => ?_) (fun c135 => ?_)
        · exact absurd rfl c135
        refine lv_aload_n hx hb dL_areAlike_138 rfl (lv_at hl 0 rfl) ?_
        refine lv_iload_n hx hb dL_areAlike_139 rfl (lv_at hl 3 rfl) ?_
        refine lv_iconst (v := 0) hx hb dL_areAlike_140 (by decide) ?_
        refine p_V (rm := rm0X3_lengthOf) (As := [.int (nI i), .int (bz false)]) (Γ' := Γ) (rest := []) S (fun E N F hR => c0_X3_lengthOf l E N F xo0 Γ hG.1 hR (p2 := i) (by omega) false) (cwV 2 S.2.2.2.2 gL_areAlike_X3_lengthOf rfl rfl rfl (by decide +kernel) ⟨Nat.le_of_ble_eq_true rfl, Nat.le_of_ble_eq_true rfl⟩) hW rfl rfl hl.1 (Nat.le_of_ble_eq_true rfl) dL_areAlike_141 ⟨Nat.le_of_ble_eq_true rfl, Nat.le_of_ble_eq_true rfl⟩ (fun r141 H locs hq141 hW => ?_)
        obtain ⟨K141, hS141, rfl⟩ := hq141
        refine lv_aload_n hx hb dL_areAlike_144 rfl (lv_at hl 1 rfl) ?_
        refine lv_iload_n hx hb dL_areAlike_145 rfl (lv_at hl 3 rfl) ?_
        refine lv_iconst (v := 0) hx hb dL_areAlike_146 (by decide) ?_
        refine p_Vq (rm := rm0X3_lengthOf) (As := [.int (nI i), .int (bz false)]) (Γ' := Γ) (rest := [.int (gLen Γ false i K141)]) S (fun E N F hR => c0_X3_lengthOf l E N F xo0 Γ hG.1 hR (p2 := i) (by omega) false) (cwV 2 S.2.2.2.2 gL_areAlike_X3_lengthOf rfl rfl rfl (by decide +kernel) ⟨Nat.le_of_ble_eq_true rfl, Nat.le_of_ble_eq_true rfl⟩) hW rfl rfl hl.1 (Nat.le_of_ble_eq_true rfl) dL_areAlike_147 ⟨Nat.le_of_ble_eq_true rfl, Nat.le_of_ble_eq_true rfl⟩ (fun r147 H locs hq147 hW => ?_)
        obtain ⟨K147, hS147, rfl⟩ := hq147
        obtain rfl := hS141.uniq hS147
        refine lv_icmp_ne (tgt := 157) hx hb dL_areAlike_150 (by decide) (fun c150 => ?_) (fun c150 => ?_)
        · exact absurd rfl c150
        refine lv_iconst (v := 1) hx hb dL_areAlike_153 (by decide) ?_
        refine lv_goto (tgt := 158) hx hb dL_areAlike_154 (by decide) ?_
        refine lv_istore_n (lv' := [(2, .int 1), (0, .ref (X.2.2.2.1 0)), (1, .ref (X.2.2.2.2 0)), (3, .int (nI i))]) hx hb dL_areAlike_158 rfl hl (by decide) rfl (fun ls hl => ?_)
        refine lv_iinc (v := (nI (i + 1))) (lv' := [(3, .int (nI (i + 1))), (2, .int 1), (0, .ref (X.2.2.2.1 0)), (1, .ref (X.2.2.2.2 0))]) hx hb dL_areAlike_159 hl (k := 3) rfl (x_inc _) (by decide) rfl (fun ls hl => ?_)
        refine lv_goto (tgt := 74) hx hb dL_areAlike_162 (by decide) ?_
        exact L74  (i + 1) (by omega) (by omega) _ _ _ hW (lv_sub hl [2, 3, 1, 0] rfl)
  exact L74 _ (0) (Nat.lt_succ_self _) (by omega) _ _ _ hW (lv_sub hl [2, 3, 1, 0] rfl)

abbrev rmL_arePortsSo : Room := { frames := 9, cells := 12, slots := 72, locals := 149 }
set_option maxHeartbeats 4000000 in
set_option maxRecDepth 100000 in
theorem c_L_arePortsSo (l : Launch) (E : xE) (hfl : l.stackTraces = false) (Γ : xG) (hG : xGd Γ) : gL l yL_arePortsSo wsL_arePortsSo rmL_arePortsSo E [.ref (E.2.2.2 0)] Γ 12 (fun r Γ' => r = 1 ∧ Γ' = Γ) := by
  refine g_start RL (by decide) rfl rfl (Nat.le_of_ble_eq_true rfl) ?_
  intro p e s m args below meth c ls S hr hlk hTh hNc hW hl
  have hx := S.1
  have hb := S.2.1
  have hl : lv_has ls 8 [(0, .ref (E.2.2.2 0))] := hl
  have hno := hG.1.no
  have hnt := hG.1.nt
  refine lv_iconst (v := 0) hx hb dL_arePortsSo_0 (by decide) ?_
  refine lv_istore_n (lv' := [(1, .int 0), (0, .ref (E.2.2.2 0))]) hx hb dL_arePortsSo_1 rfl hl (by decide) rfl (fun ls hl => ?_)
  refine lv_iconst (v := 0) hx hb dL_arePortsSo_2 (by decide) ?_
  refine lv_istore_n (lv' := [(2, .int 0), (1, .int 0), (0, .ref (E.2.2.2 0))]) hx hb dL_arePortsSo_3 rfl hl (by decide) rfl (fun ls hl => ?_)
  refine lv_iconst (v := 0) hx hb dL_arePortsSo_4 (by decide) ?_
  refine lv_istore_n (lv' := [(3, .int 0), (2, .int 0), (1, .int 0), (0, .ref (E.2.2.2 0))]) hx hb dL_arePortsSo_5 rfl hl (by decide) rfl (fun ls hl => ?_)
  have L6 : ∀ (fu6 : Nat) (i : Nat) (hμ6 : gNo Γ + 1 - i < fu6) (hi : i ≤ gNo Γ) (H : Heap) (locs : List Loc) (ls : Array Slot), bSt E Γ s s.heap H locs → lv_has ls 8 [(0, .ref (E.2.2.2 0)), (1, .int (nI (xcnt (fun q => gCb Γ q ≠ -1) i))), (2, .int (nI (xpv Γ i))), (3, .int (nI i))] → W p l e rmL_arePortsSo s m args below meth c H locs 0 0 (vx_MQ below (va_Qi (fun r Γ' => r = 1 ∧ Γ' = Γ) (bWd E) (xA E)) (gPx E) args s 12 (6 * 12) (xA E)) (F0 m 6 ls []) := by
    intro fu6
    induction fu6 with
    | zero => intro i hμ6; exact absurd hμ6 (Nat.not_lt_zero _)
    | succ fu6 L6 =>
      intro i hμ6 hi H locs ls hW hl
      have hx9 := xcnt_le (fun q => gCb Γ q ≠ -1) i
      have hv9 := xpn_lt hG.1 i hi
      refine lv_iload_n hx hb dL_arePortsSo_6 rfl (lv_at hl 3 rfl) ?_
      refine lv_aload_n hx hb dL_arePortsSo_7 rfl (lv_at hl 0 rfl) ?_
      refine y_V (rm := rmX3_ports) (As := []) (Γ' := Γ) (rest := [.int (nI i)]) S (fun N F hR => c_X3_ports l E N F xo0 Γ hG.1 hR) (cwV 0 S.2.2.2.2 gL_arePortsSo_X3_ports rfl rfl rfl (by decide +kernel) ⟨Nat.le_of_ble_eq_true rfl, Nat.le_of_ble_eq_true rfl⟩) hW rfl rfl hl.1 (Nat.le_of_ble_eq_true rfl) dL_arePortsSo_8 ⟨Nat.le_of_ble_eq_true rfl, Nat.le_of_ble_eq_true rfl⟩ (fun r8 H locs hq8 hW => ?_)
      obtain rfl := hq8
      refine x_icmp_ge (a := i) (b := gNo Γ) (tgt := 197) hx hb dL_arePortsSo_11 (by decide) (by omega) (by omega) (fun c11 => ?_) (fun c11 => ?_)
      · have hM9 := xmatch2 (no := gNo Γ) (by omega) hG.1.cb
        obtain ⟨S9, hS9, hS91, hS92⟩ := gSum_b hG.1 (gNo Γ) (Nat.le_refl _)
        have hxl := xcnt_le (fun q => nI q < gCb Γ q) (gNo Γ)
        refine lv_iload_n hx hb dL_arePortsSo_197 rfl (lv_at hl 1 rfl) ?_
        refine lv_iconst (v := 2) hx hb dL_arePortsSo_198 (by decide) ?_
        refine lv_aload_n hx hb dL_arePortsSo_199 rfl (lv_at hl 0 rfl) ?_
        refine y_V (rm := rmX3_cables) (As := []) (Γ' := Γ) (rest := [.int 2, .int (nI (xcnt (fun q => gCb Γ q ≠ -1) i))]) S (fun N F hR => c_X3_cables l E N F xo0 Γ hG.1 hR) (cwV 0 S.2.2.2.2 gL_arePortsSo_X3_cables rfl rfl rfl (by decide +kernel) ⟨Nat.le_of_ble_eq_true rfl, Nat.le_of_ble_eq_true rfl⟩) hW rfl rfl hl.1 (Nat.le_of_ble_eq_true rfl) dL_arePortsSo_200 ⟨Nat.le_of_ble_eq_true rfl, Nat.le_of_ble_eq_true rfl⟩ (fun r200 H locs hq200 hW => ?_)
        obtain rfl := hq200
        refine x_imul (a := 2) (b := xcnt (fun q => nI q < gCb Γ q) (gNo Γ)) hx hb dL_arePortsSo_203 ?_
        refine x_icmp_ne (a := xcnt (fun q => gCb Γ q ≠ -1) i) (b := 2 * (xcnt (fun q => nI q < gCb Γ q) (gNo Γ))) (tgt := 236) hx hb dL_arePortsSo_204 (by decide) (by omega) (by omega) (fun c204 => ?_) (fun c204 => ?_)
        · exact absurd (by rw [show i = gNo Γ by omega]; exact hM9) c204
        refine lv_aload_n hx hb dL_arePortsSo_207 rfl (lv_at hl 0 rfl) ?_
        refine y_V (rm := rmX3_cableLength) (As := []) (Γ' := Γ) (rest := []) S (fun N F hR => c_X3_cableLength l E N F xo0 Γ hG.1 hR) (cwV 0 S.2.2.2.2 gL_arePortsSo_X3_cableLength rfl rfl rfl (by decide +kernel) ⟨Nat.le_of_ble_eq_true rfl, Nat.le_of_ble_eq_true rfl⟩) hW rfl rfl hl.1 (Nat.le_of_ble_eq_true rfl) dL_arePortsSo_208 ⟨Nat.le_of_ble_eq_true rfl, Nat.le_of_ble_eq_true rfl⟩ (fun r208 H locs hq208 hW => ?_)
        obtain rfl := hq208
        refine x_topN (S9) (hS9) ?_
        refine lv_aload_n hx hb dL_arePortsSo_211 rfl (lv_at hl 0 rfl) ?_
        refine y_V (rm := rmX3_cables) (As := []) (Γ' := Γ) (rest := [.int (nI S9)]) S (fun N F hR => c_X3_cables l E N F xo0 Γ hG.1 hR) (cwV 0 S.2.2.2.2 gL_arePortsSo_X3_cables rfl rfl rfl (by decide +kernel) ⟨Nat.le_of_ble_eq_true rfl, Nat.le_of_ble_eq_true rfl⟩) hW rfl rfl hl.1 (Nat.le_of_ble_eq_true rfl) dL_arePortsSo_212 ⟨Nat.le_of_ble_eq_true rfl, Nat.le_of_ble_eq_true rfl⟩ (fun r212 H locs hq212 hW => ?_)
        obtain rfl := hq212
        refine x_icmp_lt (a := S9) (b := xcnt (fun q => nI q < gCb Γ q) (gNo Γ)) (tgt := 236) hx hb dL_arePortsSo_215 (by decide) (by omega) (by omega) (fun c215 => ?_) (fun c215 => ?_)
        · exact absurd c215 (by omega)
        refine lv_aload_n hx hb dL_arePortsSo_218 rfl (lv_at hl 0 rfl) ?_
        refine y_V (rm := rmX3_cableLength) (As := []) (Γ' := Γ) (rest := []) S (fun N F hR => c_X3_cableLength l E N F xo0 Γ hG.1 hR) (cwV 0 S.2.2.2.2 gL_arePortsSo_X3_cableLength rfl rfl rfl (by decide +kernel) ⟨Nat.le_of_ble_eq_true rfl, Nat.le_of_ble_eq_true rfl⟩) hW rfl rfl hl.1 (Nat.le_of_ble_eq_true rfl) dL_arePortsSo_219 ⟨Nat.le_of_ble_eq_true rfl, Nat.le_of_ble_eq_true rfl⟩ (fun r219 H locs hq219 hW => ?_)
        obtain rfl := hq219
        refine x_topN (S9) (hS9) ?_
        refine lv_bipush (v := 21) hx hb dL_arePortsSo_222 (by decide) ?_
        refine lv_aload_n hx hb dL_arePortsSo_224 rfl (lv_at hl 0 rfl) ?_
        refine y_V (rm := rmX3_cables) (As := []) (Γ' := Γ) (rest := [.int 21, .int (nI S9)]) S (fun N F hR => c_X3_cables l E N F xo0 Γ hG.1 hR) (cwV 0 S.2.2.2.2 gL_arePortsSo_X3_cables rfl rfl rfl (by decide +kernel) ⟨Nat.le_of_ble_eq_true rfl, Nat.le_of_ble_eq_true rfl⟩) hW rfl rfl hl.1 (Nat.le_of_ble_eq_true rfl) dL_arePortsSo_225 ⟨Nat.le_of_ble_eq_true rfl, Nat.le_of_ble_eq_true rfl⟩ (fun r225 H locs hq225 hW => ?_)
        obtain rfl := hq225
        refine x_imul (a := 21) (b := xcnt (fun q => nI q < gCb Γ q) (gNo Γ)) hx hb dL_arePortsSo_228 ?_
        refine x_icmp_gt (a := S9) (b := 21 * (xcnt (fun q => nI q < gCb Γ q) (gNo Γ))) (tgt := 236) hx hb dL_arePortsSo_229 (by decide) (by omega) (by omega) (fun c229 => ?_) (fun c229 => ?_)
        · exact absurd c229 (by omega)
        refine lv_iconst (v := 1) hx hb dL_arePortsSo_232 (by decide) ?_
        refine lv_goto (tgt := 237) hx hb dL_arePortsSo_233 (by decide) ?_
        refine lv_istore_n (lv' := [(3, .int 1), (0, .ref (E.2.2.2 0)), (1, .int (nI (xcnt (fun q => gCb Γ q ≠ -1) i))), (2, .int (nI (xpv Γ i)))]) hx hb dL_arePortsSo_237 rfl hl (by decide) rfl (fun ls hl => ?_)
        refine lv_iconst (v := 0) hx hb dL_arePortsSo_238 (by decide) ?_
        refine lv_istore (lv' := [(4, .int 0), (3, .int 1), (0, .ref (E.2.2.2 0)), (1, .int (nI (xcnt (fun q => gCb Γ q ≠ -1) i))), (2, .int (nI (xpv Γ i)))]) hx hb dL_arePortsSo_239 hl (by decide) rfl (fun ls hl => ?_)
        have L241 : ∀ (fu241 : Nat) (j : Nat) (hμ241 : 13 - j < fu241) (hj : j ≤ 12) (H : Heap) (locs : List Loc) (ls : Array Slot), bSt E Γ s s.heap H locs → lv_has ls 8 [(0, .ref (E.2.2.2 0)), (3, .int 1), (4, .int (nI j))] → W p l e rmL_arePortsSo s m args below meth c H locs (j) (6 * (j)) (vx_MQ below (va_Qi (fun r Γ' => r = 1 ∧ Γ' = Γ) (bWd E) (xA E)) (gPx E) args s 12 (6 * 12) (xA E)) (F0 m 241 ls []) := by
          intro fu241
          induction fu241 with
          | zero => intro j hμ241; exact absurd hμ241 (Nat.not_lt_zero _)
          | succ fu241 L241 =>
            intro j hμ241 hj H locs ls hW hl
            refine lv_iload hx hb dL_arePortsSo_241 (lv_at hl 2 rfl) ?_
            refine lv_bipush (v := 12) hx hb dL_arePortsSo_243 (by decide) ?_
            refine x_icmp_ge (a := j) (b := 12) (tgt := 306) hx hb dL_arePortsSo_245 (by decide) (by omega) (by omega) (fun c245 => ?_) (fun c245 => ?_)
            · refine lv_iconst (v := 0) hx hb dL_arePortsSo_306 (by decide) ?_
              refine lv_istore (lv' := [(4, .int 0), (0, .ref (E.2.2.2 0)), (3, .int 1)]) hx hb dL_arePortsSo_307 hl (by decide) rfl (fun ls hl => ?_)
              have L309 : ∀ (fu309 : Nat) (t : Nat) (hμ309 : gNt Γ + 1 - t < fu309) (ht : t ≤ gNt Γ) (H : Heap) (locs : List Loc) (ls : Array Slot), bSt E Γ s s.heap H locs → lv_has ls 8 [(0, .ref (E.2.2.2 0)), (3, .int 1), (4, .int (nI t))] → W p l e rmL_arePortsSo s m args below meth c H locs (j) (6 * (j)) (vx_MQ below (va_Qi (fun r Γ' => r = 1 ∧ Γ' = Γ) (bWd E) (xA E)) (gPx E) args s 12 (6 * 12) (xA E)) (F0 m 309 ls []) := by
                intro fu309
                induction fu309 with
                | zero => intro t hμ309; exact absurd hμ309 (Nat.not_lt_zero _)
                | succ fu309 L309 =>
                  intro t hμ309 ht H locs ls hW hl
                  refine lv_iload hx hb dL_arePortsSo_309 (lv_at hl 2 rfl) ?_
                  refine lv_aload_n hx hb dL_arePortsSo_311 rfl (lv_at hl 0 rfl) ?_
                  refine y_V (rm := rmX3_trunks) (As := []) (Γ' := Γ) (rest := [.int (nI t)]) S (fun N F hR => c_X3_trunks l E N F xo0 Γ hG.1 hR) (cwV 0 S.2.2.2.2 gL_arePortsSo_X3_trunks rfl rfl rfl (by decide +kernel) ⟨Nat.le_of_ble_eq_true rfl, Nat.le_of_ble_eq_true rfl⟩) hW rfl rfl hl.1 (Nat.le_of_ble_eq_true rfl) dL_arePortsSo_312 (by show j ≤ 12 ∧ 6 * (j) ≤ 72; omega) (fun r312 H locs hq312 hW => ?_)
                  obtain rfl := hq312
                  refine x_icmp_ge (a := t) (b := gNt Γ) (tgt := 354) hx hb dL_arePortsSo_315 (by decide) (by omega) (by omega) (fun c315 => ?_) (fun c315 => ?_)
                  · refine lv_iload_n hx hb dL_arePortsSo_354 rfl (lv_at hl 1 rfl) ?_
                    exact g_rz S hr hlk hW (by omega) (by omega) dL_arePortsSo_355 (Or.inr rfl) (⟨rfl, rfl⟩)
                  · refine lv_iload_n hx hb dL_arePortsSo_318 rfl (lv_at hl 1 rfl) ?_
                    refine lv_if_eq (tgt := 354) hx hb dL_arePortsSo_319 (by decide) (fun c319 => ?_) (fun c319 => ?_)
                    · exact absurd c319 (by decide)
                    have hu9 := xcnt_le (fun i => gCb Γ (gTa Γ t + i) ≠ -1 ∧ gCb Γ (gTb Γ t + i) ≠ -1) (gTc Γ t)
                    have htt := hG.1.tt t (by omega)
                    refine lv_aload_n hx hb dL_arePortsSo_322 rfl (lv_at hl 0 rfl) ?_
                    refine lv_iload hx hb dL_arePortsSo_323 (lv_at hl 2 rfl) ?_
                    refine y_V (rm := rm0X3_used) (As := [.int (nI t)]) (Γ' := Γ) (rest := []) S (fun N F hR => c0_X3_used l E N F xo0 Γ hG.1 hR (p2 := t) (by omega)) (cwV 1 S.2.2.2.2 gL_arePortsSo_X3_used rfl rfl rfl (by decide +kernel) ⟨Nat.le_of_ble_eq_true rfl, Nat.le_of_ble_eq_true rfl⟩) hW rfl rfl hl.1 (Nat.le_of_ble_eq_true rfl) dL_arePortsSo_325 (by show j ≤ 12 ∧ 6 * (j) ≤ 72; omega) (fun r325 H locs hq325 hW => ?_)
                    obtain rfl := hq325
                    refine x_if_lt (tgt := 346) hx hb dL_arePortsSo_328 (by decide) (by omega) ?_
                    refine lv_aload_n hx hb dL_arePortsSo_331 rfl (lv_at hl 0 rfl) ?_
                    refine lv_iload hx hb dL_arePortsSo_332 (lv_at hl 2 rfl) ?_
                    refine y_V (rm := rm0X3_used) (As := [.int (nI t)]) (Γ' := Γ) (rest := []) S (fun N F hR => c0_X3_used l E N F xo0 Γ hG.1 hR (p2 := t) (by omega)) (cwV 1 S.2.2.2.2 gL_arePortsSo_X3_used rfl rfl rfl (by decide +kernel) ⟨Nat.le_of_ble_eq_true rfl, Nat.le_of_ble_eq_true rfl⟩) hW rfl rfl hl.1 (Nat.le_of_ble_eq_true rfl) dL_arePortsSo_334 (by show j ≤ 12 ∧ 6 * (j) ≤ 72; omega) (fun r334 H locs hq334 hW => ?_)
                    obtain rfl := hq334
                    refine lv_bipush (v := 12) hx hb dL_arePortsSo_337 (by decide) ?_
                    refine x_icmp_gt (a := xcnt (fun i => gCb Γ (gTa Γ t + i) ≠ -1 ∧ gCb Γ (gTb Γ t + i) ≠ -1) (gTc Γ t)) (b := 12) (tgt := 346) hx hb dL_arePortsSo_339 (by decide) (by omega) (by omega) (fun c339 => ?_) (fun c339 => ?_)
                    · exact absurd c339 (by omega)
                    refine lv_iconst (v := 1) hx hb dL_arePortsSo_342 (by decide) ?_
                    refine lv_goto (tgt := 347) hx hb dL_arePortsSo_343 (by decide) ?_
                    refine lv_istore_n (lv' := [(3, .int 1), (0, .ref (E.2.2.2 0)), (4, .int (nI t))]) hx hb dL_arePortsSo_347 rfl hl (by decide) rfl (fun ls hl => ?_)
                    refine lv_iinc (v := (nI (t + 1))) (lv' := [(4, .int (nI (t + 1))), (3, .int 1), (0, .ref (E.2.2.2 0))]) hx hb dL_arePortsSo_348 hl (k := 2) rfl (x_inc _) (by decide) rfl (fun ls hl => ?_)
                    refine lv_goto (tgt := 309) hx hb dL_arePortsSo_351 (by decide) ?_
                    exact W.widen (by omega) (by omega) (L309  (t + 1) (by omega) (by omega) _ _ _ hW (lv_sub hl [2, 1, 0] rfl))
              exact W.widen (by omega) (by omega) (L309 _ (0) (Nat.lt_succ_self _) (by omega) _ _ _ hW (lv_sub hl [1, 2, 0] rfl))
            · refine lv_iload_n hx hb dL_arePortsSo_248 rfl (lv_at hl 1 rfl) ?_
              refine lv_if_eq (tgt := 306) hx hb dL_arePortsSo_249 (by decide) (fun c249 => ?_) (fun c249 => ?_)
              · exact absurd c249 (by decide)
              refine lv_aload_n hx hb dL_arePortsSo_252 rfl (lv_at hl 0 rfl) ?_
              refine lv_iload hx hb dL_arePortsSo_253 (lv_at hl 2 rfl) ?_
              refine y_SX (K := 1) (rm := rmL_freePort) (As := [.ref (E.2.2.2 0), .int (nI j)]) (rest := []) S (c_L_freePort l E hfl Γ hG (nI j)) (vx_cwSW 2 S.2.2.2.2 gL_arePortsSo_L_freePort rfl rfl rfl (by decide +kernel) ⟨Nat.le_of_ble_eq_true rfl, Nat.le_of_ble_eq_true rfl⟩) hW hTh hNc rfl rfl hl.1 (Nat.le_of_ble_eq_true rfl) dL_arePortsSo_255 (by show j + 1 ≤ 12 ∧ 6 * (j) + 6 * 1 ≤ 72; omega) (fun r255 Γ255 H locs hq255 hW => ?_)
              obtain ⟨hq255, eΓ255⟩ := hq255
              obtain rfl := eΓ255.symm
              rcases xfp_ok hG.1 (by omega) hq255 with rfl | rfl | ⟨q9, hq9, rfl, f1, f2, f3⟩
              · refine lv_istore (lv' := [(5, .int (-1)), (0, .ref (E.2.2.2 0)), (3, .int 1), (4, .int (nI j))]) hx hb dL_arePortsSo_258 hl (by decide) rfl (fun ls hl => ?_)
                refine lv_iload hx hb dL_arePortsSo_260 (lv_at hl 0 rfl) ?_
                refine lv_if_lt (tgt := 294) hx hb dL_arePortsSo_262 (by decide) (fun c262 => ?_) (fun c262 => ?_)
                rotate_left
                · exact absurd c262 (by decide)
                refine lv_iconst (v := 1) hx hb dL_arePortsSo_294 (by decide) ?_
                refine lv_goto (tgt := 299) hx hb dL_arePortsSo_295 (by decide) ?_
                refine lv_istore_n (lv' := [(3, .int 1), (5, .int (-1)), (0, .ref (E.2.2.2 0)), (4, .int (nI j))]) hx hb dL_arePortsSo_299 rfl hl (by decide) rfl (fun ls hl => ?_)
                refine lv_iinc (v := (nI (j + 1))) (lv' := [(4, .int (nI (j + 1))), (3, .int 1), (5, .int (-1)), (0, .ref (E.2.2.2 0))]) hx hb dL_arePortsSo_300 hl (k := 3) rfl (x_inc _) (by decide) rfl (fun ls hl => ?_)
                refine lv_goto (tgt := 241) hx hb dL_arePortsSo_303 (by decide) ?_
                exact W.widen (by omega) (by omega) (L241  (j + 1) (by omega) (by omega) _ _ _ hW (lv_sub hl [3, 1, 0] rfl))
              · refine lv_istore (lv' := [(5, .int (-99999)), (0, .ref (E.2.2.2 0)), (3, .int 1), (4, .int (nI j))]) hx hb dL_arePortsSo_258 hl (by decide) rfl (fun ls hl => ?_)
                refine lv_iload hx hb dL_arePortsSo_260 (lv_at hl 0 rfl) ?_
                refine lv_if_lt (tgt := 294) hx hb dL_arePortsSo_262 (by decide) (fun c262 => ?_) (fun c262 => ?_)
                rotate_left
                · exact absurd c262 (by decide)
                refine lv_iconst (v := 1) hx hb dL_arePortsSo_294 (by decide) ?_
                refine lv_goto (tgt := 299) hx hb dL_arePortsSo_295 (by decide) ?_
                refine lv_istore_n (lv' := [(3, .int 1), (5, .int (-99999)), (0, .ref (E.2.2.2 0)), (4, .int (nI j))]) hx hb dL_arePortsSo_299 rfl hl (by decide) rfl (fun ls hl => ?_)
                refine lv_iinc (v := (nI (j + 1))) (lv' := [(4, .int (nI (j + 1))), (3, .int 1), (5, .int (-99999)), (0, .ref (E.2.2.2 0))]) hx hb dL_arePortsSo_300 hl (k := 3) rfl (x_inc _) (by decide) rfl (fun ls hl => ?_)
                refine lv_goto (tgt := 241) hx hb dL_arePortsSo_303 (by decide) ?_
                exact W.widen (by omega) (by omega) (L241  (j + 1) (by omega) (by omega) _ _ _ hW (lv_sub hl [3, 1, 0] rfl))
              · refine lv_istore (lv' := [(5, .int (nI q9)), (0, .ref (E.2.2.2 0)), (3, .int 1), (4, .int (nI j))]) hx hb dL_arePortsSo_258 hl (by decide) rfl (fun ls hl => ?_)
                refine lv_iload hx hb dL_arePortsSo_260 (lv_at hl 0 rfl) ?_
                refine x_if_lt (tgt := 294) hx hb dL_arePortsSo_262 (by decide) (by omega) ?_
                refine lv_aload_n hx hb dL_arePortsSo_265 rfl (lv_at hl 1 rfl) ?_
                refine lv_iload hx hb dL_arePortsSo_266 (lv_at hl 0 rfl) ?_
                refine y_V (rm := rm0X3_byCable) (As := [.int (nI q9)]) (Γ' := Γ) (rest := []) S (fun N F hR => c0_X3_byCable l E N F xo0 Γ hG.1 hR (p2 := q9) (hq9)) (cwV 1 S.2.2.2.2 gL_arePortsSo_X3_byCable rfl rfl rfl (by decide +kernel) ⟨Nat.le_of_ble_eq_true rfl, Nat.le_of_ble_eq_true rfl⟩) hW rfl rfl hl.1 (Nat.le_of_ble_eq_true rfl) dL_arePortsSo_268 (by show j + 1 ≤ 12 ∧ 6 * (j + 1) ≤ 72; omega) (fun r268 H locs hq268 hW => ?_)
                obtain rfl := hq268
                refine x_topE ((-1)) (f1) ?_
                refine lv_if_ge (tgt := 298) hx hb dL_arePortsSo_271 (by decide) (fun c271 => ?_) (fun c271 => ?_)
                · exact absurd c271 (by decide)
                refine lv_aload_n hx hb dL_arePortsSo_274 rfl (lv_at hl 1 rfl) ?_
                refine lv_iload hx hb dL_arePortsSo_275 (lv_at hl 0 rfl) ?_
                refine y_V (rm := rm0X3_byStrand) (As := [.int (nI q9)]) (Γ' := Γ) (rest := []) S (fun N F hR => c0_X3_byStrand l E N F xo0 Γ hG.1 hR (p2 := q9) (hq9)) (cwV 1 S.2.2.2.2 gL_arePortsSo_X3_byStrand rfl rfl rfl (by decide +kernel) ⟨Nat.le_of_ble_eq_true rfl, Nat.le_of_ble_eq_true rfl⟩) hW rfl rfl hl.1 (Nat.le_of_ble_eq_true rfl) dL_arePortsSo_277 (by show j + 1 ≤ 12 ∧ 6 * (j + 1) ≤ 72; omega) (fun r277 H locs hq277 hW => ?_)
                obtain rfl := hq277
                refine x_topE ((-1)) (f2) ?_
                refine lv_if_ge (tgt := 298) hx hb dL_arePortsSo_280 (by decide) (fun c280 => ?_) (fun c280 => ?_)
                · exact absurd c280 (by decide)
                refine lv_aload_n hx hb dL_arePortsSo_283 rfl (lv_at hl 1 rfl) ?_
                refine lv_iload hx hb dL_arePortsSo_284 (lv_at hl 0 rfl) ?_
                refine y_V (rm := rm0X3_panelOf) (As := [.int (nI q9)]) (Γ' := Γ) (rest := []) S (fun N F hR => c0_X3_panelOf l E N F xo0 Γ hG.1 hR (p2 := q9) (hq9)) (cwV 1 S.2.2.2.2 gL_arePortsSo_X3_panelOf rfl rfl rfl (by decide +kernel) ⟨Nat.le_of_ble_eq_true rfl, Nat.le_of_ble_eq_true rfl⟩) hW rfl rfl hl.1 (Nat.le_of_ble_eq_true rfl) dL_arePortsSo_286 (by show j + 1 ≤ 12 ∧ 6 * (j + 1) ≤ 72; omega) (fun r286 H locs hq286 hW => ?_)
                obtain rfl := hq286
                refine x_topN (j) (by rw [f3]) ?_
                refine lv_iload hx hb dL_arePortsSo_289 (lv_at hl 3 rfl) ?_
                refine lv_icmp_ne (tgt := 298) hx hb dL_arePortsSo_291 (by decide) (fun c291 => ?_) (fun c291 => ?_)
                · exact absurd rfl c291
                refine lv_iconst (v := 1) hx hb dL_arePortsSo_294 (by decide) ?_
                refine lv_goto (tgt := 299) hx hb dL_arePortsSo_295 (by decide) ?_
                refine lv_istore_n (lv' := [(3, .int 1), (5, .int (nI q9)), (0, .ref (E.2.2.2 0)), (4, .int (nI j))]) hx hb dL_arePortsSo_299 rfl hl (by decide) rfl (fun ls hl => ?_)
                refine lv_iinc (v := (nI (j + 1))) (lv' := [(4, .int (nI (j + 1))), (3, .int 1), (5, .int (nI q9)), (0, .ref (E.2.2.2 0))]) hx hb dL_arePortsSo_300 hl (k := 3) rfl (x_inc _) (by decide) rfl (fun ls hl => ?_)
                refine lv_goto (tgt := 241) hx hb dL_arePortsSo_303 (by decide) ?_
                exact W.widen (by omega) (by omega) (L241  (j + 1) (by omega) (by omega) _ _ _ hW (lv_sub hl [3, 1, 0] rfl))
        exact W.widen (by omega) (by omega) (L241 _ (0) (Nat.lt_succ_self _) (by omega) _ _ _ hW (lv_sub hl [2, 1, 0] rfl))
      · have hpi := (hG.1.pn i (by omega)).1
        have hnp := hG.1.np
        have hpx := xpn_ok hG.1 (i := i) (by omega)
        refine lv_aload_n hx hb dL_arePortsSo_14 rfl (lv_at hl 0 rfl) ?_
        refine lv_iload_n hx hb dL_arePortsSo_15 rfl (lv_at hl 3 rfl) ?_
        refine y_V (rm := rm0X3_byCable) (As := [.int (nI i)]) (Γ' := Γ) (rest := []) S (fun N F hR => c0_X3_byCable l E N F xo0 Γ hG.1 hR (p2 := i) (by omega)) (cwV 1 S.2.2.2.2 gL_arePortsSo_X3_byCable rfl rfl rfl (by decide +kernel) ⟨Nat.le_of_ble_eq_true rfl, Nat.le_of_ble_eq_true rfl⟩) hW rfl rfl hl.1 (Nat.le_of_ble_eq_true rfl) dL_arePortsSo_16 ⟨Nat.le_of_ble_eq_true rfl, Nat.le_of_ble_eq_true rfl⟩ (fun r16 H locs hq16 hW => ?_)
        obtain rfl := hq16
        rcases hG.1.cb i (by omega) with e4 | ⟨q4, hq4, hn4, e4, b4⟩
        · refine x_topE ((-1)) (e4) ?_
          refine lv_istore (lv' := [(4, .int (-1)), (0, .ref (E.2.2.2 0)), (1, .int (nI (xcnt (fun q => gCb Γ q ≠ -1) i))), (2, .int (nI (xpv Γ i))), (3, .int (nI i))]) hx hb dL_arePortsSo_19 hl (by decide) rfl (fun ls hl => ?_)
          refine lv_aload_n hx hb dL_arePortsSo_21 rfl (lv_at hl 1 rfl) ?_
          refine lv_iload_n hx hb dL_arePortsSo_22 rfl (lv_at hl 4 rfl) ?_
          refine y_V (rm := rm0X3_byStrand) (As := [.int (nI i)]) (Γ' := Γ) (rest := []) S (fun N F hR => c0_X3_byStrand l E N F xo0 Γ hG.1 hR (p2 := i) (by omega)) (cwV 1 S.2.2.2.2 gL_arePortsSo_X3_byStrand rfl rfl rfl (by decide +kernel) ⟨Nat.le_of_ble_eq_true rfl, Nat.le_of_ble_eq_true rfl⟩) hW rfl rfl hl.1 (Nat.le_of_ble_eq_true rfl) dL_arePortsSo_23 ⟨Nat.le_of_ble_eq_true rfl, Nat.le_of_ble_eq_true rfl⟩ (fun r23 H locs hq23 hW => ?_)
          obtain rfl := hq23
          rcases hG.1.st i (by omega) with e5 | ⟨q5, hq5, hn5, e5, b5⟩
          · refine x_topE ((-1)) (e5) ?_
            refine lv_istore (lv' := [(5, .int (-1)), (4, .int (-1)), (0, .ref (E.2.2.2 0)), (1, .int (nI (xcnt (fun q => gCb Γ q ≠ -1) i))), (2, .int (nI (xpv Γ i))), (3, .int (nI i))]) hx hb dL_arePortsSo_26 hl (by decide) rfl (fun ls hl => ?_)
            refine lv_iload hx hb dL_arePortsSo_28 (lv_at hl 1 rfl) ?_
            refine lv_if_ge (tgt := 49) hx hb dL_arePortsSo_30 (by decide) (fun c30 => ?_) (fun c30 => ?_)
            · exact absurd c30 (by decide)
            refine lv_aload_n hx hb dL_arePortsSo_33 rfl (lv_at hl 2 rfl) ?_
            refine lv_iload_n hx hb dL_arePortsSo_34 rfl (lv_at hl 5 rfl) ?_
            refine y_V (rm := rm0X3_colour) (As := [.int (nI i)]) (Γ' := Γ) (rest := []) S (fun N F hR => c0_X3_colour l E N F xo0 Γ hG.1 hR (p2 := i) (by omega)) (cwV 1 S.2.2.2.2 gL_arePortsSo_X3_colour rfl rfl rfl (by decide +kernel) ⟨Nat.le_of_ble_eq_true rfl, Nat.le_of_ble_eq_true rfl⟩) hW rfl rfl hl.1 (Nat.le_of_ble_eq_true rfl) dL_arePortsSo_35 ⟨Nat.le_of_ble_eq_true rfl, Nat.le_of_ble_eq_true rfl⟩ (fun r35 H locs hq35 hW => ?_)
            obtain rfl := hq35
            refine x_topE (0) (hG.1.cl i e4) ?_
            refine lv_if_ne (tgt := 45) hx hb dL_arePortsSo_38 (by decide) (fun c38 => ?_) (fun c38 => ?_)
            · exact absurd c38 (by decide)
            refine lv_iconst (v := 1) hx hb dL_arePortsSo_41 (by decide) ?_
            refine lv_goto (tgt := 102) hx hb dL_arePortsSo_42 (by decide) ?_
            refine lv_istore (lv' := [(6, .int 1), (5, .int (-1)), (4, .int (-1)), (0, .ref (E.2.2.2 0)), (1, .int (nI (xcnt (fun q => gCb Γ q ≠ -1) i))), (2, .int (nI (xpv Γ i))), (3, .int (nI i))]) hx hb dL_arePortsSo_102 hl (by decide) rfl (fun ls hl => ?_)
            refine lv_iload hx hb dL_arePortsSo_104 (lv_at hl 1 rfl) ?_
            refine lv_if_lt (tgt := 133) hx hb dL_arePortsSo_106 (by decide) (fun c106 => ?_) (fun c106 => ?_)
            rotate_left
            · exact absurd c106 (by decide)
            refine lv_iconst (v := 1) hx hb dL_arePortsSo_133 (by decide) ?_
            refine lv_goto (tgt := 138) hx hb dL_arePortsSo_134 (by decide) ?_
            refine lv_istore (lv' := [(7, .int 1), (6, .int 1), (5, .int (-1)), (4, .int (-1)), (0, .ref (E.2.2.2 0)), (1, .int (nI (xcnt (fun q => gCb Γ q ≠ -1) i))), (2, .int (nI (xpv Γ i))), (3, .int (nI i))]) hx hb dL_arePortsSo_138 hl (by decide) rfl (fun ls hl => ?_)
            refine lv_iload hx hb dL_arePortsSo_140 (lv_at hl 1 rfl) ?_
            refine lv_if_eq (tgt := 170) hx hb dL_arePortsSo_142 (by decide) (fun c142 => ?_) (fun c142 => ?_)
            · exact absurd c142 (by decide)
            refine lv_iload hx hb dL_arePortsSo_145 (lv_at hl 0 rfl) ?_
            refine lv_if_eq (tgt := 170) hx hb dL_arePortsSo_147 (by decide) (fun c147 => ?_) (fun c147 => ?_)
            · exact absurd c147 (by decide)
            refine lv_aload_n hx hb dL_arePortsSo_150 rfl (lv_at hl 4 rfl) ?_
            refine lv_iload_n hx hb dL_arePortsSo_151 rfl (lv_at hl 7 rfl) ?_
            refine y_V (rm := rm0X3_panelOf) (As := [.int (nI i)]) (Γ' := Γ) (rest := []) S (fun N F hR => c0_X3_panelOf l E N F xo0 Γ hG.1 hR (p2 := i) (by omega)) (cwV 1 S.2.2.2.2 gL_arePortsSo_X3_panelOf rfl rfl rfl (by decide +kernel) ⟨Nat.le_of_ble_eq_true rfl, Nat.le_of_ble_eq_true rfl⟩) hW rfl rfl hl.1 (Nat.le_of_ble_eq_true rfl) dL_arePortsSo_152 ⟨Nat.le_of_ble_eq_true rfl, Nat.le_of_ble_eq_true rfl⟩ (fun r152 H locs hq152 hW => ?_)
            obtain rfl := hq152
            refine lv_iload_n hx hb dL_arePortsSo_155 rfl (lv_at hl 6 rfl) ?_
            refine x_icmp_eq (a := gPn Γ i) (b := xpv Γ i) (tgt := 172) hx hb dL_arePortsSo_156 (by decide) (by omega) (by omega) (fun c156 => ?_) (fun c156 => ?_)
            · refine lv_iload_n hx hb dL_arePortsSo_172 rfl (lv_at hl 5 rfl) ?_
              refine lv_iload hx hb dL_arePortsSo_173 (lv_at hl 3 rfl) ?_
              refine lv_if_ge (tgt := 182) hx hb dL_arePortsSo_175 (by decide) (fun c175 => ?_) (fun c175 => ?_)
              · exact absurd c175 (by decide)
              refine lv_iconst (v := 0) hx hb dL_arePortsSo_178 (by decide) ?_
              refine lv_goto (tgt := 183) hx hb dL_arePortsSo_179 (by decide) ?_
              refine x_iadd (a := xcnt (fun q => gCb Γ q ≠ -1) i) (b := 0) hx hb dL_arePortsSo_183 ?_
              refine lv_istore_n (lv' := [(1, .int (nI ((xcnt (fun q => gCb Γ q ≠ -1) i) + 0))), (7, .int 1), (6, .int 1), (5, .int (-1)), (4, .int (-1)), (0, .ref (E.2.2.2 0)), (2, .int (nI (xpv Γ i))), (3, .int (nI i))]) hx hb dL_arePortsSo_184 rfl hl (by decide) rfl (fun ls hl => ?_)
              refine lv_aload_n hx hb dL_arePortsSo_185 rfl (lv_at hl 5 rfl) ?_
              refine lv_iload_n hx hb dL_arePortsSo_186 rfl (lv_at hl 7 rfl) ?_
              refine y_V (rm := rm0X3_panelOf) (As := [.int (nI i)]) (Γ' := Γ) (rest := []) S (fun N F hR => c0_X3_panelOf l E N F xo0 Γ hG.1 hR (p2 := i) (by omega)) (cwV 1 S.2.2.2.2 gL_arePortsSo_X3_panelOf rfl rfl rfl (by decide +kernel) ⟨Nat.le_of_ble_eq_true rfl, Nat.le_of_ble_eq_true rfl⟩) hW rfl rfl hl.1 (Nat.le_of_ble_eq_true rfl) dL_arePortsSo_187 ⟨Nat.le_of_ble_eq_true rfl, Nat.le_of_ble_eq_true rfl⟩ (fun r187 H locs hq187 hW => ?_)
              obtain rfl := hq187
              refine lv_istore_n (lv' := [(2, .int (nI (gPn Γ i))), (1, .int (nI ((xcnt (fun q => gCb Γ q ≠ -1) i) + 0))), (7, .int 1), (6, .int 1), (5, .int (-1)), (4, .int (-1)), (0, .ref (E.2.2.2 0)), (3, .int (nI i))]) hx hb dL_arePortsSo_190 rfl hl (by decide) rfl (fun ls hl => ?_)
              refine lv_iinc (v := (nI (i + 1))) (lv' := [(3, .int (nI (i + 1))), (2, .int (nI (gPn Γ i))), (1, .int (nI ((xcnt (fun q => gCb Γ q ≠ -1) i) + 0))), (7, .int 1), (6, .int 1), (5, .int (-1)), (4, .int (-1)), (0, .ref (E.2.2.2 0))]) hx hb dL_arePortsSo_191 hl (k := 7) rfl (x_inc _) (by decide) rfl (fun ls hl => ?_)
              refine lv_goto (tgt := 6) hx hb dL_arePortsSo_194 (by decide) ?_
              rw [← xpv_s Γ i] at hl
              rw [show xcnt (fun q => gCb Γ q ≠ -1) i + 0 = xcnt (fun q => gCb Γ q ≠ -1) (i + 1) from (xcnt_f (P := (fun q => gCb Γ q ≠ -1)) (fun z => z e4)).symm] at hl
              exact L6  (i + 1) (by omega) (by omega) _ _ _ hW (lv_sub hl [7, 2, 1, 0] rfl)
            · refine lv_aload_n hx hb dL_arePortsSo_159 rfl (lv_at hl 4 rfl) ?_
              refine lv_iload_n hx hb dL_arePortsSo_160 rfl (lv_at hl 7 rfl) ?_
              refine y_V (rm := rm0X3_panelOf) (As := [.int (nI i)]) (Γ' := Γ) (rest := []) S (fun N F hR => c0_X3_panelOf l E N F xo0 Γ hG.1 hR (p2 := i) (by omega)) (cwV 1 S.2.2.2.2 gL_arePortsSo_X3_panelOf rfl rfl rfl (by decide +kernel) ⟨Nat.le_of_ble_eq_true rfl, Nat.le_of_ble_eq_true rfl⟩) hW rfl rfl hl.1 (Nat.le_of_ble_eq_true rfl) dL_arePortsSo_161 ⟨Nat.le_of_ble_eq_true rfl, Nat.le_of_ble_eq_true rfl⟩ (fun r161 H locs hq161 hW => ?_)
              obtain rfl := hq161
              refine lv_iload_n hx hb dL_arePortsSo_164 rfl (lv_at hl 6 rfl) ?_
              refine lv_iconst (v := 1) hx hb dL_arePortsSo_165 (by decide) ?_
              refine x_iadd (a := xpv Γ i) (b := 1) hx hb dL_arePortsSo_166 ?_
              refine x_icmp_eq (a := gPn Γ i) (b := (xpv Γ i) + 1) (tgt := 172) hx hb dL_arePortsSo_167 (by decide) (by omega) (by omega) (fun c167 => ?_) (fun c167 => ?_)
              rotate_left
              · exact absurd (by omega) c167
              refine lv_iload_n hx hb dL_arePortsSo_172 rfl (lv_at hl 5 rfl) ?_
              refine lv_iload hx hb dL_arePortsSo_173 (lv_at hl 3 rfl) ?_
              refine lv_if_ge (tgt := 182) hx hb dL_arePortsSo_175 (by decide) (fun c175 => ?_) (fun c175 => ?_)
              · exact absurd c175 (by decide)
              refine lv_iconst (v := 0) hx hb dL_arePortsSo_178 (by decide) ?_
              refine lv_goto (tgt := 183) hx hb dL_arePortsSo_179 (by decide) ?_
              refine x_iadd (a := xcnt (fun q => gCb Γ q ≠ -1) i) (b := 0) hx hb dL_arePortsSo_183 ?_
              refine lv_istore_n (lv' := [(1, .int (nI ((xcnt (fun q => gCb Γ q ≠ -1) i) + 0))), (7, .int 1), (6, .int 1), (5, .int (-1)), (4, .int (-1)), (0, .ref (E.2.2.2 0)), (2, .int (nI (xpv Γ i))), (3, .int (nI i))]) hx hb dL_arePortsSo_184 rfl hl (by decide) rfl (fun ls hl => ?_)
              refine lv_aload_n hx hb dL_arePortsSo_185 rfl (lv_at hl 5 rfl) ?_
              refine lv_iload_n hx hb dL_arePortsSo_186 rfl (lv_at hl 7 rfl) ?_
              refine y_V (rm := rm0X3_panelOf) (As := [.int (nI i)]) (Γ' := Γ) (rest := []) S (fun N F hR => c0_X3_panelOf l E N F xo0 Γ hG.1 hR (p2 := i) (by omega)) (cwV 1 S.2.2.2.2 gL_arePortsSo_X3_panelOf rfl rfl rfl (by decide +kernel) ⟨Nat.le_of_ble_eq_true rfl, Nat.le_of_ble_eq_true rfl⟩) hW rfl rfl hl.1 (Nat.le_of_ble_eq_true rfl) dL_arePortsSo_187 ⟨Nat.le_of_ble_eq_true rfl, Nat.le_of_ble_eq_true rfl⟩ (fun r187 H locs hq187 hW => ?_)
              obtain rfl := hq187
              refine lv_istore_n (lv' := [(2, .int (nI (gPn Γ i))), (1, .int (nI ((xcnt (fun q => gCb Γ q ≠ -1) i) + 0))), (7, .int 1), (6, .int 1), (5, .int (-1)), (4, .int (-1)), (0, .ref (E.2.2.2 0)), (3, .int (nI i))]) hx hb dL_arePortsSo_190 rfl hl (by decide) rfl (fun ls hl => ?_)
              refine lv_iinc (v := (nI (i + 1))) (lv' := [(3, .int (nI (i + 1))), (2, .int (nI (gPn Γ i))), (1, .int (nI ((xcnt (fun q => gCb Γ q ≠ -1) i) + 0))), (7, .int 1), (6, .int 1), (5, .int (-1)), (4, .int (-1)), (0, .ref (E.2.2.2 0))]) hx hb dL_arePortsSo_191 hl (k := 7) rfl (x_inc _) (by decide) rfl (fun ls hl => ?_)
              refine lv_goto (tgt := 6) hx hb dL_arePortsSo_194 (by decide) ?_
              rw [← xpv_s Γ i] at hl
              rw [show xcnt (fun q => gCb Γ q ≠ -1) i + 0 = xcnt (fun q => gCb Γ q ≠ -1) (i + 1) from (xcnt_f (P := (fun q => gCb Γ q ≠ -1)) (fun z => z e4)).symm] at hl
              exact L6  (i + 1) (by omega) (by omega) _ _ _ hW (lv_sub hl [7, 2, 1, 0] rfl)
          · have hpq5 := (hG.1.pn q5 hq5).1
            refine x_topN (q5) (e5) ?_
            refine lv_istore (lv' := [(5, .int (nI q5)), (4, .int (-1)), (0, .ref (E.2.2.2 0)), (1, .int (nI (xcnt (fun q => gCb Γ q ≠ -1) i))), (2, .int (nI (xpv Γ i))), (3, .int (nI i))]) hx hb dL_arePortsSo_26 hl (by decide) rfl (fun ls hl => ?_)
            refine lv_iload hx hb dL_arePortsSo_28 (lv_at hl 1 rfl) ?_
            refine lv_if_ge (tgt := 49) hx hb dL_arePortsSo_30 (by decide) (fun c30 => ?_) (fun c30 => ?_)
            · exact absurd c30 (by decide)
            refine lv_aload_n hx hb dL_arePortsSo_33 rfl (lv_at hl 2 rfl) ?_
            refine lv_iload_n hx hb dL_arePortsSo_34 rfl (lv_at hl 5 rfl) ?_
            refine y_V (rm := rm0X3_colour) (As := [.int (nI i)]) (Γ' := Γ) (rest := []) S (fun N F hR => c0_X3_colour l E N F xo0 Γ hG.1 hR (p2 := i) (by omega)) (cwV 1 S.2.2.2.2 gL_arePortsSo_X3_colour rfl rfl rfl (by decide +kernel) ⟨Nat.le_of_ble_eq_true rfl, Nat.le_of_ble_eq_true rfl⟩) hW rfl rfl hl.1 (Nat.le_of_ble_eq_true rfl) dL_arePortsSo_35 ⟨Nat.le_of_ble_eq_true rfl, Nat.le_of_ble_eq_true rfl⟩ (fun r35 H locs hq35 hW => ?_)
            obtain rfl := hq35
            refine x_topE (0) (hG.1.cl i e4) ?_
            refine lv_if_ne (tgt := 45) hx hb dL_arePortsSo_38 (by decide) (fun c38 => ?_) (fun c38 => ?_)
            · exact absurd c38 (by decide)
            refine lv_iconst (v := 1) hx hb dL_arePortsSo_41 (by decide) ?_
            refine lv_goto (tgt := 102) hx hb dL_arePortsSo_42 (by decide) ?_
            refine lv_istore (lv' := [(6, .int 1), (5, .int (nI q5)), (4, .int (-1)), (0, .ref (E.2.2.2 0)), (1, .int (nI (xcnt (fun q => gCb Γ q ≠ -1) i))), (2, .int (nI (xpv Γ i))), (3, .int (nI i))]) hx hb dL_arePortsSo_102 hl (by decide) rfl (fun ls hl => ?_)
            refine lv_iload hx hb dL_arePortsSo_104 (lv_at hl 1 rfl) ?_
            refine x_if_lt (tgt := 133) hx hb dL_arePortsSo_106 (by decide) (by omega) ?_
            refine lv_aload_n hx hb dL_arePortsSo_109 rfl (lv_at hl 3 rfl) ?_
            refine lv_iload hx hb dL_arePortsSo_110 (lv_at hl 1 rfl) ?_
            refine y_V (rm := rm0X3_byStrand) (As := [.int (nI q5)]) (Γ' := Γ) (rest := []) S (fun N F hR => c0_X3_byStrand l E N F xo0 Γ hG.1 hR (p2 := q5) (hq5)) (cwV 1 S.2.2.2.2 gL_arePortsSo_X3_byStrand rfl rfl rfl (by decide +kernel) ⟨Nat.le_of_ble_eq_true rfl, Nat.le_of_ble_eq_true rfl⟩) hW rfl rfl hl.1 (Nat.le_of_ble_eq_true rfl) dL_arePortsSo_112 ⟨Nat.le_of_ble_eq_true rfl, Nat.le_of_ble_eq_true rfl⟩ (fun r112 H locs hq112 hW => ?_)
            obtain rfl := hq112
            refine x_topN (i) (b5) ?_
            refine lv_iload_n hx hb dL_arePortsSo_115 rfl (lv_at hl 6 rfl) ?_
            refine lv_icmp_ne (tgt := 137) hx hb dL_arePortsSo_116 (by decide) (fun c116 => ?_) (fun c116 => ?_)
            · exact absurd rfl c116
            refine lv_aload_n hx hb dL_arePortsSo_119 rfl (lv_at hl 3 rfl) ?_
            refine lv_iload hx hb dL_arePortsSo_120 (lv_at hl 1 rfl) ?_
            refine y_V (rm := rm0X3_panelOf) (As := [.int (nI q5)]) (Γ' := Γ) (rest := []) S (fun N F hR => c0_X3_panelOf l E N F xo0 Γ hG.1 hR (p2 := q5) (hq5)) (cwV 1 S.2.2.2.2 gL_arePortsSo_X3_panelOf rfl rfl rfl (by decide +kernel) ⟨Nat.le_of_ble_eq_true rfl, Nat.le_of_ble_eq_true rfl⟩) hW rfl rfl hl.1 (Nat.le_of_ble_eq_true rfl) dL_arePortsSo_122 ⟨Nat.le_of_ble_eq_true rfl, Nat.le_of_ble_eq_true rfl⟩ (fun r122 H locs hq122 hW => ?_)
            obtain rfl := hq122
            refine lv_aload_n hx hb dL_arePortsSo_125 rfl (lv_at hl 3 rfl) ?_
            refine lv_iload_n hx hb dL_arePortsSo_126 rfl (lv_at hl 6 rfl) ?_
            refine y_V (rm := rm0X3_panelOf) (As := [.int (nI i)]) (Γ' := Γ) (rest := [.int (nI (gPn Γ q5))]) S (fun N F hR => c0_X3_panelOf l E N F xo0 Γ hG.1 hR (p2 := i) (by omega)) (cwV 1 S.2.2.2.2 gL_arePortsSo_X3_panelOf rfl rfl rfl (by decide +kernel) ⟨Nat.le_of_ble_eq_true rfl, Nat.le_of_ble_eq_true rfl⟩) hW rfl rfl hl.1 (Nat.le_of_ble_eq_true rfl) dL_arePortsSo_127 ⟨Nat.le_of_ble_eq_true rfl, Nat.le_of_ble_eq_true rfl⟩ (fun r127 H locs hq127 hW => ?_)
            obtain rfl := hq127
            refine x_icmp_eq (a := gPn Γ q5) (b := gPn Γ i) (tgt := 137) hx hb dL_arePortsSo_130 (by decide) (by omega) (by omega) (fun c130 => ?_) (fun c130 => ?_)
            · exact absurd c130 (fun z => hG.sp i q5 (by omega) hq5 e5 z.symm)
            refine lv_iconst (v := 1) hx hb dL_arePortsSo_133 (by decide) ?_
            refine lv_goto (tgt := 138) hx hb dL_arePortsSo_134 (by decide) ?_
            refine lv_istore (lv' := [(7, .int 1), (6, .int 1), (5, .int (nI q5)), (4, .int (-1)), (0, .ref (E.2.2.2 0)), (1, .int (nI (xcnt (fun q => gCb Γ q ≠ -1) i))), (2, .int (nI (xpv Γ i))), (3, .int (nI i))]) hx hb dL_arePortsSo_138 hl (by decide) rfl (fun ls hl => ?_)
            refine lv_iload hx hb dL_arePortsSo_140 (lv_at hl 1 rfl) ?_
            refine lv_if_eq (tgt := 170) hx hb dL_arePortsSo_142 (by decide) (fun c142 => ?_) (fun c142 => ?_)
            · exact absurd c142 (by decide)
            refine lv_iload hx hb dL_arePortsSo_145 (lv_at hl 0 rfl) ?_
            refine lv_if_eq (tgt := 170) hx hb dL_arePortsSo_147 (by decide) (fun c147 => ?_) (fun c147 => ?_)
            · exact absurd c147 (by decide)
            refine lv_aload_n hx hb dL_arePortsSo_150 rfl (lv_at hl 4 rfl) ?_
            refine lv_iload_n hx hb dL_arePortsSo_151 rfl (lv_at hl 7 rfl) ?_
            refine y_V (rm := rm0X3_panelOf) (As := [.int (nI i)]) (Γ' := Γ) (rest := []) S (fun N F hR => c0_X3_panelOf l E N F xo0 Γ hG.1 hR (p2 := i) (by omega)) (cwV 1 S.2.2.2.2 gL_arePortsSo_X3_panelOf rfl rfl rfl (by decide +kernel) ⟨Nat.le_of_ble_eq_true rfl, Nat.le_of_ble_eq_true rfl⟩) hW rfl rfl hl.1 (Nat.le_of_ble_eq_true rfl) dL_arePortsSo_152 ⟨Nat.le_of_ble_eq_true rfl, Nat.le_of_ble_eq_true rfl⟩ (fun r152 H locs hq152 hW => ?_)
            obtain rfl := hq152
            refine lv_iload_n hx hb dL_arePortsSo_155 rfl (lv_at hl 6 rfl) ?_
            refine x_icmp_eq (a := gPn Γ i) (b := xpv Γ i) (tgt := 172) hx hb dL_arePortsSo_156 (by decide) (by omega) (by omega) (fun c156 => ?_) (fun c156 => ?_)
            · refine lv_iload_n hx hb dL_arePortsSo_172 rfl (lv_at hl 5 rfl) ?_
              refine lv_iload hx hb dL_arePortsSo_173 (lv_at hl 3 rfl) ?_
              refine lv_if_ge (tgt := 182) hx hb dL_arePortsSo_175 (by decide) (fun c175 => ?_) (fun c175 => ?_)
              · exact absurd c175 (by decide)
              refine lv_iconst (v := 0) hx hb dL_arePortsSo_178 (by decide) ?_
              refine lv_goto (tgt := 183) hx hb dL_arePortsSo_179 (by decide) ?_
              refine x_iadd (a := xcnt (fun q => gCb Γ q ≠ -1) i) (b := 0) hx hb dL_arePortsSo_183 ?_
              refine lv_istore_n (lv' := [(1, .int (nI ((xcnt (fun q => gCb Γ q ≠ -1) i) + 0))), (7, .int 1), (6, .int 1), (5, .int (nI q5)), (4, .int (-1)), (0, .ref (E.2.2.2 0)), (2, .int (nI (xpv Γ i))), (3, .int (nI i))]) hx hb dL_arePortsSo_184 rfl hl (by decide) rfl (fun ls hl => ?_)
              refine lv_aload_n hx hb dL_arePortsSo_185 rfl (lv_at hl 5 rfl) ?_
              refine lv_iload_n hx hb dL_arePortsSo_186 rfl (lv_at hl 7 rfl) ?_
              refine y_V (rm := rm0X3_panelOf) (As := [.int (nI i)]) (Γ' := Γ) (rest := []) S (fun N F hR => c0_X3_panelOf l E N F xo0 Γ hG.1 hR (p2 := i) (by omega)) (cwV 1 S.2.2.2.2 gL_arePortsSo_X3_panelOf rfl rfl rfl (by decide +kernel) ⟨Nat.le_of_ble_eq_true rfl, Nat.le_of_ble_eq_true rfl⟩) hW rfl rfl hl.1 (Nat.le_of_ble_eq_true rfl) dL_arePortsSo_187 ⟨Nat.le_of_ble_eq_true rfl, Nat.le_of_ble_eq_true rfl⟩ (fun r187 H locs hq187 hW => ?_)
              obtain rfl := hq187
              refine lv_istore_n (lv' := [(2, .int (nI (gPn Γ i))), (1, .int (nI ((xcnt (fun q => gCb Γ q ≠ -1) i) + 0))), (7, .int 1), (6, .int 1), (5, .int (nI q5)), (4, .int (-1)), (0, .ref (E.2.2.2 0)), (3, .int (nI i))]) hx hb dL_arePortsSo_190 rfl hl (by decide) rfl (fun ls hl => ?_)
              refine lv_iinc (v := (nI (i + 1))) (lv' := [(3, .int (nI (i + 1))), (2, .int (nI (gPn Γ i))), (1, .int (nI ((xcnt (fun q => gCb Γ q ≠ -1) i) + 0))), (7, .int 1), (6, .int 1), (5, .int (nI q5)), (4, .int (-1)), (0, .ref (E.2.2.2 0))]) hx hb dL_arePortsSo_191 hl (k := 7) rfl (x_inc _) (by decide) rfl (fun ls hl => ?_)
              refine lv_goto (tgt := 6) hx hb dL_arePortsSo_194 (by decide) ?_
              rw [← xpv_s Γ i] at hl
              rw [show xcnt (fun q => gCb Γ q ≠ -1) i + 0 = xcnt (fun q => gCb Γ q ≠ -1) (i + 1) from (xcnt_f (P := (fun q => gCb Γ q ≠ -1)) (fun z => z e4)).symm] at hl
              exact L6  (i + 1) (by omega) (by omega) _ _ _ hW (lv_sub hl [7, 2, 1, 0] rfl)
            · refine lv_aload_n hx hb dL_arePortsSo_159 rfl (lv_at hl 4 rfl) ?_
              refine lv_iload_n hx hb dL_arePortsSo_160 rfl (lv_at hl 7 rfl) ?_
              refine y_V (rm := rm0X3_panelOf) (As := [.int (nI i)]) (Γ' := Γ) (rest := []) S (fun N F hR => c0_X3_panelOf l E N F xo0 Γ hG.1 hR (p2 := i) (by omega)) (cwV 1 S.2.2.2.2 gL_arePortsSo_X3_panelOf rfl rfl rfl (by decide +kernel) ⟨Nat.le_of_ble_eq_true rfl, Nat.le_of_ble_eq_true rfl⟩) hW rfl rfl hl.1 (Nat.le_of_ble_eq_true rfl) dL_arePortsSo_161 ⟨Nat.le_of_ble_eq_true rfl, Nat.le_of_ble_eq_true rfl⟩ (fun r161 H locs hq161 hW => ?_)
              obtain rfl := hq161
              refine lv_iload_n hx hb dL_arePortsSo_164 rfl (lv_at hl 6 rfl) ?_
              refine lv_iconst (v := 1) hx hb dL_arePortsSo_165 (by decide) ?_
              refine x_iadd (a := xpv Γ i) (b := 1) hx hb dL_arePortsSo_166 ?_
              refine x_icmp_eq (a := gPn Γ i) (b := (xpv Γ i) + 1) (tgt := 172) hx hb dL_arePortsSo_167 (by decide) (by omega) (by omega) (fun c167 => ?_) (fun c167 => ?_)
              rotate_left
              · exact absurd (by omega) c167
              refine lv_iload_n hx hb dL_arePortsSo_172 rfl (lv_at hl 5 rfl) ?_
              refine lv_iload hx hb dL_arePortsSo_173 (lv_at hl 3 rfl) ?_
              refine lv_if_ge (tgt := 182) hx hb dL_arePortsSo_175 (by decide) (fun c175 => ?_) (fun c175 => ?_)
              · exact absurd c175 (by decide)
              refine lv_iconst (v := 0) hx hb dL_arePortsSo_178 (by decide) ?_
              refine lv_goto (tgt := 183) hx hb dL_arePortsSo_179 (by decide) ?_
              refine x_iadd (a := xcnt (fun q => gCb Γ q ≠ -1) i) (b := 0) hx hb dL_arePortsSo_183 ?_
              refine lv_istore_n (lv' := [(1, .int (nI ((xcnt (fun q => gCb Γ q ≠ -1) i) + 0))), (7, .int 1), (6, .int 1), (5, .int (nI q5)), (4, .int (-1)), (0, .ref (E.2.2.2 0)), (2, .int (nI (xpv Γ i))), (3, .int (nI i))]) hx hb dL_arePortsSo_184 rfl hl (by decide) rfl (fun ls hl => ?_)
              refine lv_aload_n hx hb dL_arePortsSo_185 rfl (lv_at hl 5 rfl) ?_
              refine lv_iload_n hx hb dL_arePortsSo_186 rfl (lv_at hl 7 rfl) ?_
              refine y_V (rm := rm0X3_panelOf) (As := [.int (nI i)]) (Γ' := Γ) (rest := []) S (fun N F hR => c0_X3_panelOf l E N F xo0 Γ hG.1 hR (p2 := i) (by omega)) (cwV 1 S.2.2.2.2 gL_arePortsSo_X3_panelOf rfl rfl rfl (by decide +kernel) ⟨Nat.le_of_ble_eq_true rfl, Nat.le_of_ble_eq_true rfl⟩) hW rfl rfl hl.1 (Nat.le_of_ble_eq_true rfl) dL_arePortsSo_187 ⟨Nat.le_of_ble_eq_true rfl, Nat.le_of_ble_eq_true rfl⟩ (fun r187 H locs hq187 hW => ?_)
              obtain rfl := hq187
              refine lv_istore_n (lv' := [(2, .int (nI (gPn Γ i))), (1, .int (nI ((xcnt (fun q => gCb Γ q ≠ -1) i) + 0))), (7, .int 1), (6, .int 1), (5, .int (nI q5)), (4, .int (-1)), (0, .ref (E.2.2.2 0)), (3, .int (nI i))]) hx hb dL_arePortsSo_190 rfl hl (by decide) rfl (fun ls hl => ?_)
              refine lv_iinc (v := (nI (i + 1))) (lv' := [(3, .int (nI (i + 1))), (2, .int (nI (gPn Γ i))), (1, .int (nI ((xcnt (fun q => gCb Γ q ≠ -1) i) + 0))), (7, .int 1), (6, .int 1), (5, .int (nI q5)), (4, .int (-1)), (0, .ref (E.2.2.2 0))]) hx hb dL_arePortsSo_191 hl (k := 7) rfl (x_inc _) (by decide) rfl (fun ls hl => ?_)
              refine lv_goto (tgt := 6) hx hb dL_arePortsSo_194 (by decide) ?_
              rw [← xpv_s Γ i] at hl
              rw [show xcnt (fun q => gCb Γ q ≠ -1) i + 0 = xcnt (fun q => gCb Γ q ≠ -1) (i + 1) from (xcnt_f (P := (fun q => gCb Γ q ≠ -1)) (fun z => z e4)).symm] at hl
              exact L6  (i + 1) (by omega) (by omega) _ _ _ hW (lv_sub hl [7, 2, 1, 0] rfl)
        · have hpq4 := (hG.1.pn q4 hq4).1
          refine x_topN (q4) (e4) ?_
          refine lv_istore (lv' := [(4, .int (nI q4)), (0, .ref (E.2.2.2 0)), (1, .int (nI (xcnt (fun q => gCb Γ q ≠ -1) i))), (2, .int (nI (xpv Γ i))), (3, .int (nI i))]) hx hb dL_arePortsSo_19 hl (by decide) rfl (fun ls hl => ?_)
          refine lv_aload_n hx hb dL_arePortsSo_21 rfl (lv_at hl 1 rfl) ?_
          refine lv_iload_n hx hb dL_arePortsSo_22 rfl (lv_at hl 4 rfl) ?_
          refine y_V (rm := rm0X3_byStrand) (As := [.int (nI i)]) (Γ' := Γ) (rest := []) S (fun N F hR => c0_X3_byStrand l E N F xo0 Γ hG.1 hR (p2 := i) (by omega)) (cwV 1 S.2.2.2.2 gL_arePortsSo_X3_byStrand rfl rfl rfl (by decide +kernel) ⟨Nat.le_of_ble_eq_true rfl, Nat.le_of_ble_eq_true rfl⟩) hW rfl rfl hl.1 (Nat.le_of_ble_eq_true rfl) dL_arePortsSo_23 ⟨Nat.le_of_ble_eq_true rfl, Nat.le_of_ble_eq_true rfl⟩ (fun r23 H locs hq23 hW => ?_)
          obtain rfl := hq23
          rcases hG.1.st i (by omega) with e5 | ⟨q5, hq5, hn5, e5, b5⟩
          · refine x_topE ((-1)) (e5) ?_
            refine lv_istore (lv' := [(5, .int (-1)), (4, .int (nI q4)), (0, .ref (E.2.2.2 0)), (1, .int (nI (xcnt (fun q => gCb Γ q ≠ -1) i))), (2, .int (nI (xpv Γ i))), (3, .int (nI i))]) hx hb dL_arePortsSo_26 hl (by decide) rfl (fun ls hl => ?_)
            refine lv_iload hx hb dL_arePortsSo_28 (lv_at hl 1 rfl) ?_
            refine x_if_ge (tgt := 49) hx hb dL_arePortsSo_30 (by decide) (by omega) ?_
            refine lv_iload hx hb dL_arePortsSo_49 (lv_at hl 1 rfl) ?_
            refine lv_iload_n hx hb dL_arePortsSo_51 rfl (lv_at hl 5 rfl) ?_
            refine x_icmp_eq (a := q4) (b := i) (tgt := 101) hx hb dL_arePortsSo_52 (by decide) (by omega) (by omega) (fun c52 => ?_) (fun c52 => ?_)
            · exact absurd c52 hn4
            refine lv_aload_n hx hb dL_arePortsSo_55 rfl (lv_at hl 2 rfl) ?_
            refine lv_iload hx hb dL_arePortsSo_56 (lv_at hl 1 rfl) ?_
            refine y_V (rm := rm0X3_byCable) (As := [.int (nI q4)]) (Γ' := Γ) (rest := []) S (fun N F hR => c0_X3_byCable l E N F xo0 Γ hG.1 hR (p2 := q4) (hq4)) (cwV 1 S.2.2.2.2 gL_arePortsSo_X3_byCable rfl rfl rfl (by decide +kernel) ⟨Nat.le_of_ble_eq_true rfl, Nat.le_of_ble_eq_true rfl⟩) hW rfl rfl hl.1 (Nat.le_of_ble_eq_true rfl) dL_arePortsSo_58 ⟨Nat.le_of_ble_eq_true rfl, Nat.le_of_ble_eq_true rfl⟩ (fun r58 H locs hq58 hW => ?_)
            obtain rfl := hq58
            refine x_topN (i) (b4) ?_
            refine lv_iload_n hx hb dL_arePortsSo_61 rfl (lv_at hl 5 rfl) ?_
            refine lv_icmp_ne (tgt := 101) hx hb dL_arePortsSo_62 (by decide) (fun c62 => ?_) (fun c62 => ?_)
            · exact absurd rfl c62
            refine lv_aload_n hx hb dL_arePortsSo_65 rfl (lv_at hl 2 rfl) ?_
            refine lv_iload hx hb dL_arePortsSo_66 (lv_at hl 1 rfl) ?_
            refine y_V (rm := rm0X3_colour) (As := [.int (nI q4)]) (Γ' := Γ) (rest := []) S (fun N F hR => c0_X3_colour l E N F xo0 Γ hG.1 hR (p2 := q4) (hq4)) (cwV 1 S.2.2.2.2 gL_arePortsSo_X3_colour rfl rfl rfl (by decide +kernel) ⟨Nat.le_of_ble_eq_true rfl, Nat.le_of_ble_eq_true rfl⟩) hW rfl rfl hl.1 (Nat.le_of_ble_eq_true rfl) dL_arePortsSo_68 ⟨Nat.le_of_ble_eq_true rfl, Nat.le_of_ble_eq_true rfl⟩ (fun r68 H locs hq68 hW => ?_)
            obtain rfl := hq68
            obtain ⟨k9, hk91, hk92, ek9⟩ := hG.co i (by omega) (by rw [e4]; exact nI_m1 (by omega))
            refine x_topN (k9) ((hG.1.cs i q4 (by omega) hq4 e4).symm.trans ek9) ?_
            refine lv_aload_n hx hb dL_arePortsSo_71 rfl (lv_at hl 2 rfl) ?_
            refine lv_iload_n hx hb dL_arePortsSo_72 rfl (lv_at hl 5 rfl) ?_
            refine y_V (rm := rm0X3_colour) (As := [.int (nI i)]) (Γ' := Γ) (rest := [.int (nI k9)]) S (fun N F hR => c0_X3_colour l E N F xo0 Γ hG.1 hR (p2 := i) (by omega)) (cwV 1 S.2.2.2.2 gL_arePortsSo_X3_colour rfl rfl rfl (by decide +kernel) ⟨Nat.le_of_ble_eq_true rfl, Nat.le_of_ble_eq_true rfl⟩) hW rfl rfl hl.1 (Nat.le_of_ble_eq_true rfl) dL_arePortsSo_73 ⟨Nat.le_of_ble_eq_true rfl, Nat.le_of_ble_eq_true rfl⟩ (fun r73 H locs hq73 hW => ?_)
            obtain rfl := hq73
            refine x_topN (k9) (ek9) ?_
            refine lv_icmp_ne (tgt := 101) hx hb dL_arePortsSo_76 (by decide) (fun c76 => ?_) (fun c76 => ?_)
            · exact absurd rfl c76
            refine lv_aload_n hx hb dL_arePortsSo_79 rfl (lv_at hl 2 rfl) ?_
            refine lv_iload_n hx hb dL_arePortsSo_80 rfl (lv_at hl 5 rfl) ?_
            refine y_V (rm := rm0X3_colour) (As := [.int (nI i)]) (Γ' := Γ) (rest := []) S (fun N F hR => c0_X3_colour l E N F xo0 Γ hG.1 hR (p2 := i) (by omega)) (cwV 1 S.2.2.2.2 gL_arePortsSo_X3_colour rfl rfl rfl (by decide +kernel) ⟨Nat.le_of_ble_eq_true rfl, Nat.le_of_ble_eq_true rfl⟩) hW rfl rfl hl.1 (Nat.le_of_ble_eq_true rfl) dL_arePortsSo_81 ⟨Nat.le_of_ble_eq_true rfl, Nat.le_of_ble_eq_true rfl⟩ (fun r81 H locs hq81 hW => ?_)
            obtain rfl := hq81
            refine x_topN (k9) (ek9) ?_
            refine x_if_le (tgt := 101) hx hb dL_arePortsSo_84 (by decide) (by omega) (fun c84 => ?_) (fun c84 => ?_)
            · exact absurd c84 (by omega)
            refine lv_aload_n hx hb dL_arePortsSo_87 rfl (lv_at hl 2 rfl) ?_
            refine lv_iload_n hx hb dL_arePortsSo_88 rfl (lv_at hl 5 rfl) ?_
            refine y_V (rm := rm0X3_colour) (As := [.int (nI i)]) (Γ' := Γ) (rest := []) S (fun N F hR => c0_X3_colour l E N F xo0 Γ hG.1 hR (p2 := i) (by omega)) (cwV 1 S.2.2.2.2 gL_arePortsSo_X3_colour rfl rfl rfl (by decide +kernel) ⟨Nat.le_of_ble_eq_true rfl, Nat.le_of_ble_eq_true rfl⟩) hW rfl rfl hl.1 (Nat.le_of_ble_eq_true rfl) dL_arePortsSo_89 ⟨Nat.le_of_ble_eq_true rfl, Nat.le_of_ble_eq_true rfl⟩ (fun r89 H locs hq89 hW => ?_)
            obtain rfl := hq89
            refine x_topN (k9) (ek9) ?_
            refine lv_bipush (v := 10) hx hb dL_arePortsSo_92 (by decide) ?_
            refine x_icmp_ge (a := k9) (b := 10) (tgt := 101) hx hb dL_arePortsSo_94 (by decide) (by omega) (by omega) (fun c94 => ?_) (fun c94 => ?_)
            · exact absurd c94 (by omega)
            refine lv_iconst (v := 1) hx hb dL_arePortsSo_97 (by decide) ?_
            refine lv_goto (tgt := 102) hx hb dL_arePortsSo_98 (by decide) ?_
            refine lv_istore (lv' := [(6, .int 1), (5, .int (-1)), (4, .int (nI q4)), (0, .ref (E.2.2.2 0)), (1, .int (nI (xcnt (fun q => gCb Γ q ≠ -1) i))), (2, .int (nI (xpv Γ i))), (3, .int (nI i))]) hx hb dL_arePortsSo_102 hl (by decide) rfl (fun ls hl => ?_)
            refine lv_iload hx hb dL_arePortsSo_104 (lv_at hl 1 rfl) ?_
            refine lv_if_lt (tgt := 133) hx hb dL_arePortsSo_106 (by decide) (fun c106 => ?_) (fun c106 => ?_)
            rotate_left
            · exact absurd c106 (by decide)
            refine lv_iconst (v := 1) hx hb dL_arePortsSo_133 (by decide) ?_
            refine lv_goto (tgt := 138) hx hb dL_arePortsSo_134 (by decide) ?_
            refine lv_istore (lv' := [(7, .int 1), (6, .int 1), (5, .int (-1)), (4, .int (nI q4)), (0, .ref (E.2.2.2 0)), (1, .int (nI (xcnt (fun q => gCb Γ q ≠ -1) i))), (2, .int (nI (xpv Γ i))), (3, .int (nI i))]) hx hb dL_arePortsSo_138 hl (by decide) rfl (fun ls hl => ?_)
            refine lv_iload hx hb dL_arePortsSo_140 (lv_at hl 1 rfl) ?_
            refine lv_if_eq (tgt := 170) hx hb dL_arePortsSo_142 (by decide) (fun c142 => ?_) (fun c142 => ?_)
            · exact absurd c142 (by decide)
            refine lv_iload hx hb dL_arePortsSo_145 (lv_at hl 0 rfl) ?_
            refine lv_if_eq (tgt := 170) hx hb dL_arePortsSo_147 (by decide) (fun c147 => ?_) (fun c147 => ?_)
            · exact absurd c147 (by decide)
            refine lv_aload_n hx hb dL_arePortsSo_150 rfl (lv_at hl 4 rfl) ?_
            refine lv_iload_n hx hb dL_arePortsSo_151 rfl (lv_at hl 7 rfl) ?_
            refine y_V (rm := rm0X3_panelOf) (As := [.int (nI i)]) (Γ' := Γ) (rest := []) S (fun N F hR => c0_X3_panelOf l E N F xo0 Γ hG.1 hR (p2 := i) (by omega)) (cwV 1 S.2.2.2.2 gL_arePortsSo_X3_panelOf rfl rfl rfl (by decide +kernel) ⟨Nat.le_of_ble_eq_true rfl, Nat.le_of_ble_eq_true rfl⟩) hW rfl rfl hl.1 (Nat.le_of_ble_eq_true rfl) dL_arePortsSo_152 ⟨Nat.le_of_ble_eq_true rfl, Nat.le_of_ble_eq_true rfl⟩ (fun r152 H locs hq152 hW => ?_)
            obtain rfl := hq152
            refine lv_iload_n hx hb dL_arePortsSo_155 rfl (lv_at hl 6 rfl) ?_
            refine x_icmp_eq (a := gPn Γ i) (b := xpv Γ i) (tgt := 172) hx hb dL_arePortsSo_156 (by decide) (by omega) (by omega) (fun c156 => ?_) (fun c156 => ?_)
            · refine lv_iload_n hx hb dL_arePortsSo_172 rfl (lv_at hl 5 rfl) ?_
              refine lv_iload hx hb dL_arePortsSo_173 (lv_at hl 3 rfl) ?_
              refine x_if_ge (tgt := 182) hx hb dL_arePortsSo_175 (by decide) (by omega) ?_
              refine lv_iconst (v := 1) hx hb dL_arePortsSo_182 (by decide) ?_
              refine x_iadd (a := xcnt (fun q => gCb Γ q ≠ -1) i) (b := 1) hx hb dL_arePortsSo_183 ?_
              refine lv_istore_n (lv' := [(1, .int (nI ((xcnt (fun q => gCb Γ q ≠ -1) i) + 1))), (7, .int 1), (6, .int 1), (5, .int (-1)), (4, .int (nI q4)), (0, .ref (E.2.2.2 0)), (2, .int (nI (xpv Γ i))), (3, .int (nI i))]) hx hb dL_arePortsSo_184 rfl hl (by decide) rfl (fun ls hl => ?_)
              refine lv_aload_n hx hb dL_arePortsSo_185 rfl (lv_at hl 5 rfl) ?_
              refine lv_iload_n hx hb dL_arePortsSo_186 rfl (lv_at hl 7 rfl) ?_
              refine y_V (rm := rm0X3_panelOf) (As := [.int (nI i)]) (Γ' := Γ) (rest := []) S (fun N F hR => c0_X3_panelOf l E N F xo0 Γ hG.1 hR (p2 := i) (by omega)) (cwV 1 S.2.2.2.2 gL_arePortsSo_X3_panelOf rfl rfl rfl (by decide +kernel) ⟨Nat.le_of_ble_eq_true rfl, Nat.le_of_ble_eq_true rfl⟩) hW rfl rfl hl.1 (Nat.le_of_ble_eq_true rfl) dL_arePortsSo_187 ⟨Nat.le_of_ble_eq_true rfl, Nat.le_of_ble_eq_true rfl⟩ (fun r187 H locs hq187 hW => ?_)
              obtain rfl := hq187
              refine lv_istore_n (lv' := [(2, .int (nI (gPn Γ i))), (1, .int (nI ((xcnt (fun q => gCb Γ q ≠ -1) i) + 1))), (7, .int 1), (6, .int 1), (5, .int (-1)), (4, .int (nI q4)), (0, .ref (E.2.2.2 0)), (3, .int (nI i))]) hx hb dL_arePortsSo_190 rfl hl (by decide) rfl (fun ls hl => ?_)
              refine lv_iinc (v := (nI (i + 1))) (lv' := [(3, .int (nI (i + 1))), (2, .int (nI (gPn Γ i))), (1, .int (nI ((xcnt (fun q => gCb Γ q ≠ -1) i) + 1))), (7, .int 1), (6, .int 1), (5, .int (-1)), (4, .int (nI q4)), (0, .ref (E.2.2.2 0))]) hx hb dL_arePortsSo_191 hl (k := 7) rfl (x_inc _) (by decide) rfl (fun ls hl => ?_)
              refine lv_goto (tgt := 6) hx hb dL_arePortsSo_194 (by decide) ?_
              rw [← xpv_s Γ i] at hl
              rw [show xcnt (fun q => gCb Γ q ≠ -1) i + 1 = xcnt (fun q => gCb Γ q ≠ -1) (i + 1) from (xcnt_t (P := (fun q => gCb Γ q ≠ -1)) (show gCb Γ i ≠ -1 by rw [e4]; exact nI_m1 (by omega))).symm] at hl
              exact L6  (i + 1) (by omega) (by omega) _ _ _ hW (lv_sub hl [7, 2, 1, 0] rfl)
            · refine lv_aload_n hx hb dL_arePortsSo_159 rfl (lv_at hl 4 rfl) ?_
              refine lv_iload_n hx hb dL_arePortsSo_160 rfl (lv_at hl 7 rfl) ?_
              refine y_V (rm := rm0X3_panelOf) (As := [.int (nI i)]) (Γ' := Γ) (rest := []) S (fun N F hR => c0_X3_panelOf l E N F xo0 Γ hG.1 hR (p2 := i) (by omega)) (cwV 1 S.2.2.2.2 gL_arePortsSo_X3_panelOf rfl rfl rfl (by decide +kernel) ⟨Nat.le_of_ble_eq_true rfl, Nat.le_of_ble_eq_true rfl⟩) hW rfl rfl hl.1 (Nat.le_of_ble_eq_true rfl) dL_arePortsSo_161 ⟨Nat.le_of_ble_eq_true rfl, Nat.le_of_ble_eq_true rfl⟩ (fun r161 H locs hq161 hW => ?_)
              obtain rfl := hq161
              refine lv_iload_n hx hb dL_arePortsSo_164 rfl (lv_at hl 6 rfl) ?_
              refine lv_iconst (v := 1) hx hb dL_arePortsSo_165 (by decide) ?_
              refine x_iadd (a := xpv Γ i) (b := 1) hx hb dL_arePortsSo_166 ?_
              refine x_icmp_eq (a := gPn Γ i) (b := (xpv Γ i) + 1) (tgt := 172) hx hb dL_arePortsSo_167 (by decide) (by omega) (by omega) (fun c167 => ?_) (fun c167 => ?_)
              rotate_left
              · exact absurd (by omega) c167
              refine lv_iload_n hx hb dL_arePortsSo_172 rfl (lv_at hl 5 rfl) ?_
              refine lv_iload hx hb dL_arePortsSo_173 (lv_at hl 3 rfl) ?_
              refine x_if_ge (tgt := 182) hx hb dL_arePortsSo_175 (by decide) (by omega) ?_
              refine lv_iconst (v := 1) hx hb dL_arePortsSo_182 (by decide) ?_
              refine x_iadd (a := xcnt (fun q => gCb Γ q ≠ -1) i) (b := 1) hx hb dL_arePortsSo_183 ?_
              refine lv_istore_n (lv' := [(1, .int (nI ((xcnt (fun q => gCb Γ q ≠ -1) i) + 1))), (7, .int 1), (6, .int 1), (5, .int (-1)), (4, .int (nI q4)), (0, .ref (E.2.2.2 0)), (2, .int (nI (xpv Γ i))), (3, .int (nI i))]) hx hb dL_arePortsSo_184 rfl hl (by decide) rfl (fun ls hl => ?_)
              refine lv_aload_n hx hb dL_arePortsSo_185 rfl (lv_at hl 5 rfl) ?_
              refine lv_iload_n hx hb dL_arePortsSo_186 rfl (lv_at hl 7 rfl) ?_
              refine y_V (rm := rm0X3_panelOf) (As := [.int (nI i)]) (Γ' := Γ) (rest := []) S (fun N F hR => c0_X3_panelOf l E N F xo0 Γ hG.1 hR (p2 := i) (by omega)) (cwV 1 S.2.2.2.2 gL_arePortsSo_X3_panelOf rfl rfl rfl (by decide +kernel) ⟨Nat.le_of_ble_eq_true rfl, Nat.le_of_ble_eq_true rfl⟩) hW rfl rfl hl.1 (Nat.le_of_ble_eq_true rfl) dL_arePortsSo_187 ⟨Nat.le_of_ble_eq_true rfl, Nat.le_of_ble_eq_true rfl⟩ (fun r187 H locs hq187 hW => ?_)
              obtain rfl := hq187
              refine lv_istore_n (lv' := [(2, .int (nI (gPn Γ i))), (1, .int (nI ((xcnt (fun q => gCb Γ q ≠ -1) i) + 1))), (7, .int 1), (6, .int 1), (5, .int (-1)), (4, .int (nI q4)), (0, .ref (E.2.2.2 0)), (3, .int (nI i))]) hx hb dL_arePortsSo_190 rfl hl (by decide) rfl (fun ls hl => ?_)
              refine lv_iinc (v := (nI (i + 1))) (lv' := [(3, .int (nI (i + 1))), (2, .int (nI (gPn Γ i))), (1, .int (nI ((xcnt (fun q => gCb Γ q ≠ -1) i) + 1))), (7, .int 1), (6, .int 1), (5, .int (-1)), (4, .int (nI q4)), (0, .ref (E.2.2.2 0))]) hx hb dL_arePortsSo_191 hl (k := 7) rfl (x_inc _) (by decide) rfl (fun ls hl => ?_)
              refine lv_goto (tgt := 6) hx hb dL_arePortsSo_194 (by decide) ?_
              rw [← xpv_s Γ i] at hl
              rw [show xcnt (fun q => gCb Γ q ≠ -1) i + 1 = xcnt (fun q => gCb Γ q ≠ -1) (i + 1) from (xcnt_t (P := (fun q => gCb Γ q ≠ -1)) (show gCb Γ i ≠ -1 by rw [e4]; exact nI_m1 (by omega))).symm] at hl
              exact L6  (i + 1) (by omega) (by omega) _ _ _ hW (lv_sub hl [7, 2, 1, 0] rfl)
          · have hpq5 := (hG.1.pn q5 hq5).1
            refine x_topN (q5) (e5) ?_
            refine lv_istore (lv' := [(5, .int (nI q5)), (4, .int (nI q4)), (0, .ref (E.2.2.2 0)), (1, .int (nI (xcnt (fun q => gCb Γ q ≠ -1) i))), (2, .int (nI (xpv Γ i))), (3, .int (nI i))]) hx hb dL_arePortsSo_26 hl (by decide) rfl (fun ls hl => ?_)
            refine lv_iload hx hb dL_arePortsSo_28 (lv_at hl 1 rfl) ?_
            refine x_if_ge (tgt := 49) hx hb dL_arePortsSo_30 (by decide) (by omega) ?_
            refine lv_iload hx hb dL_arePortsSo_49 (lv_at hl 1 rfl) ?_
            refine lv_iload_n hx hb dL_arePortsSo_51 rfl (lv_at hl 5 rfl) ?_
            refine x_icmp_eq (a := q4) (b := i) (tgt := 101) hx hb dL_arePortsSo_52 (by decide) (by omega) (by omega) (fun c52 => ?_) (fun c52 => ?_)
            · exact absurd c52 hn4
            refine lv_aload_n hx hb dL_arePortsSo_55 rfl (lv_at hl 2 rfl) ?_
            refine lv_iload hx hb dL_arePortsSo_56 (lv_at hl 1 rfl) ?_
            refine y_V (rm := rm0X3_byCable) (As := [.int (nI q4)]) (Γ' := Γ) (rest := []) S (fun N F hR => c0_X3_byCable l E N F xo0 Γ hG.1 hR (p2 := q4) (hq4)) (cwV 1 S.2.2.2.2 gL_arePortsSo_X3_byCable rfl rfl rfl (by decide +kernel) ⟨Nat.le_of_ble_eq_true rfl, Nat.le_of_ble_eq_true rfl⟩) hW rfl rfl hl.1 (Nat.le_of_ble_eq_true rfl) dL_arePortsSo_58 ⟨Nat.le_of_ble_eq_true rfl, Nat.le_of_ble_eq_true rfl⟩ (fun r58 H locs hq58 hW => ?_)
            obtain rfl := hq58
            refine x_topN (i) (b4) ?_
            refine lv_iload_n hx hb dL_arePortsSo_61 rfl (lv_at hl 5 rfl) ?_
            refine lv_icmp_ne (tgt := 101) hx hb dL_arePortsSo_62 (by decide) (fun c62 => ?_) (fun c62 => ?_)
            · exact absurd rfl c62
            refine lv_aload_n hx hb dL_arePortsSo_65 rfl (lv_at hl 2 rfl) ?_
            refine lv_iload hx hb dL_arePortsSo_66 (lv_at hl 1 rfl) ?_
            refine y_V (rm := rm0X3_colour) (As := [.int (nI q4)]) (Γ' := Γ) (rest := []) S (fun N F hR => c0_X3_colour l E N F xo0 Γ hG.1 hR (p2 := q4) (hq4)) (cwV 1 S.2.2.2.2 gL_arePortsSo_X3_colour rfl rfl rfl (by decide +kernel) ⟨Nat.le_of_ble_eq_true rfl, Nat.le_of_ble_eq_true rfl⟩) hW rfl rfl hl.1 (Nat.le_of_ble_eq_true rfl) dL_arePortsSo_68 ⟨Nat.le_of_ble_eq_true rfl, Nat.le_of_ble_eq_true rfl⟩ (fun r68 H locs hq68 hW => ?_)
            obtain rfl := hq68
            obtain ⟨k9, hk91, hk92, ek9⟩ := hG.co i (by omega) (by rw [e4]; exact nI_m1 (by omega))
            refine x_topN (k9) ((hG.1.cs i q4 (by omega) hq4 e4).symm.trans ek9) ?_
            refine lv_aload_n hx hb dL_arePortsSo_71 rfl (lv_at hl 2 rfl) ?_
            refine lv_iload_n hx hb dL_arePortsSo_72 rfl (lv_at hl 5 rfl) ?_
            refine y_V (rm := rm0X3_colour) (As := [.int (nI i)]) (Γ' := Γ) (rest := [.int (nI k9)]) S (fun N F hR => c0_X3_colour l E N F xo0 Γ hG.1 hR (p2 := i) (by omega)) (cwV 1 S.2.2.2.2 gL_arePortsSo_X3_colour rfl rfl rfl (by decide +kernel) ⟨Nat.le_of_ble_eq_true rfl, Nat.le_of_ble_eq_true rfl⟩) hW rfl rfl hl.1 (Nat.le_of_ble_eq_true rfl) dL_arePortsSo_73 ⟨Nat.le_of_ble_eq_true rfl, Nat.le_of_ble_eq_true rfl⟩ (fun r73 H locs hq73 hW => ?_)
            obtain rfl := hq73
            refine x_topN (k9) (ek9) ?_
            refine lv_icmp_ne (tgt := 101) hx hb dL_arePortsSo_76 (by decide) (fun c76 => ?_) (fun c76 => ?_)
            · exact absurd rfl c76
            refine lv_aload_n hx hb dL_arePortsSo_79 rfl (lv_at hl 2 rfl) ?_
            refine lv_iload_n hx hb dL_arePortsSo_80 rfl (lv_at hl 5 rfl) ?_
            refine y_V (rm := rm0X3_colour) (As := [.int (nI i)]) (Γ' := Γ) (rest := []) S (fun N F hR => c0_X3_colour l E N F xo0 Γ hG.1 hR (p2 := i) (by omega)) (cwV 1 S.2.2.2.2 gL_arePortsSo_X3_colour rfl rfl rfl (by decide +kernel) ⟨Nat.le_of_ble_eq_true rfl, Nat.le_of_ble_eq_true rfl⟩) hW rfl rfl hl.1 (Nat.le_of_ble_eq_true rfl) dL_arePortsSo_81 ⟨Nat.le_of_ble_eq_true rfl, Nat.le_of_ble_eq_true rfl⟩ (fun r81 H locs hq81 hW => ?_)
            obtain rfl := hq81
            refine x_topN (k9) (ek9) ?_
            refine x_if_le (tgt := 101) hx hb dL_arePortsSo_84 (by decide) (by omega) (fun c84 => ?_) (fun c84 => ?_)
            · exact absurd c84 (by omega)
            refine lv_aload_n hx hb dL_arePortsSo_87 rfl (lv_at hl 2 rfl) ?_
            refine lv_iload_n hx hb dL_arePortsSo_88 rfl (lv_at hl 5 rfl) ?_
            refine y_V (rm := rm0X3_colour) (As := [.int (nI i)]) (Γ' := Γ) (rest := []) S (fun N F hR => c0_X3_colour l E N F xo0 Γ hG.1 hR (p2 := i) (by omega)) (cwV 1 S.2.2.2.2 gL_arePortsSo_X3_colour rfl rfl rfl (by decide +kernel) ⟨Nat.le_of_ble_eq_true rfl, Nat.le_of_ble_eq_true rfl⟩) hW rfl rfl hl.1 (Nat.le_of_ble_eq_true rfl) dL_arePortsSo_89 ⟨Nat.le_of_ble_eq_true rfl, Nat.le_of_ble_eq_true rfl⟩ (fun r89 H locs hq89 hW => ?_)
            obtain rfl := hq89
            refine x_topN (k9) (ek9) ?_
            refine lv_bipush (v := 10) hx hb dL_arePortsSo_92 (by decide) ?_
            refine x_icmp_ge (a := k9) (b := 10) (tgt := 101) hx hb dL_arePortsSo_94 (by decide) (by omega) (by omega) (fun c94 => ?_) (fun c94 => ?_)
            · exact absurd c94 (by omega)
            refine lv_iconst (v := 1) hx hb dL_arePortsSo_97 (by decide) ?_
            refine lv_goto (tgt := 102) hx hb dL_arePortsSo_98 (by decide) ?_
            refine lv_istore (lv' := [(6, .int 1), (5, .int (nI q5)), (4, .int (nI q4)), (0, .ref (E.2.2.2 0)), (1, .int (nI (xcnt (fun q => gCb Γ q ≠ -1) i))), (2, .int (nI (xpv Γ i))), (3, .int (nI i))]) hx hb dL_arePortsSo_102 hl (by decide) rfl (fun ls hl => ?_)
            refine lv_iload hx hb dL_arePortsSo_104 (lv_at hl 1 rfl) ?_
            refine x_if_lt (tgt := 133) hx hb dL_arePortsSo_106 (by decide) (by omega) ?_
            refine lv_aload_n hx hb dL_arePortsSo_109 rfl (lv_at hl 3 rfl) ?_
            refine lv_iload hx hb dL_arePortsSo_110 (lv_at hl 1 rfl) ?_
            refine y_V (rm := rm0X3_byStrand) (As := [.int (nI q5)]) (Γ' := Γ) (rest := []) S (fun N F hR => c0_X3_byStrand l E N F xo0 Γ hG.1 hR (p2 := q5) (hq5)) (cwV 1 S.2.2.2.2 gL_arePortsSo_X3_byStrand rfl rfl rfl (by decide +kernel) ⟨Nat.le_of_ble_eq_true rfl, Nat.le_of_ble_eq_true rfl⟩) hW rfl rfl hl.1 (Nat.le_of_ble_eq_true rfl) dL_arePortsSo_112 ⟨Nat.le_of_ble_eq_true rfl, Nat.le_of_ble_eq_true rfl⟩ (fun r112 H locs hq112 hW => ?_)
            obtain rfl := hq112
            refine x_topN (i) (b5) ?_
            refine lv_iload_n hx hb dL_arePortsSo_115 rfl (lv_at hl 6 rfl) ?_
            refine lv_icmp_ne (tgt := 137) hx hb dL_arePortsSo_116 (by decide) (fun c116 => ?_) (fun c116 => ?_)
            · exact absurd rfl c116
            refine lv_aload_n hx hb dL_arePortsSo_119 rfl (lv_at hl 3 rfl) ?_
            refine lv_iload hx hb dL_arePortsSo_120 (lv_at hl 1 rfl) ?_
            refine y_V (rm := rm0X3_panelOf) (As := [.int (nI q5)]) (Γ' := Γ) (rest := []) S (fun N F hR => c0_X3_panelOf l E N F xo0 Γ hG.1 hR (p2 := q5) (hq5)) (cwV 1 S.2.2.2.2 gL_arePortsSo_X3_panelOf rfl rfl rfl (by decide +kernel) ⟨Nat.le_of_ble_eq_true rfl, Nat.le_of_ble_eq_true rfl⟩) hW rfl rfl hl.1 (Nat.le_of_ble_eq_true rfl) dL_arePortsSo_122 ⟨Nat.le_of_ble_eq_true rfl, Nat.le_of_ble_eq_true rfl⟩ (fun r122 H locs hq122 hW => ?_)
            obtain rfl := hq122
            refine lv_aload_n hx hb dL_arePortsSo_125 rfl (lv_at hl 3 rfl) ?_
            refine lv_iload_n hx hb dL_arePortsSo_126 rfl (lv_at hl 6 rfl) ?_
            refine y_V (rm := rm0X3_panelOf) (As := [.int (nI i)]) (Γ' := Γ) (rest := [.int (nI (gPn Γ q5))]) S (fun N F hR => c0_X3_panelOf l E N F xo0 Γ hG.1 hR (p2 := i) (by omega)) (cwV 1 S.2.2.2.2 gL_arePortsSo_X3_panelOf rfl rfl rfl (by decide +kernel) ⟨Nat.le_of_ble_eq_true rfl, Nat.le_of_ble_eq_true rfl⟩) hW rfl rfl hl.1 (Nat.le_of_ble_eq_true rfl) dL_arePortsSo_127 ⟨Nat.le_of_ble_eq_true rfl, Nat.le_of_ble_eq_true rfl⟩ (fun r127 H locs hq127 hW => ?_)
            obtain rfl := hq127
            refine x_icmp_eq (a := gPn Γ q5) (b := gPn Γ i) (tgt := 137) hx hb dL_arePortsSo_130 (by decide) (by omega) (by omega) (fun c130 => ?_) (fun c130 => ?_)
            · exact absurd c130 (fun z => hG.sp i q5 (by omega) hq5 e5 z.symm)
            refine lv_iconst (v := 1) hx hb dL_arePortsSo_133 (by decide) ?_
            refine lv_goto (tgt := 138) hx hb dL_arePortsSo_134 (by decide) ?_
            refine lv_istore (lv' := [(7, .int 1), (6, .int 1), (5, .int (nI q5)), (4, .int (nI q4)), (0, .ref (E.2.2.2 0)), (1, .int (nI (xcnt (fun q => gCb Γ q ≠ -1) i))), (2, .int (nI (xpv Γ i))), (3, .int (nI i))]) hx hb dL_arePortsSo_138 hl (by decide) rfl (fun ls hl => ?_)
            refine lv_iload hx hb dL_arePortsSo_140 (lv_at hl 1 rfl) ?_
            refine lv_if_eq (tgt := 170) hx hb dL_arePortsSo_142 (by decide) (fun c142 => ?_) (fun c142 => ?_)
            · exact absurd c142 (by decide)
            refine lv_iload hx hb dL_arePortsSo_145 (lv_at hl 0 rfl) ?_
            refine lv_if_eq (tgt := 170) hx hb dL_arePortsSo_147 (by decide) (fun c147 => ?_) (fun c147 => ?_)
            · exact absurd c147 (by decide)
            refine lv_aload_n hx hb dL_arePortsSo_150 rfl (lv_at hl 4 rfl) ?_
            refine lv_iload_n hx hb dL_arePortsSo_151 rfl (lv_at hl 7 rfl) ?_
            refine y_V (rm := rm0X3_panelOf) (As := [.int (nI i)]) (Γ' := Γ) (rest := []) S (fun N F hR => c0_X3_panelOf l E N F xo0 Γ hG.1 hR (p2 := i) (by omega)) (cwV 1 S.2.2.2.2 gL_arePortsSo_X3_panelOf rfl rfl rfl (by decide +kernel) ⟨Nat.le_of_ble_eq_true rfl, Nat.le_of_ble_eq_true rfl⟩) hW rfl rfl hl.1 (Nat.le_of_ble_eq_true rfl) dL_arePortsSo_152 ⟨Nat.le_of_ble_eq_true rfl, Nat.le_of_ble_eq_true rfl⟩ (fun r152 H locs hq152 hW => ?_)
            obtain rfl := hq152
            refine lv_iload_n hx hb dL_arePortsSo_155 rfl (lv_at hl 6 rfl) ?_
            refine x_icmp_eq (a := gPn Γ i) (b := xpv Γ i) (tgt := 172) hx hb dL_arePortsSo_156 (by decide) (by omega) (by omega) (fun c156 => ?_) (fun c156 => ?_)
            · refine lv_iload_n hx hb dL_arePortsSo_172 rfl (lv_at hl 5 rfl) ?_
              refine lv_iload hx hb dL_arePortsSo_173 (lv_at hl 3 rfl) ?_
              refine x_if_ge (tgt := 182) hx hb dL_arePortsSo_175 (by decide) (by omega) ?_
              refine lv_iconst (v := 1) hx hb dL_arePortsSo_182 (by decide) ?_
              refine x_iadd (a := xcnt (fun q => gCb Γ q ≠ -1) i) (b := 1) hx hb dL_arePortsSo_183 ?_
              refine lv_istore_n (lv' := [(1, .int (nI ((xcnt (fun q => gCb Γ q ≠ -1) i) + 1))), (7, .int 1), (6, .int 1), (5, .int (nI q5)), (4, .int (nI q4)), (0, .ref (E.2.2.2 0)), (2, .int (nI (xpv Γ i))), (3, .int (nI i))]) hx hb dL_arePortsSo_184 rfl hl (by decide) rfl (fun ls hl => ?_)
              refine lv_aload_n hx hb dL_arePortsSo_185 rfl (lv_at hl 5 rfl) ?_
              refine lv_iload_n hx hb dL_arePortsSo_186 rfl (lv_at hl 7 rfl) ?_
              refine y_V (rm := rm0X3_panelOf) (As := [.int (nI i)]) (Γ' := Γ) (rest := []) S (fun N F hR => c0_X3_panelOf l E N F xo0 Γ hG.1 hR (p2 := i) (by omega)) (cwV 1 S.2.2.2.2 gL_arePortsSo_X3_panelOf rfl rfl rfl (by decide +kernel) ⟨Nat.le_of_ble_eq_true rfl, Nat.le_of_ble_eq_true rfl⟩) hW rfl rfl hl.1 (Nat.le_of_ble_eq_true rfl) dL_arePortsSo_187 ⟨Nat.le_of_ble_eq_true rfl, Nat.le_of_ble_eq_true rfl⟩ (fun r187 H locs hq187 hW => ?_)
              obtain rfl := hq187
              refine lv_istore_n (lv' := [(2, .int (nI (gPn Γ i))), (1, .int (nI ((xcnt (fun q => gCb Γ q ≠ -1) i) + 1))), (7, .int 1), (6, .int 1), (5, .int (nI q5)), (4, .int (nI q4)), (0, .ref (E.2.2.2 0)), (3, .int (nI i))]) hx hb dL_arePortsSo_190 rfl hl (by decide) rfl (fun ls hl => ?_)
              refine lv_iinc (v := (nI (i + 1))) (lv' := [(3, .int (nI (i + 1))), (2, .int (nI (gPn Γ i))), (1, .int (nI ((xcnt (fun q => gCb Γ q ≠ -1) i) + 1))), (7, .int 1), (6, .int 1), (5, .int (nI q5)), (4, .int (nI q4)), (0, .ref (E.2.2.2 0))]) hx hb dL_arePortsSo_191 hl (k := 7) rfl (x_inc _) (by decide) rfl (fun ls hl => ?_)
              refine lv_goto (tgt := 6) hx hb dL_arePortsSo_194 (by decide) ?_
              rw [← xpv_s Γ i] at hl
              rw [show xcnt (fun q => gCb Γ q ≠ -1) i + 1 = xcnt (fun q => gCb Γ q ≠ -1) (i + 1) from (xcnt_t (P := (fun q => gCb Γ q ≠ -1)) (show gCb Γ i ≠ -1 by rw [e4]; exact nI_m1 (by omega))).symm] at hl
              exact L6  (i + 1) (by omega) (by omega) _ _ _ hW (lv_sub hl [7, 2, 1, 0] rfl)
            · refine lv_aload_n hx hb dL_arePortsSo_159 rfl (lv_at hl 4 rfl) ?_
              refine lv_iload_n hx hb dL_arePortsSo_160 rfl (lv_at hl 7 rfl) ?_
              refine y_V (rm := rm0X3_panelOf) (As := [.int (nI i)]) (Γ' := Γ) (rest := []) S (fun N F hR => c0_X3_panelOf l E N F xo0 Γ hG.1 hR (p2 := i) (by omega)) (cwV 1 S.2.2.2.2 gL_arePortsSo_X3_panelOf rfl rfl rfl (by decide +kernel) ⟨Nat.le_of_ble_eq_true rfl, Nat.le_of_ble_eq_true rfl⟩) hW rfl rfl hl.1 (Nat.le_of_ble_eq_true rfl) dL_arePortsSo_161 ⟨Nat.le_of_ble_eq_true rfl, Nat.le_of_ble_eq_true rfl⟩ (fun r161 H locs hq161 hW => ?_)
              obtain rfl := hq161
              refine lv_iload_n hx hb dL_arePortsSo_164 rfl (lv_at hl 6 rfl) ?_
              refine lv_iconst (v := 1) hx hb dL_arePortsSo_165 (by decide) ?_
              refine x_iadd (a := xpv Γ i) (b := 1) hx hb dL_arePortsSo_166 ?_
              refine x_icmp_eq (a := gPn Γ i) (b := (xpv Γ i) + 1) (tgt := 172) hx hb dL_arePortsSo_167 (by decide) (by omega) (by omega) (fun c167 => ?_) (fun c167 => ?_)
              rotate_left
              · exact absurd (by omega) c167
              refine lv_iload_n hx hb dL_arePortsSo_172 rfl (lv_at hl 5 rfl) ?_
              refine lv_iload hx hb dL_arePortsSo_173 (lv_at hl 3 rfl) ?_
              refine x_if_ge (tgt := 182) hx hb dL_arePortsSo_175 (by decide) (by omega) ?_
              refine lv_iconst (v := 1) hx hb dL_arePortsSo_182 (by decide) ?_
              refine x_iadd (a := xcnt (fun q => gCb Γ q ≠ -1) i) (b := 1) hx hb dL_arePortsSo_183 ?_
              refine lv_istore_n (lv' := [(1, .int (nI ((xcnt (fun q => gCb Γ q ≠ -1) i) + 1))), (7, .int 1), (6, .int 1), (5, .int (nI q5)), (4, .int (nI q4)), (0, .ref (E.2.2.2 0)), (2, .int (nI (xpv Γ i))), (3, .int (nI i))]) hx hb dL_arePortsSo_184 rfl hl (by decide) rfl (fun ls hl => ?_)
              refine lv_aload_n hx hb dL_arePortsSo_185 rfl (lv_at hl 5 rfl) ?_
              refine lv_iload_n hx hb dL_arePortsSo_186 rfl (lv_at hl 7 rfl) ?_
              refine y_V (rm := rm0X3_panelOf) (As := [.int (nI i)]) (Γ' := Γ) (rest := []) S (fun N F hR => c0_X3_panelOf l E N F xo0 Γ hG.1 hR (p2 := i) (by omega)) (cwV 1 S.2.2.2.2 gL_arePortsSo_X3_panelOf rfl rfl rfl (by decide +kernel) ⟨Nat.le_of_ble_eq_true rfl, Nat.le_of_ble_eq_true rfl⟩) hW rfl rfl hl.1 (Nat.le_of_ble_eq_true rfl) dL_arePortsSo_187 ⟨Nat.le_of_ble_eq_true rfl, Nat.le_of_ble_eq_true rfl⟩ (fun r187 H locs hq187 hW => ?_)
              obtain rfl := hq187
              refine lv_istore_n (lv' := [(2, .int (nI (gPn Γ i))), (1, .int (nI ((xcnt (fun q => gCb Γ q ≠ -1) i) + 1))), (7, .int 1), (6, .int 1), (5, .int (nI q5)), (4, .int (nI q4)), (0, .ref (E.2.2.2 0)), (3, .int (nI i))]) hx hb dL_arePortsSo_190 rfl hl (by decide) rfl (fun ls hl => ?_)
              refine lv_iinc (v := (nI (i + 1))) (lv' := [(3, .int (nI (i + 1))), (2, .int (nI (gPn Γ i))), (1, .int (nI ((xcnt (fun q => gCb Γ q ≠ -1) i) + 1))), (7, .int 1), (6, .int 1), (5, .int (nI q5)), (4, .int (nI q4)), (0, .ref (E.2.2.2 0))]) hx hb dL_arePortsSo_191 hl (k := 7) rfl (x_inc _) (by decide) rfl (fun ls hl => ?_)
              refine lv_goto (tgt := 6) hx hb dL_arePortsSo_194 (by decide) ?_
              rw [← xpv_s Γ i] at hl
              rw [show xcnt (fun q => gCb Γ q ≠ -1) i + 1 = xcnt (fun q => gCb Γ q ≠ -1) (i + 1) from (xcnt_t (P := (fun q => gCb Γ q ≠ -1)) (show gCb Γ i ≠ -1 by rw [e4]; exact nI_m1 (by omega))).symm] at hl
              exact L6  (i + 1) (by omega) (by omega) _ _ _ hW (lv_sub hl [7, 2, 1, 0] rfl)
  exact L6 _ (0) (Nat.lt_succ_self _) (by omega) _ _ _ hW (lv_sub hl [3, 2, 1, 0] rfl)
