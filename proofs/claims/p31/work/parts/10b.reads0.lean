/-! reads of what is there: no row throws, nothing is made -/
abbrev rm0X3_checkPort : Room := { frames := 1, cells := 0, slots := 0, locals := 22 }
set_option maxHeartbeats 4000000 in
set_option maxRecDepth 100000 in
theorem c0_X3_checkPort (l : Launch) (E : xE) (n : Nat → Int32) (f : Nat → Nat → Int32) (o : Nat → Int64) {no : Nat} (hn : n 1 = nI no) (hno : no ≤ 1000) {p1 : Nat} (h1 : p1 < no) : xCv l yX3_checkPort wsX3_checkPort rm0X3_checkPort E [.ref (E.2.2.2 0), .int (nI p1)] (n, f, o) (fun σ' => σ' = (n, f, o)) := by
  refine x_startv RX3 (by decide) rfl rfl (Nat.le_of_ble_eq_true rfl) ?_
  intro p e s m args below meth c ls S hr hlk hW hl
  have hx := S.1
  have hb := S.2.1
  have hl : lv_has ls 2 [(0, .ref (E.2.2.2 0)), (1, .int (nI p1))] := hl
  have hinX3 : ∀ w ∈ wsX30, w ∈ wsX3_checkPort := by decide +kernel
  have w77 : Cond.fieldLink RX3 77 "CableBook" "portCount" "I" ∈ wsX3_checkPort := by decide +kernel
  refine lv_iload_n hx hb dX3_checkPort_0 rfl (lv_at hl 1 rfl) ?_
  refine lv_iconst (v := 0) hx hb dX3_checkPort_1 (by decide) ?_
  refine lv_aload_n hx hb dX3_checkPort_2 rfl (lv_at hl 0 rfl) ?_
  refine x_get (v := .int (n 1)) S hW hinX3 0 (xw_0 E _) rfl 4 (by decide) w77 rfl dX3_checkPort_3 ?_
  refine x_topN (no) (hn) ?_
  refine lv_iconst (v := 1) hx hb dX3_checkPort_6 (by decide) ?_
  refine lv_isub hx hb dX3_checkPort_7 ?_
  refine x_Si (rest := []) S (c_X3_isWithin l E n f o (nI p1) 0 ((nI no) - 1)) (cwS 3 S.2.2.2.2 gX3_checkPort_X3_isWithin rfl rfl rfl (by decide +kernel) ⟨Nat.le_of_ble_eq_true rfl, Nat.le_of_ble_eq_true rfl⟩) hW rfl rfl hl.1 (Nat.le_of_ble_eq_true rfl) dX3_checkPort_8 ⟨Nat.zero_le _, Nat.zero_le _⟩ (fun r8 σ8 H locs hq1 hW => ?_)
  rcases hq1 with ⟨rfl, h8, rfl⟩ | ⟨rfl, h8, rfl⟩
  · exact absurd ((xP_iff hno).mpr ⟨p1, h1, rfl⟩) h8
  · refine lv_if_ne (tgt := 24) hx hb dX3_checkPort_11 (by decide) (fun c11 => ?_) (fun c11 => ?_)
    rotate_left
    · exact absurd c11 (by decide)
    exact x_retv S hr hlk hW dX3_checkPort_24 (rfl)

abbrev rm0X3_checkTrunk : Room := { frames := 1, cells := 0, slots := 0, locals := 22 }
set_option maxHeartbeats 4000000 in
set_option maxRecDepth 100000 in
theorem c0_X3_checkTrunk (l : Launch) (E : xE) (n : Nat → Int32) (f : Nat → Nat → Int32) (o : Nat → Int64) {nt : Nat} (hn : n 2 = nI nt) (hno : nt ≤ 1000) {p1 : Nat} (h1 : p1 < nt) : xCv l yX3_checkTrunk wsX3_checkTrunk rm0X3_checkTrunk E [.ref (E.2.2.2 0), .int (nI p1)] (n, f, o) (fun σ' => σ' = (n, f, o)) := by
  refine x_startv RX3 (by decide) rfl rfl (Nat.le_of_ble_eq_true rfl) ?_
  intro p e s m args below meth c ls S hr hlk hW hl
  have hx := S.1
  have hb := S.2.1
  have hl : lv_has ls 2 [(0, .ref (E.2.2.2 0)), (1, .int (nI p1))] := hl
  have hinX3 : ∀ w ∈ wsX30, w ∈ wsX3_checkTrunk := by decide +kernel
  have w80 : Cond.fieldLink RX3 80 "CableBook" "trunkCount" "I" ∈ wsX3_checkTrunk := by decide +kernel
  refine lv_iload_n hx hb dX3_checkTrunk_0 rfl (lv_at hl 1 rfl) ?_
  refine lv_iconst (v := 0) hx hb dX3_checkTrunk_1 (by decide) ?_
  refine lv_aload_n hx hb dX3_checkTrunk_2 rfl (lv_at hl 0 rfl) ?_
  refine x_get (v := .int (n 2)) S hW hinX3 0 (xw_0 E _) rfl 11 (by decide) w80 rfl dX3_checkTrunk_3 ?_
  refine x_topN (nt) (hn) ?_
  refine lv_iconst (v := 1) hx hb dX3_checkTrunk_6 (by decide) ?_
  refine lv_isub hx hb dX3_checkTrunk_7 ?_
  refine x_Si (rest := []) S (c_X3_isWithin l E n f o (nI p1) 0 ((nI nt) - 1)) (cwS 3 S.2.2.2.2 gX3_checkTrunk_X3_isWithin rfl rfl rfl (by decide +kernel) ⟨Nat.le_of_ble_eq_true rfl, Nat.le_of_ble_eq_true rfl⟩) hW rfl rfl hl.1 (Nat.le_of_ble_eq_true rfl) dX3_checkTrunk_8 ⟨Nat.zero_le _, Nat.zero_le _⟩ (fun r8 σ8 H locs hq1 hW => ?_)
  rcases hq1 with ⟨rfl, h8, rfl⟩ | ⟨rfl, h8, rfl⟩
  · exact absurd ((xP_iff hno).mpr ⟨p1, h1, rfl⟩) h8
  · refine lv_if_ne (tgt := 24) hx hb dX3_checkTrunk_11 (by decide) (fun c11 => ?_) (fun c11 => ?_)
    rotate_left
    · exact absurd c11 (by decide)
    exact x_retv S hr hlk hW dX3_checkTrunk_24 (rfl)

abbrev rm0X3_panelOf : Room := { frames := 2, cells := 0, slots := 0, locals := 43 }
set_option maxHeartbeats 4000000 in
set_option maxRecDepth 100000 in
theorem c0_X3_panelOf (l : Launch) (E : xE) (n : Nat → Int32) (f : Nat → Nat → Int32) (o : Nat → Int64) (Γ : xG) (hG : xGood Γ) (hR : xRepC Γ n f) {p2 : Nat} (hp2 : p2 < gNo Γ) : xCi l yX3_panelOf wsX3_panelOf rm0X3_panelOf E [.ref (E.2.2.2 0), .int (nI p2)] (n, f, o) (fun r σ' => r = nI (gPn Γ p2) ∧ xOKC Γ n f o σ') := by
  refine x_starti RX3 (by decide) rfl rfl (Nat.le_of_ble_eq_true rfl) ?_
  intro p e s m args below meth c ls S hr hlk hW hl
  have hx := S.1
  have hb := S.2.1
  have hl : lv_has ls 2 [(0, .ref (E.2.2.2 0)), (1, .int (nI p2))] := hl
  have hinX3 : ∀ w ∈ wsX30, w ∈ wsX3_panelOf := by decide +kernel
  have w24 : Cond.fieldLink RX3 24 "CableBook" "panelAt" "LCableBook$Row;" ∈ wsX3_panelOf := by decide +kernel
  have hno := hG.no
  have hnp := hG.np
  have hnt := hG.nt
  have hnm := hG.nm
  refine lv_aload_n hx hb dX3_panelOf_0 rfl (lv_at hl 0 rfl) ?_
  refine lv_iload_n hx hb dX3_panelOf_1 rfl (lv_at hl 1 rfl) ?_
  refine x_Vv (rest := []) S (c0_X3_checkPort l E n f o hR.no (by omega) (p1 := p2) hp2) (cwV 1 S.2.2.2.2 gX3_panelOf_X3_checkPort rfl rfl rfl (by decide +kernel) ⟨Nat.le_of_ble_eq_true rfl, Nat.le_of_ble_eq_true rfl⟩) hW 0 (xw_0 E _) rfl rfl rfl hl.1 (Nat.le_of_ble_eq_true rfl) dX3_panelOf_2 ⟨Nat.zero_le _, Nat.zero_le _⟩ (fun σ2 H locs hq1 hW => ?_)
  obtain rfl := hq1
  refine lv_aload_n hx hb dX3_panelOf_5 rfl (lv_at hl 0 rfl) ?_
  refine x_get (v := .ref (E.2.2.2 7)) S hW hinX3 0 (xw_0 E _) rfl 5 (by decide) w24 rfl dX3_panelOf_6 ?_
  refine lv_iload_n hx hb dX3_panelOf_9 rfl (lv_at hl 1 rfl) ?_
  refine x_Vi (rest := []) S (c_X2_at l E n f o (i := 3) (by decide) (k := p2) (show _ < 144 from by omega)) (cwV 1 S.2.2.2.2 gX3_panelOf_X2_at rfl rfl rfl (by decide +kernel) ⟨Nat.le_of_ble_eq_true rfl, Nat.le_of_ble_eq_true rfl⟩) hW 7 (xw_7 E _) rfl rfl rfl hl.1 (Nat.le_of_ble_eq_true rfl) dX3_panelOf_10 ⟨Nat.zero_le _, Nat.zero_le _⟩ (fun r10 σ10 H locs hq2 hW => ?_)
  obtain ⟨rfl, rfl⟩ := hq2
  exact x_reti S hr hlk hW dX3_panelOf_13 (⟨hR.pn _ hp2, hR.same⟩)

abbrev rm0X3_byCable : Room := { frames := 2, cells := 0, slots := 0, locals := 43 }
set_option maxHeartbeats 4000000 in
set_option maxRecDepth 100000 in
theorem c0_X3_byCable (l : Launch) (E : xE) (n : Nat → Int32) (f : Nat → Nat → Int32) (o : Nat → Int64) (Γ : xG) (hG : xGood Γ) (hR : xRepC Γ n f) {p2 : Nat} (hp2 : p2 < gNo Γ) : xCi l yX3_byCable wsX3_byCable rm0X3_byCable E [.ref (E.2.2.2 0), .int (nI p2)] (n, f, o) (fun r σ' => r = gCb Γ p2 ∧ xOKC Γ n f o σ') := by
  refine x_starti RX3 (by decide) rfl rfl (Nat.le_of_ble_eq_true rfl) ?_
  intro p e s m args below meth c ls S hr hlk hW hl
  have hx := S.1
  have hb := S.2.1
  have hl : lv_has ls 2 [(0, .ref (E.2.2.2 0)), (1, .int (nI p2))] := hl
  have hinX3 : ∀ w ∈ wsX30, w ∈ wsX3_byCable := by decide +kernel
  have w27 : Cond.fieldLink RX3 27 "CableBook" "cableTo" "LCableBook$Row;" ∈ wsX3_byCable := by decide +kernel
  have hno := hG.no
  have hnp := hG.np
  have hnt := hG.nt
  have hnm := hG.nm
  refine lv_aload_n hx hb dX3_byCable_0 rfl (lv_at hl 0 rfl) ?_
  refine lv_iload_n hx hb dX3_byCable_1 rfl (lv_at hl 1 rfl) ?_
  refine x_Vv (rest := []) S (c0_X3_checkPort l E n f o hR.no (by omega) (p1 := p2) hp2) (cwV 1 S.2.2.2.2 gX3_byCable_X3_checkPort rfl rfl rfl (by decide +kernel) ⟨Nat.le_of_ble_eq_true rfl, Nat.le_of_ble_eq_true rfl⟩) hW 0 (xw_0 E _) rfl rfl rfl hl.1 (Nat.le_of_ble_eq_true rfl) dX3_byCable_2 ⟨Nat.zero_le _, Nat.zero_le _⟩ (fun σ2 H locs hq1 hW => ?_)
  obtain rfl := hq1
  refine lv_aload_n hx hb dX3_byCable_5 rfl (lv_at hl 0 rfl) ?_
  refine x_get (v := .ref (E.2.2.2 9)) S hW hinX3 0 (xw_0 E _) rfl 6 (by decide) w27 rfl dX3_byCable_6 ?_
  refine lv_iload_n hx hb dX3_byCable_9 rfl (lv_at hl 1 rfl) ?_
  refine x_Vi (rest := []) S (c_X2_at l E n f o (i := 4) (by decide) (k := p2) (show _ < 144 from by omega)) (cwV 1 S.2.2.2.2 gX3_byCable_X2_at rfl rfl rfl (by decide +kernel) ⟨Nat.le_of_ble_eq_true rfl, Nat.le_of_ble_eq_true rfl⟩) hW 9 (xw_9 E _) rfl rfl rfl hl.1 (Nat.le_of_ble_eq_true rfl) dX3_byCable_10 ⟨Nat.zero_le _, Nat.zero_le _⟩ (fun r10 σ10 H locs hq2 hW => ?_)
  obtain ⟨rfl, rfl⟩ := hq2
  exact x_reti S hr hlk hW dX3_byCable_13 (⟨hR.cb _ (by omega), hR.same⟩)

abbrev rm0X3_byStrand : Room := { frames := 2, cells := 0, slots := 0, locals := 43 }
set_option maxHeartbeats 4000000 in
set_option maxRecDepth 100000 in
theorem c0_X3_byStrand (l : Launch) (E : xE) (n : Nat → Int32) (f : Nat → Nat → Int32) (o : Nat → Int64) (Γ : xG) (hG : xGood Γ) (hR : xRepC Γ n f) {p2 : Nat} (hp2 : p2 < gNo Γ) : xCi l yX3_byStrand wsX3_byStrand rm0X3_byStrand E [.ref (E.2.2.2 0), .int (nI p2)] (n, f, o) (fun r σ' => r = gSt Γ p2 ∧ xOKC Γ n f o σ') := by
  refine x_starti RX3 (by decide) rfl rfl (Nat.le_of_ble_eq_true rfl) ?_
  intro p e s m args below meth c ls S hr hlk hW hl
  have hx := S.1
  have hb := S.2.1
  have hl : lv_has ls 2 [(0, .ref (E.2.2.2 0)), (1, .int (nI p2))] := hl
  have hinX3 : ∀ w ∈ wsX30, w ∈ wsX3_byStrand := by decide +kernel
  have w33 : Cond.fieldLink RX3 33 "CableBook" "strandTo" "LCableBook$Row;" ∈ wsX3_byStrand := by decide +kernel
  have hno := hG.no
  have hnp := hG.np
  have hnt := hG.nt
  have hnm := hG.nm
  refine lv_aload_n hx hb dX3_byStrand_0 rfl (lv_at hl 0 rfl) ?_
  refine lv_iload_n hx hb dX3_byStrand_1 rfl (lv_at hl 1 rfl) ?_
  refine x_Vv (rest := []) S (c0_X3_checkPort l E n f o hR.no (by omega) (p1 := p2) hp2) (cwV 1 S.2.2.2.2 gX3_byStrand_X3_checkPort rfl rfl rfl (by decide +kernel) ⟨Nat.le_of_ble_eq_true rfl, Nat.le_of_ble_eq_true rfl⟩) hW 0 (xw_0 E _) rfl rfl rfl hl.1 (Nat.le_of_ble_eq_true rfl) dX3_byStrand_2 ⟨Nat.zero_le _, Nat.zero_le _⟩ (fun σ2 H locs hq1 hW => ?_)
  obtain rfl := hq1
  refine lv_aload_n hx hb dX3_byStrand_5 rfl (lv_at hl 0 rfl) ?_
  refine x_get (v := .ref (E.2.2.2 13)) S hW hinX3 0 (xw_0 E _) rfl 8 (by decide) w33 rfl dX3_byStrand_6 ?_
  refine lv_iload_n hx hb dX3_byStrand_9 rfl (lv_at hl 1 rfl) ?_
  refine x_Vi (rest := []) S (c_X2_at l E n f o (i := 6) (by decide) (k := p2) (show _ < 144 from by omega)) (cwV 1 S.2.2.2.2 gX3_byStrand_X2_at rfl rfl rfl (by decide +kernel) ⟨Nat.le_of_ble_eq_true rfl, Nat.le_of_ble_eq_true rfl⟩) hW 13 (xw_13 E _) rfl rfl rfl hl.1 (Nat.le_of_ble_eq_true rfl) dX3_byStrand_10 ⟨Nat.zero_le _, Nat.zero_le _⟩ (fun r10 σ10 H locs hq2 hW => ?_)
  obtain ⟨rfl, rfl⟩ := hq2
  exact x_reti S hr hlk hW dX3_byStrand_13 (⟨hR.st _ (by omega), hR.same⟩)

abbrev rm0X3_colour : Room := { frames := 2, cells := 0, slots := 0, locals := 43 }
set_option maxHeartbeats 4000000 in
set_option maxRecDepth 100000 in
theorem c0_X3_colour (l : Launch) (E : xE) (n : Nat → Int32) (f : Nat → Nat → Int32) (o : Nat → Int64) (Γ : xG) (hG : xGood Γ) (hR : xRepC Γ n f) {p2 : Nat} (hp2 : p2 < gNo Γ) : xCi l yX3_colour wsX3_colour rm0X3_colour E [.ref (E.2.2.2 0), .int (nI p2)] (n, f, o) (fun r σ' => r = gCl Γ p2 ∧ xOKC Γ n f o σ') := by
  refine x_starti RX3 (by decide) rfl rfl (Nat.le_of_ble_eq_true rfl) ?_
  intro p e s m args below meth c ls S hr hlk hW hl
  have hx := S.1
  have hb := S.2.1
  have hl : lv_has ls 2 [(0, .ref (E.2.2.2 0)), (1, .int (nI p2))] := hl
  have hinX3 : ∀ w ∈ wsX30, w ∈ wsX3_colour := by decide +kernel
  have w30 : Cond.fieldLink RX3 30 "CableBook" "colourAt" "LCableBook$Row;" ∈ wsX3_colour := by decide +kernel
  have hno := hG.no
  have hnp := hG.np
  have hnt := hG.nt
  have hnm := hG.nm
  refine lv_aload_n hx hb dX3_colour_0 rfl (lv_at hl 0 rfl) ?_
  refine lv_iload_n hx hb dX3_colour_1 rfl (lv_at hl 1 rfl) ?_
  refine x_Vv (rest := []) S (c0_X3_checkPort l E n f o hR.no (by omega) (p1 := p2) hp2) (cwV 1 S.2.2.2.2 gX3_colour_X3_checkPort rfl rfl rfl (by decide +kernel) ⟨Nat.le_of_ble_eq_true rfl, Nat.le_of_ble_eq_true rfl⟩) hW 0 (xw_0 E _) rfl rfl rfl hl.1 (Nat.le_of_ble_eq_true rfl) dX3_colour_2 ⟨Nat.zero_le _, Nat.zero_le _⟩ (fun σ2 H locs hq1 hW => ?_)
  obtain rfl := hq1
  refine lv_aload_n hx hb dX3_colour_5 rfl (lv_at hl 0 rfl) ?_
  refine x_get (v := .ref (E.2.2.2 11)) S hW hinX3 0 (xw_0 E _) rfl 7 (by decide) w30 rfl dX3_colour_6 ?_
  refine lv_iload_n hx hb dX3_colour_9 rfl (lv_at hl 1 rfl) ?_
  refine x_Vi (rest := []) S (c_X2_at l E n f o (i := 5) (by decide) (k := p2) (show _ < 144 from by omega)) (cwV 1 S.2.2.2.2 gX3_colour_X2_at rfl rfl rfl (by decide +kernel) ⟨Nat.le_of_ble_eq_true rfl, Nat.le_of_ble_eq_true rfl⟩) hW 11 (xw_11 E _) rfl rfl rfl hl.1 (Nat.le_of_ble_eq_true rfl) dX3_colour_10 ⟨Nat.zero_le _, Nat.zero_le _⟩ (fun r10 σ10 H locs hq2 hW => ?_)
  obtain ⟨rfl, rfl⟩ := hq2
  exact x_reti S hr hlk hW dX3_colour_13 (⟨hR.cl _ (by omega), hR.same⟩)

abbrev rm0X3_end : Room := { frames := 3, cells := 0, slots := 0, locals := 67 }
set_option maxHeartbeats 4000000 in
set_option maxRecDepth 100000 in
theorem c0_X3_end (l : Launch) (E : xE) (n : Nat → Int32) (f : Nat → Nat → Int32) (o : Nat → Int64) (Γ : xG) (hG : xGood Γ) (hR : xRepC Γ n f) {p2 : Nat} (hp2 : p2 < gNo Γ) (b : Bool) : xCi l yX3_end wsX3_end rm0X3_end E [.ref (E.2.2.2 0), .int (nI p2), .int (bz b)] (n, f, o) (fun r σ' => (∃ K, xStop (gCb Γ) (gOp Γ) b p2 K ∧ r = xw (gCb Γ) (gOp Γ) b p2 K) ∧ xOKC Γ n f o σ') := by
  refine x_starti RX3 (by decide) rfl rfl (Nat.le_of_ble_eq_true rfl) ?_
  intro p e s m args below meth c ls S hr hlk hW hl
  have hx := S.1
  have hb := S.2.1
  have hl : lv_has ls 3 [(0, .ref (E.2.2.2 0)), (1, .int (nI p2)), (2, .int (bz b))] := hl
  have hno := hG.no
  have hnp := hG.np
  have hnt := hG.nt
  have hnm := hG.nm
  refine lv_aload_n hx hb dX3_end_0 rfl (lv_at hl 0 rfl) ?_
  refine lv_iload_n hx hb dX3_end_1 rfl (lv_at hl 1 rfl) ?_
  refine x_Vv (rest := []) S (c0_X3_checkPort l E n f o hR.no (by omega) (p1 := p2) hp2) (cwV 1 S.2.2.2.2 gX3_end_X3_checkPort rfl rfl rfl (by decide +kernel) ⟨Nat.le_of_ble_eq_true rfl, Nat.le_of_ble_eq_true rfl⟩) hW 0 (xw_0 E _) rfl rfl rfl hl.1 (Nat.le_of_ble_eq_true rfl) dX3_end_2 ⟨Nat.zero_le _, Nat.zero_le _⟩ (fun σ2 H locs hq1 hW => ?_)
  obtain rfl := hq1
  refine lv_aload_n hx hb dX3_end_5 rfl (lv_at hl 0 rfl) ?_
  refine lv_iload_n hx hb dX3_end_6 rfl (lv_at hl 1 rfl) ?_
  refine lv_aload_n hx hb dX3_end_7 rfl (lv_at hl 0 rfl) ?_
  refine lv_iload_n hx hb dX3_end_8 rfl (lv_at hl 1 rfl) ?_
  refine lv_iload_n hx hb dX3_end_9 rfl (lv_at hl 2 rfl) ?_
  refine x_Vi (rest := [.int (nI p2), .ref (E.2.2.2 0)]) S (c_X3_trace l E n f o hG.no (hR.cabM hG) (hR.opM hG) (p1 := p2) hp2 b) (cwV 2 S.2.2.2.2 gX3_end_X3_trace rfl rfl rfl (by decide +kernel) ⟨Nat.le_of_ble_eq_true rfl, Nat.le_of_ble_eq_true rfl⟩) hW 0 (xw_0 E _) rfl rfl rfl hl.1 (Nat.le_of_ble_eq_true rfl) dX3_end_10 ⟨Nat.zero_le _, Nat.zero_le _⟩ (fun r10 σ10 H locs hq2 hW => ?_)
  obtain ⟨K10, g10, rfl, rfl, hS10, hg10⟩ := hq2
  obtain ⟨hS10, hg10, hK10⟩ := hR.tr hG hp2 hS10 hg10
  refine x_Vi (rest := []) S (c_X3_endOfTrail l E n (xu f 11 g10) o (nI p2) (K := K10) (by omega)) (cwV 2 S.2.2.2.2 gX3_end_X3_endOfTrail rfl rfl rfl (by decide +kernel) ⟨Nat.le_of_ble_eq_true rfl, Nat.le_of_ble_eq_true rfl⟩) hW 0 (xw_0 E _) rfl rfl rfl hl.1 (Nat.le_of_ble_eq_true rfl) dX3_end_13 ⟨Nat.zero_le _, Nat.zero_le _⟩ (fun r13 σ13 H locs hq3 hW => ?_)
  obtain ⟨rfl, rfl⟩ := hq3
  exact x_reti S hr hlk hW dX3_end_16 (⟨⟨K10, hS10, xend hg10⟩, hR.trail _⟩)

abbrev rm0X3_hops : Room := { frames := 3, cells := 0, slots := 0, locals := 67 }
set_option maxHeartbeats 4000000 in
set_option maxRecDepth 100000 in
theorem c0_X3_hops (l : Launch) (E : xE) (n : Nat → Int32) (f : Nat → Nat → Int32) (o : Nat → Int64) (Γ : xG) (hG : xGood Γ) (hR : xRepC Γ n f) {p2 : Nat} (hp2 : p2 < gNo Γ) (b : Bool) : xCi l yX3_hops wsX3_hops rm0X3_hops E [.ref (E.2.2.2 0), .int (nI p2), .int (bz b)] (n, f, o) (fun r σ' => (∃ K, xStop (gCb Γ) (gOp Γ) b p2 K ∧ r = nI K) ∧ xOKC Γ n f o σ') := by
  refine x_starti RX3 (by decide) rfl rfl (Nat.le_of_ble_eq_true rfl) ?_
  intro p e s m args below meth c ls S hr hlk hW hl
  have hx := S.1
  have hb := S.2.1
  have hl : lv_has ls 3 [(0, .ref (E.2.2.2 0)), (1, .int (nI p2)), (2, .int (bz b))] := hl
  have hno := hG.no
  have hnp := hG.np
  have hnt := hG.nt
  have hnm := hG.nm
  refine lv_aload_n hx hb dX3_hops_0 rfl (lv_at hl 0 rfl) ?_
  refine lv_iload_n hx hb dX3_hops_1 rfl (lv_at hl 1 rfl) ?_
  refine x_Vv (rest := []) S (c0_X3_checkPort l E n f o hR.no (by omega) (p1 := p2) hp2) (cwV 1 S.2.2.2.2 gX3_hops_X3_checkPort rfl rfl rfl (by decide +kernel) ⟨Nat.le_of_ble_eq_true rfl, Nat.le_of_ble_eq_true rfl⟩) hW 0 (xw_0 E _) rfl rfl rfl hl.1 (Nat.le_of_ble_eq_true rfl) dX3_hops_2 ⟨Nat.zero_le _, Nat.zero_le _⟩ (fun σ2 H locs hq1 hW => ?_)
  obtain rfl := hq1
  refine lv_aload_n hx hb dX3_hops_5 rfl (lv_at hl 0 rfl) ?_
  refine lv_iload_n hx hb dX3_hops_6 rfl (lv_at hl 1 rfl) ?_
  refine lv_iload_n hx hb dX3_hops_7 rfl (lv_at hl 2 rfl) ?_
  refine x_Vi (rest := []) S (c_X3_trace l E n f o hG.no (hR.cabM hG) (hR.opM hG) (p1 := p2) hp2 b) (cwV 2 S.2.2.2.2 gX3_hops_X3_trace rfl rfl rfl (by decide +kernel) ⟨Nat.le_of_ble_eq_true rfl, Nat.le_of_ble_eq_true rfl⟩) hW 0 (xw_0 E _) rfl rfl rfl hl.1 (Nat.le_of_ble_eq_true rfl) dX3_hops_8 ⟨Nat.zero_le _, Nat.zero_le _⟩ (fun r8 σ8 H locs hq2 hW => ?_)
  obtain ⟨K8, g8, rfl, rfl, hS8, hg8⟩ := hq2
  obtain ⟨hS8, hg8, hK8⟩ := hR.tr hG hp2 hS8 hg8
  exact x_reti S hr hlk hW dX3_hops_11 (⟨⟨K8, hS8, rfl⟩, hR.trail _⟩)

abbrev rm0X3_hopTo : Room := { frames := 3, cells := 0, slots := 0, locals := 67 }
set_option maxHeartbeats 4000000 in
set_option maxRecDepth 100000 in
theorem c0_X3_hopTo (l : Launch) (E : xE) (n : Nat → Int32) (f : Nat → Nat → Int32) (o : Nat → Int64) (Γ : xG) (hG : xGood Γ) (hR : xRepC Γ n f) {p2 : Nat} (hp2 : p2 < gNo Γ) (b : Bool) {h9 K9 : Nat} (hK9 : xStop (gCb Γ) (gOp Γ) b p2 K9) (hh9 : h9 < K9) : xCi l yX3_hopTo wsX3_hopTo rm0X3_hopTo E [.ref (E.2.2.2 0), .int (nI p2), .int (bz b), .int (nI h9)] (n, f, o) (fun r σ' => r = xw (gCb Γ) (gOp Γ) b p2 (h9 + 1) ∧ xOKC Γ n f o σ') := by
  refine x_starti RX3 (by decide) rfl rfl (Nat.le_of_ble_eq_true rfl) ?_
  intro p e s m args below meth c ls S hr hlk hW hl
  have hx := S.1
  have hb := S.2.1
  have hl : lv_has ls 4 [(0, .ref (E.2.2.2 0)), (1, .int (nI p2)), (2, .int (bz b)), (3, .int (nI h9))] := hl
  have hinX3 : ∀ w ∈ wsX30, w ∈ wsX3_hopTo := by decide +kernel
  have w64 : Cond.fieldLink RX3 64 "CableBook" "trail" "LCableBook$Row;" ∈ wsX3_hopTo := by decide +kernel
  have hno := hG.no
  have hnp := hG.np
  have hnt := hG.nt
  have hnm := hG.nm
  refine lv_aload_n hx hb dX3_hopTo_0 rfl (lv_at hl 0 rfl) ?_
  refine lv_iload_n hx hb dX3_hopTo_1 rfl (lv_at hl 1 rfl) ?_
  refine x_Vv (rest := []) S (c0_X3_checkPort l E n f o hR.no (by omega) (p1 := p2) hp2) (cwV 1 S.2.2.2.2 gX3_hopTo_X3_checkPort rfl rfl rfl (by decide +kernel) ⟨Nat.le_of_ble_eq_true rfl, Nat.le_of_ble_eq_true rfl⟩) hW 0 (xw_0 E _) rfl rfl rfl hl.1 (Nat.le_of_ble_eq_true rfl) dX3_hopTo_2 ⟨Nat.zero_le _, Nat.zero_le _⟩ (fun σ2 H locs hq1 hW => ?_)
  obtain rfl := hq1
  refine lv_iload_n hx hb dX3_hopTo_5 rfl (lv_at hl 3 rfl) ?_
  refine lv_iconst (v := 0) hx hb dX3_hopTo_6 (by decide) ?_
  refine lv_aload_n hx hb dX3_hopTo_7 rfl (lv_at hl 0 rfl) ?_
  refine lv_iload_n hx hb dX3_hopTo_8 rfl (lv_at hl 1 rfl) ?_
  refine lv_iload_n hx hb dX3_hopTo_9 rfl (lv_at hl 2 rfl) ?_
  refine x_Vi (rest := [.int 0, .int (nI h9)]) S (c_X3_trace l E n f o hG.no (hR.cabM hG) (hR.opM hG) (p1 := p2) hp2 b) (cwV 2 S.2.2.2.2 gX3_hopTo_X3_trace rfl rfl rfl (by decide +kernel) ⟨Nat.le_of_ble_eq_true rfl, Nat.le_of_ble_eq_true rfl⟩) hW 0 (xw_0 E _) rfl rfl rfl hl.1 (Nat.le_of_ble_eq_true rfl) dX3_hopTo_10 ⟨Nat.zero_le _, Nat.zero_le _⟩ (fun r10 σ10 H locs hq2 hW => ?_)
  obtain ⟨K10, g10, rfl, rfl, hS10, hg10⟩ := hq2
  obtain ⟨hS10, hg10, hK10⟩ := hR.tr hG hp2 hS10 hg10
  refine lv_iconst (v := 1) hx hb dX3_hopTo_13 (by decide) ?_
  obtain rfl := hK9.uniq hS10
  have hK10b : K9 ≤ 1000 := by omega
  refine lv_isub hx hb dX3_hopTo_14 ?_
  refine x_Si (rest := []) S (c_X3_isWithin l E n (xu f 11 g10) o (nI h9) 0 ((nI K9) - 1)) (cwS 3 S.2.2.2.2 gX3_hopTo_X3_isWithin rfl rfl rfl (by decide +kernel) ⟨Nat.le_of_ble_eq_true rfl, Nat.le_of_ble_eq_true rfl⟩) hW rfl rfl hl.1 (Nat.le_of_ble_eq_true rfl) dX3_hopTo_15 ⟨Nat.zero_le _, Nat.zero_le _⟩ (fun r15 σ15 H locs hq3 hW => ?_)
  rcases hq3 with ⟨rfl, h15, rfl⟩ | ⟨rfl, h15, rfl⟩
  · exact absurd ((xP_iff hK10b).mpr ⟨h9, hh9, rfl⟩) h15
  · refine lv_if_ne (tgt := 31) hx hb dX3_hopTo_18 (by decide) (fun c18 => ?_) (fun c18 => ?_)
    rotate_left
    · exact absurd c18 (by decide)
    refine lv_aload_n hx hb dX3_hopTo_31 rfl (lv_at hl 0 rfl) ?_
    refine x_get (v := .ref (E.2.2.2 23)) S hW hinX3 0 (xw_0 E _) rfl 16 (by decide) w64 rfl dX3_hopTo_32 ?_
    refine lv_iload_n hx hb dX3_hopTo_35 rfl (lv_at hl 3 rfl) ?_
    refine x_Vi (rest := []) S (c_X2_at l E n (xu f 11 g10) o (i := 11) (by decide) (k := h9) (show _ < 144 from by omega)) (cwV 1 S.2.2.2.2 gX3_hopTo_X2_at rfl rfl rfl (by decide +kernel) ⟨Nat.le_of_ble_eq_true rfl, Nat.le_of_ble_eq_true rfl⟩) hW 23 (xw_23 E _) rfl rfl rfl hl.1 (Nat.le_of_ble_eq_true rfl) dX3_hopTo_36 ⟨Nat.zero_le _, Nat.zero_le _⟩ (fun r36 σ36 H locs hq4 hW => ?_)
    obtain ⟨rfl, rfl⟩ := hq4
    exact x_reti S hr hlk hW dX3_hopTo_39 (⟨hg10 h9 hh9, hR.trail _⟩)

abbrev rm0X3_isRing : Room := { frames := 3, cells := 0, slots := 0, locals := 67 }
set_option maxHeartbeats 4000000 in
set_option maxRecDepth 100000 in
theorem c0_X3_isRing (l : Launch) (E : xE) (n : Nat → Int32) (f : Nat → Nat → Int32) (o : Nat → Int64) (Γ : xG) (hG : xGood Γ) (hR : xRepC Γ n f) {p2 : Nat} (hp2 : p2 < gNo Γ) : xCi l yX3_isRing wsX3_isRing rm0X3_isRing E [.ref (E.2.2.2 0), .int (nI p2)] (n, f, o) (fun r σ' => r = xif (∃ K, xStop (gCb Γ) (gOp Γ) true p2 K ∧ 0 < K ∧ xw (gCb Γ) (gOp Γ) true p2 K = nI p2) 1 0 ∧ xOKC Γ n f o σ') := by
  refine x_starti RX3 (by decide) rfl rfl (Nat.le_of_ble_eq_true rfl) ?_
  intro p e s m args below meth c ls S hr hlk hW hl
  have hx := S.1
  have hb := S.2.1
  have hl : lv_has ls 3 [(0, .ref (E.2.2.2 0)), (1, .int (nI p2))] := hl
  have hno := hG.no
  have hnp := hG.np
  have hnt := hG.nt
  have hnm := hG.nm
  refine lv_aload_n hx hb dX3_isRing_0 rfl (lv_at hl 0 rfl) ?_
  refine lv_iload_n hx hb dX3_isRing_1 rfl (lv_at hl 1 rfl) ?_
  refine x_Vv (rest := []) S (c0_X3_checkPort l E n f o hR.no (by omega) (p1 := p2) hp2) (cwV 1 S.2.2.2.2 gX3_isRing_X3_checkPort rfl rfl rfl (by decide +kernel) ⟨Nat.le_of_ble_eq_true rfl, Nat.le_of_ble_eq_true rfl⟩) hW 0 (xw_0 E _) rfl rfl rfl hl.1 (Nat.le_of_ble_eq_true rfl) dX3_isRing_2 ⟨Nat.zero_le _, Nat.zero_le _⟩ (fun σ2 H locs hq1 hW => ?_)
  obtain rfl := hq1
  refine lv_aload_n hx hb dX3_isRing_5 rfl (lv_at hl 0 rfl) ?_
  refine lv_iload_n hx hb dX3_isRing_6 rfl (lv_at hl 1 rfl) ?_
  refine lv_iconst (v := 1) hx hb dX3_isRing_7 (by decide) ?_
  refine x_Vi (rest := []) S (c_X3_trace l E n f o hG.no (hR.cabM hG) (hR.opM hG) (p1 := p2) hp2 true) (cwV 2 S.2.2.2.2 gX3_isRing_X3_trace rfl rfl rfl (by decide +kernel) ⟨Nat.le_of_ble_eq_true rfl, Nat.le_of_ble_eq_true rfl⟩) hW 0 (xw_0 E _) rfl rfl rfl hl.1 (Nat.le_of_ble_eq_true rfl) dX3_isRing_8 ⟨Nat.zero_le _, Nat.zero_le _⟩ (fun r8 σ8 H locs hq2 hW => ?_)
  obtain ⟨K8, g8, rfl, rfl, hS8, hg8⟩ := hq2
  obtain ⟨hS8, hg8, hK8⟩ := hR.tr hG hp2 hS8 hg8
  refine lv_istore_n (lv' := [(2, .int (nI K8)), (0, .ref (E.2.2.2 0)), (1, .int (nI p2))]) hx hb dX3_isRing_11 rfl hl (by decide) rfl (fun ls hl => ?_)
  refine lv_iload_n hx hb dX3_isRing_12 rfl (lv_at hl 0 rfl) ?_
  refine x_if_le (tgt := 30) hx hb dX3_isRing_13 (by decide) (by omega) (fun c13 => ?_) (fun c13 => ?_)
  · refine lv_iconst (v := 0) hx hb dX3_isRing_30 (by decide) ?_
    exact x_retz S hr hlk hW dX3_isRing_31 (Or.inl rfl) (⟨(xif_f (fun ⟨K9, h1, h2, h3⟩ => by have := h1.uniq hS8; subst this; first | exact c23 h3 | omega)).symm, hR.trail _⟩)
  · refine lv_aload_n hx hb dX3_isRing_16 rfl (lv_at hl 1 rfl) ?_
    refine lv_iload_n hx hb dX3_isRing_17 rfl (lv_at hl 2 rfl) ?_
    refine lv_iload_n hx hb dX3_isRing_18 rfl (lv_at hl 0 rfl) ?_
    refine x_Vi (rest := []) S (c_X3_endOfTrail l E n (xu f 11 g8) o (nI p2) (K := K8) (by omega)) (cwV 2 S.2.2.2.2 gX3_isRing_X3_endOfTrail rfl rfl rfl (by decide +kernel) ⟨Nat.le_of_ble_eq_true rfl, Nat.le_of_ble_eq_true rfl⟩) hW 0 (xw_0 E _) rfl rfl rfl hl.1 (Nat.le_of_ble_eq_true rfl) dX3_isRing_19 ⟨Nat.zero_le _, Nat.zero_le _⟩ (fun r19 σ19 H locs hq3 hW => ?_)
    obtain ⟨rfl, rfl⟩ := hq3
    refine x_topE (xw (gCb Γ) (gOp Γ) true p2 K8) (xend hg8) ?_
    refine lv_iload_n hx hb dX3_isRing_22 rfl (lv_at hl 2 rfl) ?_
    refine lv_icmp_ne (tgt := 30) hx hb dX3_isRing_23 (by decide) (fun c23 => ?_) (fun c23 => ?_)
    · refine lv_iconst (v := 0) hx hb dX3_isRing_30 (by decide) ?_
      exact x_retz S hr hlk hW dX3_isRing_31 (Or.inl rfl) (⟨(xif_f (fun ⟨K9, h1, h2, h3⟩ => by have := h1.uniq hS8; subst this; first | exact c23 h3 | omega)).symm, hR.trail _⟩)
    · refine lv_iconst (v := 1) hx hb dX3_isRing_26 (by decide) ?_
      refine lv_goto (tgt := 31) hx hb dX3_isRing_27 (by decide) ?_
      exact x_retz S hr hlk hW dX3_isRing_31 (Or.inr rfl) (⟨(xif_t ⟨K8, hS8, c13, c23⟩).symm, hR.trail _⟩)

abbrev rm0X3_areJoined : Room := { frames := 3, cells := 0, slots := 0, locals := 67 }
set_option maxHeartbeats 4000000 in
set_option maxRecDepth 100000 in
theorem c0_X3_areJoined (l : Launch) (E : xE) (n : Nat → Int32) (f : Nat → Nat → Int32) (o : Nat → Int64) (Γ : xG) (hG : xGood Γ) (hR : xRepC Γ n f) {p2 : Nat} (hp2 : p2 < gNo Γ) {p7 : Nat} (hp7 : p7 < gNo Γ) : xCi l yX3_areJoined wsX3_areJoined rm0X3_areJoined E [.ref (E.2.2.2 0), .int (nI p2), .int (nI p7)] (n, f, o) (fun r σ' => r = xif (xR (gNo Γ) (gCb Γ) (gOp Γ) p2 p7) 1 0 ∧ xOKC Γ n f o σ') := by
  refine x_starti RX3 (by decide) rfl rfl (Nat.le_of_ble_eq_true rfl) ?_
  intro p e s m args below meth c ls S hr hlk hW hl
  have hx := S.1
  have hb := S.2.1
  have hl : lv_has ls 3 [(0, .ref (E.2.2.2 0)), (1, .int (nI p2)), (2, .int (nI p7))] := hl
  have hno := hG.no
  have hnp := hG.np
  have hnt := hG.nt
  have hnm := hG.nm
  refine lv_aload_n hx hb dX3_areJoined_0 rfl (lv_at hl 0 rfl) ?_
  refine lv_iload_n hx hb dX3_areJoined_1 rfl (lv_at hl 1 rfl) ?_
  refine x_Vv (rest := []) S (c0_X3_checkPort l E n f o hR.no (by omega) (p1 := p2) hp2) (cwV 1 S.2.2.2.2 gX3_areJoined_X3_checkPort rfl rfl rfl (by decide +kernel) ⟨Nat.le_of_ble_eq_true rfl, Nat.le_of_ble_eq_true rfl⟩) hW 0 (xw_0 E _) rfl rfl rfl hl.1 (Nat.le_of_ble_eq_true rfl) dX3_areJoined_2 ⟨Nat.zero_le _, Nat.zero_le _⟩ (fun σ2 H locs hq1 hW => ?_)
  obtain rfl := hq1
  refine lv_aload_n hx hb dX3_areJoined_5 rfl (lv_at hl 0 rfl) ?_
  refine lv_iload_n hx hb dX3_areJoined_6 rfl (lv_at hl 2 rfl) ?_
  refine x_Vv (rest := []) S (c0_X3_checkPort l E n f o hR.no (by omega) (p1 := p7) hp7) (cwV 1 S.2.2.2.2 gX3_areJoined_X3_checkPort rfl rfl rfl (by decide +kernel) ⟨Nat.le_of_ble_eq_true rfl, Nat.le_of_ble_eq_true rfl⟩) hW 0 (xw_0 E _) rfl rfl rfl hl.1 (Nat.le_of_ble_eq_true rfl) dX3_areJoined_7 ⟨Nat.zero_le _, Nat.zero_le _⟩ (fun σ7 H locs hq2 hW => ?_)
  obtain rfl := hq2
  refine lv_iload_n hx hb dX3_areJoined_10 rfl (lv_at hl 1 rfl) ?_
  refine lv_iload_n hx hb dX3_areJoined_11 rfl (lv_at hl 2 rfl) ?_
  refine x_icmp_eq (a := p2) (b := p7) (tgt := 43) hx hb dX3_areJoined_12 (by decide) (by omega) (by omega) (fun c12 => ?_) (fun c12 => ?_)
  · refine lv_iconst (v := 1) hx hb dX3_areJoined_43 (by decide) ?_
    refine lv_goto (tgt := 48) hx hb dX3_areJoined_44 (by decide) ?_
    exact x_retz S hr hlk hW dX3_areJoined_48 (Or.inr rfl) (⟨(xif_t (by first | (rw [c12]; exact xR.rf) | (obtain ⟨i, hi, e⟩ := h23; exact xw_R (by omega) hG.cb hG.op hp2 (i + 1) p7 hp7 ((hg20 i hi).symm.trans e)) | (obtain ⟨i, hi, e⟩ := h37; exact xw_R (by omega) hG.cb hG.op hp2 (i + 1) p7 hp7 ((hg34 i hi).symm.trans e)))).symm, by first | exact hR.same | exact hR.trail _⟩)
  · refine lv_aload_n hx hb dX3_areJoined_15 rfl (lv_at hl 0 rfl) ?_
    refine lv_iload_n hx hb dX3_areJoined_16 rfl (lv_at hl 2 rfl) ?_
    refine lv_aload_n hx hb dX3_areJoined_17 rfl (lv_at hl 0 rfl) ?_
    refine lv_iload_n hx hb dX3_areJoined_18 rfl (lv_at hl 1 rfl) ?_
    refine lv_iconst (v := 1) hx hb dX3_areJoined_19 (by decide) ?_
    refine x_Vi (rest := [.int (nI p7), .ref (E.2.2.2 0)]) S (c_X3_trace l E n f o hG.no (hR.cabM hG) (hR.opM hG) (p1 := p2) hp2 true) (cwV 2 S.2.2.2.2 gX3_areJoined_X3_trace rfl rfl rfl (by decide +kernel) ⟨Nat.le_of_ble_eq_true rfl, Nat.le_of_ble_eq_true rfl⟩) hW 0 (xw_0 E _) rfl rfl rfl hl.1 (Nat.le_of_ble_eq_true rfl) dX3_areJoined_20 ⟨Nat.zero_le _, Nat.zero_le _⟩ (fun r20 σ20 H locs hq3 hW => ?_)
    obtain ⟨K20, g20, rfl, rfl, hS20, hg20⟩ := hq3
    obtain ⟨hS20, hg20, hK20⟩ := hR.tr hG hp2 hS20 hg20
    have hR20 : xRepC Γ n (xu f 11 g20) := hR.tlx g20
    refine x_Vi (rest := []) S (c_X3_isOnTrail l E n (xu f 11 g20) o (nI p7) (K := K20) (by omega)) (cwV 2 S.2.2.2.2 gX3_areJoined_X3_isOnTrail rfl rfl rfl (by decide +kernel) ⟨Nat.le_of_ble_eq_true rfl, Nat.le_of_ble_eq_true rfl⟩) hW 0 (xw_0 E _) rfl rfl rfl hl.1 (Nat.le_of_ble_eq_true rfl) dX3_areJoined_23 ⟨Nat.zero_le _, Nat.zero_le _⟩ (fun r23 σ23 H locs hq4 hW => ?_)
    rcases hq4 with ⟨rfl, h23, rfl⟩ | ⟨rfl, h23, rfl⟩
    · refine lv_if_ne (tgt := 43) hx hb dX3_areJoined_26 (by decide) (fun c26 => ?_) (fun c26 => ?_)
      · exact absurd c26 (by decide)
      refine lv_aload_n hx hb dX3_areJoined_29 rfl (lv_at hl 0 rfl) ?_
      refine lv_iload_n hx hb dX3_areJoined_30 rfl (lv_at hl 2 rfl) ?_
      refine lv_aload_n hx hb dX3_areJoined_31 rfl (lv_at hl 0 rfl) ?_
      refine lv_iload_n hx hb dX3_areJoined_32 rfl (lv_at hl 1 rfl) ?_
      refine lv_iconst (v := 0) hx hb dX3_areJoined_33 (by decide) ?_
      refine x_Vi (rest := [.int (nI p7), .ref (E.2.2.2 0)]) S (c_X3_trace l E n (xu f 11 g20) o hG.no (hR20.cabM hG) (hR20.opM hG) (p1 := p2) hp2 false) (cwV 2 S.2.2.2.2 gX3_areJoined_X3_trace rfl rfl rfl (by decide +kernel) ⟨Nat.le_of_ble_eq_true rfl, Nat.le_of_ble_eq_true rfl⟩) hW 0 (xw_0 E _) rfl rfl rfl hl.1 (Nat.le_of_ble_eq_true rfl) dX3_areJoined_34 ⟨Nat.zero_le _, Nat.zero_le _⟩ (fun r34 σ34 H locs hq5 hW => ?_)
      obtain ⟨K34, g34, rfl, rfl, hS34, hg34⟩ := hq5
      have hW : xSt E (n, (xu f 11 g34), o) s s.heap H locs := by have h9 := hW; rw [show ((n, (xu f 11 g34), o) : xS) = (n, (xu (xu f 11 g20) 11 g34), o) from by rw [xu_xu]]; exact h9
      obtain ⟨hS34, hg34, hK34⟩ := hR20.tr hG hp2 hS34 hg34
      refine x_Vi (rest := []) S (c_X3_isOnTrail l E n (xu f 11 g34) o (nI p7) (K := K34) (by omega)) (cwV 2 S.2.2.2.2 gX3_areJoined_X3_isOnTrail rfl rfl rfl (by decide +kernel) ⟨Nat.le_of_ble_eq_true rfl, Nat.le_of_ble_eq_true rfl⟩) hW 0 (xw_0 E _) rfl rfl rfl hl.1 (Nat.le_of_ble_eq_true rfl) dX3_areJoined_37 ⟨Nat.zero_le _, Nat.zero_le _⟩ (fun r37 σ37 H locs hq6 hW => ?_)
      rcases hq6 with ⟨rfl, h37, rfl⟩ | ⟨rfl, h37, rfl⟩
      · refine lv_if_eq (tgt := 47) hx hb dX3_areJoined_40 (by decide) (fun c40 => ?_) (fun c40 => ?_)
        rotate_left
        · exact absurd c40 (by decide)
        refine lv_iconst (v := 0) hx hb dX3_areJoined_47 (by decide) ?_
        exact x_retz S hr hlk hW dX3_areJoined_48 (Or.inl rfl) (⟨(xif_f (fun hq => by rcases (xline (by omega) hG.cb hG.op hp2 hS20 hS34 hp7).mp hq with e | ⟨k, hk, e⟩ | ⟨k, hk, e⟩; exact c12 e.symm; exact h23 ⟨k, hk, (hg20 k hk).trans e⟩; exact h37 ⟨k, hk, (hg34 k hk).trans e⟩)).symm, hR.trail _⟩)
      · refine lv_if_eq (tgt := 47) hx hb dX3_areJoined_40 (by decide) (fun c40 => ?_) (fun c40 => ?_)
        · exact absurd c40 (by decide)
        refine lv_iconst (v := 1) hx hb dX3_areJoined_43 (by decide) ?_
        refine lv_goto (tgt := 48) hx hb dX3_areJoined_44 (by decide) ?_
        exact x_retz S hr hlk hW dX3_areJoined_48 (Or.inr rfl) (⟨(xif_t (by first | (rw [c12]; exact xR.rf) | (obtain ⟨i, hi, e⟩ := h23; exact xw_R (by omega) hG.cb hG.op hp2 (i + 1) p7 hp7 ((hg20 i hi).symm.trans e)) | (obtain ⟨i, hi, e⟩ := h37; exact xw_R (by omega) hG.cb hG.op hp2 (i + 1) p7 hp7 ((hg34 i hi).symm.trans e)))).symm, by first | exact hR.same | exact hR.trail _⟩)
    · refine lv_if_ne (tgt := 43) hx hb dX3_areJoined_26 (by decide) (fun c26 => ?_) (fun c26 => ?_)
      rotate_left
      · exact absurd c26 (by decide)
      refine lv_iconst (v := 1) hx hb dX3_areJoined_43 (by decide) ?_
      refine lv_goto (tgt := 48) hx hb dX3_areJoined_44 (by decide) ?_
      exact x_retz S hr hlk hW dX3_areJoined_48 (Or.inr rfl) (⟨(xif_t (by first | (rw [c12]; exact xR.rf) | (obtain ⟨i, hi, e⟩ := h23; exact xw_R (by omega) hG.cb hG.op hp2 (i + 1) p7 hp7 ((hg20 i hi).symm.trans e)) | (obtain ⟨i, hi, e⟩ := h37; exact xw_R (by omega) hG.cb hG.op hp2 (i + 1) p7 hp7 ((hg34 i hi).symm.trans e)))).symm, by first | exact hR.same | exact hR.trail _⟩)

abbrev rm0X3_areJoinedBySearch : Room := { frames := 3, cells := 0, slots := 0, locals := 68 }
set_option maxHeartbeats 4000000 in
set_option maxRecDepth 100000 in
theorem c0_X3_areJoinedBySearch (l : Launch) (E : xE) (n : Nat → Int32) (f : Nat → Nat → Int32) (o : Nat → Int64) (Γ : xG) (hG : xGood Γ) (hR : xRepC Γ n f) {p2 : Nat} (hp2 : p2 < gNo Γ) {p7 : Nat} (hp7 : p7 < gNo Γ) : xCi l yX3_areJoinedBySearch wsX3_areJoinedBySearch rm0X3_areJoinedBySearch E [.ref (E.2.2.2 0), .int (nI p2), .int (nI p7)] (n, f, o) (fun r σ' => r = xif (xR (gNo Γ) (gCb Γ) (gOp Γ) p2 p7) 1 0 ∧ xOKC Γ n f o σ') := by
  refine x_starti RX3 (by decide) rfl rfl (Nat.le_of_ble_eq_true rfl) ?_
  intro p e s m args below meth c ls S hr hlk hW hl
  have hx := S.1
  have hb := S.2.1
  have hl : lv_has ls 3 [(0, .ref (E.2.2.2 0)), (1, .int (nI p2)), (2, .int (nI p7))] := hl
  have hinX3 : ∀ w ∈ wsX30, w ∈ wsX3_areJoinedBySearch := by decide +kernel
  have w70 : Cond.fieldLink RX3 70 "CableBook" "found" "LCableBook$Marks;" ∈ wsX3_areJoinedBySearch := by decide +kernel
  have hno := hG.no
  have hnp := hG.np
  have hnt := hG.nt
  have hnm := hG.nm
  refine lv_aload_n hx hb dX3_areJoinedBySearch_0 rfl (lv_at hl 0 rfl) ?_
  refine lv_iload_n hx hb dX3_areJoinedBySearch_1 rfl (lv_at hl 1 rfl) ?_
  refine x_Vv (rest := []) S (c0_X3_checkPort l E n f o hR.no (by omega) (p1 := p2) hp2) (cwV 1 S.2.2.2.2 gX3_areJoinedBySearch_X3_checkPort rfl rfl rfl (by decide +kernel) ⟨Nat.le_of_ble_eq_true rfl, Nat.le_of_ble_eq_true rfl⟩) hW 0 (xw_0 E _) rfl rfl rfl hl.1 (Nat.le_of_ble_eq_true rfl) dX3_areJoinedBySearch_2 ⟨Nat.zero_le _, Nat.zero_le _⟩ (fun σ2 H locs hq1 hW => ?_)
  obtain rfl := hq1
  refine lv_aload_n hx hb dX3_areJoinedBySearch_5 rfl (lv_at hl 0 rfl) ?_
  refine lv_iload_n hx hb dX3_areJoinedBySearch_6 rfl (lv_at hl 2 rfl) ?_
  refine x_Vv (rest := []) S (c0_X3_checkPort l E n f o hR.no (by omega) (p1 := p7) hp7) (cwV 1 S.2.2.2.2 gX3_areJoinedBySearch_X3_checkPort rfl rfl rfl (by decide +kernel) ⟨Nat.le_of_ble_eq_true rfl, Nat.le_of_ble_eq_true rfl⟩) hW 0 (xw_0 E _) rfl rfl rfl hl.1 (Nat.le_of_ble_eq_true rfl) dX3_areJoinedBySearch_7 ⟨Nat.zero_le _, Nat.zero_le _⟩ (fun σ7 H locs hq2 hW => ?_)
  obtain rfl := hq2
  refine lv_aload_n hx hb dX3_areJoinedBySearch_10 rfl (lv_at hl 0 rfl) ?_
  refine lv_iload_n hx hb dX3_areJoinedBySearch_11 rfl (lv_at hl 1 rfl) ?_
  refine x_Vv (rest := []) S (c_X3_searchFrom l E n f o hG.no (hR.cabM hG) (hR.opM hG) (p1 := p2) hp2) (cwV 1 S.2.2.2.2 gX3_areJoinedBySearch_X3_searchFrom rfl rfl rfl (by decide +kernel) ⟨Nat.le_of_ble_eq_true rfl, Nat.le_of_ble_eq_true rfl⟩) hW 0 (xw_0 E _) rfl rfl rfl hl.1 (Nat.le_of_ble_eq_true rfl) dX3_areJoinedBySearch_12 ⟨Nat.zero_le _, Nat.zero_le _⟩ (fun σ12 H locs hq3 hW => ?_)
  obtain ⟨F12, rfl, hF12, hs12⟩ := hq3
  refine lv_aload_n hx hb dX3_areJoinedBySearch_15 rfl (lv_at hl 0 rfl) ?_
  refine x_get (v := .ref (E.2.2.2 37)) S hW hinX3 0 (xw_0 E _) rfl 18 (by decide) w70 rfl dX3_areJoinedBySearch_16 ?_
  refine lv_iload_n hx hb dX3_areJoinedBySearch_19 rfl (lv_at hl 2 rfl) ?_
  refine x_Vi (rest := []) S (c_X0_has l E n F12 o (i := 1) (by decide) (k := p7) (by omega)) (cwV 1 S.2.2.2.2 gX3_areJoinedBySearch_X0_has rfl rfl rfl (by decide +kernel) ⟨Nat.le_of_ble_eq_true rfl, Nat.le_of_ble_eq_true rfl⟩) hW 37 (xw_37 E _) rfl rfl rfl hl.1 (Nat.le_of_ble_eq_true rfl) dX3_areJoinedBySearch_20 ⟨Nat.zero_le _, Nat.zero_le _⟩ (fun r20 σ20 H locs hq4 hW => ?_)
  rcases hq4 with ⟨rfl, h20, rfl⟩ | ⟨rfl, h20, rfl⟩
  · replace h20 : (F12 18) p7 = 0 := Classical.not_not.mp h20
    exact x_retz S hr hlk hW dX3_areJoinedBySearch_23 (Or.inl rfl) (⟨(xif_f (fun hq => ((hs12 p7 hp7).mpr (xR_congr (fun q hq => (hR.cb q (by omega)).symm) (fun q hq => (hR.opE hG q hq).symm) hq)) h20)).symm, hR.srch hF12⟩)
  · replace h20 : (F12 18) p7 ≠ 0 := h20
    exact x_retz S hr hlk hW dX3_areJoinedBySearch_23 (Or.inr rfl) (⟨(xif_t (xR_congr (fun q hq => hR.cb q (by omega)) (hR.opE hG) ((hs12 p7 hp7).mp h20))).symm, hR.srch hF12⟩)

abbrev rm0X3_used : Room := { frames := 2, cells := 0, slots := 0, locals := 43 }
set_option maxHeartbeats 4000000 in
set_option maxRecDepth 100000 in
theorem c0_X3_used (l : Launch) (E : xE) (n : Nat → Int32) (f : Nat → Nat → Int32) (o : Nat → Int64) (Γ : xG) (hG : xGood Γ) (hR : xRepC Γ n f) {p2 : Nat} (hp2 : p2 < gNt Γ) : xCi l yX3_used wsX3_used rm0X3_used E [.ref (E.2.2.2 0), .int (nI p2)] (n, f, o) (fun r σ' => r = nI (xcnt (fun i => gCb Γ (gTa Γ p2 + i) ≠ -1 ∧ gCb Γ (gTb Γ p2 + i) ≠ -1) (gTc Γ p2)) ∧ xOKC Γ n f o σ') := by
  refine x_starti RX3 (by decide) rfl rfl (Nat.le_of_ble_eq_true rfl) ?_
  intro p e s m args below meth c ls S hr hlk hW hl
  have hx := S.1
  have hb := S.2.1
  have hl : lv_has ls 6 [(0, .ref (E.2.2.2 0)), (1, .int (nI p2))] := hl
  have hinX3 : ∀ w ∈ wsX30, w ∈ wsX3_used := by decide +kernel
  have w33 : Cond.fieldLink RX3 33 "CableBook" "strandTo" "LCableBook$Row;" ∈ wsX3_used := by decide +kernel
  have w48 : Cond.fieldLink RX3 48 "CableBook" "trunkStart" "LCableBook$Row;" ∈ wsX3_used := by decide +kernel
  have w51 : Cond.fieldLink RX3 51 "CableBook" "strandCountOf" "LCableBook$Row;" ∈ wsX3_used := by decide +kernel
  have hno := hG.no
  have hnp := hG.np
  have hnt := hG.nt
  have hnm := hG.nm
  refine lv_aload_n hx hb dX3_used_0 rfl (lv_at hl 0 rfl) ?_
  refine lv_iload_n hx hb dX3_used_1 rfl (lv_at hl 1 rfl) ?_
  refine x_Vv (rest := []) S (c0_X3_checkTrunk l E n f o hR.nt (by omega) (p1 := p2) hp2) (cwV 1 S.2.2.2.2 gX3_used_X3_checkTrunk rfl rfl rfl (by decide +kernel) ⟨Nat.le_of_ble_eq_true rfl, Nat.le_of_ble_eq_true rfl⟩) hW 0 (xw_0 E _) rfl rfl rfl hl.1 (Nat.le_of_ble_eq_true rfl) dX3_used_2 ⟨Nat.zero_le _, Nat.zero_le _⟩ (fun σ2 H locs hq1 hW => ?_)
  obtain rfl := hq1
  refine lv_aload_n hx hb dX3_used_5 rfl (lv_at hl 0 rfl) ?_
  refine x_get (v := .ref (E.2.2.2 17)) S hW hinX3 0 (xw_0 E _) rfl 12 (by decide) w48 rfl dX3_used_6 ?_
  refine lv_iload_n hx hb dX3_used_9 rfl (lv_at hl 1 rfl) ?_
  refine x_Vi (rest := []) S (c_X2_at l E n f o (i := 8) (by decide) (k := p2) (show _ < 10 from by omega)) (cwV 1 S.2.2.2.2 gX3_used_X2_at rfl rfl rfl (by decide +kernel) ⟨Nat.le_of_ble_eq_true rfl, Nat.le_of_ble_eq_true rfl⟩) hW 17 (xw_17 E _) rfl rfl rfl hl.1 (Nat.le_of_ble_eq_true rfl) dX3_used_10 ⟨Nat.zero_le _, Nat.zero_le _⟩ (fun r10 σ10 H locs hq2 hW => ?_)
  obtain ⟨rfl, rfl⟩ := hq2
  refine x_topN (gTa Γ p2) (hR.ta p2 hp2) ?_
  refine lv_istore_n (lv' := [(2, .int (nI (gTa Γ p2))), (0, .ref (E.2.2.2 0)), (1, .int (nI p2))]) hx hb dX3_used_13 rfl hl (by decide) rfl (fun ls hl => ?_)
  refine lv_aload_n hx hb dX3_used_14 rfl (lv_at hl 1 rfl) ?_
  refine x_get (v := .ref (E.2.2.2 19)) S hW hinX3 0 (xw_0 E _) rfl 13 (by decide) w51 rfl dX3_used_15 ?_
  refine lv_iload_n hx hb dX3_used_18 rfl (lv_at hl 2 rfl) ?_
  refine x_Vi (rest := []) S (c_X2_at l E n f o (i := 9) (by decide) (k := p2) (show _ < 10 from by omega)) (cwV 1 S.2.2.2.2 gX3_used_X2_at rfl rfl rfl (by decide +kernel) ⟨Nat.le_of_ble_eq_true rfl, Nat.le_of_ble_eq_true rfl⟩) hW 19 (xw_19 E _) rfl rfl rfl hl.1 (Nat.le_of_ble_eq_true rfl) dX3_used_19 ⟨Nat.zero_le _, Nat.zero_le _⟩ (fun r19 σ19 H locs hq3 hW => ?_)
  obtain ⟨rfl, rfl⟩ := hq3
  have ht9 := hG.tt p2 hp2
  have hts := hG.ts p2 hp2
  refine x_topN (gTc Γ p2) (hR.tc p2 hp2) ?_
  refine lv_istore_n (lv' := [(3, .int (nI (gTc Γ p2))), (2, .int (nI (gTa Γ p2))), (0, .ref (E.2.2.2 0)), (1, .int (nI p2))]) hx hb dX3_used_22 rfl hl (by decide) rfl (fun ls hl => ?_)
  refine lv_iconst (v := 0) hx hb dX3_used_23 (by decide) ?_
  refine lv_istore (lv' := [(4, .int 0), (3, .int (nI (gTc Γ p2))), (2, .int (nI (gTa Γ p2))), (0, .ref (E.2.2.2 0)), (1, .int (nI p2))]) hx hb dX3_used_24 hl (by decide) rfl (fun ls hl => ?_)
  refine lv_iconst (v := 0) hx hb dX3_used_26 (by decide) ?_
  refine lv_istore (lv' := [(5, .int 0), (4, .int 0), (3, .int (nI (gTc Γ p2))), (2, .int (nI (gTa Γ p2))), (0, .ref (E.2.2.2 0)), (1, .int (nI p2))]) hx hb dX3_used_27 hl (by decide) rfl (fun ls hl => ?_)
  have L29 : ∀ (fu29 : Nat) (i : Nat) (hμ29 : gTc Γ p2 + 1 - i < fu29) (hi : i ≤ gTc Γ p2) (H : Heap) (locs : List Loc) (ls : Array Slot), xSt E (n, f, o) s s.heap H locs → lv_has ls 6 [(0, .ref (E.2.2.2 0)), (1, .int (nI p2)), (2, .int (nI (gTa Γ p2))), (3, .int (nI (gTc Γ p2))), (4, .int (nI (xcnt (fun i => gCb Γ (gTa Γ p2 + i) ≠ -1 ∧ gCb Γ (gTb Γ p2 + i) ≠ -1) i))), (5, .int (nI i))] → W p l e rm0X3_used s m args below meth c H locs 0 0 (MQ below (va_Qi (fun r σ' => r = nI (xcnt (fun i => gCb Γ (gTa Γ p2 + i) ≠ -1 ∧ gCb Γ (gTb Γ p2 + i) ≠ -1) (gTc Γ p2)) ∧ xOKC Γ n f o σ') (xWd E) (xA E)) args s 0 0 (xA E)) (F0 m 29 ls []) := by
    intro fu29
    induction fu29 with
    | zero => intro i hμ29; exact absurd hμ29 (Nat.not_lt_zero _)
    | succ fu29 L29 =>
      intro i hμ29 hi H locs ls hW hl
      have hx9 := xcnt_le (fun i => gCb Γ (gTa Γ p2 + i) ≠ -1 ∧ gCb Γ (gTb Γ p2 + i) ≠ -1) i
      refine lv_iload hx hb dX3_used_29 (lv_at hl 5 rfl) ?_
      refine lv_iload_n hx hb dX3_used_31 rfl (lv_at hl 3 rfl) ?_
      refine x_icmp_ge (a := i) (b := gTc Γ p2) (tgt := 73) hx hb dX3_used_32 (by decide) (by omega) (by omega) (fun c32 => ?_) (fun c32 => ?_)
      · refine lv_iload hx hb dX3_used_73 (lv_at hl 4 rfl) ?_
        exact x_reti S hr hlk hW dX3_used_75 (⟨by rw [show i = gTc Γ p2 by omega], hR.same⟩)
      · have ht8 := hts i (by omega)
        refine lv_aload_n hx hb dX3_used_35 rfl (lv_at hl 0 rfl) ?_
        refine lv_iload_n hx hb dX3_used_36 rfl (lv_at hl 2 rfl) ?_
        refine lv_iload hx hb dX3_used_37 (lv_at hl 5 rfl) ?_
        refine x_iadd (a := gTa Γ p2) (b := i) hx hb dX3_used_39 ?_
        refine x_Vi (rest := []) S (c_X3_hasCable l E n f o (p1 := ((gTa Γ p2) + i)) (by omega)) (cwV 1 S.2.2.2.2 gX3_used_X3_hasCable rfl rfl rfl (by decide +kernel) ⟨Nat.le_of_ble_eq_true rfl, Nat.le_of_ble_eq_true rfl⟩) hW 0 (xw_0 E _) rfl rfl rfl hl.1 (Nat.le_of_ble_eq_true rfl) dX3_used_40 ⟨Nat.zero_le _, Nat.zero_le _⟩ (fun r40 σ40 H locs hq4 hW => ?_)
        rcases hq4 with ⟨rfl, h40, rfl⟩ | ⟨rfl, h40, rfl⟩
        · rw [hR.cb _ (by omega)] at h40
          refine lv_if_eq (tgt := 67) hx hb dX3_used_43 (by decide) (fun c43 => ?_) (fun c43 => ?_)
          rotate_left
          · exact absurd c43 (by decide)
          refine lv_iinc (v := (nI (i + 1))) (lv' := [(5, .int (nI (i + 1))), (0, .ref (E.2.2.2 0)), (1, .int (nI p2)), (2, .int (nI (gTa Γ p2))), (3, .int (nI (gTc Γ p2))), (4, .int (nI (xcnt (fun i => gCb Γ (gTa Γ p2 + i) ≠ -1 ∧ gCb Γ (gTb Γ p2 + i) ≠ -1) i)))]) hx hb dX3_used_67 hl (k := 5) rfl (x_inc _) (by decide) rfl (fun ls hl => ?_)
          refine lv_goto (tgt := 29) hx hb dX3_used_70 (by decide) ?_
          rw [show xcnt (fun i => gCb Γ (gTa Γ p2 + i) ≠ -1 ∧ gCb Γ (gTb Γ p2 + i) ≠ -1) i = xcnt (fun i => gCb Γ (gTa Γ p2 + i) ≠ -1 ∧ gCb Γ (gTb Γ p2 + i) ≠ -1) (i + 1) from (xcnt_f (by first | exact fun h => h40 h.1 | exact fun h => h58 h.2)).symm] at hl
          exact L29  (i + 1) (by omega) (by omega) _ _ _ hW (lv_sub hl [1, 2, 3, 4, 5, 0] rfl)
        · rw [hR.cb _ (by omega)] at h40
          refine lv_if_eq (tgt := 67) hx hb dX3_used_43 (by decide) (fun c43 => ?_) (fun c43 => ?_)
          · exact absurd c43 (by decide)
          refine lv_aload_n hx hb dX3_used_46 rfl (lv_at hl 0 rfl) ?_
          refine lv_aload_n hx hb dX3_used_47 rfl (lv_at hl 0 rfl) ?_
          refine x_get (v := .ref (E.2.2.2 13)) S hW hinX3 0 (xw_0 E _) rfl 8 (by decide) w33 rfl dX3_used_48 ?_
          refine lv_iload_n hx hb dX3_used_51 rfl (lv_at hl 2 rfl) ?_
          refine lv_iload hx hb dX3_used_52 (lv_at hl 5 rfl) ?_
          refine x_iadd (a := gTa Γ p2) (b := i) hx hb dX3_used_54 ?_
          refine x_Vi (rest := [.ref (E.2.2.2 0)]) S (c_X2_at l E n f o (i := 6) (by decide) (k := (gTa Γ p2) + i) (show _ < 144 from by omega)) (cwV 1 S.2.2.2.2 gX3_used_X2_at rfl rfl rfl (by decide +kernel) ⟨Nat.le_of_ble_eq_true rfl, Nat.le_of_ble_eq_true rfl⟩) hW 13 (xw_13 E _) rfl rfl rfl hl.1 (Nat.le_of_ble_eq_true rfl) dX3_used_55 ⟨Nat.zero_le _, Nat.zero_le _⟩ (fun r55 σ55 H locs hq5 hW => ?_)
          obtain ⟨rfl, rfl⟩ := hq5
          refine x_topN (gTb Γ p2 + i) ((hR.st _ (by omega)).trans ht8.2.2) ?_
          refine x_Vi (rest := []) S (c_X3_hasCable l E n f o (p1 := (gTb Γ p2 + i)) (by omega)) (cwV 1 S.2.2.2.2 gX3_used_X3_hasCable rfl rfl rfl (by decide +kernel) ⟨Nat.le_of_ble_eq_true rfl, Nat.le_of_ble_eq_true rfl⟩) hW 0 (xw_0 E _) rfl rfl rfl hl.1 (Nat.le_of_ble_eq_true rfl) dX3_used_58 ⟨Nat.zero_le _, Nat.zero_le _⟩ (fun r58 σ58 H locs hq6 hW => ?_)
          rcases hq6 with ⟨rfl, h58, rfl⟩ | ⟨rfl, h58, rfl⟩
          · rw [hR.cb _ (by omega)] at h58
            refine lv_if_eq (tgt := 67) hx hb dX3_used_61 (by decide) (fun c61 => ?_) (fun c61 => ?_)
            rotate_left
            · exact absurd c61 (by decide)
            refine lv_iinc (v := (nI (i + 1))) (lv' := [(5, .int (nI (i + 1))), (0, .ref (E.2.2.2 0)), (1, .int (nI p2)), (2, .int (nI (gTa Γ p2))), (3, .int (nI (gTc Γ p2))), (4, .int (nI (xcnt (fun i => gCb Γ (gTa Γ p2 + i) ≠ -1 ∧ gCb Γ (gTb Γ p2 + i) ≠ -1) i)))]) hx hb dX3_used_67 hl (k := 5) rfl (x_inc _) (by decide) rfl (fun ls hl => ?_)
            refine lv_goto (tgt := 29) hx hb dX3_used_70 (by decide) ?_
            rw [show xcnt (fun i => gCb Γ (gTa Γ p2 + i) ≠ -1 ∧ gCb Γ (gTb Γ p2 + i) ≠ -1) i = xcnt (fun i => gCb Γ (gTa Γ p2 + i) ≠ -1 ∧ gCb Γ (gTb Γ p2 + i) ≠ -1) (i + 1) from (xcnt_f (by first | exact fun h => h40 h.1 | exact fun h => h58 h.2)).symm] at hl
            exact L29  (i + 1) (by omega) (by omega) _ _ _ hW (lv_sub hl [1, 2, 3, 4, 5, 0] rfl)
          · rw [hR.cb _ (by omega)] at h58
            refine lv_if_eq (tgt := 67) hx hb dX3_used_61 (by decide) (fun c61 => ?_) (fun c61 => ?_)
            · exact absurd c61 (by decide)
            refine lv_iinc (v := (nI (xcnt (fun i => gCb Γ (gTa Γ p2 + i) ≠ -1 ∧ gCb Γ (gTb Γ p2 + i) ≠ -1) i + 1))) (lv' := [(4, .int (nI (xcnt (fun i => gCb Γ (gTa Γ p2 + i) ≠ -1 ∧ gCb Γ (gTb Γ p2 + i) ≠ -1) i + 1))), (0, .ref (E.2.2.2 0)), (1, .int (nI p2)), (2, .int (nI (gTa Γ p2))), (3, .int (nI (gTc Γ p2))), (5, .int (nI i))]) hx hb dX3_used_64 hl (k := 4) rfl (x_inc _) (by decide) rfl (fun ls hl => ?_)
            refine lv_iinc (v := (nI (i + 1))) (lv' := [(5, .int (nI (i + 1))), (4, .int (nI (xcnt (fun i => gCb Γ (gTa Γ p2 + i) ≠ -1 ∧ gCb Γ (gTb Γ p2 + i) ≠ -1) i + 1))), (0, .ref (E.2.2.2 0)), (1, .int (nI p2)), (2, .int (nI (gTa Γ p2))), (3, .int (nI (gTc Γ p2)))]) hx hb dX3_used_67 hl (k := 5) rfl (x_inc _) (by decide) rfl (fun ls hl => ?_)
            refine lv_goto (tgt := 29) hx hb dX3_used_70 (by decide) ?_
            rw [show xcnt (fun i => gCb Γ (gTa Γ p2 + i) ≠ -1 ∧ gCb Γ (gTb Γ p2 + i) ≠ -1) i + 1 = xcnt (fun i => gCb Γ (gTa Γ p2 + i) ≠ -1 ∧ gCb Γ (gTb Γ p2 + i) ≠ -1) (i + 1) from (xcnt_t ⟨h40, h58⟩).symm] at hl
            exact L29  (i + 1) (by omega) (by omega) _ _ _ hW (lv_sub hl [2, 3, 4, 5, 1, 0] rfl)
  exact L29 _ (0) (Nat.lt_succ_self _) (by omega) _ _ _ hW (lv_sub hl [4, 5, 3, 2, 1, 0] rfl)

abbrev rm0X3_lengthOf : Room := { frames := 3, cells := 0, slots := 0, locals := 67 }
set_option maxHeartbeats 4000000 in
set_option maxRecDepth 100000 in
theorem c0_X3_lengthOf (l : Launch) (E : xE) (n : Nat → Int32) (f : Nat → Nat → Int32) (o : Nat → Int64) (Γ : xG) (hG : xGood Γ) (hR : xRepC Γ n f) {p2 : Nat} (hp2 : p2 < gNo Γ) (b : Bool) : xCi l yX3_lengthOf wsX3_lengthOf rm0X3_lengthOf E [.ref (E.2.2.2 0), .int (nI p2), .int (bz b)] (n, f, o) (fun r σ' => (∃ K, xStop (gCb Γ) (gOp Γ) b p2 K ∧ r = gLen Γ b p2 K) ∧ xOKC Γ n f o σ') := by
  refine x_starti RX3 (by decide) rfl rfl (Nat.le_of_ble_eq_true rfl) ?_
  intro p e s m args below meth c ls S hr hlk hW hl
  have hx := S.1
  have hb := S.2.1
  have hl : lv_has ls 9 [(0, .ref (E.2.2.2 0)), (1, .int (nI p2)), (2, .int (bz b))] := hl
  have hinX3 : ∀ w ∈ wsX30, w ∈ wsX3_lengthOf := by decide +kernel
  have w36 : Cond.fieldLink RX3 36 "CableBook" "trunkAt" "LCableBook$Row;" ∈ wsX3_lengthOf := by decide +kernel
  have w54 : Cond.fieldLink RX3 54 "CableBook" "trunkLength" "LCableBook$Row;" ∈ wsX3_lengthOf := by decide +kernel
  have w64 : Cond.fieldLink RX3 64 "CableBook" "trail" "LCableBook$Row;" ∈ wsX3_lengthOf := by decide +kernel
  have hno := hG.no
  have hnp := hG.np
  have hnt := hG.nt
  have hnm := hG.nm
  refine lv_aload_n hx hb dX3_lengthOf_0 rfl (lv_at hl 0 rfl) ?_
  refine lv_iload_n hx hb dX3_lengthOf_1 rfl (lv_at hl 1 rfl) ?_
  refine x_Vv (rest := []) S (c0_X3_checkPort l E n f o hR.no (by omega) (p1 := p2) hp2) (cwV 1 S.2.2.2.2 gX3_lengthOf_X3_checkPort rfl rfl rfl (by decide +kernel) ⟨Nat.le_of_ble_eq_true rfl, Nat.le_of_ble_eq_true rfl⟩) hW 0 (xw_0 E _) rfl rfl rfl hl.1 (Nat.le_of_ble_eq_true rfl) dX3_lengthOf_2 ⟨Nat.zero_le _, Nat.zero_le _⟩ (fun σ2 H locs hq1 hW => ?_)
  obtain rfl := hq1
  refine lv_aload_n hx hb dX3_lengthOf_5 rfl (lv_at hl 0 rfl) ?_
  refine lv_iload_n hx hb dX3_lengthOf_6 rfl (lv_at hl 1 rfl) ?_
  refine lv_iload_n hx hb dX3_lengthOf_7 rfl (lv_at hl 2 rfl) ?_
  refine x_Vi (rest := []) S (c_X3_trace l E n f o hG.no (hR.cabM hG) (hR.opM hG) (p1 := p2) hp2 b) (cwV 2 S.2.2.2.2 gX3_lengthOf_X3_trace rfl rfl rfl (by decide +kernel) ⟨Nat.le_of_ble_eq_true rfl, Nat.le_of_ble_eq_true rfl⟩) hW 0 (xw_0 E _) rfl rfl rfl hl.1 (Nat.le_of_ble_eq_true rfl) dX3_lengthOf_8 ⟨Nat.zero_le _, Nat.zero_le _⟩ (fun r8 σ8 H locs hq2 hW => ?_)
  obtain ⟨K8, g8, rfl, rfl, hS8, hg8⟩ := hq2
  obtain ⟨hS8, hg8, hK8⟩ := hR.tr hG hp2 hS8 hg8
  have hR8 : xRepC Γ n (xu f 11 g8) := hR.tlx g8
  refine lv_istore_n (lv' := [(3, .int (nI K8)), (0, .ref (E.2.2.2 0)), (1, .int (nI p2)), (2, .int (bz b))]) hx hb dX3_lengthOf_11 rfl hl (by decide) rfl (fun ls hl => ?_)
  refine lv_iconst (v := 0) hx hb dX3_lengthOf_12 (by decide) ?_
  refine lv_istore (lv' := [(4, .int 0), (3, .int (nI K8)), (0, .ref (E.2.2.2 0)), (1, .int (nI p2)), (2, .int (bz b))]) hx hb dX3_lengthOf_13 hl (by decide) rfl (fun ls hl => ?_)
  refine lv_iload_n hx hb dX3_lengthOf_15 rfl (lv_at hl 3 rfl) ?_
  refine lv_istore (lv' := [(5, .int (nI p2)), (4, .int 0), (3, .int (nI K8)), (0, .ref (E.2.2.2 0)), (1, .int (nI p2)), (2, .int (bz b))]) hx hb dX3_lengthOf_16 hl (by decide) rfl (fun ls hl => ?_)
  refine lv_iload_n hx hb dX3_lengthOf_18 rfl (lv_at hl 5 rfl) ?_
  refine lv_istore (lv' := [(6, .int (bz b)), (5, .int (nI p2)), (4, .int 0), (3, .int (nI K8)), (0, .ref (E.2.2.2 0)), (1, .int (nI p2)), (2, .int (bz b))]) hx hb dX3_lengthOf_19 hl (by decide) rfl (fun ls hl => ?_)
  refine lv_iconst (v := 0) hx hb dX3_lengthOf_21 (by decide) ?_
  refine lv_istore (lv' := [(7, .int 0), (6, .int (bz b)), (5, .int (nI p2)), (4, .int 0), (3, .int (nI K8)), (0, .ref (E.2.2.2 0)), (1, .int (nI p2)), (2, .int (bz b))]) hx hb dX3_lengthOf_22 hl (by decide) rfl (fun ls hl => ?_)
  have L24 : ∀ (fu24 : Nat) (i q : Nat) (hμ24 : K8 + 1 - i < fu24) (hi : i ≤ K8) (hq : q < gNo Γ) (hw : xw (gCb Γ) (gOp Γ) b p2 i = nI q) (H : Heap) (locs : List Loc) (ls : Array Slot), xSt E (n, (xu f 11 g8), o) s s.heap H locs → lv_has ls 9 [(0, .ref (E.2.2.2 0)), (3, .int (nI K8)), (4, .int (gLen Γ b p2 i)), (5, .int (nI q)), (6, .int (bz (xdir b i))), (7, .int (nI i))] → W p l e rm0X3_lengthOf s m args below meth c H locs 0 0 (MQ below (va_Qi (fun r σ' => (∃ K, xStop (gCb Γ) (gOp Γ) b p2 K ∧ r = gLen Γ b p2 K) ∧ xOKC Γ n f o σ') (xWd E) (xA E)) args s 0 0 (xA E)) (F0 m 24 ls []) := by
    intro fu24
    induction fu24 with
    | zero => intro i q hμ24; exact absurd hμ24 (Nat.not_lt_zero _)
    | succ fu24 L24 =>
      intro i q hμ24 hi hq hw H locs ls hW hl
      refine lv_iload hx hb dX3_lengthOf_24 (lv_at hl 5 rfl) ?_
      refine lv_iload_n hx hb dX3_lengthOf_26 rfl (lv_at hl 1 rfl) ?_
      refine x_icmp_ge (a := i) (b := K8) (tgt := 100) hx hb dX3_lengthOf_27 (by decide) (by omega) (by omega) (fun c27 => ?_) (fun c27 => ?_)
      · refine lv_iload hx hb dX3_lengthOf_100 (lv_at hl 2 rfl) ?_
        exact x_reti S hr hlk hW dX3_lengthOf_102 (⟨⟨K8, hS8, by rw [show i = K8 by omega]⟩, hR.trail _⟩)
      · obtain ⟨q2, hq2, e2⟩ := hS8.get (no := gNo Γ) (by omega) hG.cb hG.op hp2 (k := i + 1) (by omega)
        refine lv_aload_n hx hb dX3_lengthOf_30 rfl (lv_at hl 0 rfl) ?_
        refine x_get (v := .ref (E.2.2.2 23)) S hW hinX3 0 (xw_0 E _) rfl 16 (by decide) w64 rfl dX3_lengthOf_31 ?_
        refine lv_iload hx hb dX3_lengthOf_34 (lv_at hl 5 rfl) ?_
        refine x_Vi (rest := []) S (c_X2_at l E n (xu f 11 g8) o (i := 11) (by decide) (k := i) (show _ < 144 from by omega)) (cwV 1 S.2.2.2.2 gX3_lengthOf_X2_at rfl rfl rfl (by decide +kernel) ⟨Nat.le_of_ble_eq_true rfl, Nat.le_of_ble_eq_true rfl⟩) hW 23 (xw_23 E _) rfl rfl rfl hl.1 (Nat.le_of_ble_eq_true rfl) dX3_lengthOf_36 ⟨Nat.zero_le _, Nat.zero_le _⟩ (fun r36 σ36 H locs hq3 hW => ?_)
        obtain ⟨rfl, rfl⟩ := hq3
        refine x_topN (q2) ((hg8 i (by omega)).trans e2) ?_
        refine lv_istore (lv' := [(8, .int (nI q2)), (0, .ref (E.2.2.2 0)), (3, .int (nI K8)), (4, .int (gLen Γ b p2 i)), (5, .int (nI q)), (6, .int (bz (xdir b i))), (7, .int (nI i))]) hx hb dX3_lengthOf_39 hl (by decide) rfl (fun ls hl => ?_)
        refine lv_iload hx hb dX3_lengthOf_41 (lv_at hl 3 rfl) ?_
        refine lv_iload hx hb dX3_lengthOf_43 (lv_at hl 5 rfl) ?_
        refine lv_if_eq (tgt := 59) hx hb dX3_lengthOf_45 (by decide) (fun c45 => ?_) (fun c45 => ?_)
        · refine lv_aload_n hx hb dX3_lengthOf_59 rfl (lv_at hl 1 rfl) ?_
          refine x_get (v := .ref (E.2.2.2 21)) S hW hinX3 0 (xw_0 E _) rfl 14 (by decide) w54 rfl dX3_lengthOf_60 ?_
          have hd9 := bz_e c45
          have hst9 : gSt Γ q ≠ -1 := by intro e9; have := xw_step hw (by omega); rw [hd9, e2] at this; exact absurd (this.trans (by show gOp Γ q = -1; unfold gOp xop; rw [e9]; split <;> rfl)) (nI_m1 (by omega))
          obtain ⟨t9, ht9, et9⟩ := hG.tk q hq hst9
          refine lv_aload_n hx hb dX3_lengthOf_63 rfl (lv_at hl 1 rfl) ?_
          refine x_get (v := .ref (E.2.2.2 15)) S hW hinX3 0 (xw_0 E _) rfl 9 (by decide) w36 rfl dX3_lengthOf_64 ?_
          refine lv_iload hx hb dX3_lengthOf_67 (lv_at hl 4 rfl) ?_
          refine x_Vi (rest := [.ref (E.2.2.2 21), .int (gLen Γ b p2 i)]) S (c_X2_at l E n (xu f 11 g8) o (i := 7) (by decide) (k := q) (show _ < 144 from by omega)) (cwV 1 S.2.2.2.2 gX3_lengthOf_X2_at rfl rfl rfl (by decide +kernel) ⟨Nat.le_of_ble_eq_true rfl, Nat.le_of_ble_eq_true rfl⟩) hW 15 (xw_15 E _) rfl rfl rfl hl.1 (Nat.le_of_ble_eq_true rfl) dX3_lengthOf_69 ⟨Nat.zero_le _, Nat.zero_le _⟩ (fun r69 σ69 H locs hq4 hW => ?_)
          obtain ⟨rfl, rfl⟩ := hq4
          refine x_topN (t9) ((hR.tk q hq hst9).trans et9) ?_
          refine x_Vi (rest := [.int (gLen Γ b p2 i)]) S (c_X2_at l E n (xu f 11 g8) o (i := 10) (by decide) (k := t9) (show _ < 10 from by omega)) (cwV 1 S.2.2.2.2 gX3_lengthOf_X2_at rfl rfl rfl (by decide +kernel) ⟨Nat.le_of_ble_eq_true rfl, Nat.le_of_ble_eq_true rfl⟩) hW 21 (xw_21 E _) rfl rfl rfl hl.1 (Nat.le_of_ble_eq_true rfl) dX3_lengthOf_72 ⟨Nat.zero_le _, Nat.zero_le _⟩ (fun r72 σ72 H locs hq5 hW => ?_)
          obtain ⟨rfl, rfl⟩ := hq5
          refine x_topE (gTl Γ t9) (hR.tl_ t9 ht9) ?_
          refine lv_iadd hx hb dX3_lengthOf_75 ?_
          refine x_topE (gLen Γ b p2 (i + 1)) (by rw [gLen, if_neg (by rw [hd9]; decide), hw, xNa_n (by omega), et9, xNa_n (by omega)]) ?_
          refine lv_istore (lv' := [(4, .int (gLen Γ b p2 (i + 1))), (8, .int (nI q2)), (0, .ref (E.2.2.2 0)), (3, .int (nI K8)), (5, .int (nI q)), (6, .int (bz (xdir b i))), (7, .int (nI i))]) hx hb dX3_lengthOf_76 hl (by decide) rfl (fun ls hl => ?_)
          refine lv_iload hx hb dX3_lengthOf_78 (lv_at hl 1 rfl) ?_
          refine lv_istore (lv' := [(5, .int (nI q2)), (4, .int (gLen Γ b p2 (i + 1))), (8, .int (nI q2)), (0, .ref (E.2.2.2 0)), (3, .int (nI K8)), (6, .int (bz (xdir b i))), (7, .int (nI i))]) hx hb dX3_lengthOf_80 hl (by decide) rfl (fun ls hl => ?_)
          refine lv_iload hx hb dX3_lengthOf_82 (lv_at hl 5 rfl) ?_
          refine lv_if_ne (tgt := 91) hx hb dX3_lengthOf_84 (by decide) (fun c84 => ?_) (fun c84 => ?_)
          · refine lv_iconst (v := 0) hx hb dX3_lengthOf_91 (by decide) ?_
            refine x_topE (bz (xdir b (i + 1))) ((by rw [xdir_s]; exact bz_f0 c84)) ?_
            refine lv_istore (lv' := [(6, .int (bz (xdir b (i + 1)))), (5, .int (nI q2)), (4, .int (gLen Γ b p2 (i + 1))), (8, .int (nI q2)), (0, .ref (E.2.2.2 0)), (3, .int (nI K8)), (7, .int (nI i))]) hx hb dX3_lengthOf_92 hl (by decide) rfl (fun ls hl => ?_)
            refine lv_iinc (v := (nI (i + 1))) (lv' := [(7, .int (nI (i + 1))), (6, .int (bz (xdir b (i + 1)))), (5, .int (nI q2)), (4, .int (gLen Γ b p2 (i + 1))), (8, .int (nI q2)), (0, .ref (E.2.2.2 0)), (3, .int (nI K8))]) hx hb dX3_lengthOf_94 hl (k := 6) rfl (x_inc _) (by decide) rfl (fun ls hl => ?_)
            refine lv_goto (tgt := 24) hx hb dX3_lengthOf_97 (by decide) ?_
            exact L24  (i + 1) (q2) (by omega) (by omega) (hq2) (e2) _ _ _ hW (lv_sub hl [5, 6, 3, 2, 1, 0] rfl)
          · refine lv_iconst (v := 1) hx hb dX3_lengthOf_87 (by decide) ?_
            refine lv_goto (tgt := 92) hx hb dX3_lengthOf_88 (by decide) ?_
            refine x_topE (bz (xdir b (i + 1))) ((by rw [xdir_s]; exact bz_f1 c84)) ?_
            refine lv_istore (lv' := [(6, .int (bz (xdir b (i + 1)))), (5, .int (nI q2)), (4, .int (gLen Γ b p2 (i + 1))), (8, .int (nI q2)), (0, .ref (E.2.2.2 0)), (3, .int (nI K8)), (7, .int (nI i))]) hx hb dX3_lengthOf_92 hl (by decide) rfl (fun ls hl => ?_)
            refine lv_iinc (v := (nI (i + 1))) (lv' := [(7, .int (nI (i + 1))), (6, .int (bz (xdir b (i + 1)))), (5, .int (nI q2)), (4, .int (gLen Γ b p2 (i + 1))), (8, .int (nI q2)), (0, .ref (E.2.2.2 0)), (3, .int (nI K8))]) hx hb dX3_lengthOf_94 hl (k := 6) rfl (x_inc _) (by decide) rfl (fun ls hl => ?_)
            refine lv_goto (tgt := 24) hx hb dX3_lengthOf_97 (by decide) ?_
            exact L24  (i + 1) (q2) (by omega) (by omega) (hq2) (e2) _ _ _ hW (lv_sub hl [5, 6, 3, 2, 1, 0] rfl)
        · refine lv_aload_n hx hb dX3_lengthOf_48 rfl (lv_at hl 1 rfl) ?_
          refine lv_iload hx hb dX3_lengthOf_49 (lv_at hl 4 rfl) ?_
          refine lv_iload hx hb dX3_lengthOf_51 (lv_at hl 0 rfl) ?_
          refine x_Vi (rest := [.int (gLen Γ b p2 i)]) S (c_X3_lengthBetween l E n (xu f 11 g8) o (p1 := q) (by omega) (p2 := q2) (by omega) (by have := (hG.pn q hq).1; omega) (by have := (hG.pn q2 hq2).1; omega) (hR8.pn q hq) (hR8.pn q2 hq2)) (cwV 2 S.2.2.2.2 gX3_lengthOf_X3_lengthBetween rfl rfl rfl (by decide +kernel) ⟨Nat.le_of_ble_eq_true rfl, Nat.le_of_ble_eq_true rfl⟩) hW 0 (xw_0 E _) rfl rfl rfl hl.1 (Nat.le_of_ble_eq_true rfl) dX3_lengthOf_53 ⟨Nat.zero_le _, Nat.zero_le _⟩ (fun r53 σ53 H locs hq6 hW => ?_)
          obtain ⟨e53, rfl⟩ := hq6
          have e53 : r53 = xlen (gRk Γ) (gPn Γ q) (gPn Γ q2) := e53.trans (xlen_c (hR8.rk _ (hG.pn q hq).1) (hR8.rk _ (hG.pn q2 hq2).1))
          subst e53
          refine lv_goto (tgt := 75) hx hb dX3_lengthOf_56 (by decide) ?_
          refine lv_iadd hx hb dX3_lengthOf_75 ?_
          refine x_topE (gLen Γ b p2 (i + 1)) (by rw [gLen, if_pos (bz_t c45), hw, e2, xNa_n (by omega), xNa_n (by omega)]) ?_
          refine lv_istore (lv' := [(4, .int (gLen Γ b p2 (i + 1))), (8, .int (nI q2)), (0, .ref (E.2.2.2 0)), (3, .int (nI K8)), (5, .int (nI q)), (6, .int (bz (xdir b i))), (7, .int (nI i))]) hx hb dX3_lengthOf_76 hl (by decide) rfl (fun ls hl => ?_)
          refine lv_iload hx hb dX3_lengthOf_78 (lv_at hl 1 rfl) ?_
          refine lv_istore (lv' := [(5, .int (nI q2)), (4, .int (gLen Γ b p2 (i + 1))), (8, .int (nI q2)), (0, .ref (E.2.2.2 0)), (3, .int (nI K8)), (6, .int (bz (xdir b i))), (7, .int (nI i))]) hx hb dX3_lengthOf_80 hl (by decide) rfl (fun ls hl => ?_)
          refine lv_iload hx hb dX3_lengthOf_82 (lv_at hl 5 rfl) ?_
          refine lv_if_ne (tgt := 91) hx hb dX3_lengthOf_84 (by decide) (fun c84 => ?_) (fun c84 => ?_)
          · refine lv_iconst (v := 0) hx hb dX3_lengthOf_91 (by decide) ?_
            refine x_topE (bz (xdir b (i + 1))) ((by rw [xdir_s]; exact bz_f0 c84)) ?_
            refine lv_istore (lv' := [(6, .int (bz (xdir b (i + 1)))), (5, .int (nI q2)), (4, .int (gLen Γ b p2 (i + 1))), (8, .int (nI q2)), (0, .ref (E.2.2.2 0)), (3, .int (nI K8)), (7, .int (nI i))]) hx hb dX3_lengthOf_92 hl (by decide) rfl (fun ls hl => ?_)
            refine lv_iinc (v := (nI (i + 1))) (lv' := [(7, .int (nI (i + 1))), (6, .int (bz (xdir b (i + 1)))), (5, .int (nI q2)), (4, .int (gLen Γ b p2 (i + 1))), (8, .int (nI q2)), (0, .ref (E.2.2.2 0)), (3, .int (nI K8))]) hx hb dX3_lengthOf_94 hl (k := 6) rfl (x_inc _) (by decide) rfl (fun ls hl => ?_)
            refine lv_goto (tgt := 24) hx hb dX3_lengthOf_97 (by decide) ?_
            exact L24  (i + 1) (q2) (by omega) (by omega) (hq2) (e2) _ _ _ hW (lv_sub hl [5, 6, 3, 2, 1, 0] rfl)
          · refine lv_iconst (v := 1) hx hb dX3_lengthOf_87 (by decide) ?_
            refine lv_goto (tgt := 92) hx hb dX3_lengthOf_88 (by decide) ?_
            refine x_topE (bz (xdir b (i + 1))) ((by rw [xdir_s]; exact bz_f1 c84)) ?_
            refine lv_istore (lv' := [(6, .int (bz (xdir b (i + 1)))), (5, .int (nI q2)), (4, .int (gLen Γ b p2 (i + 1))), (8, .int (nI q2)), (0, .ref (E.2.2.2 0)), (3, .int (nI K8)), (7, .int (nI i))]) hx hb dX3_lengthOf_92 hl (by decide) rfl (fun ls hl => ?_)
            refine lv_iinc (v := (nI (i + 1))) (lv' := [(7, .int (nI (i + 1))), (6, .int (bz (xdir b (i + 1)))), (5, .int (nI q2)), (4, .int (gLen Γ b p2 (i + 1))), (8, .int (nI q2)), (0, .ref (E.2.2.2 0)), (3, .int (nI K8))]) hx hb dX3_lengthOf_94 hl (k := 6) rfl (x_inc _) (by decide) rfl (fun ls hl => ?_)
            refine lv_goto (tgt := 24) hx hb dX3_lengthOf_97 (by decide) ?_
            exact L24  (i + 1) (q2) (by omega) (by omega) (hq2) (e2) _ _ _ hW (lv_sub hl [5, 6, 3, 2, 1, 0] rfl)
  exact L24 _ (0) (p2) (Nat.lt_succ_self _) (by omega) (hp2) (rfl) _ _ _ hW (lv_sub hl [5, 4, 3, 2, 1, 0] rfl)
