/-! pure words of the class's leaves -/
def xop (g b : Nat → Int32) (p : Nat) : Int32 := if b p = 0 then g p else -1
def xabs (x : Int32) : Int32 := if 0 ≤ x then x else 0 - x
def xlen (rk : Nat → Int32) (ka kb : Nat) : Int32 := if ka = kb then 1 else if xabs (rk ka - rk kb) = 0 then 2 else 3 + 2 * xabs (rk ka - rk kb)
/-- r is where the end at p is put by the first m moves -/
def xmv (A B : Nat → Int32) (m : Nat) (p r : Int32) : Prop := (∃ i, i < m ∧ A i = p ∧ (∀ q, q < i → ¬ A q = p) ∧ r = B i) ∨ ((∀ q, q < m → ¬ A q = p) ∧ r = p)

abbrev rmX3_isWithin : Room := { frames := 0, cells := 0, slots := 0, locals := 0 }
set_option maxHeartbeats 4000000 in
set_option maxRecDepth 100000 in
theorem c_X3_isWithin (l : Launch) (E : xE) (n : Nat → Int32) (f : Nat → Nat → Int32) (o : Nat → Int64) (v lo hi : Int32) : xCi l yX3_isWithin wsX3_isWithin rmX3_isWithin E [.int v, .int lo, .int hi] (n, f, o) (fun r σ' => (r = 0 ∧ ¬ (lo ≤ v ∧ v ≤ hi) ∧ σ' = (n, f, o)) ∨ (r = 1 ∧ (lo ≤ v ∧ v ≤ hi) ∧ σ' = (n, f, o))) := by
  refine x_starti RX3 (by decide) rfl rfl (Nat.le_of_ble_eq_true rfl) ?_
  intro p e s m args below meth c ls S hr hlk hW hl
  have hx := S.1
  have hb := S.2.1
  have hl : lv_has ls 3 [(0, .int v), (1, .int lo), (2, .int hi)] := hl
  refine lv_iload_n hx hb dX3_isWithin_0 rfl (lv_at hl 0 rfl) ?_
  refine lv_iload_n hx hb dX3_isWithin_1 rfl (lv_at hl 1 rfl) ?_
  refine lv_icmp_lt (tgt := 14) hx hb dX3_isWithin_2 (by decide) (fun c2 => ?_) (fun c2 => ?_)
  · refine lv_iconst (v := 0) hx hb dX3_isWithin_14 (by decide) ?_
    exact x_retz S hr hlk hW dX3_isWithin_15 (Or.inl rfl) (.inl ⟨rfl, (by first | exact fun h => absurd c2 (Int32.not_lt.mpr h.1) | exact fun h => absurd c7 (Int32.not_lt.mpr h.2)), rfl⟩)
  · refine lv_iload_n hx hb dX3_isWithin_5 rfl (lv_at hl 0 rfl) ?_
    refine lv_iload_n hx hb dX3_isWithin_6 rfl (lv_at hl 2 rfl) ?_
    refine lv_icmp_gt (tgt := 14) hx hb dX3_isWithin_7 (by decide) (fun c7 => ?_) (fun c7 => ?_)
    · refine lv_iconst (v := 0) hx hb dX3_isWithin_14 (by decide) ?_
      exact x_retz S hr hlk hW dX3_isWithin_15 (Or.inl rfl) (.inl ⟨rfl, (by first | exact fun h => absurd c2 (Int32.not_lt.mpr h.1) | exact fun h => absurd c7 (Int32.not_lt.mpr h.2)), rfl⟩)
    · refine lv_iconst (v := 1) hx hb dX3_isWithin_10 (by decide) ?_
      refine lv_goto (tgt := 15) hx hb dX3_isWithin_11 (by decide) ?_
      exact x_retz S hr hlk hW dX3_isWithin_15 (Or.inr rfl) (.inr ⟨rfl, ⟨Int32.not_lt.mp c2, Int32.not_lt.mp c7⟩, rfl⟩)

abbrev rmX3_hasStrand : Room := { frames := 1, cells := 0, slots := 0, locals := 21 }
set_option maxHeartbeats 4000000 in
set_option maxRecDepth 100000 in
theorem c_X3_hasStrand (l : Launch) (E : xE) (n : Nat → Int32) (f : Nat → Nat → Int32) (o : Nat → Int64) {p1 : Nat} (h1 : p1 < 144) : xCi l yX3_hasStrand wsX3_hasStrand rmX3_hasStrand E [.ref (E.2.2.2 0), .int (nI p1)] (n, f, o) (fun r σ' => (r = 0 ∧ ¬ (f 6 p1 ≠ -1) ∧ σ' = (n, f, o)) ∨ (r = 1 ∧ (f 6 p1 ≠ -1) ∧ σ' = (n, f, o))) := by
  refine x_starti RX3 (by decide) rfl rfl (Nat.le_of_ble_eq_true rfl) ?_
  intro p e s m args below meth c ls S hr hlk hW hl
  have hx := S.1
  have hb := S.2.1
  have hl : lv_has ls 2 [(0, .ref (E.2.2.2 0)), (1, .int (nI p1))] := hl
  have hinX3 : ∀ w ∈ wsX30, w ∈ wsX3_hasStrand := by decide +kernel
  have w33 : Cond.fieldLink RX3 33 "CableBook" "strandTo" "LCableBook$Row;" ∈ wsX3_hasStrand := by decide +kernel
  refine lv_aload_n hx hb dX3_hasStrand_0 rfl (lv_at hl 0 rfl) ?_
  refine x_get (v := .ref (E.2.2.2 13)) S hW hinX3 0 (xw_0 E _) rfl 8 (by decide) w33 rfl dX3_hasStrand_1 ?_
  refine lv_iload_n hx hb dX3_hasStrand_4 rfl (lv_at hl 1 rfl) ?_
  refine x_Vi (rest := []) S (c_X2_at l E n f o (i := 6) (by decide) (k := p1) (show _ < 144 from by omega)) (cwV 1 S.2.2.2.2 gX3_hasStrand_X2_at rfl rfl rfl (by decide +kernel) ⟨Nat.le_of_ble_eq_true rfl, Nat.le_of_ble_eq_true rfl⟩) hW 13 (xw_13 E _) rfl rfl rfl hl.1 (Nat.le_of_ble_eq_true rfl) dX3_hasStrand_5 ⟨Nat.zero_le _, Nat.zero_le _⟩ (fun r5 σ5 H locs hp1 hW => ?_)
  obtain ⟨rfl, rfl⟩ := hp1
  refine lv_iconst (v := (-1)) hx hb dX3_hasStrand_8 (by decide) ?_
  refine lv_icmp_eq (tgt := 16) hx hb dX3_hasStrand_9 (by decide) (fun c9 => ?_) (fun c9 => ?_)
  · refine lv_iconst (v := 0) hx hb dX3_hasStrand_16 (by decide) ?_
    exact x_retz S hr hlk hW dX3_hasStrand_17 (Or.inl rfl) (.inl ⟨rfl, not_not_intro c9, rfl⟩)
  · refine lv_iconst (v := 1) hx hb dX3_hasStrand_12 (by decide) ?_
    refine lv_goto (tgt := 17) hx hb dX3_hasStrand_13 (by decide) ?_
    exact x_retz S hr hlk hW dX3_hasStrand_17 (Or.inr rfl) (.inr ⟨rfl, c9, rfl⟩)

abbrev rmX3_hasCable : Room := { frames := 1, cells := 0, slots := 0, locals := 21 }
set_option maxHeartbeats 4000000 in
set_option maxRecDepth 100000 in
theorem c_X3_hasCable (l : Launch) (E : xE) (n : Nat → Int32) (f : Nat → Nat → Int32) (o : Nat → Int64) {p1 : Nat} (h1 : p1 < 144) : xCi l yX3_hasCable wsX3_hasCable rmX3_hasCable E [.ref (E.2.2.2 0), .int (nI p1)] (n, f, o) (fun r σ' => (r = 0 ∧ ¬ (f 4 p1 ≠ -1) ∧ σ' = (n, f, o)) ∨ (r = 1 ∧ (f 4 p1 ≠ -1) ∧ σ' = (n, f, o))) := by
  refine x_starti RX3 (by decide) rfl rfl (Nat.le_of_ble_eq_true rfl) ?_
  intro p e s m args below meth c ls S hr hlk hW hl
  have hx := S.1
  have hb := S.2.1
  have hl : lv_has ls 2 [(0, .ref (E.2.2.2 0)), (1, .int (nI p1))] := hl
  have hinX3 : ∀ w ∈ wsX30, w ∈ wsX3_hasCable := by decide +kernel
  have w27 : Cond.fieldLink RX3 27 "CableBook" "cableTo" "LCableBook$Row;" ∈ wsX3_hasCable := by decide +kernel
  refine lv_aload_n hx hb dX3_hasCable_0 rfl (lv_at hl 0 rfl) ?_
  refine x_get (v := .ref (E.2.2.2 9)) S hW hinX3 0 (xw_0 E _) rfl 6 (by decide) w27 rfl dX3_hasCable_1 ?_
  refine lv_iload_n hx hb dX3_hasCable_4 rfl (lv_at hl 1 rfl) ?_
  refine x_Vi (rest := []) S (c_X2_at l E n f o (i := 4) (by decide) (k := p1) (show _ < 144 from by omega)) (cwV 1 S.2.2.2.2 gX3_hasCable_X2_at rfl rfl rfl (by decide +kernel) ⟨Nat.le_of_ble_eq_true rfl, Nat.le_of_ble_eq_true rfl⟩) hW 9 (xw_9 E _) rfl rfl rfl hl.1 (Nat.le_of_ble_eq_true rfl) dX3_hasCable_5 ⟨Nat.zero_le _, Nat.zero_le _⟩ (fun r5 σ5 H locs hp1 hW => ?_)
  obtain ⟨rfl, rfl⟩ := hp1
  refine lv_iconst (v := (-1)) hx hb dX3_hasCable_8 (by decide) ?_
  refine lv_icmp_eq (tgt := 16) hx hb dX3_hasCable_9 (by decide) (fun c9 => ?_) (fun c9 => ?_)
  · refine lv_iconst (v := 0) hx hb dX3_hasCable_16 (by decide) ?_
    exact x_retz S hr hlk hW dX3_hasCable_17 (Or.inl rfl) (.inl ⟨rfl, not_not_intro c9, rfl⟩)
  · refine lv_iconst (v := 1) hx hb dX3_hasCable_12 (by decide) ?_
    refine lv_goto (tgt := 17) hx hb dX3_hasCable_13 (by decide) ?_
    exact x_retz S hr hlk hW dX3_hasCable_17 (Or.inr rfl) (.inr ⟨rfl, c9, rfl⟩)

abbrev rmX3_isLowerEnd : Room := { frames := 1, cells := 0, slots := 0, locals := 21 }
set_option maxHeartbeats 4000000 in
set_option maxRecDepth 100000 in
theorem c_X3_isLowerEnd (l : Launch) (E : xE) (n : Nat → Int32) (f : Nat → Nat → Int32) (o : Nat → Int64) {p1 : Nat} (h1 : p1 < 144) : xCi l yX3_isLowerEnd wsX3_isLowerEnd rmX3_isLowerEnd E [.ref (E.2.2.2 0), .int (nI p1)] (n, f, o) (fun r σ' => (r = 0 ∧ ¬ (nI p1 < f 4 p1) ∧ σ' = (n, f, o)) ∨ (r = 1 ∧ (nI p1 < f 4 p1) ∧ σ' = (n, f, o))) := by
  refine x_starti RX3 (by decide) rfl rfl (Nat.le_of_ble_eq_true rfl) ?_
  intro p e s m args below meth c ls S hr hlk hW hl
  have hx := S.1
  have hb := S.2.1
  have hl : lv_has ls 2 [(0, .ref (E.2.2.2 0)), (1, .int (nI p1))] := hl
  have hinX3 : ∀ w ∈ wsX30, w ∈ wsX3_isLowerEnd := by decide +kernel
  have w27 : Cond.fieldLink RX3 27 "CableBook" "cableTo" "LCableBook$Row;" ∈ wsX3_isLowerEnd := by decide +kernel
  refine lv_aload_n hx hb dX3_isLowerEnd_0 rfl (lv_at hl 0 rfl) ?_
  refine x_get (v := .ref (E.2.2.2 9)) S hW hinX3 0 (xw_0 E _) rfl 6 (by decide) w27 rfl dX3_isLowerEnd_1 ?_
  refine lv_iload_n hx hb dX3_isLowerEnd_4 rfl (lv_at hl 1 rfl) ?_
  refine x_Vi (rest := []) S (c_X2_at l E n f o (i := 4) (by decide) (k := p1) (show _ < 144 from by omega)) (cwV 1 S.2.2.2.2 gX3_isLowerEnd_X2_at rfl rfl rfl (by decide +kernel) ⟨Nat.le_of_ble_eq_true rfl, Nat.le_of_ble_eq_true rfl⟩) hW 9 (xw_9 E _) rfl rfl rfl hl.1 (Nat.le_of_ble_eq_true rfl) dX3_isLowerEnd_5 ⟨Nat.zero_le _, Nat.zero_le _⟩ (fun r5 σ5 H locs hp1 hW => ?_)
  obtain ⟨rfl, rfl⟩ := hp1
  refine lv_iload_n hx hb dX3_isLowerEnd_8 rfl (lv_at hl 1 rfl) ?_
  refine lv_icmp_le (tgt := 16) hx hb dX3_isLowerEnd_9 (by decide) (fun c9 => ?_) (fun c9 => ?_)
  · refine lv_iconst (v := 0) hx hb dX3_isLowerEnd_16 (by decide) ?_
    exact x_retz S hr hlk hW dX3_isLowerEnd_17 (Or.inl rfl) (.inl ⟨rfl, fun h => absurd c9 (Int32.not_le.mpr h), rfl⟩)
  · refine lv_iconst (v := 1) hx hb dX3_isLowerEnd_12 (by decide) ?_
    refine lv_goto (tgt := 17) hx hb dX3_isLowerEnd_13 (by decide) ?_
    exact x_retz S hr hlk hW dX3_isLowerEnd_17 (Or.inr rfl) (.inr ⟨rfl, Int32.not_le.mp c9, rfl⟩)

abbrev rmX3_openStrandFrom : Room := { frames := 1, cells := 0, slots := 0, locals := 21 }
set_option maxHeartbeats 4000000 in
set_option maxRecDepth 100000 in
theorem c_X3_openStrandFrom (l : Launch) (E : xE) (n : Nat → Int32) (f : Nat → Nat → Int32) (o : Nat → Int64) {p1 : Nat} (h1 : p1 < 144) : xCi l yX3_openStrandFrom wsX3_openStrandFrom rmX3_openStrandFrom E [.ref (E.2.2.2 0), .int (nI p1)] (n, f, o) (fun r σ' => r = xop (f 6) (f 17) p1 ∧ σ' = (n, f, o)) := by
  refine x_starti RX3 (by decide) rfl rfl (Nat.le_of_ble_eq_true rfl) ?_
  intro p e s m args below meth c ls S hr hlk hW hl
  have hx := S.1
  have hb := S.2.1
  have hl : lv_has ls 2 [(0, .ref (E.2.2.2 0)), (1, .int (nI p1))] := hl
  have hinX3 : ∀ w ∈ wsX30, w ∈ wsX3_openStrandFrom := by decide +kernel
  have w33 : Cond.fieldLink RX3 33 "CableBook" "strandTo" "LCableBook$Row;" ∈ wsX3_openStrandFrom := by decide +kernel
  have w44 : Cond.fieldLink RX3 44 "CableBook" "brokenAt" "LCableBook$Marks;" ∈ wsX3_openStrandFrom := by decide +kernel
  refine lv_aload_n hx hb dX3_openStrandFrom_0 rfl (lv_at hl 0 rfl) ?_
  refine x_get (v := .ref (E.2.2.2 35)) S hW hinX3 0 (xw_0 E _) rfl 10 (by decide) w44 rfl dX3_openStrandFrom_1 ?_
  refine lv_iload_n hx hb dX3_openStrandFrom_4 rfl (lv_at hl 1 rfl) ?_
  refine x_Vi (rest := []) S (c_X0_has l E n f o (i := 0) (by decide) (k := p1) (by omega)) (cwV 1 S.2.2.2.2 gX3_openStrandFrom_X0_has rfl rfl rfl (by decide +kernel) ⟨Nat.le_of_ble_eq_true rfl, Nat.le_of_ble_eq_true rfl⟩) hW 35 (xw_35 E _) rfl rfl rfl hl.1 (Nat.le_of_ble_eq_true rfl) dX3_openStrandFrom_5 ⟨Nat.zero_le _, Nat.zero_le _⟩ (fun r5 σ5 H locs hp1 hW => ?_)
  rcases hp1 with ⟨rfl, h5, rfl⟩ | ⟨rfl, h5, rfl⟩
  · replace h5 : (f 17) p1 = 0 := Classical.not_not.mp h5
    refine lv_if_eq (tgt := 15) hx hb dX3_openStrandFrom_8 (by decide) (fun c8 => ?_) (fun c8 => ?_)
    rotate_left
    · exact absurd c8 (by decide)
    refine lv_aload_n hx hb dX3_openStrandFrom_15 rfl (lv_at hl 0 rfl) ?_
    refine x_get (v := .ref (E.2.2.2 13)) S hW hinX3 0 (xw_0 E _) rfl 8 (by decide) w33 rfl dX3_openStrandFrom_16 ?_
    refine lv_iload_n hx hb dX3_openStrandFrom_19 rfl (lv_at hl 1 rfl) ?_
    refine x_Vi (rest := []) S (c_X2_at l E n f o (i := 6) (by decide) (k := p1) (show _ < 144 from by omega)) (cwV 1 S.2.2.2.2 gX3_openStrandFrom_X2_at rfl rfl rfl (by decide +kernel) ⟨Nat.le_of_ble_eq_true rfl, Nat.le_of_ble_eq_true rfl⟩) hW 13 (xw_13 E _) rfl rfl rfl hl.1 (Nat.le_of_ble_eq_true rfl) dX3_openStrandFrom_20 ⟨Nat.zero_le _, Nat.zero_le _⟩ (fun r20 σ20 H locs hp2 hW => ?_)
    obtain ⟨rfl, rfl⟩ := hp2
    exact x_reti S hr hlk hW dX3_openStrandFrom_23 (⟨(if_pos h5).symm, rfl⟩)
  · replace h5 : (f 17) p1 ≠ 0 := h5
    refine lv_if_eq (tgt := 15) hx hb dX3_openStrandFrom_8 (by decide) (fun c8 => ?_) (fun c8 => ?_)
    · exact absurd c8 (by decide)
    refine lv_iconst (v := (-1)) hx hb dX3_openStrandFrom_11 (by decide) ?_
    refine lv_goto (tgt := 23) hx hb dX3_openStrandFrom_12 (by decide) ?_
    exact x_reti S hr hlk hW dX3_openStrandFrom_23 (⟨(if_neg h5).symm, rfl⟩)

abbrev rmX3_portsFrom : Room := { frames := 1, cells := 0, slots := 0, locals := 21 }
set_option maxHeartbeats 4000000 in
set_option maxRecDepth 100000 in
theorem c_X3_portsFrom (l : Launch) (E : xE) (n : Nat → Int32) (f : Nat → Nat → Int32) (o : Nat → Int64) {p1 : Nat} (h1 : p1 < 144) {k a0 c0 : Nat} (hk : k < 12) (e3 : f 3 p1 = nI k) (e1 : f 1 k = nI a0) (e2 : f 2 k = nI c0) (hle : p1 ≤ a0 + c0) (hsm : a0 + c0 < 1000) : xCi l yX3_portsFrom wsX3_portsFrom rmX3_portsFrom E [.ref (E.2.2.2 0), .int (nI p1)] (n, f, o) (fun r σ' => r = nI (a0 + c0 - p1) ∧ σ' = (n, f, o)) := by
  refine x_starti RX3 (by decide) rfl rfl (Nat.le_of_ble_eq_true rfl) ?_
  intro p e s m args below meth c ls S hr hlk hW hl
  have hx := S.1
  have hb := S.2.1
  have hl : lv_has ls 3 [(0, .ref (E.2.2.2 0)), (1, .int (nI p1))] := hl
  have hinX3 : ∀ w ∈ wsX30, w ∈ wsX3_portsFrom := by decide +kernel
  have w18 : Cond.fieldLink RX3 18 "CableBook" "firstPortOf" "LCableBook$Row;" ∈ wsX3_portsFrom := by decide +kernel
  have w21 : Cond.fieldLink RX3 21 "CableBook" "portCountOf" "LCableBook$Row;" ∈ wsX3_portsFrom := by decide +kernel
  have w24 : Cond.fieldLink RX3 24 "CableBook" "panelAt" "LCableBook$Row;" ∈ wsX3_portsFrom := by decide +kernel
  refine lv_aload_n hx hb dX3_portsFrom_0 rfl (lv_at hl 0 rfl) ?_
  refine x_get (v := .ref (E.2.2.2 7)) S hW hinX3 0 (xw_0 E _) rfl 5 (by decide) w24 rfl dX3_portsFrom_1 ?_
  refine lv_iload_n hx hb dX3_portsFrom_4 rfl (lv_at hl 1 rfl) ?_
  refine x_Vi (rest := []) S (c_X2_at l E n f o (i := 3) (by decide) (k := p1) (show _ < 144 from by omega)) (cwV 1 S.2.2.2.2 gX3_portsFrom_X2_at rfl rfl rfl (by decide +kernel) ⟨Nat.le_of_ble_eq_true rfl, Nat.le_of_ble_eq_true rfl⟩) hW 7 (xw_7 E _) rfl rfl rfl hl.1 (Nat.le_of_ble_eq_true rfl) dX3_portsFrom_5 ⟨Nat.zero_le _, Nat.zero_le _⟩ (fun r5 σ5 H locs hp1 hW => ?_)
  obtain ⟨rfl, rfl⟩ := hp1
  refine x_topN (k) (e3) ?_
  refine lv_istore_n (lv' := [(2, .int (nI k)), (0, .ref (E.2.2.2 0)), (1, .int (nI p1))]) hx hb dX3_portsFrom_8 rfl hl (by decide) rfl (fun ls hl => ?_)
  refine lv_aload_n hx hb dX3_portsFrom_9 rfl (lv_at hl 1 rfl) ?_
  refine x_get (v := .ref (E.2.2.2 3)) S hW hinX3 0 (xw_0 E _) rfl 2 (by decide) w18 rfl dX3_portsFrom_10 ?_
  refine lv_iload_n hx hb dX3_portsFrom_13 rfl (lv_at hl 0 rfl) ?_
  refine x_Vi (rest := []) S (c_X2_at l E n f o (i := 1) (by decide) (k := k) (show _ < 12 from by omega)) (cwV 1 S.2.2.2.2 gX3_portsFrom_X2_at rfl rfl rfl (by decide +kernel) ⟨Nat.le_of_ble_eq_true rfl, Nat.le_of_ble_eq_true rfl⟩) hW 3 (xw_3 E _) rfl rfl rfl hl.1 (Nat.le_of_ble_eq_true rfl) dX3_portsFrom_14 ⟨Nat.zero_le _, Nat.zero_le _⟩ (fun r14 σ14 H locs hp2 hW => ?_)
  obtain ⟨rfl, rfl⟩ := hp2
  refine x_topN (a0) (e1) ?_
  refine lv_aload_n hx hb dX3_portsFrom_17 rfl (lv_at hl 1 rfl) ?_
  refine x_get (v := .ref (E.2.2.2 5)) S hW hinX3 0 (xw_0 E _) rfl 3 (by decide) w21 rfl dX3_portsFrom_18 ?_
  refine lv_iload_n hx hb dX3_portsFrom_21 rfl (lv_at hl 0 rfl) ?_
  refine x_Vi (rest := [.int (nI a0)]) S (c_X2_at l E n f o (i := 2) (by decide) (k := k) (show _ < 12 from by omega)) (cwV 1 S.2.2.2.2 gX3_portsFrom_X2_at rfl rfl rfl (by decide +kernel) ⟨Nat.le_of_ble_eq_true rfl, Nat.le_of_ble_eq_true rfl⟩) hW 5 (xw_5 E _) rfl rfl rfl hl.1 (Nat.le_of_ble_eq_true rfl) dX3_portsFrom_22 ⟨Nat.zero_le _, Nat.zero_le _⟩ (fun r22 σ22 H locs hp3 hW => ?_)
  obtain ⟨rfl, rfl⟩ := hp3
  refine x_topN (c0) (e2) ?_
  refine x_iadd (a := a0) (b := c0) hx hb dX3_portsFrom_25 ?_
  refine lv_iload_n hx hb dX3_portsFrom_26 rfl (lv_at hl 2 rfl) ?_
  refine x_isub (a := a0 + c0) (b := p1) hx hb dX3_portsFrom_27 (hle) ?_
  exact x_reti S hr hlk hW dX3_portsFrom_28 (⟨rfl, rfl⟩)

abbrev rmX3_lengthBetween : Room := { frames := 1, cells := 0, slots := 0, locals := 40 }
set_option maxHeartbeats 4000000 in
set_option maxRecDepth 100000 in
theorem c_X3_lengthBetween (l : Launch) (E : xE) (n : Nat → Int32) (f : Nat → Nat → Int32) (o : Nat → Int64) {p1 : Nat} (h1 : p1 < 144) {p2 : Nat} (h2 : p2 < 144) {ka kb : Nat} (ha : ka < 12) (hb9 : kb < 12) (e1 : f 3 p1 = nI ka) (e2 : f 3 p2 = nI kb) : xCi l yX3_lengthBetween wsX3_lengthBetween rmX3_lengthBetween E [.ref (E.2.2.2 0), .int (nI p1), .int (nI p2)] (n, f, o) (fun r σ' => r = xlen (f 0) ka kb ∧ σ' = (n, f, o)) := by
  refine x_starti RX3 (by decide) rfl rfl (Nat.le_of_ble_eq_true rfl) ?_
  intro p e s m args below meth c ls S hr hlk hW hl
  have hx := S.1
  have hb := S.2.1
  have hl : lv_has ls 6 [(0, .ref (E.2.2.2 0)), (1, .int (nI p1)), (2, .int (nI p2))] := hl
  have hinX3 : ∀ w ∈ wsX30, w ∈ wsX3_lengthBetween := by decide +kernel
  have w14 : Cond.fieldLink RX3 14 "CableBook" "rackOf" "LCableBook$Row;" ∈ wsX3_lengthBetween := by decide +kernel
  have w24 : Cond.fieldLink RX3 24 "CableBook" "panelAt" "LCableBook$Row;" ∈ wsX3_lengthBetween := by decide +kernel
  have wmi : Cond.initialized "java/lang/Math" ∈ wsX3_lengthBetween := by decide +kernel
  have wml : Cond.methodLink RX3 228 Lib.Math.abs.name ∈ wsX3_lengthBetween := by decide +kernel
  have wms : Cond.static Lib.Math.abs.name ∈ wsX3_lengthBetween := by decide +kernel
  have wmc : Cond.code Lib.Math.abs.name Lib.Math.abs.code 1 (some .int) ∈ wsX3_lengthBetween := by decide +kernel
  refine lv_aload_n hx hb dX3_lengthBetween_0 rfl (lv_at hl 0 rfl) ?_
  refine x_get (v := .ref (E.2.2.2 7)) S hW hinX3 0 (xw_0 E _) rfl 5 (by decide) w24 rfl dX3_lengthBetween_1 ?_
  refine lv_iload_n hx hb dX3_lengthBetween_4 rfl (lv_at hl 1 rfl) ?_
  refine x_Vi (rest := []) S (c_X2_at l E n f o (i := 3) (by decide) (k := p1) (show _ < 144 from by omega)) (cwV 1 S.2.2.2.2 gX3_lengthBetween_X2_at rfl rfl rfl (by decide +kernel) ⟨Nat.le_of_ble_eq_true rfl, Nat.le_of_ble_eq_true rfl⟩) hW 7 (xw_7 E _) rfl rfl rfl hl.1 (Nat.le_of_ble_eq_true rfl) dX3_lengthBetween_5 ⟨Nat.zero_le _, Nat.zero_le _⟩ (fun r5 σ5 H locs hp1 hW => ?_)
  obtain ⟨rfl, rfl⟩ := hp1
  refine x_topN (ka) (e1) ?_
  refine lv_istore_n (lv' := [(3, .int (nI ka)), (0, .ref (E.2.2.2 0)), (1, .int (nI p1)), (2, .int (nI p2))]) hx hb dX3_lengthBetween_8 rfl hl (by decide) rfl (fun ls hl => ?_)
  refine lv_aload_n hx hb dX3_lengthBetween_9 rfl (lv_at hl 1 rfl) ?_
  refine x_get (v := .ref (E.2.2.2 7)) S hW hinX3 0 (xw_0 E _) rfl 5 (by decide) w24 rfl dX3_lengthBetween_10 ?_
  refine lv_iload_n hx hb dX3_lengthBetween_13 rfl (lv_at hl 3 rfl) ?_
  refine x_Vi (rest := []) S (c_X2_at l E n f o (i := 3) (by decide) (k := p2) (show _ < 144 from by omega)) (cwV 1 S.2.2.2.2 gX3_lengthBetween_X2_at rfl rfl rfl (by decide +kernel) ⟨Nat.le_of_ble_eq_true rfl, Nat.le_of_ble_eq_true rfl⟩) hW 7 (xw_7 E _) rfl rfl rfl hl.1 (Nat.le_of_ble_eq_true rfl) dX3_lengthBetween_14 ⟨Nat.zero_le _, Nat.zero_le _⟩ (fun r14 σ14 H locs hp2 hW => ?_)
  obtain ⟨rfl, rfl⟩ := hp2
  refine x_topN (kb) (e2) ?_
  refine lv_istore (lv' := [(4, .int (nI kb)), (3, .int (nI ka)), (0, .ref (E.2.2.2 0)), (1, .int (nI p1)), (2, .int (nI p2))]) hx hb dX3_lengthBetween_17 hl (by decide) rfl (fun ls hl => ?_)
  refine lv_iload_n hx hb dX3_lengthBetween_19 rfl (lv_at hl 1 rfl) ?_
  refine lv_iload hx hb dX3_lengthBetween_20 (lv_at hl 0 rfl) ?_
  refine x_icmp_ne (a := ka) (b := kb) (tgt := 27) hx hb dX3_lengthBetween_22 (by decide) (by omega) (by omega) (fun c22 => ?_) (fun c22 => ?_)
  · refine lv_aload_n hx hb dX3_lengthBetween_27 rfl (lv_at hl 2 rfl) ?_
    refine x_get (v := .ref (E.2.2.2 1)) S hW hinX3 0 (xw_0 E _) rfl 1 (by decide) w14 rfl dX3_lengthBetween_28 ?_
    refine lv_iload_n hx hb dX3_lengthBetween_31 rfl (lv_at hl 1 rfl) ?_
    refine x_Vi (rest := []) S (c_X2_at l E n f o (i := 0) (by decide) (k := ka) (show _ < 12 from by omega)) (cwV 1 S.2.2.2.2 gX3_lengthBetween_X2_at rfl rfl rfl (by decide +kernel) ⟨Nat.le_of_ble_eq_true rfl, Nat.le_of_ble_eq_true rfl⟩) hW 1 (xw_1 E _) rfl rfl rfl hl.1 (Nat.le_of_ble_eq_true rfl) dX3_lengthBetween_32 ⟨Nat.zero_le _, Nat.zero_le _⟩ (fun r32 σ32 H locs hp3 hW => ?_)
    obtain ⟨rfl, rfl⟩ := hp3
    refine lv_aload_n hx hb dX3_lengthBetween_35 rfl (lv_at hl 2 rfl) ?_
    refine x_get (v := .ref (E.2.2.2 1)) S hW hinX3 0 (xw_0 E _) rfl 1 (by decide) w14 rfl dX3_lengthBetween_36 ?_
    refine lv_iload hx hb dX3_lengthBetween_39 (lv_at hl 0 rfl) ?_
    refine x_Vi (rest := [.int ((f 0) ka)]) S (c_X2_at l E n f o (i := 0) (by decide) (k := kb) (show _ < 12 from by omega)) (cwV 1 S.2.2.2.2 gX3_lengthBetween_X2_at rfl rfl rfl (by decide +kernel) ⟨Nat.le_of_ble_eq_true rfl, Nat.le_of_ble_eq_true rfl⟩) hW 1 (xw_1 E _) rfl rfl rfl hl.1 (Nat.le_of_ble_eq_true rfl) dX3_lengthBetween_41 ⟨Nat.zero_le _, Nat.zero_le _⟩ (fun r41 σ41 H locs hp4 hW => ?_)
    obtain ⟨rfl, rfl⟩ := hp4
    refine lv_isub hx hb dX3_lengthBetween_44 ?_
    refine x_abs S dX3_lengthBetween_45 wml wms wmi wmc hl.1 ⟨⟨Nat.le_of_ble_eq_true rfl, Nat.le_of_ble_eq_true rfl⟩, Nat.zero_le _, Nat.zero_le _⟩ ?_
    refine x_topE (xabs (f 0 ka - f 0 kb)) (rfl) ?_
    refine lv_istore (lv' := [(5, .int (xabs (f 0 ka - f 0 kb))), (4, .int (nI kb)), (3, .int (nI ka)), (0, .ref (E.2.2.2 0)), (1, .int (nI p1)), (2, .int (nI p2))]) hx hb dX3_lengthBetween_48 hl (by decide) rfl (fun ls hl => ?_)
    refine lv_iload hx hb dX3_lengthBetween_50 (lv_at hl 0 rfl) ?_
    refine lv_if_ne (tgt := 59) hx hb dX3_lengthBetween_52 (by decide) (fun c52 => ?_) (fun c52 => ?_)
    · refine lv_iconst (v := 3) hx hb dX3_lengthBetween_59 (by decide) ?_
      refine lv_iconst (v := 2) hx hb dX3_lengthBetween_60 (by decide) ?_
      refine lv_iload hx hb dX3_lengthBetween_61 (lv_at hl 0 rfl) ?_
      refine lv_imul hx hb dX3_lengthBetween_63 ?_
      refine lv_iadd hx hb dX3_lengthBetween_64 ?_
      exact x_reti S hr hlk hW dX3_lengthBetween_65 (⟨by rw [xlen, if_neg c22, if_neg c52], rfl⟩)
    · refine lv_iconst (v := 2) hx hb dX3_lengthBetween_55 (by decide) ?_
      refine lv_goto (tgt := 65) hx hb dX3_lengthBetween_56 (by decide) ?_
      exact x_reti S hr hlk hW dX3_lengthBetween_65 (⟨by rw [xlen, if_neg c22, if_pos c52], rfl⟩)
  · refine lv_iconst (v := 1) hx hb dX3_lengthBetween_25 (by decide) ?_
    exact x_reti S hr hlk hW dX3_lengthBetween_26 (⟨(if_pos c22).symm, rfl⟩)

abbrev rmX3_joinByStrand : Room := { frames := 1, cells := 0, slots := 0, locals := 22 }
set_option maxHeartbeats 4000000 in
set_option maxRecDepth 100000 in
theorem c_X3_joinByStrand (l : Launch) (E : xE) (n : Nat → Int32) (f : Nat → Nat → Int32) (o : Nat → Int64) {p1 : Nat} (h1 : p1 < 144) {p2 : Nat} (h2 : p2 < 144) (t : Int32) : xCv l yX3_joinByStrand wsX3_joinByStrand rmX3_joinByStrand E [.ref (E.2.2.2 0), .int (nI p1), .int (nI p2), .int t] (n, f, o) (fun σ' => σ' = (n, xu (xu f 6 (upd (upd (f 6) p1 (nI p2)) p2 (nI p1))) 7 (upd (upd (f 7) p1 t) p2 t), o)) := by
  refine x_startv RX3 (by decide) rfl rfl (Nat.le_of_ble_eq_true rfl) ?_
  intro p e s m args below meth c ls S hr hlk hW hl
  have hx := S.1
  have hb := S.2.1
  have hl : lv_has ls 4 [(0, .ref (E.2.2.2 0)), (1, .int (nI p1)), (2, .int (nI p2)), (3, .int t)] := hl
  have hinX3 : ∀ w ∈ wsX30, w ∈ wsX3_joinByStrand := by decide +kernel
  have w33 : Cond.fieldLink RX3 33 "CableBook" "strandTo" "LCableBook$Row;" ∈ wsX3_joinByStrand := by decide +kernel
  have w36 : Cond.fieldLink RX3 36 "CableBook" "trunkAt" "LCableBook$Row;" ∈ wsX3_joinByStrand := by decide +kernel
  refine lv_aload_n hx hb dX3_joinByStrand_0 rfl (lv_at hl 0 rfl) ?_
  refine x_get (v := .ref (E.2.2.2 13)) S hW hinX3 0 (xw_0 E _) rfl 8 (by decide) w33 rfl dX3_joinByStrand_1 ?_
  refine lv_iload_n hx hb dX3_joinByStrand_4 rfl (lv_at hl 1 rfl) ?_
  refine lv_iload_n hx hb dX3_joinByStrand_5 rfl (lv_at hl 2 rfl) ?_
  refine x_Vv (rest := []) S (c_X2_put l E n f o (i := 6) (by decide) (k := p1) (show _ < 144 from by omega) (nI p2)) (cwV 2 S.2.2.2.2 gX3_joinByStrand_X2_put rfl rfl rfl (by decide +kernel) ⟨Nat.le_of_ble_eq_true rfl, Nat.le_of_ble_eq_true rfl⟩) hW 13 (xw_13 E _) rfl rfl rfl hl.1 (Nat.le_of_ble_eq_true rfl) dX3_joinByStrand_6 ⟨Nat.zero_le _, Nat.zero_le _⟩ (fun σ6 H locs hp1 hW => ?_)
  obtain rfl := hp1
  refine lv_aload_n hx hb dX3_joinByStrand_9 rfl (lv_at hl 0 rfl) ?_
  refine x_get (v := .ref (E.2.2.2 13)) S hW hinX3 0 (xw_0 E _) rfl 8 (by decide) w33 rfl dX3_joinByStrand_10 ?_
  refine lv_iload_n hx hb dX3_joinByStrand_13 rfl (lv_at hl 2 rfl) ?_
  refine lv_iload_n hx hb dX3_joinByStrand_14 rfl (lv_at hl 1 rfl) ?_
  refine x_Vv (rest := []) S (c_X2_put l E n (xu f 6 (upd (f 6) p1 (nI p2))) o (i := 6) (by decide) (k := p2) (show _ < 144 from by omega) (nI p1)) (cwV 2 S.2.2.2.2 gX3_joinByStrand_X2_put rfl rfl rfl (by decide +kernel) ⟨Nat.le_of_ble_eq_true rfl, Nat.le_of_ble_eq_true rfl⟩) hW 13 (xw_13 E _) rfl rfl rfl hl.1 (Nat.le_of_ble_eq_true rfl) dX3_joinByStrand_15 ⟨Nat.zero_le _, Nat.zero_le _⟩ (fun σ15 H locs hp2 hW => ?_)
  obtain rfl := hp2
  have hW : xSt E (n, (xu f 6 (upd (upd (f 6) p1 (nI p2)) p2 (nI p1))), o) s s.heap H locs := by have h9 := hW; rw [show ((n, (xu f 6 (upd (upd (f 6) p1 (nI p2)) p2 (nI p1))), o) : xS) = (n, (xu (xu f 6 (upd (f 6) p1 (nI p2))) 6 (upd (upd (f 6) p1 (nI p2)) p2 (nI p1))), o) from by rw [xu_xu]]; exact h9
  refine lv_aload_n hx hb dX3_joinByStrand_18 rfl (lv_at hl 0 rfl) ?_
  refine x_get (v := .ref (E.2.2.2 15)) S hW hinX3 0 (xw_0 E _) rfl 9 (by decide) w36 rfl dX3_joinByStrand_19 ?_
  refine lv_iload_n hx hb dX3_joinByStrand_22 rfl (lv_at hl 1 rfl) ?_
  refine lv_iload_n hx hb dX3_joinByStrand_23 rfl (lv_at hl 3 rfl) ?_
  refine x_Vv (rest := []) S (c_X2_put l E n (xu f 6 (upd (upd (f 6) p1 (nI p2)) p2 (nI p1))) o (i := 7) (by decide) (k := p1) (show _ < 144 from by omega) t) (cwV 2 S.2.2.2.2 gX3_joinByStrand_X2_put rfl rfl rfl (by decide +kernel) ⟨Nat.le_of_ble_eq_true rfl, Nat.le_of_ble_eq_true rfl⟩) hW 15 (xw_15 E _) rfl rfl rfl hl.1 (Nat.le_of_ble_eq_true rfl) dX3_joinByStrand_24 ⟨Nat.zero_le _, Nat.zero_le _⟩ (fun σ24 H locs hp3 hW => ?_)
  obtain rfl := hp3
  refine lv_aload_n hx hb dX3_joinByStrand_27 rfl (lv_at hl 0 rfl) ?_
  refine x_get (v := .ref (E.2.2.2 15)) S hW hinX3 0 (xw_0 E _) rfl 9 (by decide) w36 rfl dX3_joinByStrand_28 ?_
  refine lv_iload_n hx hb dX3_joinByStrand_31 rfl (lv_at hl 2 rfl) ?_
  refine lv_iload_n hx hb dX3_joinByStrand_32 rfl (lv_at hl 3 rfl) ?_
  refine x_Vv (rest := []) S (c_X2_put l E n (xu (xu f 6 (upd (upd (f 6) p1 (nI p2)) p2 (nI p1))) 7 (upd (f 7) p1 t)) o (i := 7) (by decide) (k := p2) (show _ < 144 from by omega) t) (cwV 2 S.2.2.2.2 gX3_joinByStrand_X2_put rfl rfl rfl (by decide +kernel) ⟨Nat.le_of_ble_eq_true rfl, Nat.le_of_ble_eq_true rfl⟩) hW 15 (xw_15 E _) rfl rfl rfl hl.1 (Nat.le_of_ble_eq_true rfl) dX3_joinByStrand_33 ⟨Nat.zero_le _, Nat.zero_le _⟩ (fun σ33 H locs hp4 hW => ?_)
  obtain rfl := hp4
  have hW : xSt E (n, (xu (xu f 6 (upd (upd (f 6) p1 (nI p2)) p2 (nI p1))) 7 (upd (upd (f 7) p1 t) p2 t)), o) s s.heap H locs := by have h9 := hW; rw [show ((n, (xu (xu f 6 (upd (upd (f 6) p1 (nI p2)) p2 (nI p1))) 7 (upd (upd (f 7) p1 t) p2 t)), o) : xS) = (n, (xu (xu (xu f 6 (upd (upd (f 6) p1 (nI p2)) p2 (nI p1))) 7 (upd (f 7) p1 t)) 7 (upd (upd (f 7) p1 t) p2 t)), o) from by rw [xu_xu]]; exact h9
  exact x_retv S hr hlk hW dX3_joinByStrand_36 (rfl)

abbrev rmX3_joinByCable : Room := { frames := 1, cells := 0, slots := 0, locals := 22 }
set_option maxHeartbeats 4000000 in
set_option maxRecDepth 100000 in
theorem c_X3_joinByCable (l : Launch) (E : xE) (n : Nat → Int32) (f : Nat → Nat → Int32) (o : Nat → Int64) {p1 : Nat} (h1 : p1 < 144) {p2 : Nat} (h2 : p2 < 144) (t : Int32) : xCv l yX3_joinByCable wsX3_joinByCable rmX3_joinByCable E [.ref (E.2.2.2 0), .int (nI p1), .int (nI p2), .int t] (n, f, o) (fun σ' => σ' = (n, xu (xu f 4 (upd (upd (f 4) p1 (nI p2)) p2 (nI p1))) 5 (upd (upd (f 5) p1 t) p2 t), o)) := by
  refine x_startv RX3 (by decide) rfl rfl (Nat.le_of_ble_eq_true rfl) ?_
  intro p e s m args below meth c ls S hr hlk hW hl
  have hx := S.1
  have hb := S.2.1
  have hl : lv_has ls 4 [(0, .ref (E.2.2.2 0)), (1, .int (nI p1)), (2, .int (nI p2)), (3, .int t)] := hl
  have hinX3 : ∀ w ∈ wsX30, w ∈ wsX3_joinByCable := by decide +kernel
  have w27 : Cond.fieldLink RX3 27 "CableBook" "cableTo" "LCableBook$Row;" ∈ wsX3_joinByCable := by decide +kernel
  have w30 : Cond.fieldLink RX3 30 "CableBook" "colourAt" "LCableBook$Row;" ∈ wsX3_joinByCable := by decide +kernel
  refine lv_aload_n hx hb dX3_joinByCable_0 rfl (lv_at hl 0 rfl) ?_
  refine x_get (v := .ref (E.2.2.2 9)) S hW hinX3 0 (xw_0 E _) rfl 6 (by decide) w27 rfl dX3_joinByCable_1 ?_
  refine lv_iload_n hx hb dX3_joinByCable_4 rfl (lv_at hl 1 rfl) ?_
  refine lv_iload_n hx hb dX3_joinByCable_5 rfl (lv_at hl 2 rfl) ?_
  refine x_Vv (rest := []) S (c_X2_put l E n f o (i := 4) (by decide) (k := p1) (show _ < 144 from by omega) (nI p2)) (cwV 2 S.2.2.2.2 gX3_joinByCable_X2_put rfl rfl rfl (by decide +kernel) ⟨Nat.le_of_ble_eq_true rfl, Nat.le_of_ble_eq_true rfl⟩) hW 9 (xw_9 E _) rfl rfl rfl hl.1 (Nat.le_of_ble_eq_true rfl) dX3_joinByCable_6 ⟨Nat.zero_le _, Nat.zero_le _⟩ (fun σ6 H locs hp1 hW => ?_)
  obtain rfl := hp1
  refine lv_aload_n hx hb dX3_joinByCable_9 rfl (lv_at hl 0 rfl) ?_
  refine x_get (v := .ref (E.2.2.2 9)) S hW hinX3 0 (xw_0 E _) rfl 6 (by decide) w27 rfl dX3_joinByCable_10 ?_
  refine lv_iload_n hx hb dX3_joinByCable_13 rfl (lv_at hl 2 rfl) ?_
  refine lv_iload_n hx hb dX3_joinByCable_14 rfl (lv_at hl 1 rfl) ?_
  refine x_Vv (rest := []) S (c_X2_put l E n (xu f 4 (upd (f 4) p1 (nI p2))) o (i := 4) (by decide) (k := p2) (show _ < 144 from by omega) (nI p1)) (cwV 2 S.2.2.2.2 gX3_joinByCable_X2_put rfl rfl rfl (by decide +kernel) ⟨Nat.le_of_ble_eq_true rfl, Nat.le_of_ble_eq_true rfl⟩) hW 9 (xw_9 E _) rfl rfl rfl hl.1 (Nat.le_of_ble_eq_true rfl) dX3_joinByCable_15 ⟨Nat.zero_le _, Nat.zero_le _⟩ (fun σ15 H locs hp2 hW => ?_)
  obtain rfl := hp2
  have hW : xSt E (n, (xu f 4 (upd (upd (f 4) p1 (nI p2)) p2 (nI p1))), o) s s.heap H locs := by have h9 := hW; rw [show ((n, (xu f 4 (upd (upd (f 4) p1 (nI p2)) p2 (nI p1))), o) : xS) = (n, (xu (xu f 4 (upd (f 4) p1 (nI p2))) 4 (upd (upd (f 4) p1 (nI p2)) p2 (nI p1))), o) from by rw [xu_xu]]; exact h9
  refine lv_aload_n hx hb dX3_joinByCable_18 rfl (lv_at hl 0 rfl) ?_
  refine x_get (v := .ref (E.2.2.2 11)) S hW hinX3 0 (xw_0 E _) rfl 7 (by decide) w30 rfl dX3_joinByCable_19 ?_
  refine lv_iload_n hx hb dX3_joinByCable_22 rfl (lv_at hl 1 rfl) ?_
  refine lv_iload_n hx hb dX3_joinByCable_23 rfl (lv_at hl 3 rfl) ?_
  refine x_Vv (rest := []) S (c_X2_put l E n (xu f 4 (upd (upd (f 4) p1 (nI p2)) p2 (nI p1))) o (i := 5) (by decide) (k := p1) (show _ < 144 from by omega) t) (cwV 2 S.2.2.2.2 gX3_joinByCable_X2_put rfl rfl rfl (by decide +kernel) ⟨Nat.le_of_ble_eq_true rfl, Nat.le_of_ble_eq_true rfl⟩) hW 11 (xw_11 E _) rfl rfl rfl hl.1 (Nat.le_of_ble_eq_true rfl) dX3_joinByCable_24 ⟨Nat.zero_le _, Nat.zero_le _⟩ (fun σ24 H locs hp3 hW => ?_)
  obtain rfl := hp3
  refine lv_aload_n hx hb dX3_joinByCable_27 rfl (lv_at hl 0 rfl) ?_
  refine x_get (v := .ref (E.2.2.2 11)) S hW hinX3 0 (xw_0 E _) rfl 7 (by decide) w30 rfl dX3_joinByCable_28 ?_
  refine lv_iload_n hx hb dX3_joinByCable_31 rfl (lv_at hl 2 rfl) ?_
  refine lv_iload_n hx hb dX3_joinByCable_32 rfl (lv_at hl 3 rfl) ?_
  refine x_Vv (rest := []) S (c_X2_put l E n (xu (xu f 4 (upd (upd (f 4) p1 (nI p2)) p2 (nI p1))) 5 (upd (f 5) p1 t)) o (i := 5) (by decide) (k := p2) (show _ < 144 from by omega) t) (cwV 2 S.2.2.2.2 gX3_joinByCable_X2_put rfl rfl rfl (by decide +kernel) ⟨Nat.le_of_ble_eq_true rfl, Nat.le_of_ble_eq_true rfl⟩) hW 11 (xw_11 E _) rfl rfl rfl hl.1 (Nat.le_of_ble_eq_true rfl) dX3_joinByCable_33 ⟨Nat.zero_le _, Nat.zero_le _⟩ (fun σ33 H locs hp4 hW => ?_)
  obtain rfl := hp4
  have hW : xSt E (n, (xu (xu f 4 (upd (upd (f 4) p1 (nI p2)) p2 (nI p1))) 5 (upd (upd (f 5) p1 t) p2 t)), o) s s.heap H locs := by have h9 := hW; rw [show ((n, (xu (xu f 4 (upd (upd (f 4) p1 (nI p2)) p2 (nI p1))) 5 (upd (upd (f 5) p1 t) p2 t)), o) : xS) = (n, (xu (xu (xu f 4 (upd (upd (f 4) p1 (nI p2)) p2 (nI p1))) 5 (upd (f 5) p1 t)) 5 (upd (upd (f 5) p1 t) p2 t)), o) from by rw [xu_xu]]; exact h9
  exact x_retv S hr hlk hW dX3_joinByCable_36 (rfl)

abbrev rmX3_clearCable : Room := { frames := 1, cells := 0, slots := 0, locals := 22 }
set_option maxHeartbeats 4000000 in
set_option maxRecDepth 100000 in
theorem c_X3_clearCable (l : Launch) (E : xE) (n : Nat → Int32) (f : Nat → Nat → Int32) (o : Nat → Int64) {p1 : Nat} (h1 : p1 < 144) : xCv l yX3_clearCable wsX3_clearCable rmX3_clearCable E [.ref (E.2.2.2 0), .int (nI p1)] (n, f, o) (fun σ' => σ' = (n, xu (xu f 4 (upd (f 4) p1 (-1))) 5 (upd (f 5) p1 0), o)) := by
  refine x_startv RX3 (by decide) rfl rfl (Nat.le_of_ble_eq_true rfl) ?_
  intro p e s m args below meth c ls S hr hlk hW hl
  have hx := S.1
  have hb := S.2.1
  have hl : lv_has ls 2 [(0, .ref (E.2.2.2 0)), (1, .int (nI p1))] := hl
  have hinX3 : ∀ w ∈ wsX30, w ∈ wsX3_clearCable := by decide +kernel
  have w27 : Cond.fieldLink RX3 27 "CableBook" "cableTo" "LCableBook$Row;" ∈ wsX3_clearCable := by decide +kernel
  have w30 : Cond.fieldLink RX3 30 "CableBook" "colourAt" "LCableBook$Row;" ∈ wsX3_clearCable := by decide +kernel
  refine lv_aload_n hx hb dX3_clearCable_0 rfl (lv_at hl 0 rfl) ?_
  refine x_get (v := .ref (E.2.2.2 9)) S hW hinX3 0 (xw_0 E _) rfl 6 (by decide) w27 rfl dX3_clearCable_1 ?_
  refine lv_iload_n hx hb dX3_clearCable_4 rfl (lv_at hl 1 rfl) ?_
  refine lv_iconst (v := (-1)) hx hb dX3_clearCable_5 (by decide) ?_
  refine x_Vv (rest := []) S (c_X2_put l E n f o (i := 4) (by decide) (k := p1) (show _ < 144 from by omega) (-1)) (cwV 2 S.2.2.2.2 gX3_clearCable_X2_put rfl rfl rfl (by decide +kernel) ⟨Nat.le_of_ble_eq_true rfl, Nat.le_of_ble_eq_true rfl⟩) hW 9 (xw_9 E _) rfl rfl rfl hl.1 (Nat.le_of_ble_eq_true rfl) dX3_clearCable_6 ⟨Nat.zero_le _, Nat.zero_le _⟩ (fun σ6 H locs hp1 hW => ?_)
  obtain rfl := hp1
  refine lv_aload_n hx hb dX3_clearCable_9 rfl (lv_at hl 0 rfl) ?_
  refine x_get (v := .ref (E.2.2.2 11)) S hW hinX3 0 (xw_0 E _) rfl 7 (by decide) w30 rfl dX3_clearCable_10 ?_
  refine lv_iload_n hx hb dX3_clearCable_13 rfl (lv_at hl 1 rfl) ?_
  refine lv_iconst (v := 0) hx hb dX3_clearCable_14 (by decide) ?_
  refine x_Vv (rest := []) S (c_X2_put l E n (xu f 4 (upd (f 4) p1 (-1))) o (i := 5) (by decide) (k := p1) (show _ < 144 from by omega) 0) (cwV 2 S.2.2.2.2 gX3_clearCable_X2_put rfl rfl rfl (by decide +kernel) ⟨Nat.le_of_ble_eq_true rfl, Nat.le_of_ble_eq_true rfl⟩) hW 11 (xw_11 E _) rfl rfl rfl hl.1 (Nat.le_of_ble_eq_true rfl) dX3_clearCable_15 ⟨Nat.zero_le _, Nat.zero_le _⟩ (fun σ15 H locs hp2 hW => ?_)
  obtain rfl := hp2
  exact x_retv S hr hlk hW dX3_clearCable_18 (rfl)

abbrev rmX3_anyStrand : Room := { frames := 2, cells := 0, slots := 0, locals := 42 }
set_option maxHeartbeats 4000000 in
set_option maxRecDepth 100000 in
theorem c_X3_anyStrand (l : Launch) (E : xE) (n : Nat → Int32) (f : Nat → Nat → Int32) (o : Nat → Int64) {p1 c0 : Nat} (h1 : p1 + c0 ≤ 144) : xCi l yX3_anyStrand wsX3_anyStrand rmX3_anyStrand E [.ref (E.2.2.2 0), .int (nI p1), .int (nI c0)] (n, f, o) (fun r σ' => (r = 0 ∧ ¬ (∃ j, j < c0 ∧ f 6 (p1 + j) ≠ -1) ∧ σ' = (n, f, o)) ∨ (r = 1 ∧ (∃ j, j < c0 ∧ f 6 (p1 + j) ≠ -1) ∧ σ' = (n, f, o))) := by
  refine x_starti RX3 (by decide) rfl rfl (Nat.le_of_ble_eq_true rfl) ?_
  intro p e s m args below meth c ls S hr hlk hW hl
  have hx := S.1
  have hb := S.2.1
  have hl : lv_has ls 4 [(0, .ref (E.2.2.2 0)), (1, .int (nI p1)), (2, .int (nI c0))] := hl
  refine lv_iconst (v := 0) hx hb dX3_anyStrand_0 (by decide) ?_
  refine lv_istore_n (lv' := [(3, .int 0), (0, .ref (E.2.2.2 0)), (1, .int (nI p1)), (2, .int (nI c0))]) hx hb dX3_anyStrand_1 rfl hl (by decide) rfl (fun ls hl => ?_)
  have L2 : ∀ (fu2 : Nat) (j : Nat) (hμ : c0 + 1 - j < fu2) (hj : j ≤ c0) (h0 : ∀ q, q < j → f 6 (p1 + q) = -1) (H : Heap) (locs : List Loc) (ls : Array Slot), xSt E (n, f, o) s s.heap H locs → lv_has ls 4 [(0, .ref (E.2.2.2 0)), (1, .int (nI p1)), (2, .int (nI c0)), (3, .int (nI j))] → W p l e rmX3_anyStrand s m args below meth c H locs 0 0 (MQ below (va_Qi (fun r σ' => (r = 0 ∧ ¬ (∃ j, j < c0 ∧ f 6 (p1 + j) ≠ -1) ∧ σ' = (n, f, o)) ∨ (r = 1 ∧ (∃ j, j < c0 ∧ f 6 (p1 + j) ≠ -1) ∧ σ' = (n, f, o))) (xWd E) (xA E)) args s 0 0 (xA E)) (F0 m 2 ls []) := by
    intro fu2
    induction fu2 with
    | zero => intro j hμ; exact absurd hμ (Nat.not_lt_zero _)
    | succ fu2 L2 =>
      intro j hμ hj h0 H locs ls hW hl
      refine lv_iload_n hx hb dX3_anyStrand_2 rfl (lv_at hl 3 rfl) ?_
      refine lv_iload_n hx hb dX3_anyStrand_3 rfl (lv_at hl 2 rfl) ?_
      refine x_icmp_ge (a := j) (b := c0) (tgt := 25) hx hb dX3_anyStrand_4 (by decide) (by omega) (by omega) (fun c4 => ?_) (fun c4 => ?_)
      · refine lv_iconst (v := 0) hx hb dX3_anyStrand_25 (by decide) ?_
        exact x_retz S hr hlk hW dX3_anyStrand_26 (Or.inl rfl) (.inl ⟨rfl, fun ⟨q, hq, hn⟩ => hn (h0 q (by omega)), rfl⟩)
      · refine lv_aload_n hx hb dX3_anyStrand_7 rfl (lv_at hl 0 rfl) ?_
        refine lv_iload_n hx hb dX3_anyStrand_8 rfl (lv_at hl 1 rfl) ?_
        refine lv_iload_n hx hb dX3_anyStrand_9 rfl (lv_at hl 3 rfl) ?_
        refine x_iadd (a := p1) (b := j) hx hb dX3_anyStrand_10 ?_
        refine x_Vi (rest := []) S (c_X3_hasStrand l E n f o (p1 := (p1 + j)) (by omega)) (cwV 1 S.2.2.2.2 gX3_anyStrand_X3_hasStrand rfl rfl rfl (by decide +kernel) ⟨Nat.le_of_ble_eq_true rfl, Nat.le_of_ble_eq_true rfl⟩) hW 0 (xw_0 E _) rfl rfl rfl hl.1 (Nat.le_of_ble_eq_true rfl) dX3_anyStrand_11 ⟨Nat.zero_le _, Nat.zero_le _⟩ (fun r11 σ11 H locs hp1 hW => ?_)
        rcases hp1 with ⟨rfl, h11, rfl⟩ | ⟨rfl, h11, rfl⟩
        · replace h11 : f 6 (p1 + j) = -1 := Classical.not_not.mp h11
          refine lv_if_eq (tgt := 19) hx hb dX3_anyStrand_14 (by decide) (fun c14 => ?_) (fun c14 => ?_)
          rotate_left
          · exact absurd c14 (by decide)
          refine lv_iinc (v := (nI (j + 1))) (lv' := [(3, .int (nI (j + 1))), (0, .ref (E.2.2.2 0)), (1, .int (nI p1)), (2, .int (nI c0))]) hx hb dX3_anyStrand_19 hl (k := 3) rfl (x_inc _) (by decide) rfl (fun ls hl => ?_)
          refine lv_goto (tgt := 2) hx hb dX3_anyStrand_22 (by decide) ?_
          exact L2  (j + 1) (by omega) (by omega) (lt_s h0 h11) _ _ _ hW (lv_sub hl [1, 2, 3, 0] rfl)
        · refine lv_if_eq (tgt := 19) hx hb dX3_anyStrand_14 (by decide) (fun c14 => ?_) (fun c14 => ?_)
          · exact absurd c14 (by decide)
          refine lv_iconst (v := 1) hx hb dX3_anyStrand_17 (by decide) ?_
          exact x_retz S hr hlk hW dX3_anyStrand_18 (Or.inr rfl) (.inr ⟨rfl, ⟨j, by omega, h11⟩, rfl⟩)
  exact L2 _ (0) (Nat.lt_succ_self _) (by omega) (fun q hq => absurd hq (Nat.not_lt_zero q)) _ _ _ hW (lv_sub hl [1, 2, 3, 0] rfl)

abbrev rmX1_size : Room := { frames := 0, cells := 0, slots := 0, locals := 0 }
set_option maxHeartbeats 4000000 in
set_option maxRecDepth 100000 in
theorem c_X1_size (l : Launch) (E : xE) (n : Nat → Int32) (f : Nat → Nat → Int32) (o : Nat → Int64) : xCi l yX1_size wsX1_size rmX1_size E [.ref (E.2.2.2 39)] (n, f, o) (fun r σ' => r = n 3 ∧ σ' = (n, f, o)) := by
  refine x_starti RX1 (by decide) rfl rfl (Nat.le_of_ble_eq_true rfl) ?_
  intro p e s m args below meth c ls S hr hlk hW hl
  have hx := S.1
  have hb := S.2.1
  have hl : lv_has ls 1 [(0, .ref (E.2.2.2 39))] := hl
  have hinX1 : ∀ w ∈ wsX10, w ∈ wsX1_size := by decide +kernel
  have w29 : Cond.fieldLink RX1 29 "CableBook$Plan" "count" "I" ∈ wsX1_size := by decide +kernel
  refine lv_aload_n hx hb dX1_size_0 rfl (lv_at hl 0 rfl) ?_
  refine x_get (v := .int (n 3)) S hW hinX1 39 (xw_39 E _) rfl 0 (by decide) w29 rfl dX1_size_1 ?_
  exact x_reti S hr hlk hW dX1_size_4 (⟨rfl, rfl⟩)

abbrev rmX1_from : Room := { frames := 1, cells := 0, slots := 0, locals := 21 }
set_option maxHeartbeats 4000000 in
set_option maxRecDepth 100000 in
theorem c_X1_from (l : Launch) (E : xE) (n : Nat → Int32) (f : Nat → Nat → Int32) (o : Nat → Int64) {j : Nat} (hj : j < 12) : xCi l yX1_from wsX1_from rmX1_from E [.ref (E.2.2.2 39), .int (nI j)] (n, f, o) (fun r σ' => r = f 13 j ∧ σ' = (n, f, o)) := by
  refine x_starti RX1 (by decide) rfl rfl (Nat.le_of_ble_eq_true rfl) ?_
  intro p e s m args below meth c ls S hr hlk hW hl
  have hx := S.1
  have hb := S.2.1
  have hl : lv_has ls 2 [(0, .ref (E.2.2.2 39)), (1, .int (nI j))] := hl
  have hinX1 : ∀ w ∈ wsX10, w ∈ wsX1_from := by decide +kernel
  have w14 : Cond.fieldLink RX1 14 "CableBook$Plan" "sources" "LCableBook$Row;" ∈ wsX1_from := by decide +kernel
  refine lv_aload_n hx hb dX1_from_0 rfl (lv_at hl 0 rfl) ?_
  refine x_get (v := .ref (E.2.2.2 27)) S hW hinX1 39 (xw_39 E _) rfl 1 (by decide) w14 rfl dX1_from_1 ?_
  refine lv_iload_n hx hb dX1_from_4 rfl (lv_at hl 1 rfl) ?_
  refine x_Vi (rest := []) S (c_X2_at l E n f o (i := 13) (by decide) (k := j) (show _ < 12 from by omega)) (cwV 1 S.2.2.2.2 gX1_from_X2_at rfl rfl rfl (by decide +kernel) ⟨Nat.le_of_ble_eq_true rfl, Nat.le_of_ble_eq_true rfl⟩) hW 27 (xw_27 E _) rfl rfl rfl hl.1 (Nat.le_of_ble_eq_true rfl) dX1_from_5 ⟨Nat.zero_le _, Nat.zero_le _⟩ (fun r5 σ5 H locs hp1 hW => ?_)
  obtain ⟨rfl, rfl⟩ := hp1
  exact x_reti S hr hlk hW dX1_from_8 (⟨rfl, rfl⟩)

abbrev rmX1_to : Room := { frames := 1, cells := 0, slots := 0, locals := 21 }
set_option maxHeartbeats 4000000 in
set_option maxRecDepth 100000 in
theorem c_X1_to (l : Launch) (E : xE) (n : Nat → Int32) (f : Nat → Nat → Int32) (o : Nat → Int64) {j : Nat} (hj : j < 12) : xCi l yX1_to wsX1_to rmX1_to E [.ref (E.2.2.2 39), .int (nI j)] (n, f, o) (fun r σ' => r = f 14 j ∧ σ' = (n, f, o)) := by
  refine x_starti RX1 (by decide) rfl rfl (Nat.le_of_ble_eq_true rfl) ?_
  intro p e s m args below meth c ls S hr hlk hW hl
  have hx := S.1
  have hb := S.2.1
  have hl : lv_has ls 2 [(0, .ref (E.2.2.2 39)), (1, .int (nI j))] := hl
  have hinX1 : ∀ w ∈ wsX10, w ∈ wsX1_to := by decide +kernel
  have w20 : Cond.fieldLink RX1 20 "CableBook$Plan" "targets" "LCableBook$Row;" ∈ wsX1_to := by decide +kernel
  refine lv_aload_n hx hb dX1_to_0 rfl (lv_at hl 0 rfl) ?_
  refine x_get (v := .ref (E.2.2.2 29)) S hW hinX1 39 (xw_39 E _) rfl 2 (by decide) w20 rfl dX1_to_1 ?_
  refine lv_iload_n hx hb dX1_to_4 rfl (lv_at hl 1 rfl) ?_
  refine x_Vi (rest := []) S (c_X2_at l E n f o (i := 14) (by decide) (k := j) (show _ < 12 from by omega)) (cwV 1 S.2.2.2.2 gX1_to_X2_at rfl rfl rfl (by decide +kernel) ⟨Nat.le_of_ble_eq_true rfl, Nat.le_of_ble_eq_true rfl⟩) hW 29 (xw_29 E _) rfl rfl rfl hl.1 (Nat.le_of_ble_eq_true rfl) dX1_to_5 ⟨Nat.zero_le _, Nat.zero_le _⟩ (fun r5 σ5 H locs hp1 hW => ?_)
  obtain ⟨rfl, rfl⟩ := hp1
  exact x_reti S hr hlk hW dX1_to_8 (⟨rfl, rfl⟩)

abbrev rmX1_keptOther : Room := { frames := 1, cells := 0, slots := 0, locals := 21 }
set_option maxHeartbeats 4000000 in
set_option maxRecDepth 100000 in
theorem c_X1_keptOther (l : Launch) (E : xE) (n : Nat → Int32) (f : Nat → Nat → Int32) (o : Nat → Int64) {j : Nat} (hj : j < 12) : xCi l yX1_keptOther wsX1_keptOther rmX1_keptOther E [.ref (E.2.2.2 39), .int (nI j)] (n, f, o) (fun r σ' => r = f 15 j ∧ σ' = (n, f, o)) := by
  refine x_starti RX1 (by decide) rfl rfl (Nat.le_of_ble_eq_true rfl) ?_
  intro p e s m args below meth c ls S hr hlk hW hl
  have hx := S.1
  have hb := S.2.1
  have hl : lv_has ls 2 [(0, .ref (E.2.2.2 39)), (1, .int (nI j))] := hl
  have hinX1 : ∀ w ∈ wsX10, w ∈ wsX1_keptOther := by decide +kernel
  have w23 : Cond.fieldLink RX1 23 "CableBook$Plan" "others" "LCableBook$Row;" ∈ wsX1_keptOther := by decide +kernel
  refine lv_aload_n hx hb dX1_keptOther_0 rfl (lv_at hl 0 rfl) ?_
  refine x_get (v := .ref (E.2.2.2 31)) S hW hinX1 39 (xw_39 E _) rfl 3 (by decide) w23 rfl dX1_keptOther_1 ?_
  refine lv_iload_n hx hb dX1_keptOther_4 rfl (lv_at hl 1 rfl) ?_
  refine x_Vi (rest := []) S (c_X2_at l E n f o (i := 15) (by decide) (k := j) (show _ < 12 from by omega)) (cwV 1 S.2.2.2.2 gX1_keptOther_X2_at rfl rfl rfl (by decide +kernel) ⟨Nat.le_of_ble_eq_true rfl, Nat.le_of_ble_eq_true rfl⟩) hW 31 (xw_31 E _) rfl rfl rfl hl.1 (Nat.le_of_ble_eq_true rfl) dX1_keptOther_5 ⟨Nat.zero_le _, Nat.zero_le _⟩ (fun r5 σ5 H locs hp1 hW => ?_)
  obtain ⟨rfl, rfl⟩ := hp1
  exact x_reti S hr hlk hW dX1_keptOther_8 (⟨rfl, rfl⟩)

abbrev rmX1_keptColour : Room := { frames := 1, cells := 0, slots := 0, locals := 21 }
set_option maxHeartbeats 4000000 in
set_option maxRecDepth 100000 in
theorem c_X1_keptColour (l : Launch) (E : xE) (n : Nat → Int32) (f : Nat → Nat → Int32) (o : Nat → Int64) {j : Nat} (hj : j < 12) : xCi l yX1_keptColour wsX1_keptColour rmX1_keptColour E [.ref (E.2.2.2 39), .int (nI j)] (n, f, o) (fun r σ' => r = f 16 j ∧ σ' = (n, f, o)) := by
  refine x_starti RX1 (by decide) rfl rfl (Nat.le_of_ble_eq_true rfl) ?_
  intro p e s m args below meth c ls S hr hlk hW hl
  have hx := S.1
  have hb := S.2.1
  have hl : lv_has ls 2 [(0, .ref (E.2.2.2 39)), (1, .int (nI j))] := hl
  have hinX1 : ∀ w ∈ wsX10, w ∈ wsX1_keptColour := by decide +kernel
  have w26 : Cond.fieldLink RX1 26 "CableBook$Plan" "colours" "LCableBook$Row;" ∈ wsX1_keptColour := by decide +kernel
  refine lv_aload_n hx hb dX1_keptColour_0 rfl (lv_at hl 0 rfl) ?_
  refine x_get (v := .ref (E.2.2.2 33)) S hW hinX1 39 (xw_39 E _) rfl 4 (by decide) w26 rfl dX1_keptColour_1 ?_
  refine lv_iload_n hx hb dX1_keptColour_4 rfl (lv_at hl 1 rfl) ?_
  refine x_Vi (rest := []) S (c_X2_at l E n f o (i := 16) (by decide) (k := j) (show _ < 12 from by omega)) (cwV 1 S.2.2.2.2 gX1_keptColour_X2_at rfl rfl rfl (by decide +kernel) ⟨Nat.le_of_ble_eq_true rfl, Nat.le_of_ble_eq_true rfl⟩) hW 33 (xw_33 E _) rfl rfl rfl hl.1 (Nat.le_of_ble_eq_true rfl) dX1_keptColour_5 ⟨Nat.zero_le _, Nat.zero_le _⟩ (fun r5 σ5 H locs hp1 hW => ?_)
  obtain ⟨rfl, rfl⟩ := hp1
  exact x_reti S hr hlk hW dX1_keptColour_8 (⟨rfl, rfl⟩)

abbrev rmX1_add : Room := { frames := 1, cells := 0, slots := 0, locals := 22 }
set_option maxHeartbeats 4000000 in
set_option maxRecDepth 100000 in
theorem c_X1_add (l : Launch) (E : xE) (n : Nat → Int32) (f : Nat → Nat → Int32) (o : Nat → Int64) (a b : Int32) {nm : Nat} (hn3 : n 3 = nI nm) (hm : nm < 12) : xCv l yX1_add wsX1_add rmX1_add E [.ref (E.2.2.2 39), .int a, .int b] (n, f, o) (fun σ' => σ' = (xu n 3 (nI (nm + 1)), xu (xu f 13 (upd (f 13) nm a)) 14 (upd (f 14) nm b), o)) := by
  refine x_startv RX1 (by decide) rfl rfl (Nat.le_of_ble_eq_true rfl) ?_
  intro p e s m args below meth c ls S hr hlk hW hl
  have hx := S.1
  have hb := S.2.1
  have hl : lv_has ls 3 [(0, .ref (E.2.2.2 39)), (1, .int a), (2, .int b)] := hl
  have hinX1 : ∀ w ∈ wsX10, w ∈ wsX1_add := by decide +kernel
  have w14 : Cond.fieldLink RX1 14 "CableBook$Plan" "sources" "LCableBook$Row;" ∈ wsX1_add := by decide +kernel
  have w20 : Cond.fieldLink RX1 20 "CableBook$Plan" "targets" "LCableBook$Row;" ∈ wsX1_add := by decide +kernel
  have w29 : Cond.fieldLink RX1 29 "CableBook$Plan" "count" "I" ∈ wsX1_add := by decide +kernel
  refine lv_aload_n hx hb dX1_add_0 rfl (lv_at hl 0 rfl) ?_
  refine x_get (v := .int (n 3)) S hW hinX1 39 (xw_39 E _) rfl 0 (by decide) w29 rfl dX1_add_1 ?_
  refine x_topN (nm) (hn3) ?_
  refine lv_bipush (v := 12) hx hb dX1_add_4 (by decide) ?_
  refine x_icmp_ge (a := nm) (b := 12) (tgt := 43) hx hb dX1_add_6 (by decide) (by omega) (by omega) (fun c6 => ?_) (fun c6 => ?_)
  · exact absurd c6 (by omega)
  refine lv_aload_n hx hb dX1_add_9 rfl (lv_at hl 0 rfl) ?_
  refine x_get (v := .ref (E.2.2.2 27)) S hW hinX1 39 (xw_39 E _) rfl 1 (by decide) w14 rfl dX1_add_10 ?_
  refine lv_aload_n hx hb dX1_add_13 rfl (lv_at hl 0 rfl) ?_
  refine x_get (v := .int (n 3)) S hW hinX1 39 (xw_39 E _) rfl 0 (by decide) w29 rfl dX1_add_14 ?_
  refine x_topN (nm) (hn3) ?_
  refine lv_iload_n hx hb dX1_add_17 rfl (lv_at hl 1 rfl) ?_
  refine x_Vv (rest := []) S (c_X2_put l E n f o (i := 13) (by decide) (k := nm) (show _ < 12 from by omega) a) (cwV 2 S.2.2.2.2 gX1_add_X2_put rfl rfl rfl (by decide +kernel) ⟨Nat.le_of_ble_eq_true rfl, Nat.le_of_ble_eq_true rfl⟩) hW 27 (xw_27 E _) rfl rfl rfl hl.1 (Nat.le_of_ble_eq_true rfl) dX1_add_18 ⟨Nat.zero_le _, Nat.zero_le _⟩ (fun σ18 H locs hp1 hW => ?_)
  obtain rfl := hp1
  refine lv_aload_n hx hb dX1_add_21 rfl (lv_at hl 0 rfl) ?_
  refine x_get (v := .ref (E.2.2.2 29)) S hW hinX1 39 (xw_39 E _) rfl 2 (by decide) w20 rfl dX1_add_22 ?_
  refine lv_aload_n hx hb dX1_add_25 rfl (lv_at hl 0 rfl) ?_
  refine x_get (v := .int (n 3)) S hW hinX1 39 (xw_39 E _) rfl 0 (by decide) w29 rfl dX1_add_26 ?_
  refine x_topN (nm) (hn3) ?_
  refine lv_iload_n hx hb dX1_add_29 rfl (lv_at hl 2 rfl) ?_
  refine x_Vv (rest := []) S (c_X2_put l E n (xu f 13 (upd (f 13) nm a)) o (i := 14) (by decide) (k := nm) (show _ < 12 from by omega) b) (cwV 2 S.2.2.2.2 gX1_add_X2_put rfl rfl rfl (by decide +kernel) ⟨Nat.le_of_ble_eq_true rfl, Nat.le_of_ble_eq_true rfl⟩) hW 29 (xw_29 E _) rfl rfl rfl hl.1 (Nat.le_of_ble_eq_true rfl) dX1_add_30 ⟨Nat.zero_le _, Nat.zero_le _⟩ (fun σ30 H locs hp2 hW => ?_)
  obtain rfl := hp2
  refine lv_aload_n hx hb dX1_add_33 rfl (lv_at hl 0 rfl) ?_
  refine lv_dup hx hb dX1_add_34 rfl ?_
  refine x_get (v := .int (n 3)) S hW hinX1 39 (xw_39 E _) rfl 0 (by decide) w29 rfl dX1_add_35 ?_
  refine x_topN (nm) (hn3) ?_
  refine lv_iconst (v := 1) hx hb dX1_add_38 (by decide) ?_
  refine x_iadd (a := nm) (b := 1) hx hb dX1_add_39 ?_
  refine x_put (σ' := ((xu n 3 (nI (nm + 1))), (xu (xu f 13 (upd (f 13) nm a)) 14 (upd (f 14) nm b)), o)) S hW hinX1 tyX1 tyX1_ok nmX1 39 (xw_39 E _) rfl 0 (by decide) w29 rfl (by decide +kernel) (Nat.le_of_ble_eq_true rfl) (xw_N3 E _ _ _ _) dX1_add_40 (fun H locs hW => ?_)
  exact x_retv S hr hlk hW dX1_add_43 (rfl)

abbrev rmX1_clear : Room := { frames := 0, cells := 0, slots := 0, locals := 0 }
set_option maxHeartbeats 4000000 in
set_option maxRecDepth 100000 in
theorem c_X1_clear (l : Launch) (E : xE) (n : Nat → Int32) (f : Nat → Nat → Int32) (o : Nat → Int64) : xCv l yX1_clear wsX1_clear rmX1_clear E [.ref (E.2.2.2 39)] (n, f, o) (fun σ' => σ' = (xu n 3 0, f, o)) := by
  refine x_startv RX1 (by decide) rfl rfl (Nat.le_of_ble_eq_true rfl) ?_
  intro p e s m args below meth c ls S hr hlk hW hl
  have hx := S.1
  have hb := S.2.1
  have hl : lv_has ls 1 [(0, .ref (E.2.2.2 39))] := hl
  have hinX1 : ∀ w ∈ wsX10, w ∈ wsX1_clear := by decide +kernel
  have w29 : Cond.fieldLink RX1 29 "CableBook$Plan" "count" "I" ∈ wsX1_clear := by decide +kernel
  refine lv_aload_n hx hb dX1_clear_0 rfl (lv_at hl 0 rfl) ?_
  refine lv_iconst (v := 0) hx hb dX1_clear_1 (by decide) ?_
  refine x_put (σ' := ((xu n 3 0), f, o)) S hW hinX1 tyX1 tyX1_ok nmX1 39 (xw_39 E _) rfl 0 (by decide) w29 rfl (by decide +kernel) (Nat.le_of_ble_eq_true rfl) (xw_N3 E _ _ _ _) dX1_clear_2 (fun H locs hW => ?_)
  exact x_retv S hr hlk hW dX1_clear_5 (rfl)

abbrev rmX1_keepCable : Room := { frames := 1, cells := 0, slots := 0, locals := 22 }
set_option maxHeartbeats 4000000 in
set_option maxRecDepth 100000 in
theorem c_X1_keepCable (l : Launch) (E : xE) (n : Nat → Int32) (f : Nat → Nat → Int32) (o : Nat → Int64) {j : Nat} (hj : j < 12) (a b : Int32) : xCv l yX1_keepCable wsX1_keepCable rmX1_keepCable E [.ref (E.2.2.2 39), .int (nI j), .int a, .int b] (n, f, o) (fun σ' => σ' = (n, xu (xu f 15 (upd (f 15) j a)) 16 (upd (f 16) j b), o)) := by
  refine x_startv RX1 (by decide) rfl rfl (Nat.le_of_ble_eq_true rfl) ?_
  intro p e s m args below meth c ls S hr hlk hW hl
  have hx := S.1
  have hb := S.2.1
  have hl : lv_has ls 4 [(0, .ref (E.2.2.2 39)), (1, .int (nI j)), (2, .int a), (3, .int b)] := hl
  have hinX1 : ∀ w ∈ wsX10, w ∈ wsX1_keepCable := by decide +kernel
  have w23 : Cond.fieldLink RX1 23 "CableBook$Plan" "others" "LCableBook$Row;" ∈ wsX1_keepCable := by decide +kernel
  have w26 : Cond.fieldLink RX1 26 "CableBook$Plan" "colours" "LCableBook$Row;" ∈ wsX1_keepCable := by decide +kernel
  refine lv_aload_n hx hb dX1_keepCable_0 rfl (lv_at hl 0 rfl) ?_
  refine x_get (v := .ref (E.2.2.2 31)) S hW hinX1 39 (xw_39 E _) rfl 3 (by decide) w23 rfl dX1_keepCable_1 ?_
  refine lv_iload_n hx hb dX1_keepCable_4 rfl (lv_at hl 1 rfl) ?_
  refine lv_iload_n hx hb dX1_keepCable_5 rfl (lv_at hl 2 rfl) ?_
  refine x_Vv (rest := []) S (c_X2_put l E n f o (i := 15) (by decide) (k := j) (show _ < 12 from by omega) a) (cwV 2 S.2.2.2.2 gX1_keepCable_X2_put rfl rfl rfl (by decide +kernel) ⟨Nat.le_of_ble_eq_true rfl, Nat.le_of_ble_eq_true rfl⟩) hW 31 (xw_31 E _) rfl rfl rfl hl.1 (Nat.le_of_ble_eq_true rfl) dX1_keepCable_6 ⟨Nat.zero_le _, Nat.zero_le _⟩ (fun σ6 H locs hp1 hW => ?_)
  obtain rfl := hp1
  refine lv_aload_n hx hb dX1_keepCable_9 rfl (lv_at hl 0 rfl) ?_
  refine x_get (v := .ref (E.2.2.2 33)) S hW hinX1 39 (xw_39 E _) rfl 4 (by decide) w26 rfl dX1_keepCable_10 ?_
  refine lv_iload_n hx hb dX1_keepCable_13 rfl (lv_at hl 1 rfl) ?_
  refine lv_iload_n hx hb dX1_keepCable_14 rfl (lv_at hl 3 rfl) ?_
  refine x_Vv (rest := []) S (c_X2_put l E n (xu f 15 (upd (f 15) j a)) o (i := 16) (by decide) (k := j) (show _ < 12 from by omega) b) (cwV 2 S.2.2.2.2 gX1_keepCable_X2_put rfl rfl rfl (by decide +kernel) ⟨Nat.le_of_ble_eq_true rfl, Nat.le_of_ble_eq_true rfl⟩) hW 33 (xw_33 E _) rfl rfl rfl hl.1 (Nat.le_of_ble_eq_true rfl) dX1_keepCable_15 ⟨Nat.zero_le _, Nat.zero_le _⟩ (fun σ15 H locs hp2 hW => ?_)
  obtain rfl := hp2
  exact x_retv S hr hlk hW dX1_keepCable_18 (rfl)

abbrev rmX1_repeatsEarlier : Room := { frames := 2, cells := 0, slots := 0, locals := 42 }
set_option maxHeartbeats 4000000 in
set_option maxRecDepth 100000 in
theorem c_X1_repeatsEarlier (l : Launch) (E : xE) (n : Nat → Int32) (f : Nat → Nat → Int32) (o : Nat → Int64) {j : Nat} (hj : j < 12) : xCi l yX1_repeatsEarlier wsX1_repeatsEarlier rmX1_repeatsEarlier E [.ref (E.2.2.2 39), .int (nI j)] (n, f, o) (fun r σ' => (r = 0 ∧ ¬ (∃ i, i < j ∧ (f 13 i = f 13 j ∨ f 14 i = f 14 j)) ∧ σ' = (n, f, o)) ∨ (r = 1 ∧ (∃ i, i < j ∧ (f 13 i = f 13 j ∨ f 14 i = f 14 j)) ∧ σ' = (n, f, o))) := by
  refine x_starti RX1 (by decide) rfl rfl (Nat.le_of_ble_eq_true rfl) ?_
  intro p e s m args below meth c ls S hr hlk hW hl
  have hx := S.1
  have hb := S.2.1
  have hl : lv_has ls 3 [(0, .ref (E.2.2.2 39)), (1, .int (nI j))] := hl
  refine lv_iconst (v := 0) hx hb dX1_repeatsEarlier_0 (by decide) ?_
  refine lv_istore_n (lv' := [(2, .int 0), (0, .ref (E.2.2.2 39)), (1, .int (nI j))]) hx hb dX1_repeatsEarlier_1 rfl hl (by decide) rfl (fun ls hl => ?_)
  have L2 : ∀ (fu2 : Nat) (i : Nat) (hμ : j + 1 - i < fu2) (hi : i ≤ j) (h0 : ∀ q, q < i → ¬ (f 13 q = f 13 j ∨ f 14 q = f 14 j)) (H : Heap) (locs : List Loc) (ls : Array Slot), xSt E (n, f, o) s s.heap H locs → lv_has ls 3 [(0, .ref (E.2.2.2 39)), (1, .int (nI j)), (2, .int (nI i))] → W p l e rmX1_repeatsEarlier s m args below meth c H locs 0 0 (MQ below (va_Qi (fun r σ' => (r = 0 ∧ ¬ (∃ i, i < j ∧ (f 13 i = f 13 j ∨ f 14 i = f 14 j)) ∧ σ' = (n, f, o)) ∨ (r = 1 ∧ (∃ i, i < j ∧ (f 13 i = f 13 j ∨ f 14 i = f 14 j)) ∧ σ' = (n, f, o))) (xWd E) (xA E)) args s 0 0 (xA E)) (F0 m 2 ls []) := by
    intro fu2
    induction fu2 with
    | zero => intro i hμ; exact absurd hμ (Nat.not_lt_zero _)
    | succ fu2 L2 =>
      intro i hμ hi h0 H locs ls hW hl
      refine lv_iload_n hx hb dX1_repeatsEarlier_2 rfl (lv_at hl 2 rfl) ?_
      refine lv_iload_n hx hb dX1_repeatsEarlier_3 rfl (lv_at hl 1 rfl) ?_
      refine x_icmp_ge (a := i) (b := j) (tgt := 41) hx hb dX1_repeatsEarlier_4 (by decide) (by omega) (by omega) (fun c4 => ?_) (fun c4 => ?_)
      · refine lv_iconst (v := 0) hx hb dX1_repeatsEarlier_41 (by decide) ?_
        exact x_retz S hr hlk hW dX1_repeatsEarlier_42 (Or.inl rfl) (.inl ⟨rfl, fun ⟨q, hq, h⟩ => h0 q (by omega) h, rfl⟩)
      · refine lv_aload_n hx hb dX1_repeatsEarlier_7 rfl (lv_at hl 0 rfl) ?_
        refine lv_iload_n hx hb dX1_repeatsEarlier_8 rfl (lv_at hl 2 rfl) ?_
        refine x_Vi (rest := []) S (c_X1_from l E n f o (j := i) (by omega)) (cwV 1 S.2.2.2.2 gX1_repeatsEarlier_X1_from rfl rfl rfl (by decide +kernel) ⟨Nat.le_of_ble_eq_true rfl, Nat.le_of_ble_eq_true rfl⟩) hW 39 (xw_39 E _) rfl rfl rfl hl.1 (Nat.le_of_ble_eq_true rfl) dX1_repeatsEarlier_9 ⟨Nat.zero_le _, Nat.zero_le _⟩ (fun r9 σ9 H locs hp1 hW => ?_)
        obtain ⟨rfl, rfl⟩ := hp1
        refine lv_aload_n hx hb dX1_repeatsEarlier_12 rfl (lv_at hl 0 rfl) ?_
        refine lv_iload_n hx hb dX1_repeatsEarlier_13 rfl (lv_at hl 1 rfl) ?_
        refine x_Vi (rest := [.int ((f 13) i)]) S (c_X1_from l E n f o (j := j) (by omega)) (cwV 1 S.2.2.2.2 gX1_repeatsEarlier_X1_from rfl rfl rfl (by decide +kernel) ⟨Nat.le_of_ble_eq_true rfl, Nat.le_of_ble_eq_true rfl⟩) hW 39 (xw_39 E _) rfl rfl rfl hl.1 (Nat.le_of_ble_eq_true rfl) dX1_repeatsEarlier_14 ⟨Nat.zero_le _, Nat.zero_le _⟩ (fun r14 σ14 H locs hp2 hW => ?_)
        obtain ⟨rfl, rfl⟩ := hp2
        refine lv_icmp_eq (tgt := 33) hx hb dX1_repeatsEarlier_17 (by decide) (fun c17 => ?_) (fun c17 => ?_)
        · refine lv_iconst (v := 1) hx hb dX1_repeatsEarlier_33 (by decide) ?_
          exact x_retz S hr hlk hW dX1_repeatsEarlier_34 (Or.inr rfl) (.inr ⟨rfl, ⟨i, by omega, by first | exact Or.inl c17 | exact Or.inr c30⟩, rfl⟩)
        · refine lv_aload_n hx hb dX1_repeatsEarlier_20 rfl (lv_at hl 0 rfl) ?_
          refine lv_iload_n hx hb dX1_repeatsEarlier_21 rfl (lv_at hl 2 rfl) ?_
          refine x_Vi (rest := []) S (c_X1_to l E n f o (j := i) (by omega)) (cwV 1 S.2.2.2.2 gX1_repeatsEarlier_X1_to rfl rfl rfl (by decide +kernel) ⟨Nat.le_of_ble_eq_true rfl, Nat.le_of_ble_eq_true rfl⟩) hW 39 (xw_39 E _) rfl rfl rfl hl.1 (Nat.le_of_ble_eq_true rfl) dX1_repeatsEarlier_22 ⟨Nat.zero_le _, Nat.zero_le _⟩ (fun r22 σ22 H locs hp3 hW => ?_)
          obtain ⟨rfl, rfl⟩ := hp3
          refine lv_aload_n hx hb dX1_repeatsEarlier_25 rfl (lv_at hl 0 rfl) ?_
          refine lv_iload_n hx hb dX1_repeatsEarlier_26 rfl (lv_at hl 1 rfl) ?_
          refine x_Vi (rest := [.int ((f 14) i)]) S (c_X1_to l E n f o (j := j) (by omega)) (cwV 1 S.2.2.2.2 gX1_repeatsEarlier_X1_to rfl rfl rfl (by decide +kernel) ⟨Nat.le_of_ble_eq_true rfl, Nat.le_of_ble_eq_true rfl⟩) hW 39 (xw_39 E _) rfl rfl rfl hl.1 (Nat.le_of_ble_eq_true rfl) dX1_repeatsEarlier_27 ⟨Nat.zero_le _, Nat.zero_le _⟩ (fun r27 σ27 H locs hp4 hW => ?_)
          obtain ⟨rfl, rfl⟩ := hp4
          refine lv_icmp_ne (tgt := 35) hx hb dX1_repeatsEarlier_30 (by decide) (fun c30 => ?_) (fun c30 => ?_)
          · refine lv_iinc (v := (nI (i + 1))) (lv' := [(2, .int (nI (i + 1))), (0, .ref (E.2.2.2 39)), (1, .int (nI j))]) hx hb dX1_repeatsEarlier_35 hl (k := 2) rfl (x_inc _) (by decide) rfl (fun ls hl => ?_)
            refine lv_goto (tgt := 2) hx hb dX1_repeatsEarlier_38 (by decide) ?_
            exact L2  (i + 1) (by omega) (by omega) (lt_s h0 (fun h => h.elim c17 c30)) _ _ _ hW (lv_sub hl [1, 2, 0] rfl)
          · refine lv_iconst (v := 1) hx hb dX1_repeatsEarlier_33 (by decide) ?_
            exact x_retz S hr hlk hW dX1_repeatsEarlier_34 (Or.inr rfl) (.inr ⟨rfl, ⟨i, by omega, by first | exact Or.inl c17 | exact Or.inr c30⟩, rfl⟩)
  exact L2 _ (0) (Nat.lt_succ_self _) (by omega) (fun q hq => absurd hq (Nat.not_lt_zero q)) _ _ _ hW (lv_sub hl [1, 2, 0] rfl)

abbrev rmX1_pulls : Room := { frames := 2, cells := 0, slots := 0, locals := 42 }
set_option maxHeartbeats 4000000 in
set_option maxRecDepth 100000 in
theorem c_X1_pulls (l : Launch) (E : xE) (n : Nat → Int32) (f : Nat → Nat → Int32) (o : Nat → Int64) (pp : Int32) {nm : Nat} (hn3 : n 3 = nI nm) (hm : nm ≤ 12) : xCi l yX1_pulls wsX1_pulls rmX1_pulls E [.ref (E.2.2.2 39), .int pp] (n, f, o) (fun r σ' => (r = 0 ∧ ¬ (∃ i, i < nm ∧ f 13 i = pp) ∧ σ' = (n, f, o)) ∨ (r = 1 ∧ (∃ i, i < nm ∧ f 13 i = pp) ∧ σ' = (n, f, o))) := by
  refine x_starti RX1 (by decide) rfl rfl (Nat.le_of_ble_eq_true rfl) ?_
  intro p e s m args below meth c ls S hr hlk hW hl
  have hx := S.1
  have hb := S.2.1
  have hl : lv_has ls 3 [(0, .ref (E.2.2.2 39)), (1, .int pp)] := hl
  have hinX1 : ∀ w ∈ wsX10, w ∈ wsX1_pulls := by decide +kernel
  have w29 : Cond.fieldLink RX1 29 "CableBook$Plan" "count" "I" ∈ wsX1_pulls := by decide +kernel
  refine lv_iconst (v := 0) hx hb dX1_pulls_0 (by decide) ?_
  refine lv_istore_n (lv' := [(2, .int 0), (0, .ref (E.2.2.2 39)), (1, .int pp)]) hx hb dX1_pulls_1 rfl hl (by decide) rfl (fun ls hl => ?_)
  have L2 : ∀ (fu2 : Nat) (i : Nat) (hμ : nm + 1 - i < fu2) (hi : i ≤ nm) (h0 : ∀ q, q < i → ¬ f 13 q = pp) (H : Heap) (locs : List Loc) (ls : Array Slot), xSt E (n, f, o) s s.heap H locs → lv_has ls 3 [(0, .ref (E.2.2.2 39)), (1, .int pp), (2, .int (nI i))] → W p l e rmX1_pulls s m args below meth c H locs 0 0 (MQ below (va_Qi (fun r σ' => (r = 0 ∧ ¬ (∃ i, i < nm ∧ f 13 i = pp) ∧ σ' = (n, f, o)) ∨ (r = 1 ∧ (∃ i, i < nm ∧ f 13 i = pp) ∧ σ' = (n, f, o))) (xWd E) (xA E)) args s 0 0 (xA E)) (F0 m 2 ls []) := by
    intro fu2
    induction fu2 with
    | zero => intro i hμ; exact absurd hμ (Nat.not_lt_zero _)
    | succ fu2 L2 =>
      intro i hμ hi h0 H locs ls hW hl
      refine lv_iload_n hx hb dX1_pulls_2 rfl (lv_at hl 2 rfl) ?_
      refine lv_aload_n hx hb dX1_pulls_3 rfl (lv_at hl 0 rfl) ?_
      refine x_get (v := .int (n 3)) S hW hinX1 39 (xw_39 E _) rfl 0 (by decide) w29 rfl dX1_pulls_4 ?_
      refine x_topN (nm) (hn3) ?_
      refine x_icmp_ge (a := i) (b := nm) (tgt := 27) hx hb dX1_pulls_7 (by decide) (by omega) (by omega) (fun c7 => ?_) (fun c7 => ?_)
      · refine lv_iconst (v := 0) hx hb dX1_pulls_27 (by decide) ?_
        exact x_retz S hr hlk hW dX1_pulls_28 (Or.inl rfl) (.inl ⟨rfl, fun ⟨q, hq, h⟩ => h0 q (by omega) h, rfl⟩)
      · refine lv_aload_n hx hb dX1_pulls_10 rfl (lv_at hl 0 rfl) ?_
        refine lv_iload_n hx hb dX1_pulls_11 rfl (lv_at hl 2 rfl) ?_
        refine x_Vi (rest := []) S (c_X1_from l E n f o (j := i) (by omega)) (cwV 1 S.2.2.2.2 gX1_pulls_X1_from rfl rfl rfl (by decide +kernel) ⟨Nat.le_of_ble_eq_true rfl, Nat.le_of_ble_eq_true rfl⟩) hW 39 (xw_39 E _) rfl rfl rfl hl.1 (Nat.le_of_ble_eq_true rfl) dX1_pulls_12 ⟨Nat.zero_le _, Nat.zero_le _⟩ (fun r12 σ12 H locs hp1 hW => ?_)
        obtain ⟨rfl, rfl⟩ := hp1
        refine lv_iload_n hx hb dX1_pulls_15 rfl (lv_at hl 1 rfl) ?_
        refine lv_icmp_ne (tgt := 21) hx hb dX1_pulls_16 (by decide) (fun c16 => ?_) (fun c16 => ?_)
        · refine lv_iinc (v := (nI (i + 1))) (lv' := [(2, .int (nI (i + 1))), (0, .ref (E.2.2.2 39)), (1, .int pp)]) hx hb dX1_pulls_21 hl (k := 2) rfl (x_inc _) (by decide) rfl (fun ls hl => ?_)
          refine lv_goto (tgt := 2) hx hb dX1_pulls_24 (by decide) ?_
          exact L2  (i + 1) (by omega) (by omega) (lt_s h0 c16) _ _ _ hW (lv_sub hl [1, 2, 0] rfl)
        · refine lv_iconst (v := 1) hx hb dX1_pulls_19 (by decide) ?_
          exact x_retz S hr hlk hW dX1_pulls_20 (Or.inr rfl) (.inr ⟨rfl, ⟨i, by omega, c16⟩, rfl⟩)
  exact L2 _ (0) (Nat.lt_succ_self _) (by omega) (fun q hq => absurd hq (Nat.not_lt_zero q)) _ _ _ hW (lv_sub hl [1, 2, 0] rfl)

abbrev rmX1_placeAfterwards : Room := { frames := 2, cells := 0, slots := 0, locals := 42 }
set_option maxHeartbeats 4000000 in
set_option maxRecDepth 100000 in
theorem c_X1_placeAfterwards (l : Launch) (E : xE) (n : Nat → Int32) (f : Nat → Nat → Int32) (o : Nat → Int64) (pp : Int32) {nm : Nat} (hn3 : n 3 = nI nm) (hm : nm ≤ 12) : xCi l yX1_placeAfterwards wsX1_placeAfterwards rmX1_placeAfterwards E [.ref (E.2.2.2 39), .int pp] (n, f, o) (fun r σ' => xmv (f 13) (f 14) nm pp r ∧ σ' = (n, f, o)) := by
  refine x_starti RX1 (by decide) rfl rfl (Nat.le_of_ble_eq_true rfl) ?_
  intro p e s m args below meth c ls S hr hlk hW hl
  have hx := S.1
  have hb := S.2.1
  have hl : lv_has ls 3 [(0, .ref (E.2.2.2 39)), (1, .int pp)] := hl
  have hinX1 : ∀ w ∈ wsX10, w ∈ wsX1_placeAfterwards := by decide +kernel
  have w29 : Cond.fieldLink RX1 29 "CableBook$Plan" "count" "I" ∈ wsX1_placeAfterwards := by decide +kernel
  refine lv_iconst (v := 0) hx hb dX1_placeAfterwards_0 (by decide) ?_
  refine lv_istore_n (lv' := [(2, .int 0), (0, .ref (E.2.2.2 39)), (1, .int pp)]) hx hb dX1_placeAfterwards_1 rfl hl (by decide) rfl (fun ls hl => ?_)
  have L2 : ∀ (fu2 : Nat) (i : Nat) (hμ : nm + 1 - i < fu2) (hi : i ≤ nm) (h0 : ∀ q, q < i → ¬ f 13 q = pp) (H : Heap) (locs : List Loc) (ls : Array Slot), xSt E (n, f, o) s s.heap H locs → lv_has ls 3 [(0, .ref (E.2.2.2 39)), (1, .int pp), (2, .int (nI i))] → W p l e rmX1_placeAfterwards s m args below meth c H locs 0 0 (MQ below (va_Qi (fun r σ' => xmv (f 13) (f 14) nm pp r ∧ σ' = (n, f, o)) (xWd E) (xA E)) args s 0 0 (xA E)) (F0 m 2 ls []) := by
    intro fu2
    induction fu2 with
    | zero => intro i hμ; exact absurd hμ (Nat.not_lt_zero _)
    | succ fu2 L2 =>
      intro i hμ hi h0 H locs ls hW hl
      refine lv_iload_n hx hb dX1_placeAfterwards_2 rfl (lv_at hl 2 rfl) ?_
      refine lv_aload_n hx hb dX1_placeAfterwards_3 rfl (lv_at hl 0 rfl) ?_
      refine x_get (v := .int (n 3)) S hW hinX1 39 (xw_39 E _) rfl 0 (by decide) w29 rfl dX1_placeAfterwards_4 ?_
      refine x_topN (nm) (hn3) ?_
      refine x_icmp_ge (a := i) (b := nm) (tgt := 31) hx hb dX1_placeAfterwards_7 (by decide) (by omega) (by omega) (fun c7 => ?_) (fun c7 => ?_)
      · refine lv_iload_n hx hb dX1_placeAfterwards_31 rfl (lv_at hl 1 rfl) ?_
        exact x_reti S hr hlk hW dX1_placeAfterwards_32 (⟨Or.inr ⟨fun q hq => h0 q (by omega), rfl⟩, rfl⟩)
      · refine lv_aload_n hx hb dX1_placeAfterwards_10 rfl (lv_at hl 0 rfl) ?_
        refine lv_iload_n hx hb dX1_placeAfterwards_11 rfl (lv_at hl 2 rfl) ?_
        refine x_Vi (rest := []) S (c_X1_from l E n f o (j := i) (by omega)) (cwV 1 S.2.2.2.2 gX1_placeAfterwards_X1_from rfl rfl rfl (by decide +kernel) ⟨Nat.le_of_ble_eq_true rfl, Nat.le_of_ble_eq_true rfl⟩) hW 39 (xw_39 E _) rfl rfl rfl hl.1 (Nat.le_of_ble_eq_true rfl) dX1_placeAfterwards_12 ⟨Nat.zero_le _, Nat.zero_le _⟩ (fun r12 σ12 H locs hp1 hW => ?_)
        obtain ⟨rfl, rfl⟩ := hp1
        refine lv_iload_n hx hb dX1_placeAfterwards_15 rfl (lv_at hl 1 rfl) ?_
        refine lv_icmp_ne (tgt := 25) hx hb dX1_placeAfterwards_16 (by decide) (fun c16 => ?_) (fun c16 => ?_)
        · refine lv_iinc (v := (nI (i + 1))) (lv' := [(2, .int (nI (i + 1))), (0, .ref (E.2.2.2 39)), (1, .int pp)]) hx hb dX1_placeAfterwards_25 hl (k := 2) rfl (x_inc _) (by decide) rfl (fun ls hl => ?_)
          refine lv_goto (tgt := 2) hx hb dX1_placeAfterwards_28 (by decide) ?_
          exact L2  (i + 1) (by omega) (by omega) (lt_s h0 c16) _ _ _ hW (lv_sub hl [1, 2, 0] rfl)
        · refine lv_aload_n hx hb dX1_placeAfterwards_19 rfl (lv_at hl 0 rfl) ?_
          refine lv_iload_n hx hb dX1_placeAfterwards_20 rfl (lv_at hl 2 rfl) ?_
          refine x_Vi (rest := []) S (c_X1_to l E n f o (j := i) (by omega)) (cwV 1 S.2.2.2.2 gX1_placeAfterwards_X1_to rfl rfl rfl (by decide +kernel) ⟨Nat.le_of_ble_eq_true rfl, Nat.le_of_ble_eq_true rfl⟩) hW 39 (xw_39 E _) rfl rfl rfl hl.1 (Nat.le_of_ble_eq_true rfl) dX1_placeAfterwards_21 ⟨Nat.zero_le _, Nat.zero_le _⟩ (fun r21 σ21 H locs hp2 hW => ?_)
          obtain ⟨rfl, rfl⟩ := hp2
          exact x_reti S hr hlk hW dX1_placeAfterwards_24 (⟨Or.inl ⟨i, by omega, c16, h0, rfl⟩, rfl⟩)
  exact L2 _ (0) (Nat.lt_succ_self _) (by omega) (fun q hq => absurd hq (Nat.not_lt_zero q)) _ _ _ hW (lv_sub hl [1, 2, 0] rfl)
