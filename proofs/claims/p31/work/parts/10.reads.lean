/-! the public methods of the class: what they throw, answer and do -/
theorem xNa_n {q : Nat} (h : q < 2 ^ 31) : xNa (nI q) = q := nI_clamp h
theorem xPn {k q : Nat} (h : q < k) : xP k (nI q) := ⟨q, h, rfl⟩
noncomputable def ocPort (Γ : xG) (a : Int32) : Nat := xif (¬ xP (gNo Γ) a) 1 0
noncomputable def ocPanel (Γ : xG) (a : Int32) : Nat := xif (¬ xP (gNp Γ) a) 1 0
noncomputable def ocTrk (Γ : xG) (a : Int32) : Nat := xif (¬ xP (gNt Γ) a) 1 0
noncomputable def oc2 (Γ : xG) (a b : Int32) : Nat := xif (¬ (xP (gNo Γ) a ∧ xP (gNo Γ) b)) 1 0
noncomputable def oc2p (Γ : xG) (a b : Int32) : Nat := xif (¬ (xP (gNp Γ) a ∧ xP (gNp Γ) b)) 1 0
noncomputable def ocHop (Γ : xG) (a : Int32) (b : Bool) (h : Int32) : Nat := xif (¬ xP (gNo Γ) a) 1 (xif (∃ K, xStop (gCb Γ) (gOp Γ) b (xNa a) K ∧ xP K h) 0 1)
def xX1o (k : Nat) (X : String) : Prop := k = 1 ∧ X = xIO
theorem xRepC.tl_ {Γ : xG} {n : Nat → Int32} {f : Nat → Nat → Int32} (h : xRepC Γ n f) : ∀ t, t < gNt Γ → f 10 t = gTl Γ t := xRepC.tl h
theorem xRepC.tlx {Γ : xG} {n : Nat → Int32} {f : Nat → Nat → Int32} (h : xRepC Γ n f) (g : Nat → Int32) : xRepC Γ n (xu f 11 g) := h.eqv (fun _ _ => rfl) (fun q _ h1 _ _ _ _ => xu_n h1)
theorem xRepC.srch {Γ : xG} {n : Nat → Int32} {f F : Nat → Nat → Int32} {o : Nat → Int64} (h : xRepC Γ n f) (hF : ∀ q, q ≠ 18 → q ≠ 12 → F q = f q) : xOKC Γ n f o (n, F, o) := ⟨n, F, rfl, h.eqv (fun _ _ => rfl) (fun q _ _ h2 _ _ h5 => hF q h5 h2), fun _ _ => rfl, fun q hq => hF q (by omega) (by omega)⟩
theorem xRepC.opE {Γ : xG} {n : Nat → Int32} {f : Nat → Nat → Int32} (h : xRepC Γ n f) (hG : xGood Γ) : ∀ q, q < gNo Γ → xop (f 6) (f 17) q = gOp Γ q := fun q hq => by unfold gOp xop; rw [h.st q (by have := hG.no; omega), h.bk q (by have := hG.no; omega)]
theorem xRepC.tr {Γ : xG} {n : Nat → Int32} {f : Nat → Nat → Int32} (h : xRepC Γ n f) (hG : xGood Γ) {p K : Nat} {b : Bool} {g : Nat → Int32} (hp : p < gNo Γ) (hS : xStop (f 4) (xop (f 6) (f 17)) b p K) (hg : ∀ k, k < K → g k = xw (f 4) (xop (f 6) (f 17)) b p (k + 1)) : xStop (gCb Γ) (gOp Γ) b p K ∧ (∀ k, k < K → g k = xw (gCb Γ) (gOp Γ) b p (k + 1)) ∧ K ≤ gNo Γ := by
  have hno := hG.no
  have e1 : ∀ q, q < gNo Γ → f 4 q = gCb Γ q := fun q hq => h.cb q (by omega)
  have hs := xStop_congr (by omega) hG.cb hG.op hp e1 (h.opE hG) hS
  exact ⟨hs, fun k hk => by rw [hg k hk, xw_congr (by omega) hG.cb hG.op hp e1 (h.opE hG)], hs.le (by omega) hG.cb hG.op hp⟩
theorem xend {C S : Nat → Int32} {b : Bool} {p K : Nat} {g : Nat → Int32} (hg : ∀ k, k < K → g k = xw C S b p (k + 1)) : (if K = 0 then nI p else g (K - 1)) = xw C S b p K := by
  cases K with
  | zero => rfl
  | succ K => rw [if_neg (by omega)]; exact hg K (Nat.lt_succ_self K)
theorem xtr_nat {Γ : xG} (hG : xGood Γ) {p K : Nat} {b : Bool} {g : Nat → Int32} (hp : p < gNo Γ) (hS : xStop (gCb Γ) (gOp Γ) b p K) (hg : ∀ k, k < K → g k = xw (gCb Γ) (gOp Γ) b p (k + 1)) : ∀ k, k < K → g k = nI (xNa (g k)) ∧ xNa (g k) < 144 := by
  intro k hk
  have hno := hG.no
  obtain ⟨q, hq, e⟩ := hS.get (by omega) hG.cb hG.op hp (k := k + 1) (by omega)
  rw [hg k hk, e, xNa_n (by omega)]
  exact ⟨rfl, by omega⟩
theorem xln_f {no i : Nat} {C S m : Nat → Int32} (hi : i < no) (hm : ∀ w, w < no → (m w ≠ 0 ↔ ∃ z, z < i ∧ xR no C S z w)) (h : m i ≠ 0) : ∀ w, w < no → (m w ≠ 0 ↔ ∃ z, z < i + 1 ∧ xR no C S z w) := by
  intro w hw
  obtain ⟨z0, a1, a2⟩ := (hm i hi).mp h
  rw [hm w hw]
  constructor
  · rintro ⟨z, b1, b2⟩; exact ⟨z, by omega, b2⟩
  · rintro ⟨z, b1, b2⟩
    by_cases e : z = i
    · rw [e] at b2; exact ⟨z0, a1, a2.trans b2⟩
    · exact ⟨z, by omega, b2⟩
theorem xln_t {no i K1 K2 : Nat} {C S m m1 m2 g1 g2 : Nat → Int32} (hn : no ≤ 144) (hC : xM no C) (hS : xM no S) (hi : i < no) (hm : ∀ w, w < no → (m w ≠ 0 ↔ ∃ z, z < i ∧ xR no C S z w)) (h1 : xStop C S true i K1) (h2 : xStop C S false i K2) (e1 : ∀ k, k < K1 → g1 k = xw C S true i (k + 1)) (e2 : ∀ k, k < K2 → g2 k = xw C S false i (k + 1))
    (a1 : ∀ q, q < K1 → m1 (xNa (g1 q)) = 1) (b1 : ∀ w, (∀ q, q < K1 → xNa (g1 q) ≠ w) → m1 w = upd m i 1 w) (a2 : ∀ q, q < K2 → m2 (xNa (g2 q)) = 1) (b2 : ∀ w, (∀ q, q < K2 → xNa (g2 q) ≠ w) → m2 w = m1 w) : ∀ w, w < no → (m2 w ≠ 0 ↔ ∃ z, z < i + 1 ∧ xR no C S z w) := by
  intro w hw
  have hl := xline (by omega) hC hS hi h1 h2 hw
  have key : m2 w ≠ 0 ↔ (xL C S i K1 K2 w ∨ m w ≠ 0) := by
    by_cases c2 : ∃ q, q < K2 ∧ xNa (g2 q) = w
    · obtain ⟨q, hq, e⟩ := c2
      have : m2 w = 1 := by rw [← e]; exact a2 q hq
      rw [this]
      refine ⟨fun _ => Or.inl (Or.inr (Or.inr ⟨q, hq, ?_⟩)), fun _ => by decide⟩
      obtain ⟨z, hz, ez⟩ := h2.get (by omega) hC hS hi (k := q + 1) (by omega)
      rw [e2 q hq, ez, xNa_n (by omega)] at e
      rw [ez, e]
    · have hb := b2 w (fun q hq e => c2 ⟨q, hq, e⟩)
      rw [hb]
      by_cases c1 : ∃ q, q < K1 ∧ xNa (g1 q) = w
      · obtain ⟨q, hq, e⟩ := c1
        have : m1 w = 1 := by rw [← e]; exact a1 q hq
        rw [this]
        refine ⟨fun _ => Or.inl (Or.inr (Or.inl ⟨q, hq, ?_⟩)), fun _ => by decide⟩
        obtain ⟨z, hz, ez⟩ := h1.get (by omega) hC hS hi (k := q + 1) (by omega)
        rw [e1 q hq, ez, xNa_n (by omega)] at e
        rw [ez, e]
      · rw [b1 w (fun q hq e => c1 ⟨q, hq, e⟩)]
        by_cases ei : w = i
        · rw [ei, upd_s]
          exact ⟨fun _ => Or.inl (Or.inl rfl), fun _ => by decide⟩
        · rw [upd_n ei]
          refine ⟨fun h => Or.inr h, fun h => ?_⟩
          rcases h with (h | ⟨k, hk, e⟩ | ⟨k, hk, e⟩) | h
          · exact absurd h ei
          · exact absurd ⟨k, hk, by rw [e1 k hk, e, xNa_n (by omega)]⟩ c1
          · exact absurd ⟨k, hk, by rw [e2 k hk, e, xNa_n (by omega)]⟩ c2
          · exact h
  rw [key, ← hl, hm w hw]
  constructor
  · rintro (h | ⟨z, hz, h⟩)
    · exact ⟨i, by omega, h⟩
    · exact ⟨z, by omega, h⟩
  · rintro ⟨z, hz, h⟩
    by_cases e : z = i
    · rw [e] at h; exact Or.inl h
    · exact Or.inr ⟨z, by omega, h⟩

abbrev rmX3_panelOf : Room := { frames := 7, cells := 1, slots := 6, locals := 103 }
set_option maxHeartbeats 4000000 in
set_option maxRecDepth 100000 in
theorem c_X3_panelOf (l : Launch) (E : xE) (n : Nat → Int32) (f : Nat → Nat → Int32) (o : Nat → Int64) (hfl : l.stackTraces = false) (Γ : xG) (hG : xGood Γ) (hR : xRepC Γ n f) (a : Int32) : xXi l yX3_panelOf wsX3_panelOf rmX3_panelOf E [.ref (E.2.2.2 0), .int a] (n, f, o) 1 (fun r σ' => ocPort Γ a = 0 ∧ r = nI (gPn Γ (xNa a)) ∧ xOKC Γ n f o σ') (fun X σ' => xX1o (ocPort Γ a) X ∧ xOKC Γ n f o σ') := by
  refine x_startXi RX3 (by decide) rfl rfl (Nat.le_of_ble_eq_true rfl) ?_
  intro p e s m args below meth c ls S hr hlk htab hTh hW hl
  have hx := S.1
  have hb := S.2.1
  have hl : lv_has ls 2 [(0, .ref (E.2.2.2 0)), (1, .int a)] := hl
  have hinX3 : ∀ w ∈ wsX30, w ∈ wsX3_panelOf := by decide +kernel
  have w24 : Cond.fieldLink RX3 24 "CableBook" "panelAt" "LCableBook$Row;" ∈ wsX3_panelOf := by decide +kernel
  have hno := hG.no
  have hnp := hG.np
  have hnt := hG.nt
  have hnm := hG.nm
  refine lv_aload_n hx hb dX3_panelOf_0 rfl (lv_at hl 0 rfl) ?_
  refine lv_iload_n hx hb dX3_panelOf_1 rfl (lv_at hl 1 rfl) ?_
  refine x_XVv (rest := []) S (c_X3_checkPort l E n f o hfl hR.no (by omega) a) (cwV 1 S.2.2.2.2 gX3_panelOf_X3_checkPort rfl rfl rfl (by decide +kernel) ⟨Nat.le_of_ble_eq_true rfl, Nat.le_of_ble_eq_true rfl⟩) hW hTh htab hlk (fun X σ9 h => ⟨⟨xif_t h.2.1, h.1⟩, by rw [h.2.2]; exact hR.same⟩) (Nat.le_of_ble_eq_true rfl) (Nat.le_of_ble_eq_true rfl) 0 (xw_0 E _) rfl rfl rfl hl.1 (Nat.le_of_ble_eq_true rfl) dX3_panelOf_2 ⟨Nat.le_of_ble_eq_true rfl, Nat.le_of_ble_eq_true rfl⟩ (fun σ2 H locs hq1 hW => ?_)
  obtain ⟨⟨p2, hp2, rfl⟩, rfl⟩ := hq1
  refine lv_aload_n hx hb dX3_panelOf_5 rfl (lv_at hl 0 rfl) ?_
  refine x_get (v := .ref (E.2.2.2 7)) S hW hinX3 0 (xw_0 E _) rfl 5 (by decide) w24 rfl dX3_panelOf_6 ?_
  refine lv_iload_n hx hb dX3_panelOf_9 rfl (lv_at hl 1 rfl) ?_
  refine x_Vi (rest := []) S (c_X2_at l E n f o (i := 3) (by decide) (k := p2) (show _ < 144 from by omega)) (cwV 1 S.2.2.2.2 gX3_panelOf_X2_at rfl rfl rfl (by decide +kernel) ⟨Nat.le_of_ble_eq_true rfl, Nat.le_of_ble_eq_true rfl⟩) hW 7 (xw_7 E _) rfl rfl rfl hl.1 (Nat.le_of_ble_eq_true rfl) dX3_panelOf_10 ⟨Nat.le_of_ble_eq_true rfl, Nat.le_of_ble_eq_true rfl⟩ (fun r10 σ10 H locs hq2 hW => ?_)
  obtain ⟨rfl, rfl⟩ := hq2
  exact x_Xreti S hr hlk hW (Nat.le_of_ble_eq_true rfl) (Nat.le_of_ble_eq_true rfl) dX3_panelOf_13 (⟨xif_f (not_not_intro (xPn hp2)), by rw [xNa_n (by omega)]; exact hR.pn _ hp2, hR.same⟩)

abbrev rmX3_byCable : Room := { frames := 7, cells := 1, slots := 6, locals := 103 }
set_option maxHeartbeats 4000000 in
set_option maxRecDepth 100000 in
theorem c_X3_byCable (l : Launch) (E : xE) (n : Nat → Int32) (f : Nat → Nat → Int32) (o : Nat → Int64) (hfl : l.stackTraces = false) (Γ : xG) (hG : xGood Γ) (hR : xRepC Γ n f) (a : Int32) : xXi l yX3_byCable wsX3_byCable rmX3_byCable E [.ref (E.2.2.2 0), .int a] (n, f, o) 1 (fun r σ' => ocPort Γ a = 0 ∧ r = gCb Γ (xNa a) ∧ xOKC Γ n f o σ') (fun X σ' => xX1o (ocPort Γ a) X ∧ xOKC Γ n f o σ') := by
  refine x_startXi RX3 (by decide) rfl rfl (Nat.le_of_ble_eq_true rfl) ?_
  intro p e s m args below meth c ls S hr hlk htab hTh hW hl
  have hx := S.1
  have hb := S.2.1
  have hl : lv_has ls 2 [(0, .ref (E.2.2.2 0)), (1, .int a)] := hl
  have hinX3 : ∀ w ∈ wsX30, w ∈ wsX3_byCable := by decide +kernel
  have w27 : Cond.fieldLink RX3 27 "CableBook" "cableTo" "LCableBook$Row;" ∈ wsX3_byCable := by decide +kernel
  have hno := hG.no
  have hnp := hG.np
  have hnt := hG.nt
  have hnm := hG.nm
  refine lv_aload_n hx hb dX3_byCable_0 rfl (lv_at hl 0 rfl) ?_
  refine lv_iload_n hx hb dX3_byCable_1 rfl (lv_at hl 1 rfl) ?_
  refine x_XVv (rest := []) S (c_X3_checkPort l E n f o hfl hR.no (by omega) a) (cwV 1 S.2.2.2.2 gX3_byCable_X3_checkPort rfl rfl rfl (by decide +kernel) ⟨Nat.le_of_ble_eq_true rfl, Nat.le_of_ble_eq_true rfl⟩) hW hTh htab hlk (fun X σ9 h => ⟨⟨xif_t h.2.1, h.1⟩, by rw [h.2.2]; exact hR.same⟩) (Nat.le_of_ble_eq_true rfl) (Nat.le_of_ble_eq_true rfl) 0 (xw_0 E _) rfl rfl rfl hl.1 (Nat.le_of_ble_eq_true rfl) dX3_byCable_2 ⟨Nat.le_of_ble_eq_true rfl, Nat.le_of_ble_eq_true rfl⟩ (fun σ2 H locs hq1 hW => ?_)
  obtain ⟨⟨p2, hp2, rfl⟩, rfl⟩ := hq1
  refine lv_aload_n hx hb dX3_byCable_5 rfl (lv_at hl 0 rfl) ?_
  refine x_get (v := .ref (E.2.2.2 9)) S hW hinX3 0 (xw_0 E _) rfl 6 (by decide) w27 rfl dX3_byCable_6 ?_
  refine lv_iload_n hx hb dX3_byCable_9 rfl (lv_at hl 1 rfl) ?_
  refine x_Vi (rest := []) S (c_X2_at l E n f o (i := 4) (by decide) (k := p2) (show _ < 144 from by omega)) (cwV 1 S.2.2.2.2 gX3_byCable_X2_at rfl rfl rfl (by decide +kernel) ⟨Nat.le_of_ble_eq_true rfl, Nat.le_of_ble_eq_true rfl⟩) hW 9 (xw_9 E _) rfl rfl rfl hl.1 (Nat.le_of_ble_eq_true rfl) dX3_byCable_10 ⟨Nat.le_of_ble_eq_true rfl, Nat.le_of_ble_eq_true rfl⟩ (fun r10 σ10 H locs hq2 hW => ?_)
  obtain ⟨rfl, rfl⟩ := hq2
  exact x_Xreti S hr hlk hW (Nat.le_of_ble_eq_true rfl) (Nat.le_of_ble_eq_true rfl) dX3_byCable_13 (⟨xif_f (not_not_intro (xPn hp2)), by rw [xNa_n (by omega)]; exact hR.cb _ (by omega), hR.same⟩)

abbrev rmX3_byStrand : Room := { frames := 7, cells := 1, slots := 6, locals := 103 }
set_option maxHeartbeats 4000000 in
set_option maxRecDepth 100000 in
theorem c_X3_byStrand (l : Launch) (E : xE) (n : Nat → Int32) (f : Nat → Nat → Int32) (o : Nat → Int64) (hfl : l.stackTraces = false) (Γ : xG) (hG : xGood Γ) (hR : xRepC Γ n f) (a : Int32) : xXi l yX3_byStrand wsX3_byStrand rmX3_byStrand E [.ref (E.2.2.2 0), .int a] (n, f, o) 1 (fun r σ' => ocPort Γ a = 0 ∧ r = gSt Γ (xNa a) ∧ xOKC Γ n f o σ') (fun X σ' => xX1o (ocPort Γ a) X ∧ xOKC Γ n f o σ') := by
  refine x_startXi RX3 (by decide) rfl rfl (Nat.le_of_ble_eq_true rfl) ?_
  intro p e s m args below meth c ls S hr hlk htab hTh hW hl
  have hx := S.1
  have hb := S.2.1
  have hl : lv_has ls 2 [(0, .ref (E.2.2.2 0)), (1, .int a)] := hl
  have hinX3 : ∀ w ∈ wsX30, w ∈ wsX3_byStrand := by decide +kernel
  have w33 : Cond.fieldLink RX3 33 "CableBook" "strandTo" "LCableBook$Row;" ∈ wsX3_byStrand := by decide +kernel
  have hno := hG.no
  have hnp := hG.np
  have hnt := hG.nt
  have hnm := hG.nm
  refine lv_aload_n hx hb dX3_byStrand_0 rfl (lv_at hl 0 rfl) ?_
  refine lv_iload_n hx hb dX3_byStrand_1 rfl (lv_at hl 1 rfl) ?_
  refine x_XVv (rest := []) S (c_X3_checkPort l E n f o hfl hR.no (by omega) a) (cwV 1 S.2.2.2.2 gX3_byStrand_X3_checkPort rfl rfl rfl (by decide +kernel) ⟨Nat.le_of_ble_eq_true rfl, Nat.le_of_ble_eq_true rfl⟩) hW hTh htab hlk (fun X σ9 h => ⟨⟨xif_t h.2.1, h.1⟩, by rw [h.2.2]; exact hR.same⟩) (Nat.le_of_ble_eq_true rfl) (Nat.le_of_ble_eq_true rfl) 0 (xw_0 E _) rfl rfl rfl hl.1 (Nat.le_of_ble_eq_true rfl) dX3_byStrand_2 ⟨Nat.le_of_ble_eq_true rfl, Nat.le_of_ble_eq_true rfl⟩ (fun σ2 H locs hq1 hW => ?_)
  obtain ⟨⟨p2, hp2, rfl⟩, rfl⟩ := hq1
  refine lv_aload_n hx hb dX3_byStrand_5 rfl (lv_at hl 0 rfl) ?_
  refine x_get (v := .ref (E.2.2.2 13)) S hW hinX3 0 (xw_0 E _) rfl 8 (by decide) w33 rfl dX3_byStrand_6 ?_
  refine lv_iload_n hx hb dX3_byStrand_9 rfl (lv_at hl 1 rfl) ?_
  refine x_Vi (rest := []) S (c_X2_at l E n f o (i := 6) (by decide) (k := p2) (show _ < 144 from by omega)) (cwV 1 S.2.2.2.2 gX3_byStrand_X2_at rfl rfl rfl (by decide +kernel) ⟨Nat.le_of_ble_eq_true rfl, Nat.le_of_ble_eq_true rfl⟩) hW 13 (xw_13 E _) rfl rfl rfl hl.1 (Nat.le_of_ble_eq_true rfl) dX3_byStrand_10 ⟨Nat.le_of_ble_eq_true rfl, Nat.le_of_ble_eq_true rfl⟩ (fun r10 σ10 H locs hq2 hW => ?_)
  obtain ⟨rfl, rfl⟩ := hq2
  exact x_Xreti S hr hlk hW (Nat.le_of_ble_eq_true rfl) (Nat.le_of_ble_eq_true rfl) dX3_byStrand_13 (⟨xif_f (not_not_intro (xPn hp2)), by rw [xNa_n (by omega)]; exact hR.st _ (by omega), hR.same⟩)

abbrev rmX3_colour : Room := { frames := 7, cells := 1, slots := 6, locals := 103 }
set_option maxHeartbeats 4000000 in
set_option maxRecDepth 100000 in
theorem c_X3_colour (l : Launch) (E : xE) (n : Nat → Int32) (f : Nat → Nat → Int32) (o : Nat → Int64) (hfl : l.stackTraces = false) (Γ : xG) (hG : xGood Γ) (hR : xRepC Γ n f) (a : Int32) : xXi l yX3_colour wsX3_colour rmX3_colour E [.ref (E.2.2.2 0), .int a] (n, f, o) 1 (fun r σ' => ocPort Γ a = 0 ∧ r = gCl Γ (xNa a) ∧ xOKC Γ n f o σ') (fun X σ' => xX1o (ocPort Γ a) X ∧ xOKC Γ n f o σ') := by
  refine x_startXi RX3 (by decide) rfl rfl (Nat.le_of_ble_eq_true rfl) ?_
  intro p e s m args below meth c ls S hr hlk htab hTh hW hl
  have hx := S.1
  have hb := S.2.1
  have hl : lv_has ls 2 [(0, .ref (E.2.2.2 0)), (1, .int a)] := hl
  have hinX3 : ∀ w ∈ wsX30, w ∈ wsX3_colour := by decide +kernel
  have w30 : Cond.fieldLink RX3 30 "CableBook" "colourAt" "LCableBook$Row;" ∈ wsX3_colour := by decide +kernel
  have hno := hG.no
  have hnp := hG.np
  have hnt := hG.nt
  have hnm := hG.nm
  refine lv_aload_n hx hb dX3_colour_0 rfl (lv_at hl 0 rfl) ?_
  refine lv_iload_n hx hb dX3_colour_1 rfl (lv_at hl 1 rfl) ?_
  refine x_XVv (rest := []) S (c_X3_checkPort l E n f o hfl hR.no (by omega) a) (cwV 1 S.2.2.2.2 gX3_colour_X3_checkPort rfl rfl rfl (by decide +kernel) ⟨Nat.le_of_ble_eq_true rfl, Nat.le_of_ble_eq_true rfl⟩) hW hTh htab hlk (fun X σ9 h => ⟨⟨xif_t h.2.1, h.1⟩, by rw [h.2.2]; exact hR.same⟩) (Nat.le_of_ble_eq_true rfl) (Nat.le_of_ble_eq_true rfl) 0 (xw_0 E _) rfl rfl rfl hl.1 (Nat.le_of_ble_eq_true rfl) dX3_colour_2 ⟨Nat.le_of_ble_eq_true rfl, Nat.le_of_ble_eq_true rfl⟩ (fun σ2 H locs hq1 hW => ?_)
  obtain ⟨⟨p2, hp2, rfl⟩, rfl⟩ := hq1
  refine lv_aload_n hx hb dX3_colour_5 rfl (lv_at hl 0 rfl) ?_
  refine x_get (v := .ref (E.2.2.2 11)) S hW hinX3 0 (xw_0 E _) rfl 7 (by decide) w30 rfl dX3_colour_6 ?_
  refine lv_iload_n hx hb dX3_colour_9 rfl (lv_at hl 1 rfl) ?_
  refine x_Vi (rest := []) S (c_X2_at l E n f o (i := 5) (by decide) (k := p2) (show _ < 144 from by omega)) (cwV 1 S.2.2.2.2 gX3_colour_X2_at rfl rfl rfl (by decide +kernel) ⟨Nat.le_of_ble_eq_true rfl, Nat.le_of_ble_eq_true rfl⟩) hW 11 (xw_11 E _) rfl rfl rfl hl.1 (Nat.le_of_ble_eq_true rfl) dX3_colour_10 ⟨Nat.le_of_ble_eq_true rfl, Nat.le_of_ble_eq_true rfl⟩ (fun r10 σ10 H locs hq2 hW => ?_)
  obtain ⟨rfl, rfl⟩ := hq2
  exact x_Xreti S hr hlk hW (Nat.le_of_ble_eq_true rfl) (Nat.le_of_ble_eq_true rfl) dX3_colour_13 (⟨xif_f (not_not_intro (xPn hp2)), by rw [xNa_n (by omega)]; exact hR.cl _ (by omega), hR.same⟩)

abbrev rmX3_ports : Room := { frames := 0, cells := 0, slots := 0, locals := 0 }
set_option maxHeartbeats 4000000 in
set_option maxRecDepth 100000 in
theorem c_X3_ports (l : Launch) (E : xE) (n : Nat → Int32) (f : Nat → Nat → Int32) (o : Nat → Int64) (Γ : xG) (hG : xGood Γ) (hR : xRepC Γ n f) : xCi l yX3_ports wsX3_ports rmX3_ports E [.ref (E.2.2.2 0)] (n, f, o) (fun r σ' => r = nI (gNo Γ) ∧ xOKC Γ n f o σ') := by
  refine x_starti RX3 (by decide) rfl rfl (Nat.le_of_ble_eq_true rfl) ?_
  intro p e s m args below meth c ls S hr hlk hW hl
  have hx := S.1
  have hb := S.2.1
  have hl : lv_has ls 1 [(0, .ref (E.2.2.2 0))] := hl
  have hinX3 : ∀ w ∈ wsX30, w ∈ wsX3_ports := by decide +kernel
  have w77 : Cond.fieldLink RX3 77 "CableBook" "portCount" "I" ∈ wsX3_ports := by decide +kernel
  have hno := hG.no
  have hnp := hG.np
  have hnt := hG.nt
  have hnm := hG.nm
  refine lv_aload_n hx hb dX3_ports_0 rfl (lv_at hl 0 rfl) ?_
  refine x_get (v := .int (n 1)) S hW hinX3 0 (xw_0 E _) rfl 4 (by decide) w77 rfl dX3_ports_1 ?_
  refine x_topN (gNo Γ) (hR.no) ?_
  exact x_reti S hr hlk hW dX3_ports_4 (⟨rfl, hR.same⟩)

abbrev rmX3_trunks : Room := { frames := 0, cells := 0, slots := 0, locals := 0 }
set_option maxHeartbeats 4000000 in
set_option maxRecDepth 100000 in
theorem c_X3_trunks (l : Launch) (E : xE) (n : Nat → Int32) (f : Nat → Nat → Int32) (o : Nat → Int64) (Γ : xG) (hG : xGood Γ) (hR : xRepC Γ n f) : xCi l yX3_trunks wsX3_trunks rmX3_trunks E [.ref (E.2.2.2 0)] (n, f, o) (fun r σ' => r = nI (gNt Γ) ∧ xOKC Γ n f o σ') := by
  refine x_starti RX3 (by decide) rfl rfl (Nat.le_of_ble_eq_true rfl) ?_
  intro p e s m args below meth c ls S hr hlk hW hl
  have hx := S.1
  have hb := S.2.1
  have hl : lv_has ls 1 [(0, .ref (E.2.2.2 0))] := hl
  have hinX3 : ∀ w ∈ wsX30, w ∈ wsX3_trunks := by decide +kernel
  have w80 : Cond.fieldLink RX3 80 "CableBook" "trunkCount" "I" ∈ wsX3_trunks := by decide +kernel
  have hno := hG.no
  have hnp := hG.np
  have hnt := hG.nt
  have hnm := hG.nm
  refine lv_aload_n hx hb dX3_trunks_0 rfl (lv_at hl 0 rfl) ?_
  refine x_get (v := .int (n 2)) S hW hinX3 0 (xw_0 E _) rfl 11 (by decide) w80 rfl dX3_trunks_1 ?_
  refine x_topN (gNt Γ) (hR.nt) ?_
  exact x_reti S hr hlk hW dX3_trunks_4 (⟨rfl, hR.same⟩)

abbrev rmX3_end : Room := { frames := 7, cells := 1, slots := 6, locals := 103 }
set_option maxHeartbeats 4000000 in
set_option maxRecDepth 100000 in
theorem c_X3_end (l : Launch) (E : xE) (n : Nat → Int32) (f : Nat → Nat → Int32) (o : Nat → Int64) (hfl : l.stackTraces = false) (Γ : xG) (hG : xGood Γ) (hR : xRepC Γ n f) (a : Int32) (b : Bool) : xXi l yX3_end wsX3_end rmX3_end E [.ref (E.2.2.2 0), .int a, .int (bz b)] (n, f, o) 1 (fun r σ' => ocPort Γ a = 0 ∧ (∃ K, xStop (gCb Γ) (gOp Γ) b (xNa a) K ∧ r = xw (gCb Γ) (gOp Γ) b (xNa a) K) ∧ xOKC Γ n f o σ') (fun X σ' => xX1o (ocPort Γ a) X ∧ xOKC Γ n f o σ') := by
  refine x_startXi RX3 (by decide) rfl rfl (Nat.le_of_ble_eq_true rfl) ?_
  intro p e s m args below meth c ls S hr hlk htab hTh hW hl
  have hx := S.1
  have hb := S.2.1
  have hl : lv_has ls 3 [(0, .ref (E.2.2.2 0)), (1, .int a), (2, .int (bz b))] := hl
  have hno := hG.no
  have hnp := hG.np
  have hnt := hG.nt
  have hnm := hG.nm
  refine lv_aload_n hx hb dX3_end_0 rfl (lv_at hl 0 rfl) ?_
  refine lv_iload_n hx hb dX3_end_1 rfl (lv_at hl 1 rfl) ?_
  refine x_XVv (rest := []) S (c_X3_checkPort l E n f o hfl hR.no (by omega) a) (cwV 1 S.2.2.2.2 gX3_end_X3_checkPort rfl rfl rfl (by decide +kernel) ⟨Nat.le_of_ble_eq_true rfl, Nat.le_of_ble_eq_true rfl⟩) hW hTh htab hlk (fun X σ9 h => ⟨⟨xif_t h.2.1, h.1⟩, by rw [h.2.2]; exact hR.same⟩) (Nat.le_of_ble_eq_true rfl) (Nat.le_of_ble_eq_true rfl) 0 (xw_0 E _) rfl rfl rfl hl.1 (Nat.le_of_ble_eq_true rfl) dX3_end_2 ⟨Nat.le_of_ble_eq_true rfl, Nat.le_of_ble_eq_true rfl⟩ (fun σ2 H locs hq1 hW => ?_)
  obtain ⟨⟨p2, hp2, rfl⟩, rfl⟩ := hq1
  refine lv_aload_n hx hb dX3_end_5 rfl (lv_at hl 0 rfl) ?_
  refine lv_iload_n hx hb dX3_end_6 rfl (lv_at hl 1 rfl) ?_
  refine lv_aload_n hx hb dX3_end_7 rfl (lv_at hl 0 rfl) ?_
  refine lv_iload_n hx hb dX3_end_8 rfl (lv_at hl 1 rfl) ?_
  refine lv_iload_n hx hb dX3_end_9 rfl (lv_at hl 2 rfl) ?_
  refine x_Vi (rest := [.int (nI p2), .ref (E.2.2.2 0)]) S (c_X3_trace l E n f o hG.no (hR.cabM hG) (hR.opM hG) (p1 := p2) hp2 b) (cwV 2 S.2.2.2.2 gX3_end_X3_trace rfl rfl rfl (by decide +kernel) ⟨Nat.le_of_ble_eq_true rfl, Nat.le_of_ble_eq_true rfl⟩) hW 0 (xw_0 E _) rfl rfl rfl hl.1 (Nat.le_of_ble_eq_true rfl) dX3_end_10 ⟨Nat.le_of_ble_eq_true rfl, Nat.le_of_ble_eq_true rfl⟩ (fun r10 σ10 H locs hq2 hW => ?_)
  obtain ⟨K10, g10, rfl, rfl, hS10, hg10⟩ := hq2
  obtain ⟨hS10, hg10, hK10⟩ := hR.tr hG hp2 hS10 hg10
  refine x_Vi (rest := []) S (c_X3_endOfTrail l E n (xu f 11 g10) o (nI p2) (K := K10) (by omega)) (cwV 2 S.2.2.2.2 gX3_end_X3_endOfTrail rfl rfl rfl (by decide +kernel) ⟨Nat.le_of_ble_eq_true rfl, Nat.le_of_ble_eq_true rfl⟩) hW 0 (xw_0 E _) rfl rfl rfl hl.1 (Nat.le_of_ble_eq_true rfl) dX3_end_13 ⟨Nat.le_of_ble_eq_true rfl, Nat.le_of_ble_eq_true rfl⟩ (fun r13 σ13 H locs hq3 hW => ?_)
  obtain ⟨rfl, rfl⟩ := hq3
  exact x_Xreti S hr hlk hW (Nat.le_of_ble_eq_true rfl) (Nat.le_of_ble_eq_true rfl) dX3_end_16 (⟨xif_f (not_not_intro (xPn hp2)), ⟨K10, by rw [xNa_n (by omega)]; exact hS10, by rw [xNa_n (by omega)]; exact xend hg10⟩, hR.trail _⟩)

abbrev rmX3_hops : Room := { frames := 7, cells := 1, slots := 6, locals := 103 }
set_option maxHeartbeats 4000000 in
set_option maxRecDepth 100000 in
theorem c_X3_hops (l : Launch) (E : xE) (n : Nat → Int32) (f : Nat → Nat → Int32) (o : Nat → Int64) (hfl : l.stackTraces = false) (Γ : xG) (hG : xGood Γ) (hR : xRepC Γ n f) (a : Int32) (b : Bool) : xXi l yX3_hops wsX3_hops rmX3_hops E [.ref (E.2.2.2 0), .int a, .int (bz b)] (n, f, o) 1 (fun r σ' => ocPort Γ a = 0 ∧ (∃ K, xStop (gCb Γ) (gOp Γ) b (xNa a) K ∧ r = nI K) ∧ xOKC Γ n f o σ') (fun X σ' => xX1o (ocPort Γ a) X ∧ xOKC Γ n f o σ') := by
  refine x_startXi RX3 (by decide) rfl rfl (Nat.le_of_ble_eq_true rfl) ?_
  intro p e s m args below meth c ls S hr hlk htab hTh hW hl
  have hx := S.1
  have hb := S.2.1
  have hl : lv_has ls 3 [(0, .ref (E.2.2.2 0)), (1, .int a), (2, .int (bz b))] := hl
  have hno := hG.no
  have hnp := hG.np
  have hnt := hG.nt
  have hnm := hG.nm
  refine lv_aload_n hx hb dX3_hops_0 rfl (lv_at hl 0 rfl) ?_
  refine lv_iload_n hx hb dX3_hops_1 rfl (lv_at hl 1 rfl) ?_
  refine x_XVv (rest := []) S (c_X3_checkPort l E n f o hfl hR.no (by omega) a) (cwV 1 S.2.2.2.2 gX3_hops_X3_checkPort rfl rfl rfl (by decide +kernel) ⟨Nat.le_of_ble_eq_true rfl, Nat.le_of_ble_eq_true rfl⟩) hW hTh htab hlk (fun X σ9 h => ⟨⟨xif_t h.2.1, h.1⟩, by rw [h.2.2]; exact hR.same⟩) (Nat.le_of_ble_eq_true rfl) (Nat.le_of_ble_eq_true rfl) 0 (xw_0 E _) rfl rfl rfl hl.1 (Nat.le_of_ble_eq_true rfl) dX3_hops_2 ⟨Nat.le_of_ble_eq_true rfl, Nat.le_of_ble_eq_true rfl⟩ (fun σ2 H locs hq1 hW => ?_)
  obtain ⟨⟨p2, hp2, rfl⟩, rfl⟩ := hq1
  refine lv_aload_n hx hb dX3_hops_5 rfl (lv_at hl 0 rfl) ?_
  refine lv_iload_n hx hb dX3_hops_6 rfl (lv_at hl 1 rfl) ?_
  refine lv_iload_n hx hb dX3_hops_7 rfl (lv_at hl 2 rfl) ?_
  refine x_Vi (rest := []) S (c_X3_trace l E n f o hG.no (hR.cabM hG) (hR.opM hG) (p1 := p2) hp2 b) (cwV 2 S.2.2.2.2 gX3_hops_X3_trace rfl rfl rfl (by decide +kernel) ⟨Nat.le_of_ble_eq_true rfl, Nat.le_of_ble_eq_true rfl⟩) hW 0 (xw_0 E _) rfl rfl rfl hl.1 (Nat.le_of_ble_eq_true rfl) dX3_hops_8 ⟨Nat.le_of_ble_eq_true rfl, Nat.le_of_ble_eq_true rfl⟩ (fun r8 σ8 H locs hq2 hW => ?_)
  obtain ⟨K8, g8, rfl, rfl, hS8, hg8⟩ := hq2
  obtain ⟨hS8, hg8, hK8⟩ := hR.tr hG hp2 hS8 hg8
  exact x_Xreti S hr hlk hW (Nat.le_of_ble_eq_true rfl) (Nat.le_of_ble_eq_true rfl) dX3_hops_11 (⟨xif_f (not_not_intro (xPn hp2)), ⟨K8, by rw [xNa_n (by omega)]; exact hS8, rfl⟩, hR.trail _⟩)

abbrev rmX3_hopTo : Room := { frames := 7, cells := 2, slots := 12, locals := 103 }
set_option maxHeartbeats 4000000 in
set_option maxRecDepth 100000 in
theorem c_X3_hopTo (l : Launch) (E : xE) (n : Nat → Int32) (f : Nat → Nat → Int32) (o : Nat → Int64) (hfl : l.stackTraces = false) (Γ : xG) (hG : xGood Γ) (hR : xRepC Γ n f) (a : Int32) (b : Bool) (a3 : Int32) : xXi l yX3_hopTo wsX3_hopTo rmX3_hopTo E [.ref (E.2.2.2 0), .int a, .int (bz b), .int a3] (n, f, o) 2 (fun r σ' => ocHop Γ a b a3 = 0 ∧ r = xw (gCb Γ) (gOp Γ) b (xNa a) (xNa a3 + 1) ∧ xOKC Γ n f o σ') (fun X σ' => xX1o (ocHop Γ a b a3) X ∧ xOKC Γ n f o σ') := by
  refine x_startXi RX3 (by decide) rfl rfl (Nat.le_of_ble_eq_true rfl) ?_
  intro p e s m args below meth c ls S hr hlk htab hTh hW hl
  have hx := S.1
  have hb := S.2.1
  have hl : lv_has ls 4 [(0, .ref (E.2.2.2 0)), (1, .int a), (2, .int (bz b)), (3, .int a3)] := hl
  have hinX3 : ∀ w ∈ wsX30, w ∈ wsX3_hopTo := by decide +kernel
  have w133 : Cond.classLink RX3 133 "java/lang/IndexOutOfBoundsException" ∈ wsX3_hopTo := by decide +kernel
  have w64 : Cond.fieldLink RX3 64 "CableBook" "trail" "LCableBook$Row;" ∈ wsX3_hopTo := by decide +kernel
  have wiIO : Cond.initialized "java/lang/IndexOutOfBoundsException" ∈ wsX3_hopTo := by decide +kernel
  have hno := hG.no
  have hnp := hG.np
  have hnt := hG.nt
  have hnm := hG.nm
  refine lv_aload_n hx hb dX3_hopTo_0 rfl (lv_at hl 0 rfl) ?_
  refine lv_iload_n hx hb dX3_hopTo_1 rfl (lv_at hl 1 rfl) ?_
  refine x_XVv (rest := []) S (c_X3_checkPort l E n f o hfl hR.no (by omega) a) (cwV 1 S.2.2.2.2 gX3_hopTo_X3_checkPort rfl rfl rfl (by decide +kernel) ⟨Nat.le_of_ble_eq_true rfl, Nat.le_of_ble_eq_true rfl⟩) hW hTh htab hlk (fun X σ9 h => ⟨⟨xif_t h.2.1, h.1⟩, by rw [h.2.2]; exact hR.same⟩) (Nat.le_of_ble_eq_true rfl) (Nat.le_of_ble_eq_true rfl) 0 (xw_0 E _) rfl rfl rfl hl.1 (Nat.le_of_ble_eq_true rfl) dX3_hopTo_2 ⟨Nat.le_of_ble_eq_true rfl, Nat.le_of_ble_eq_true rfl⟩ (fun σ2 H locs hq1 hW => ?_)
  obtain ⟨⟨p2, hp2, rfl⟩, rfl⟩ := hq1
  refine lv_iload_n hx hb dX3_hopTo_5 rfl (lv_at hl 3 rfl) ?_
  refine lv_iconst (v := 0) hx hb dX3_hopTo_6 (by decide) ?_
  refine lv_aload_n hx hb dX3_hopTo_7 rfl (lv_at hl 0 rfl) ?_
  refine lv_iload_n hx hb dX3_hopTo_8 rfl (lv_at hl 1 rfl) ?_
  refine lv_iload_n hx hb dX3_hopTo_9 rfl (lv_at hl 2 rfl) ?_
  refine x_Vi (rest := [.int 0, .int a3]) S (c_X3_trace l E n f o hG.no (hR.cabM hG) (hR.opM hG) (p1 := p2) hp2 b) (cwV 2 S.2.2.2.2 gX3_hopTo_X3_trace rfl rfl rfl (by decide +kernel) ⟨Nat.le_of_ble_eq_true rfl, Nat.le_of_ble_eq_true rfl⟩) hW 0 (xw_0 E _) rfl rfl rfl hl.1 (Nat.le_of_ble_eq_true rfl) dX3_hopTo_10 ⟨Nat.le_of_ble_eq_true rfl, Nat.le_of_ble_eq_true rfl⟩ (fun r10 σ10 H locs hq2 hW => ?_)
  obtain ⟨K10, g10, rfl, rfl, hS10, hg10⟩ := hq2
  obtain ⟨hS10, hg10, hK10⟩ := hR.tr hG hp2 hS10 hg10
  refine lv_iconst (v := 1) hx hb dX3_hopTo_13 (by decide) ?_
  have hK10b : K10 ≤ 1000 := by omega
  refine lv_isub hx hb dX3_hopTo_14 ?_
  refine x_Si (rest := []) S (c_X3_isWithin l E n (xu f 11 g10) o a3 0 ((nI K10) - 1)) (cwS 3 S.2.2.2.2 gX3_hopTo_X3_isWithin rfl rfl rfl (by decide +kernel) ⟨Nat.le_of_ble_eq_true rfl, Nat.le_of_ble_eq_true rfl⟩) hW rfl rfl hl.1 (Nat.le_of_ble_eq_true rfl) dX3_hopTo_15 ⟨Nat.le_of_ble_eq_true rfl, Nat.le_of_ble_eq_true rfl⟩ (fun r15 σ15 H locs hq3 hW => ?_)
  rcases hq3 with ⟨rfl, h15, rfl⟩ | ⟨rfl, h15, rfl⟩
  · refine lv_if_ne (tgt := 31) hx hb dX3_hopTo_18 (by decide) (fun c18 => ?_) (fun c18 => ?_)
    · exact absurd c18 (by decide)
    exact x_throw (cls := xIO) (text := "no such hop") S hfl hTh hW htab hlk (by decide +kernel) w133 wiIO (by decide +kernel) (fun w hw => List.mem_cons_of_mem _ (List.mem_append_right _ hw)) xng_IO xgd_IO hl.1 dX3_hopTo_21 dX3_hopTo_24 dX3_hopTo_25 dX3_hopTo_27 dX3_hopTo_30 ⟨⟨Nat.le_of_ble_eq_true rfl, Nat.le_of_ble_eq_true rfl⟩, Nat.le_of_ble_eq_true rfl, Nat.le_of_ble_eq_true rfl⟩ (Nat.le_of_ble_eq_true rfl) (Nat.le_of_ble_eq_true rfl) (⟨⟨by rw [ocHop, xif_f (not_not_intro (xPn hp2)), xNa_n (by omega), xif_f (fun ⟨K9, h1, h2⟩ => h15 ((xP_iff hK10b).mpr (by have := h1.uniq hS10; subst this; exact h2)))], rfl⟩, hR.trail _⟩)
  · refine lv_if_ne (tgt := 31) hx hb dX3_hopTo_18 (by decide) (fun c18 => ?_) (fun c18 => ?_)
    rotate_left
    · exact absurd c18 (by decide)
    obtain ⟨h9, hh9, rfl⟩ := (xP_iff hK10b).mp h15
    refine lv_aload_n hx hb dX3_hopTo_31 rfl (lv_at hl 0 rfl) ?_
    refine x_get (v := .ref (E.2.2.2 23)) S hW hinX3 0 (xw_0 E _) rfl 16 (by decide) w64 rfl dX3_hopTo_32 ?_
    refine lv_iload_n hx hb dX3_hopTo_35 rfl (lv_at hl 3 rfl) ?_
    refine x_Vi (rest := []) S (c_X2_at l E n (xu f 11 g10) o (i := 11) (by decide) (k := h9) (show _ < 144 from by omega)) (cwV 1 S.2.2.2.2 gX3_hopTo_X2_at rfl rfl rfl (by decide +kernel) ⟨Nat.le_of_ble_eq_true rfl, Nat.le_of_ble_eq_true rfl⟩) hW 23 (xw_23 E _) rfl rfl rfl hl.1 (Nat.le_of_ble_eq_true rfl) dX3_hopTo_36 ⟨Nat.le_of_ble_eq_true rfl, Nat.le_of_ble_eq_true rfl⟩ (fun r36 σ36 H locs hq4 hW => ?_)
    obtain ⟨rfl, rfl⟩ := hq4
    exact x_Xreti S hr hlk hW (Nat.le_of_ble_eq_true rfl) (Nat.le_of_ble_eq_true rfl) dX3_hopTo_39 (⟨by rw [ocHop, xif_f (not_not_intro (xPn hp2)), xNa_n (by omega)]; exact xif_t ⟨K10, hS10, xPn hh9⟩, by rw [xNa_n (by omega), xNa_n (by omega)]; exact hg10 h9 hh9, hR.trail _⟩)

abbrev rmX3_isRing : Room := { frames := 7, cells := 1, slots := 6, locals := 103 }
set_option maxHeartbeats 4000000 in
set_option maxRecDepth 100000 in
theorem c_X3_isRing (l : Launch) (E : xE) (n : Nat → Int32) (f : Nat → Nat → Int32) (o : Nat → Int64) (hfl : l.stackTraces = false) (Γ : xG) (hG : xGood Γ) (hR : xRepC Γ n f) (a : Int32) : xXi l yX3_isRing wsX3_isRing rmX3_isRing E [.ref (E.2.2.2 0), .int a] (n, f, o) 1 (fun r σ' => ocPort Γ a = 0 ∧ r = xif (∃ K, xStop (gCb Γ) (gOp Γ) true (xNa a) K ∧ 0 < K ∧ xw (gCb Γ) (gOp Γ) true (xNa a) K = a) 1 0 ∧ xOKC Γ n f o σ') (fun X σ' => xX1o (ocPort Γ a) X ∧ xOKC Γ n f o σ') := by
  refine x_startXi RX3 (by decide) rfl rfl (Nat.le_of_ble_eq_true rfl) ?_
  intro p e s m args below meth c ls S hr hlk htab hTh hW hl
  have hx := S.1
  have hb := S.2.1
  have hl : lv_has ls 3 [(0, .ref (E.2.2.2 0)), (1, .int a)] := hl
  have hno := hG.no
  have hnp := hG.np
  have hnt := hG.nt
  have hnm := hG.nm
  refine lv_aload_n hx hb dX3_isRing_0 rfl (lv_at hl 0 rfl) ?_
  refine lv_iload_n hx hb dX3_isRing_1 rfl (lv_at hl 1 rfl) ?_
  refine x_XVv (rest := []) S (c_X3_checkPort l E n f o hfl hR.no (by omega) a) (cwV 1 S.2.2.2.2 gX3_isRing_X3_checkPort rfl rfl rfl (by decide +kernel) ⟨Nat.le_of_ble_eq_true rfl, Nat.le_of_ble_eq_true rfl⟩) hW hTh htab hlk (fun X σ9 h => ⟨⟨xif_t h.2.1, h.1⟩, by rw [h.2.2]; exact hR.same⟩) (Nat.le_of_ble_eq_true rfl) (Nat.le_of_ble_eq_true rfl) 0 (xw_0 E _) rfl rfl rfl hl.1 (Nat.le_of_ble_eq_true rfl) dX3_isRing_2 ⟨Nat.le_of_ble_eq_true rfl, Nat.le_of_ble_eq_true rfl⟩ (fun σ2 H locs hq1 hW => ?_)
  obtain ⟨⟨p2, hp2, rfl⟩, rfl⟩ := hq1
  refine lv_aload_n hx hb dX3_isRing_5 rfl (lv_at hl 0 rfl) ?_
  refine lv_iload_n hx hb dX3_isRing_6 rfl (lv_at hl 1 rfl) ?_
  refine lv_iconst (v := 1) hx hb dX3_isRing_7 (by decide) ?_
  refine x_Vi (rest := []) S (c_X3_trace l E n f o hG.no (hR.cabM hG) (hR.opM hG) (p1 := p2) hp2 true) (cwV 2 S.2.2.2.2 gX3_isRing_X3_trace rfl rfl rfl (by decide +kernel) ⟨Nat.le_of_ble_eq_true rfl, Nat.le_of_ble_eq_true rfl⟩) hW 0 (xw_0 E _) rfl rfl rfl hl.1 (Nat.le_of_ble_eq_true rfl) dX3_isRing_8 ⟨Nat.le_of_ble_eq_true rfl, Nat.le_of_ble_eq_true rfl⟩ (fun r8 σ8 H locs hq2 hW => ?_)
  obtain ⟨K8, g8, rfl, rfl, hS8, hg8⟩ := hq2
  obtain ⟨hS8, hg8, hK8⟩ := hR.tr hG hp2 hS8 hg8
  refine lv_istore_n (lv' := [(2, .int (nI K8)), (0, .ref (E.2.2.2 0)), (1, .int (nI p2))]) hx hb dX3_isRing_11 rfl hl (by decide) rfl (fun ls hl => ?_)
  refine lv_iload_n hx hb dX3_isRing_12 rfl (lv_at hl 0 rfl) ?_
  refine x_if_le (tgt := 30) hx hb dX3_isRing_13 (by decide) (by omega) (fun c13 => ?_) (fun c13 => ?_)
  · refine lv_iconst (v := 0) hx hb dX3_isRing_30 (by decide) ?_
    exact x_Xretz S hr hlk hW (Nat.le_of_ble_eq_true rfl) (Nat.le_of_ble_eq_true rfl) dX3_isRing_31 (Or.inl rfl) (⟨xif_f (not_not_intro (xPn hp2)), by rw [xNa_n (by omega)]; exact (xif_f (fun ⟨K9, h1, h2, h3⟩ => by have := h1.uniq hS8; subst this; first | exact c23 h3 | omega)).symm, hR.trail _⟩)
  · refine lv_aload_n hx hb dX3_isRing_16 rfl (lv_at hl 1 rfl) ?_
    refine lv_iload_n hx hb dX3_isRing_17 rfl (lv_at hl 2 rfl) ?_
    refine lv_iload_n hx hb dX3_isRing_18 rfl (lv_at hl 0 rfl) ?_
    refine x_Vi (rest := []) S (c_X3_endOfTrail l E n (xu f 11 g8) o (nI p2) (K := K8) (by omega)) (cwV 2 S.2.2.2.2 gX3_isRing_X3_endOfTrail rfl rfl rfl (by decide +kernel) ⟨Nat.le_of_ble_eq_true rfl, Nat.le_of_ble_eq_true rfl⟩) hW 0 (xw_0 E _) rfl rfl rfl hl.1 (Nat.le_of_ble_eq_true rfl) dX3_isRing_19 ⟨Nat.le_of_ble_eq_true rfl, Nat.le_of_ble_eq_true rfl⟩ (fun r19 σ19 H locs hq3 hW => ?_)
    obtain ⟨rfl, rfl⟩ := hq3
    refine x_topE (xw (gCb Γ) (gOp Γ) true p2 K8) (xend hg8) ?_
    refine lv_iload_n hx hb dX3_isRing_22 rfl (lv_at hl 2 rfl) ?_
    refine lv_icmp_ne (tgt := 30) hx hb dX3_isRing_23 (by decide) (fun c23 => ?_) (fun c23 => ?_)
    · refine lv_iconst (v := 0) hx hb dX3_isRing_30 (by decide) ?_
      exact x_Xretz S hr hlk hW (Nat.le_of_ble_eq_true rfl) (Nat.le_of_ble_eq_true rfl) dX3_isRing_31 (Or.inl rfl) (⟨xif_f (not_not_intro (xPn hp2)), by rw [xNa_n (by omega)]; exact (xif_f (fun ⟨K9, h1, h2, h3⟩ => by have := h1.uniq hS8; subst this; first | exact c23 h3 | omega)).symm, hR.trail _⟩)
    · refine lv_iconst (v := 1) hx hb dX3_isRing_26 (by decide) ?_
      refine lv_goto (tgt := 31) hx hb dX3_isRing_27 (by decide) ?_
      exact x_Xretz S hr hlk hW (Nat.le_of_ble_eq_true rfl) (Nat.le_of_ble_eq_true rfl) dX3_isRing_31 (Or.inr rfl) (⟨xif_f (not_not_intro (xPn hp2)), by rw [xNa_n (by omega)]; exact (xif_t ⟨K8, hS8, c13, c23⟩).symm, hR.trail _⟩)

abbrev rmX3_areJoined : Room := { frames := 7, cells := 2, slots := 12, locals := 103 }
set_option maxHeartbeats 4000000 in
set_option maxRecDepth 100000 in
theorem c_X3_areJoined (l : Launch) (E : xE) (n : Nat → Int32) (f : Nat → Nat → Int32) (o : Nat → Int64) (hfl : l.stackTraces = false) (Γ : xG) (hG : xGood Γ) (hR : xRepC Γ n f) (a a2 : Int32) : xXi l yX3_areJoined wsX3_areJoined rmX3_areJoined E [.ref (E.2.2.2 0), .int a, .int a2] (n, f, o) 2 (fun r σ' => oc2 Γ a a2 = 0 ∧ r = xif (xR (gNo Γ) (gCb Γ) (gOp Γ) (xNa a) (xNa a2)) 1 0 ∧ xOKC Γ n f o σ') (fun X σ' => xX1o (oc2 Γ a a2) X ∧ xOKC Γ n f o σ') := by
  refine x_startXi RX3 (by decide) rfl rfl (Nat.le_of_ble_eq_true rfl) ?_
  intro p e s m args below meth c ls S hr hlk htab hTh hW hl
  have hx := S.1
  have hb := S.2.1
  have hl : lv_has ls 3 [(0, .ref (E.2.2.2 0)), (1, .int a), (2, .int a2)] := hl
  have hno := hG.no
  have hnp := hG.np
  have hnt := hG.nt
  have hnm := hG.nm
  refine lv_aload_n hx hb dX3_areJoined_0 rfl (lv_at hl 0 rfl) ?_
  refine lv_iload_n hx hb dX3_areJoined_1 rfl (lv_at hl 1 rfl) ?_
  refine x_XVv (rest := []) S (c_X3_checkPort l E n f o hfl hR.no (by omega) a) (cwV 1 S.2.2.2.2 gX3_areJoined_X3_checkPort rfl rfl rfl (by decide +kernel) ⟨Nat.le_of_ble_eq_true rfl, Nat.le_of_ble_eq_true rfl⟩) hW hTh htab hlk (fun X σ9 h => ⟨⟨xif_t (fun q => h.2.1 q.1), h.1⟩, by rw [h.2.2]; exact hR.same⟩) (Nat.le_of_ble_eq_true rfl) (Nat.le_of_ble_eq_true rfl) 0 (xw_0 E _) rfl rfl rfl hl.1 (Nat.le_of_ble_eq_true rfl) dX3_areJoined_2 ⟨Nat.le_of_ble_eq_true rfl, Nat.le_of_ble_eq_true rfl⟩ (fun σ2 H locs hq1 hW => ?_)
  obtain ⟨⟨p2, hp2, rfl⟩, rfl⟩ := hq1
  refine lv_aload_n hx hb dX3_areJoined_5 rfl (lv_at hl 0 rfl) ?_
  refine lv_iload_n hx hb dX3_areJoined_6 rfl (lv_at hl 2 rfl) ?_
  refine x_XVv (rest := []) S (c_X3_checkPort l E n f o hfl hR.no (by omega) a2) (cwV 1 S.2.2.2.2 gX3_areJoined_X3_checkPort rfl rfl rfl (by decide +kernel) ⟨Nat.le_of_ble_eq_true rfl, Nat.le_of_ble_eq_true rfl⟩) hW hTh htab hlk (fun X σ9 h => ⟨⟨xif_t (fun q => h.2.1 q.2), h.1⟩, by rw [h.2.2]; exact hR.same⟩) (Nat.le_of_ble_eq_true rfl) (Nat.le_of_ble_eq_true rfl) 0 (xw_0 E _) rfl rfl rfl hl.1 (Nat.le_of_ble_eq_true rfl) dX3_areJoined_7 ⟨Nat.le_of_ble_eq_true rfl, Nat.le_of_ble_eq_true rfl⟩ (fun σ7 H locs hq2 hW => ?_)
  obtain ⟨⟨p7, hp7, rfl⟩, rfl⟩ := hq2
  refine lv_iload_n hx hb dX3_areJoined_10 rfl (lv_at hl 1 rfl) ?_
  refine lv_iload_n hx hb dX3_areJoined_11 rfl (lv_at hl 2 rfl) ?_
  refine x_icmp_eq (a := p2) (b := p7) (tgt := 43) hx hb dX3_areJoined_12 (by decide) (by omega) (by omega) (fun c12 => ?_) (fun c12 => ?_)
  · refine lv_iconst (v := 1) hx hb dX3_areJoined_43 (by decide) ?_
    refine lv_goto (tgt := 48) hx hb dX3_areJoined_44 (by decide) ?_
    exact x_Xretz S hr hlk hW (Nat.le_of_ble_eq_true rfl) (Nat.le_of_ble_eq_true rfl) dX3_areJoined_48 (Or.inr rfl) (⟨xif_f (not_not_intro ⟨xPn hp2, xPn hp7⟩), by rw [xNa_n (by omega), xNa_n (by omega)]; exact (xif_t (by first | (rw [c12]; exact xR.rf) | (obtain ⟨i, hi, e⟩ := h23; exact xw_R (by omega) hG.cb hG.op hp2 (i + 1) p7 hp7 ((hg20 i hi).symm.trans e)) | (obtain ⟨i, hi, e⟩ := h37; exact xw_R (by omega) hG.cb hG.op hp2 (i + 1) p7 hp7 ((hg34 i hi).symm.trans e)))).symm, by first | exact hR.same | exact hR.trail _⟩)
  · refine lv_aload_n hx hb dX3_areJoined_15 rfl (lv_at hl 0 rfl) ?_
    refine lv_iload_n hx hb dX3_areJoined_16 rfl (lv_at hl 2 rfl) ?_
    refine lv_aload_n hx hb dX3_areJoined_17 rfl (lv_at hl 0 rfl) ?_
    refine lv_iload_n hx hb dX3_areJoined_18 rfl (lv_at hl 1 rfl) ?_
    refine lv_iconst (v := 1) hx hb dX3_areJoined_19 (by decide) ?_
    refine x_Vi (rest := [.int (nI p7), .ref (E.2.2.2 0)]) S (c_X3_trace l E n f o hG.no (hR.cabM hG) (hR.opM hG) (p1 := p2) hp2 true) (cwV 2 S.2.2.2.2 gX3_areJoined_X3_trace rfl rfl rfl (by decide +kernel) ⟨Nat.le_of_ble_eq_true rfl, Nat.le_of_ble_eq_true rfl⟩) hW 0 (xw_0 E _) rfl rfl rfl hl.1 (Nat.le_of_ble_eq_true rfl) dX3_areJoined_20 ⟨Nat.le_of_ble_eq_true rfl, Nat.le_of_ble_eq_true rfl⟩ (fun r20 σ20 H locs hq3 hW => ?_)
    obtain ⟨K20, g20, rfl, rfl, hS20, hg20⟩ := hq3
    obtain ⟨hS20, hg20, hK20⟩ := hR.tr hG hp2 hS20 hg20
    have hR20 : xRepC Γ n (xu f 11 g20) := hR.tlx g20
    refine x_Vi (rest := []) S (c_X3_isOnTrail l E n (xu f 11 g20) o (nI p7) (K := K20) (by omega)) (cwV 2 S.2.2.2.2 gX3_areJoined_X3_isOnTrail rfl rfl rfl (by decide +kernel) ⟨Nat.le_of_ble_eq_true rfl, Nat.le_of_ble_eq_true rfl⟩) hW 0 (xw_0 E _) rfl rfl rfl hl.1 (Nat.le_of_ble_eq_true rfl) dX3_areJoined_23 ⟨Nat.le_of_ble_eq_true rfl, Nat.le_of_ble_eq_true rfl⟩ (fun r23 σ23 H locs hq4 hW => ?_)
    rcases hq4 with ⟨rfl, h23, rfl⟩ | ⟨rfl, h23, rfl⟩
    · refine lv_if_ne (tgt := 43) hx hb dX3_areJoined_26 (by decide) (fun c26 => ?_) (fun c26 => ?_)
      · exact absurd c26 (by decide)
      refine lv_aload_n hx hb dX3_areJoined_29 rfl (lv_at hl 0 rfl) ?_
      refine lv_iload_n hx hb dX3_areJoined_30 rfl (lv_at hl 2 rfl) ?_
      refine lv_aload_n hx hb dX3_areJoined_31 rfl (lv_at hl 0 rfl) ?_
      refine lv_iload_n hx hb dX3_areJoined_32 rfl (lv_at hl 1 rfl) ?_
      refine lv_iconst (v := 0) hx hb dX3_areJoined_33 (by decide) ?_
      refine x_Vi (rest := [.int (nI p7), .ref (E.2.2.2 0)]) S (c_X3_trace l E n (xu f 11 g20) o hG.no (hR20.cabM hG) (hR20.opM hG) (p1 := p2) hp2 false) (cwV 2 S.2.2.2.2 gX3_areJoined_X3_trace rfl rfl rfl (by decide +kernel) ⟨Nat.le_of_ble_eq_true rfl, Nat.le_of_ble_eq_true rfl⟩) hW 0 (xw_0 E _) rfl rfl rfl hl.1 (Nat.le_of_ble_eq_true rfl) dX3_areJoined_34 ⟨Nat.le_of_ble_eq_true rfl, Nat.le_of_ble_eq_true rfl⟩ (fun r34 σ34 H locs hq5 hW => ?_)
      obtain ⟨K34, g34, rfl, rfl, hS34, hg34⟩ := hq5
      have hW : xSt E (n, (xu f 11 g34), o) s s.heap H locs := by have h9 := hW; rw [show ((n, (xu f 11 g34), o) : xS) = (n, (xu (xu f 11 g20) 11 g34), o) from by rw [xu_xu]]; exact h9
      obtain ⟨hS34, hg34, hK34⟩ := hR20.tr hG hp2 hS34 hg34
      refine x_Vi (rest := []) S (c_X3_isOnTrail l E n (xu f 11 g34) o (nI p7) (K := K34) (by omega)) (cwV 2 S.2.2.2.2 gX3_areJoined_X3_isOnTrail rfl rfl rfl (by decide +kernel) ⟨Nat.le_of_ble_eq_true rfl, Nat.le_of_ble_eq_true rfl⟩) hW 0 (xw_0 E _) rfl rfl rfl hl.1 (Nat.le_of_ble_eq_true rfl) dX3_areJoined_37 ⟨Nat.le_of_ble_eq_true rfl, Nat.le_of_ble_eq_true rfl⟩ (fun r37 σ37 H locs hq6 hW => ?_)
      rcases hq6 with ⟨rfl, h37, rfl⟩ | ⟨rfl, h37, rfl⟩
      · refine lv_if_eq (tgt := 47) hx hb dX3_areJoined_40 (by decide) (fun c40 => ?_) (fun c40 => ?_)
        rotate_left
        · exact absurd c40 (by decide)
        refine lv_iconst (v := 0) hx hb dX3_areJoined_47 (by decide) ?_
        exact x_Xretz S hr hlk hW (Nat.le_of_ble_eq_true rfl) (Nat.le_of_ble_eq_true rfl) dX3_areJoined_48 (Or.inl rfl) (⟨xif_f (not_not_intro ⟨xPn hp2, xPn hp7⟩), by rw [xNa_n (by omega), xNa_n (by omega)]; exact (xif_f (fun hq => by rcases (xline (by omega) hG.cb hG.op hp2 hS20 hS34 hp7).mp hq with e | ⟨k, hk, e⟩ | ⟨k, hk, e⟩; exact c12 e.symm; exact h23 ⟨k, hk, (hg20 k hk).trans e⟩; exact h37 ⟨k, hk, (hg34 k hk).trans e⟩)).symm, hR.trail _⟩)
      · refine lv_if_eq (tgt := 47) hx hb dX3_areJoined_40 (by decide) (fun c40 => ?_) (fun c40 => ?_)
        · exact absurd c40 (by decide)
        refine lv_iconst (v := 1) hx hb dX3_areJoined_43 (by decide) ?_
        refine lv_goto (tgt := 48) hx hb dX3_areJoined_44 (by decide) ?_
        exact x_Xretz S hr hlk hW (Nat.le_of_ble_eq_true rfl) (Nat.le_of_ble_eq_true rfl) dX3_areJoined_48 (Or.inr rfl) (⟨xif_f (not_not_intro ⟨xPn hp2, xPn hp7⟩), by rw [xNa_n (by omega), xNa_n (by omega)]; exact (xif_t (by first | (rw [c12]; exact xR.rf) | (obtain ⟨i, hi, e⟩ := h23; exact xw_R (by omega) hG.cb hG.op hp2 (i + 1) p7 hp7 ((hg20 i hi).symm.trans e)) | (obtain ⟨i, hi, e⟩ := h37; exact xw_R (by omega) hG.cb hG.op hp2 (i + 1) p7 hp7 ((hg34 i hi).symm.trans e)))).symm, by first | exact hR.same | exact hR.trail _⟩)
    · refine lv_if_ne (tgt := 43) hx hb dX3_areJoined_26 (by decide) (fun c26 => ?_) (fun c26 => ?_)
      rotate_left
      · exact absurd c26 (by decide)
      refine lv_iconst (v := 1) hx hb dX3_areJoined_43 (by decide) ?_
      refine lv_goto (tgt := 48) hx hb dX3_areJoined_44 (by decide) ?_
      exact x_Xretz S hr hlk hW (Nat.le_of_ble_eq_true rfl) (Nat.le_of_ble_eq_true rfl) dX3_areJoined_48 (Or.inr rfl) (⟨xif_f (not_not_intro ⟨xPn hp2, xPn hp7⟩), by rw [xNa_n (by omega), xNa_n (by omega)]; exact (xif_t (by first | (rw [c12]; exact xR.rf) | (obtain ⟨i, hi, e⟩ := h23; exact xw_R (by omega) hG.cb hG.op hp2 (i + 1) p7 hp7 ((hg20 i hi).symm.trans e)) | (obtain ⟨i, hi, e⟩ := h37; exact xw_R (by omega) hG.cb hG.op hp2 (i + 1) p7 hp7 ((hg34 i hi).symm.trans e)))).symm, by first | exact hR.same | exact hR.trail _⟩)

abbrev rmX3_areJoinedBySearch : Room := { frames := 7, cells := 2, slots := 12, locals := 103 }
set_option maxHeartbeats 4000000 in
set_option maxRecDepth 100000 in
theorem c_X3_areJoinedBySearch (l : Launch) (E : xE) (n : Nat → Int32) (f : Nat → Nat → Int32) (o : Nat → Int64) (hfl : l.stackTraces = false) (Γ : xG) (hG : xGood Γ) (hR : xRepC Γ n f) (a a2 : Int32) : xXi l yX3_areJoinedBySearch wsX3_areJoinedBySearch rmX3_areJoinedBySearch E [.ref (E.2.2.2 0), .int a, .int a2] (n, f, o) 2 (fun r σ' => oc2 Γ a a2 = 0 ∧ r = xif (xR (gNo Γ) (gCb Γ) (gOp Γ) (xNa a) (xNa a2)) 1 0 ∧ xOKC Γ n f o σ') (fun X σ' => xX1o (oc2 Γ a a2) X ∧ xOKC Γ n f o σ') := by
  refine x_startXi RX3 (by decide) rfl rfl (Nat.le_of_ble_eq_true rfl) ?_
  intro p e s m args below meth c ls S hr hlk htab hTh hW hl
  have hx := S.1
  have hb := S.2.1
  have hl : lv_has ls 3 [(0, .ref (E.2.2.2 0)), (1, .int a), (2, .int a2)] := hl
  have hinX3 : ∀ w ∈ wsX30, w ∈ wsX3_areJoinedBySearch := by decide +kernel
  have w70 : Cond.fieldLink RX3 70 "CableBook" "found" "LCableBook$Marks;" ∈ wsX3_areJoinedBySearch := by decide +kernel
  have hno := hG.no
  have hnp := hG.np
  have hnt := hG.nt
  have hnm := hG.nm
  refine lv_aload_n hx hb dX3_areJoinedBySearch_0 rfl (lv_at hl 0 rfl) ?_
  refine lv_iload_n hx hb dX3_areJoinedBySearch_1 rfl (lv_at hl 1 rfl) ?_
  refine x_XVv (rest := []) S (c_X3_checkPort l E n f o hfl hR.no (by omega) a) (cwV 1 S.2.2.2.2 gX3_areJoinedBySearch_X3_checkPort rfl rfl rfl (by decide +kernel) ⟨Nat.le_of_ble_eq_true rfl, Nat.le_of_ble_eq_true rfl⟩) hW hTh htab hlk (fun X σ9 h => ⟨⟨xif_t (fun q => h.2.1 q.1), h.1⟩, by rw [h.2.2]; exact hR.same⟩) (Nat.le_of_ble_eq_true rfl) (Nat.le_of_ble_eq_true rfl) 0 (xw_0 E _) rfl rfl rfl hl.1 (Nat.le_of_ble_eq_true rfl) dX3_areJoinedBySearch_2 ⟨Nat.le_of_ble_eq_true rfl, Nat.le_of_ble_eq_true rfl⟩ (fun σ2 H locs hq1 hW => ?_)
  obtain ⟨⟨p2, hp2, rfl⟩, rfl⟩ := hq1
  refine lv_aload_n hx hb dX3_areJoinedBySearch_5 rfl (lv_at hl 0 rfl) ?_
  refine lv_iload_n hx hb dX3_areJoinedBySearch_6 rfl (lv_at hl 2 rfl) ?_
  refine x_XVv (rest := []) S (c_X3_checkPort l E n f o hfl hR.no (by omega) a2) (cwV 1 S.2.2.2.2 gX3_areJoinedBySearch_X3_checkPort rfl rfl rfl (by decide +kernel) ⟨Nat.le_of_ble_eq_true rfl, Nat.le_of_ble_eq_true rfl⟩) hW hTh htab hlk (fun X σ9 h => ⟨⟨xif_t (fun q => h.2.1 q.2), h.1⟩, by rw [h.2.2]; exact hR.same⟩) (Nat.le_of_ble_eq_true rfl) (Nat.le_of_ble_eq_true rfl) 0 (xw_0 E _) rfl rfl rfl hl.1 (Nat.le_of_ble_eq_true rfl) dX3_areJoinedBySearch_7 ⟨Nat.le_of_ble_eq_true rfl, Nat.le_of_ble_eq_true rfl⟩ (fun σ7 H locs hq2 hW => ?_)
  obtain ⟨⟨p7, hp7, rfl⟩, rfl⟩ := hq2
  refine lv_aload_n hx hb dX3_areJoinedBySearch_10 rfl (lv_at hl 0 rfl) ?_
  refine lv_iload_n hx hb dX3_areJoinedBySearch_11 rfl (lv_at hl 1 rfl) ?_
  refine x_Vv (rest := []) S (c_X3_searchFrom l E n f o hG.no (hR.cabM hG) (hR.opM hG) (p1 := p2) hp2) (cwV 1 S.2.2.2.2 gX3_areJoinedBySearch_X3_searchFrom rfl rfl rfl (by decide +kernel) ⟨Nat.le_of_ble_eq_true rfl, Nat.le_of_ble_eq_true rfl⟩) hW 0 (xw_0 E _) rfl rfl rfl hl.1 (Nat.le_of_ble_eq_true rfl) dX3_areJoinedBySearch_12 ⟨Nat.le_of_ble_eq_true rfl, Nat.le_of_ble_eq_true rfl⟩ (fun σ12 H locs hq3 hW => ?_)
  obtain ⟨F12, rfl, hF12, hs12⟩ := hq3
  refine lv_aload_n hx hb dX3_areJoinedBySearch_15 rfl (lv_at hl 0 rfl) ?_
  refine x_get (v := .ref (E.2.2.2 37)) S hW hinX3 0 (xw_0 E _) rfl 18 (by decide) w70 rfl dX3_areJoinedBySearch_16 ?_
  refine lv_iload_n hx hb dX3_areJoinedBySearch_19 rfl (lv_at hl 2 rfl) ?_
  refine x_Vi (rest := []) S (c_X0_has l E n F12 o (i := 1) (by decide) (k := p7) (by omega)) (cwV 1 S.2.2.2.2 gX3_areJoinedBySearch_X0_has rfl rfl rfl (by decide +kernel) ⟨Nat.le_of_ble_eq_true rfl, Nat.le_of_ble_eq_true rfl⟩) hW 37 (xw_37 E _) rfl rfl rfl hl.1 (Nat.le_of_ble_eq_true rfl) dX3_areJoinedBySearch_20 ⟨Nat.le_of_ble_eq_true rfl, Nat.le_of_ble_eq_true rfl⟩ (fun r20 σ20 H locs hq4 hW => ?_)
  rcases hq4 with ⟨rfl, h20, rfl⟩ | ⟨rfl, h20, rfl⟩
  · replace h20 : (F12 18) p7 = 0 := Classical.not_not.mp h20
    exact x_Xretz S hr hlk hW (Nat.le_of_ble_eq_true rfl) (Nat.le_of_ble_eq_true rfl) dX3_areJoinedBySearch_23 (Or.inl rfl) (⟨xif_f (not_not_intro ⟨xPn hp2, xPn hp7⟩), by rw [xNa_n (by omega), xNa_n (by omega)]; exact (xif_f (fun hq => ((hs12 p7 hp7).mpr (xR_congr (fun q hq => (hR.cb q (by omega)).symm) (fun q hq => (hR.opE hG q hq).symm) hq)) h20)).symm, hR.srch hF12⟩)
  · replace h20 : (F12 18) p7 ≠ 0 := h20
    exact x_Xretz S hr hlk hW (Nat.le_of_ble_eq_true rfl) (Nat.le_of_ble_eq_true rfl) dX3_areJoinedBySearch_23 (Or.inr rfl) (⟨xif_f (not_not_intro ⟨xPn hp2, xPn hp7⟩), by rw [xNa_n (by omega), xNa_n (by omega)]; exact (xif_t (xR_congr (fun q hq => hR.cb q (by omega)) (hR.opE hG) ((hs12 p7 hp7).mp h20))).symm, hR.srch hF12⟩)

abbrev rmX3_cables : Room := { frames := 2, cells := 0, slots := 0, locals := 42 }
set_option maxHeartbeats 4000000 in
set_option maxRecDepth 100000 in
theorem c_X3_cables (l : Launch) (E : xE) (n : Nat → Int32) (f : Nat → Nat → Int32) (o : Nat → Int64) (Γ : xG) (hG : xGood Γ) (hR : xRepC Γ n f) : xCi l yX3_cables wsX3_cables rmX3_cables E [.ref (E.2.2.2 0)] (n, f, o) (fun r σ' => r = nI (xcnt (fun q => nI q < gCb Γ q) (gNo Γ)) ∧ xOKC Γ n f o σ') := by
  refine x_starti RX3 (by decide) rfl rfl (Nat.le_of_ble_eq_true rfl) ?_
  intro p e s m args below meth c ls S hr hlk hW hl
  have hx := S.1
  have hb := S.2.1
  have hl : lv_has ls 3 [(0, .ref (E.2.2.2 0))] := hl
  have hinX3 : ∀ w ∈ wsX30, w ∈ wsX3_cables := by decide +kernel
  have w77 : Cond.fieldLink RX3 77 "CableBook" "portCount" "I" ∈ wsX3_cables := by decide +kernel
  have hno := hG.no
  have hnp := hG.np
  have hnt := hG.nt
  have hnm := hG.nm
  refine lv_iconst (v := 0) hx hb dX3_cables_0 (by decide) ?_
  refine lv_istore_n (lv' := [(1, .int 0), (0, .ref (E.2.2.2 0))]) hx hb dX3_cables_1 rfl hl (by decide) rfl (fun ls hl => ?_)
  refine lv_iconst (v := 0) hx hb dX3_cables_2 (by decide) ?_
  refine lv_istore_n (lv' := [(2, .int 0), (1, .int 0), (0, .ref (E.2.2.2 0))]) hx hb dX3_cables_3 rfl hl (by decide) rfl (fun ls hl => ?_)
  have L4 : ∀ (fu4 : Nat) (i : Nat) (hμ : gNo Γ + 1 - i < fu4) (hi : i ≤ gNo Γ) (H : Heap) (locs : List Loc) (ls : Array Slot), xSt E (n, f, o) s s.heap H locs → lv_has ls 3 [(0, .ref (E.2.2.2 0)), (1, .int (nI (xcnt (fun q => nI q < gCb Γ q) i))), (2, .int (nI i))] → W p l e rmX3_cables s m args below meth c H locs 0 0 (MQ below (va_Qi (fun r σ' => r = nI (xcnt (fun q => nI q < gCb Γ q) (gNo Γ)) ∧ xOKC Γ n f o σ') (xWd E) (xA E)) args s 0 0 (xA E)) (F0 m 4 ls []) := by
    intro fu4
    induction fu4 with
    | zero => intro i hμ; exact absurd hμ (Nat.not_lt_zero _)
    | succ fu4 L4 =>
      intro i hμ hi H locs ls hW hl
      have hx9 := xcnt_le (fun q => nI q < gCb Γ q) i
      refine lv_iload_n hx hb dX3_cables_4 rfl (lv_at hl 2 rfl) ?_
      refine lv_aload_n hx hb dX3_cables_5 rfl (lv_at hl 0 rfl) ?_
      refine x_get (v := .int (n 1)) S hW hinX3 0 (xw_0 E _) rfl 4 (by decide) w77 rfl dX3_cables_6 ?_
      refine x_topN (gNo Γ) (hR.no) ?_
      refine x_icmp_ge (a := i) (b := gNo Γ) (tgt := 29) hx hb dX3_cables_9 (by decide) (by omega) (by omega) (fun c9 => ?_) (fun c9 => ?_)
      · refine lv_iload_n hx hb dX3_cables_29 rfl (lv_at hl 1 rfl) ?_
        exact x_reti S hr hlk hW dX3_cables_30 (⟨by rw [show i = gNo Γ by omega], hR.same⟩)
      · refine lv_aload_n hx hb dX3_cables_12 rfl (lv_at hl 0 rfl) ?_
        refine lv_iload_n hx hb dX3_cables_13 rfl (lv_at hl 2 rfl) ?_
        refine x_Vi (rest := []) S (c_X3_isLowerEnd l E n f o (p1 := i) (by omega)) (cwV 1 S.2.2.2.2 gX3_cables_X3_isLowerEnd rfl rfl rfl (by decide +kernel) ⟨Nat.le_of_ble_eq_true rfl, Nat.le_of_ble_eq_true rfl⟩) hW 0 (xw_0 E _) rfl rfl rfl hl.1 (Nat.le_of_ble_eq_true rfl) dX3_cables_14 ⟨Nat.zero_le _, Nat.zero_le _⟩ (fun r14 σ14 H locs hq1 hW => ?_)
        rcases hq1 with ⟨rfl, h14, rfl⟩ | ⟨rfl, h14, rfl⟩
        · rw [hR.cb i (by omega)] at h14
          refine lv_if_eq (tgt := 23) hx hb dX3_cables_17 (by decide) (fun c17 => ?_) (fun c17 => ?_)
          rotate_left
          · exact absurd c17 (by decide)
          refine lv_iinc (v := (nI (i + 1))) (lv' := [(2, .int (nI (i + 1))), (0, .ref (E.2.2.2 0)), (1, .int (nI (xcnt (fun q => nI q < gCb Γ q) i)))]) hx hb dX3_cables_23 hl (k := 2) rfl (x_inc _) (by decide) rfl (fun ls hl => ?_)
          refine lv_goto (tgt := 4) hx hb dX3_cables_26 (by decide) ?_
          rw [show xcnt (fun q => nI q < gCb Γ q) i = xcnt (fun q => nI q < gCb Γ q) (i + 1) from (xcnt_f h14).symm] at hl
          exact L4  (i + 1) (by omega) (by omega) _ _ _ hW (lv_sub hl [1, 2, 0] rfl)
        · rw [hR.cb i (by omega)] at h14
          refine lv_if_eq (tgt := 23) hx hb dX3_cables_17 (by decide) (fun c17 => ?_) (fun c17 => ?_)
          · exact absurd c17 (by decide)
          refine lv_iinc (v := (nI (xcnt (fun q => nI q < gCb Γ q) i + 1))) (lv' := [(1, .int (nI (xcnt (fun q => nI q < gCb Γ q) i + 1))), (0, .ref (E.2.2.2 0)), (2, .int (nI i))]) hx hb dX3_cables_20 hl (k := 1) rfl (x_inc _) (by decide) rfl (fun ls hl => ?_)
          refine lv_iinc (v := (nI (i + 1))) (lv' := [(2, .int (nI (i + 1))), (1, .int (nI (xcnt (fun q => nI q < gCb Γ q) i + 1))), (0, .ref (E.2.2.2 0))]) hx hb dX3_cables_23 hl (k := 2) rfl (x_inc _) (by decide) rfl (fun ls hl => ?_)
          refine lv_goto (tgt := 4) hx hb dX3_cables_26 (by decide) ?_
          rw [show xcnt (fun q => nI q < gCb Γ q) i + 1 = xcnt (fun q => nI q < gCb Γ q) (i + 1) from (xcnt_t h14).symm] at hl
          exact L4  (i + 1) (by omega) (by omega) _ _ _ hW (lv_sub hl [2, 1, 0] rfl)
  exact L4 _ (0) (Nat.lt_succ_self _) (by omega) _ _ _ hW (lv_sub hl [2, 1, 0] rfl)

abbrev rmX3_cableLength : Room := { frames := 2, cells := 0, slots := 0, locals := 65 }
set_option maxHeartbeats 4000000 in
set_option maxRecDepth 100000 in
theorem c_X3_cableLength (l : Launch) (E : xE) (n : Nat → Int32) (f : Nat → Nat → Int32) (o : Nat → Int64) (Γ : xG) (hG : xGood Γ) (hR : xRepC Γ n f) : xCi l yX3_cableLength wsX3_cableLength rmX3_cableLength E [.ref (E.2.2.2 0)] (n, f, o) (fun r σ' => r = gSum Γ (gNo Γ) ∧ xOKC Γ n f o σ') := by
  refine x_starti RX3 (by decide) rfl rfl (Nat.le_of_ble_eq_true rfl) ?_
  intro p e s m args below meth c ls S hr hlk hW hl
  have hx := S.1
  have hb := S.2.1
  have hl : lv_has ls 3 [(0, .ref (E.2.2.2 0))] := hl
  have hinX3 : ∀ w ∈ wsX30, w ∈ wsX3_cableLength := by decide +kernel
  have w27 : Cond.fieldLink RX3 27 "CableBook" "cableTo" "LCableBook$Row;" ∈ wsX3_cableLength := by decide +kernel
  have w77 : Cond.fieldLink RX3 77 "CableBook" "portCount" "I" ∈ wsX3_cableLength := by decide +kernel
  have hno := hG.no
  have hnp := hG.np
  have hnt := hG.nt
  have hnm := hG.nm
  refine lv_iconst (v := 0) hx hb dX3_cableLength_0 (by decide) ?_
  refine lv_istore_n (lv' := [(1, .int 0), (0, .ref (E.2.2.2 0))]) hx hb dX3_cableLength_1 rfl hl (by decide) rfl (fun ls hl => ?_)
  refine lv_iconst (v := 0) hx hb dX3_cableLength_2 (by decide) ?_
  refine lv_istore_n (lv' := [(2, .int 0), (1, .int 0), (0, .ref (E.2.2.2 0))]) hx hb dX3_cableLength_3 rfl hl (by decide) rfl (fun ls hl => ?_)
  have L4 : ∀ (fu4 : Nat) (i : Nat) (hμ : gNo Γ + 1 - i < fu4) (hi : i ≤ gNo Γ) (H : Heap) (locs : List Loc) (ls : Array Slot), xSt E (n, f, o) s s.heap H locs → lv_has ls 3 [(0, .ref (E.2.2.2 0)), (1, .int (gSum Γ i)), (2, .int (nI i))] → W p l e rmX3_cableLength s m args below meth c H locs 0 0 (MQ below (va_Qi (fun r σ' => r = gSum Γ (gNo Γ) ∧ xOKC Γ n f o σ') (xWd E) (xA E)) args s 0 0 (xA E)) (F0 m 4 ls []) := by
    intro fu4
    induction fu4 with
    | zero => intro i hμ; exact absurd hμ (Nat.not_lt_zero _)
    | succ fu4 L4 =>
      intro i hμ hi H locs ls hW hl
      refine lv_iload_n hx hb dX3_cableLength_4 rfl (lv_at hl 2 rfl) ?_
      refine lv_aload_n hx hb dX3_cableLength_5 rfl (lv_at hl 0 rfl) ?_
      refine x_get (v := .int (n 1)) S hW hinX3 0 (xw_0 E _) rfl 4 (by decide) w77 rfl dX3_cableLength_6 ?_
      refine x_topN (gNo Γ) (hR.no) ?_
      refine x_icmp_ge (a := i) (b := gNo Γ) (tgt := 42) hx hb dX3_cableLength_9 (by decide) (by omega) (by omega) (fun c9 => ?_) (fun c9 => ?_)
      · refine lv_iload_n hx hb dX3_cableLength_42 rfl (lv_at hl 1 rfl) ?_
        exact x_reti S hr hlk hW dX3_cableLength_43 (⟨by rw [show i = gNo Γ by omega], hR.same⟩)
      · refine lv_aload_n hx hb dX3_cableLength_12 rfl (lv_at hl 0 rfl) ?_
        refine lv_iload_n hx hb dX3_cableLength_13 rfl (lv_at hl 2 rfl) ?_
        refine x_Vi (rest := []) S (c_X3_isLowerEnd l E n f o (p1 := i) (by omega)) (cwV 1 S.2.2.2.2 gX3_cableLength_X3_isLowerEnd rfl rfl rfl (by decide +kernel) ⟨Nat.le_of_ble_eq_true rfl, Nat.le_of_ble_eq_true rfl⟩) hW 0 (xw_0 E _) rfl rfl rfl hl.1 (Nat.le_of_ble_eq_true rfl) dX3_cableLength_14 ⟨Nat.zero_le _, Nat.zero_le _⟩ (fun r14 σ14 H locs hq1 hW => ?_)
        rcases hq1 with ⟨rfl, h14, rfl⟩ | ⟨rfl, h14, rfl⟩
        · rw [hR.cb i (by omega)] at h14
          refine lv_if_eq (tgt := 36) hx hb dX3_cableLength_17 (by decide) (fun c17 => ?_) (fun c17 => ?_)
          rotate_left
          · exact absurd c17 (by decide)
          refine lv_iinc (v := (nI (i + 1))) (lv' := [(2, .int (nI (i + 1))), (0, .ref (E.2.2.2 0)), (1, .int (gSum Γ i))]) hx hb dX3_cableLength_36 hl (k := 2) rfl (x_inc _) (by decide) rfl (fun ls hl => ?_)
          refine lv_goto (tgt := 4) hx hb dX3_cableLength_39 (by decide) ?_
          rw [show gSum Γ i = gSum Γ (i + 1) by rw [gSum, xif_f h14]; exact (Int32.add_zero _).symm] at hl
          exact L4  (i + 1) (by omega) (by omega) _ _ _ hW (lv_sub hl [1, 2, 0] rfl)
        · rw [hR.cb i (by omega)] at h14
          obtain ⟨z, hz, -, ez, -⟩ := (hG.cb i (by omega)).resolve_left (fun e => by rw [e] at h14; exact absurd h14 (Int32.not_lt.mpr (Int32.le_trans (by decide) (nI_pos' (n := i) (by omega)))))
          refine lv_if_eq (tgt := 36) hx hb dX3_cableLength_17 (by decide) (fun c17 => ?_) (fun c17 => ?_)
          · exact absurd c17 (by decide)
          refine lv_iload_n hx hb dX3_cableLength_20 rfl (lv_at hl 1 rfl) ?_
          refine lv_aload_n hx hb dX3_cableLength_21 rfl (lv_at hl 0 rfl) ?_
          refine lv_iload_n hx hb dX3_cableLength_22 rfl (lv_at hl 2 rfl) ?_
          refine lv_aload_n hx hb dX3_cableLength_23 rfl (lv_at hl 0 rfl) ?_
          refine x_get (v := .ref (E.2.2.2 9)) S hW hinX3 0 (xw_0 E _) rfl 6 (by decide) w27 rfl dX3_cableLength_24 ?_
          refine lv_iload_n hx hb dX3_cableLength_27 rfl (lv_at hl 2 rfl) ?_
          refine x_Vi (rest := [.int (nI i), .ref (E.2.2.2 0), .int (gSum Γ i)]) S (c_X2_at l E n f o (i := 4) (by decide) (k := i) (show _ < 144 from by omega)) (cwV 1 S.2.2.2.2 gX3_cableLength_X2_at rfl rfl rfl (by decide +kernel) ⟨Nat.le_of_ble_eq_true rfl, Nat.le_of_ble_eq_true rfl⟩) hW 9 (xw_9 E _) rfl rfl rfl hl.1 (Nat.le_of_ble_eq_true rfl) dX3_cableLength_28 ⟨Nat.zero_le _, Nat.zero_le _⟩ (fun r28 σ28 H locs hq2 hW => ?_)
          obtain ⟨rfl, rfl⟩ := hq2
          refine x_topN (z) ((hR.cb i (by omega)).trans ez) ?_
          refine x_Vi (rest := [.int (gSum Γ i)]) S (c_X3_lengthBetween l E n f o (p1 := i) (by omega) (p2 := z) (by omega) (by have := (hG.pn i (by omega)).1; omega) (by have := (hG.pn z (by omega)).1; omega) (hR.pn i (by omega)) (hR.pn z (by omega))) (cwV 2 S.2.2.2.2 gX3_cableLength_X3_lengthBetween rfl rfl rfl (by decide +kernel) ⟨Nat.le_of_ble_eq_true rfl, Nat.le_of_ble_eq_true rfl⟩) hW 0 (xw_0 E _) rfl rfl rfl hl.1 (Nat.le_of_ble_eq_true rfl) dX3_cableLength_31 ⟨Nat.zero_le _, Nat.zero_le _⟩ (fun r31 σ31 H locs hq3 hW => ?_)
          obtain ⟨e31, rfl⟩ := hq3
          have e31 : r31 = xlen (gRk Γ) (gPn Γ i) (gPn Γ z) := e31.trans (xlen_c (hR.rk _ (hG.pn i (by omega)).1) (hR.rk _ (hG.pn z (by omega)).1))
          subst e31
          refine lv_iadd hx hb dX3_cableLength_34 ?_
          refine x_topE (gSum Γ (i + 1)) (by rw [gSum, xif_t h14, ez, xNa_n (by omega)]) ?_
          refine lv_istore_n (lv' := [(1, .int (gSum Γ (i + 1))), (0, .ref (E.2.2.2 0)), (2, .int (nI i))]) hx hb dX3_cableLength_35 rfl hl (by decide) rfl (fun ls hl => ?_)
          refine lv_iinc (v := (nI (i + 1))) (lv' := [(2, .int (nI (i + 1))), (1, .int (gSum Γ (i + 1))), (0, .ref (E.2.2.2 0))]) hx hb dX3_cableLength_36 hl (k := 2) rfl (x_inc _) (by decide) rfl (fun ls hl => ?_)
          refine lv_goto (tgt := 4) hx hb dX3_cableLength_39 (by decide) ?_
          exact L4  (i + 1) (by omega) (by omega) _ _ _ hW (lv_sub hl [2, 1, 0] rfl)
  exact L4 _ (0) (Nat.lt_succ_self _) (by omega) _ _ _ hW (lv_sub hl [2, 1, 0] rfl)

abbrev rmX3_freePort : Room := { frames := 7, cells := 1, slots := 6, locals := 103 }
set_option maxHeartbeats 4000000 in
set_option maxRecDepth 100000 in
theorem c_X3_freePort (l : Launch) (E : xE) (n : Nat → Int32) (f : Nat → Nat → Int32) (o : Nat → Int64) (hfl : l.stackTraces = false) (Γ : xG) (hG : xGood Γ) (hR : xRepC Γ n f) (a : Int32) : xXi l yX3_freePort wsX3_freePort rmX3_freePort E [.ref (E.2.2.2 0), .int a] (n, f, o) 1 (fun r σ' => ocPanel Γ a = 0 ∧ xFF (fun q => gCb Γ q = -1 ∧ gSt Γ q = -1) (gFs Γ (xNa a)) (gFs Γ (xNa a + 1) - gFs Γ (xNa a)) r ∧ xOKC Γ n f o σ') (fun X σ' => xX1o (ocPanel Γ a) X ∧ xOKC Γ n f o σ') := by
  refine x_startXi RX3 (by decide) rfl rfl (Nat.le_of_ble_eq_true rfl) ?_
  intro p e s m args below meth c ls S hr hlk htab hTh hW hl
  have hx := S.1
  have hb := S.2.1
  have hl : lv_has ls 5 [(0, .ref (E.2.2.2 0)), (1, .int a)] := hl
  have hinX3 : ∀ w ∈ wsX30, w ∈ wsX3_freePort := by decide +kernel
  have w18 : Cond.fieldLink RX3 18 "CableBook" "firstPortOf" "LCableBook$Row;" ∈ wsX3_freePort := by decide +kernel
  have w21 : Cond.fieldLink RX3 21 "CableBook" "portCountOf" "LCableBook$Row;" ∈ wsX3_freePort := by decide +kernel
  have hno := hG.no
  have hnp := hG.np
  have hnt := hG.nt
  have hnm := hG.nm
  refine lv_aload_n hx hb dX3_freePort_0 rfl (lv_at hl 0 rfl) ?_
  refine lv_iload_n hx hb dX3_freePort_1 rfl (lv_at hl 1 rfl) ?_
  refine x_XVv (rest := []) S (c_X3_checkPanel l E n f o hfl hR.np (by omega) a) (cwV 1 S.2.2.2.2 gX3_freePort_X3_checkPanel rfl rfl rfl (by decide +kernel) ⟨Nat.le_of_ble_eq_true rfl, Nat.le_of_ble_eq_true rfl⟩) hW hTh htab hlk (fun X σ9 h => ⟨⟨xif_t h.2.1, h.1⟩, by rw [h.2.2]; exact hR.same⟩) (Nat.le_of_ble_eq_true rfl) (Nat.le_of_ble_eq_true rfl) 0 (xw_0 E _) rfl rfl rfl hl.1 (Nat.le_of_ble_eq_true rfl) dX3_freePort_2 ⟨Nat.le_of_ble_eq_true rfl, Nat.le_of_ble_eq_true rfl⟩ (fun σ2 H locs hq1 hW => ?_)
  obtain ⟨⟨p2, hp2, rfl⟩, rfl⟩ := hq1
  refine lv_aload_n hx hb dX3_freePort_5 rfl (lv_at hl 0 rfl) ?_
  refine x_get (v := .ref (E.2.2.2 3)) S hW hinX3 0 (xw_0 E _) rfl 2 (by decide) w18 rfl dX3_freePort_6 ?_
  refine lv_iload_n hx hb dX3_freePort_9 rfl (lv_at hl 1 rfl) ?_
  refine x_Vi (rest := []) S (c_X2_at l E n f o (i := 1) (by decide) (k := p2) (show _ < 12 from by omega)) (cwV 1 S.2.2.2.2 gX3_freePort_X2_at rfl rfl rfl (by decide +kernel) ⟨Nat.le_of_ble_eq_true rfl, Nat.le_of_ble_eq_true rfl⟩) hW 3 (xw_3 E _) rfl rfl rfl hl.1 (Nat.le_of_ble_eq_true rfl) dX3_freePort_10 ⟨Nat.le_of_ble_eq_true rfl, Nat.le_of_ble_eq_true rfl⟩ (fun r10 σ10 H locs hq2 hW => ?_)
  obtain ⟨rfl, rfl⟩ := hq2
  refine x_topN (gFs Γ p2) (hR.fs p2 hp2) ?_
  refine lv_istore_n (lv' := [(2, .int (nI (gFs Γ p2))), (0, .ref (E.2.2.2 0)), (1, .int (nI p2))]) hx hb dX3_freePort_13 rfl hl (by decide) rfl (fun ls hl => ?_)
  refine lv_aload_n hx hb dX3_freePort_14 rfl (lv_at hl 1 rfl) ?_
  refine x_get (v := .ref (E.2.2.2 5)) S hW hinX3 0 (xw_0 E _) rfl 3 (by decide) w21 rfl dX3_freePort_15 ?_
  refine lv_iload_n hx hb dX3_freePort_18 rfl (lv_at hl 2 rfl) ?_
  refine x_Vi (rest := []) S (c_X2_at l E n f o (i := 2) (by decide) (k := p2) (show _ < 12 from by omega)) (cwV 1 S.2.2.2.2 gX3_freePort_X2_at rfl rfl rfl (by decide +kernel) ⟨Nat.le_of_ble_eq_true rfl, Nat.le_of_ble_eq_true rfl⟩) hW 5 (xw_5 E _) rfl rfl rfl hl.1 (Nat.le_of_ble_eq_true rfl) dX3_freePort_19 ⟨Nat.le_of_ble_eq_true rfl, Nat.le_of_ble_eq_true rfl⟩ (fun r19 σ19 H locs hq3 hW => ?_)
  obtain ⟨rfl, rfl⟩ := hq3
  have hf9 := hG.fno (k := p2 + 1) (by omega)
  refine x_topN (gFs Γ (p2 + 1) - gFs Γ p2) (hR.pc p2 hp2) ?_
  refine lv_istore_n (lv' := [(3, .int (nI (gFs Γ (p2 + 1) - gFs Γ p2))), (2, .int (nI (gFs Γ p2))), (0, .ref (E.2.2.2 0)), (1, .int (nI p2))]) hx hb dX3_freePort_22 rfl hl (by decide) rfl (fun ls hl => ?_)
  refine lv_iconst (v := 0) hx hb dX3_freePort_23 (by decide) ?_
  refine lv_istore (lv' := [(4, .int 0), (3, .int (nI (gFs Γ (p2 + 1) - gFs Γ p2))), (2, .int (nI (gFs Γ p2))), (0, .ref (E.2.2.2 0)), (1, .int (nI p2))]) hx hb dX3_freePort_24 hl (by decide) rfl (fun ls hl => ?_)
  have L26 : ∀ (fu26 : Nat) (i : Nat) (hμ : gFs Γ (p2 + 1) - gFs Γ p2 + 1 - i < fu26) (hi : i ≤ gFs Γ (p2 + 1) - gFs Γ p2) (h0 : ∀ q, q < i → ¬ (fun q => gCb Γ q = -1 ∧ gSt Γ q = -1) (gFs Γ p2 + q)) (H : Heap) (locs : List Loc) (ls : Array Slot), xSt E (n, f, o) s s.heap H locs → lv_has ls 5 [(0, .ref (E.2.2.2 0)), (1, .int (nI p2)), (2, .int (nI (gFs Γ p2))), (3, .int (nI (gFs Γ (p2 + 1) - gFs Γ p2))), (4, .int (nI i))] → W p l e rmX3_freePort s m args below meth c H locs 1 6 (vx_MQ below (va_Qi (fun r σ' => ocPanel Γ (nI p2) = 0 ∧ xFF (fun q => gCb Γ q = -1 ∧ gSt Γ q = -1) (gFs Γ (xNa (nI p2))) (gFs Γ (xNa (nI p2) + 1) - gFs Γ (xNa (nI p2))) r ∧ xOKC Γ n f o σ') (xWd E) (xA E)) (xPx E (fun X σ' => xX1o (ocPanel Γ (nI p2)) X ∧ xOKC Γ n f o σ')) args s 1 (6 * 1) (xA E)) (F0 m 26 ls []) := by
    intro fu26
    induction fu26 with
    | zero => intro i hμ; exact absurd hμ (Nat.not_lt_zero _)
    | succ fu26 L26 =>
      intro i hμ hi h0 H locs ls hW hl
      refine lv_iload hx hb dX3_freePort_26 (lv_at hl 4 rfl) ?_
      refine lv_iload_n hx hb dX3_freePort_28 rfl (lv_at hl 3 rfl) ?_
      refine x_icmp_ge (a := i) (b := gFs Γ (p2 + 1) - gFs Γ p2) (tgt := 65) hx hb dX3_freePort_29 (by decide) (by omega) (by omega) (fun c29 => ?_) (fun c29 => ?_)
      · refine lv_iconst (v := (-1)) hx hb dX3_freePort_65 (by decide) ?_
        exact x_Xreti S hr hlk hW (Nat.le_of_ble_eq_true rfl) (Nat.le_of_ble_eq_true rfl) dX3_freePort_66 (⟨xif_f (not_not_intro (xPn hp2)), by rw [xNa_n (by omega)]; exact Or.inr ⟨fun q hq => h0 q (by omega), rfl⟩, hR.same⟩)
      · refine lv_aload_n hx hb dX3_freePort_32 rfl (lv_at hl 0 rfl) ?_
        refine lv_iload_n hx hb dX3_freePort_33 rfl (lv_at hl 2 rfl) ?_
        refine lv_iload hx hb dX3_freePort_34 (lv_at hl 4 rfl) ?_
        refine x_iadd (a := gFs Γ p2) (b := i) hx hb dX3_freePort_36 ?_
        refine x_Vi (rest := []) S (c_X3_hasCable l E n f o (p1 := ((gFs Γ p2) + i)) (by omega)) (cwV 1 S.2.2.2.2 gX3_freePort_X3_hasCable rfl rfl rfl (by decide +kernel) ⟨Nat.le_of_ble_eq_true rfl, Nat.le_of_ble_eq_true rfl⟩) hW 0 (xw_0 E _) rfl rfl rfl hl.1 (Nat.le_of_ble_eq_true rfl) dX3_freePort_37 ⟨Nat.le_of_ble_eq_true rfl, Nat.le_of_ble_eq_true rfl⟩ (fun r37 σ37 H locs hq4 hW => ?_)
        rcases hq4 with ⟨rfl, h37, rfl⟩ | ⟨rfl, h37, rfl⟩
        · rw [hR.cb _ (by omega)] at h37
          refine lv_if_ne (tgt := 59) hx hb dX3_freePort_40 (by decide) (fun c40 => ?_) (fun c40 => ?_)
          · exact absurd c40 (by decide)
          refine lv_aload_n hx hb dX3_freePort_43 rfl (lv_at hl 0 rfl) ?_
          refine lv_iload_n hx hb dX3_freePort_44 rfl (lv_at hl 2 rfl) ?_
          refine lv_iload hx hb dX3_freePort_45 (lv_at hl 4 rfl) ?_
          refine x_iadd (a := gFs Γ p2) (b := i) hx hb dX3_freePort_47 ?_
          refine x_Vi (rest := []) S (c_X3_hasStrand l E n f o (p1 := ((gFs Γ p2) + i)) (by omega)) (cwV 1 S.2.2.2.2 gX3_freePort_X3_hasStrand rfl rfl rfl (by decide +kernel) ⟨Nat.le_of_ble_eq_true rfl, Nat.le_of_ble_eq_true rfl⟩) hW 0 (xw_0 E _) rfl rfl rfl hl.1 (Nat.le_of_ble_eq_true rfl) dX3_freePort_48 ⟨Nat.le_of_ble_eq_true rfl, Nat.le_of_ble_eq_true rfl⟩ (fun r48 σ48 H locs hq5 hW => ?_)
          rcases hq5 with ⟨rfl, h48, rfl⟩ | ⟨rfl, h48, rfl⟩
          · rw [hR.st _ (by omega)] at h48
            refine lv_if_ne (tgt := 59) hx hb dX3_freePort_51 (by decide) (fun c51 => ?_) (fun c51 => ?_)
            · exact absurd c51 (by decide)
            refine lv_iload_n hx hb dX3_freePort_54 rfl (lv_at hl 2 rfl) ?_
            refine lv_iload hx hb dX3_freePort_55 (lv_at hl 4 rfl) ?_
            refine x_iadd (a := gFs Γ p2) (b := i) hx hb dX3_freePort_57 ?_
            exact x_Xreti S hr hlk hW (Nat.le_of_ble_eq_true rfl) (Nat.le_of_ble_eq_true rfl) dX3_freePort_58 (⟨xif_f (not_not_intro (xPn hp2)), by rw [xNa_n (by omega)]; exact Or.inl ⟨i, by omega, ⟨Classical.not_not.mp h37, Classical.not_not.mp h48⟩, h0, rfl⟩, hR.same⟩)
          · rw [hR.st _ (by omega)] at h48
            refine lv_if_ne (tgt := 59) hx hb dX3_freePort_51 (by decide) (fun c51 => ?_) (fun c51 => ?_)
            rotate_left
            · exact absurd c51 (by decide)
            refine lv_iinc (v := (nI (i + 1))) (lv' := [(4, .int (nI (i + 1))), (0, .ref (E.2.2.2 0)), (1, .int (nI p2)), (2, .int (nI (gFs Γ p2))), (3, .int (nI (gFs Γ (p2 + 1) - gFs Γ p2)))]) hx hb dX3_freePort_59 hl (k := 4) rfl (x_inc _) (by decide) rfl (fun ls hl => ?_)
            refine lv_goto (tgt := 26) hx hb dX3_freePort_62 (by decide) ?_
            exact L26  (i + 1) (by omega) (by omega) (lt_s h0 (by first | exact fun h => h37 h.1 | exact fun h => h48 h.2)) _ _ _ hW (lv_sub hl [1, 2, 3, 4, 0] rfl)
        · rw [hR.cb _ (by omega)] at h37
          refine lv_if_ne (tgt := 59) hx hb dX3_freePort_40 (by decide) (fun c40 => ?_) (fun c40 => ?_)
          rotate_left
          · exact absurd c40 (by decide)
          refine lv_iinc (v := (nI (i + 1))) (lv' := [(4, .int (nI (i + 1))), (0, .ref (E.2.2.2 0)), (1, .int (nI p2)), (2, .int (nI (gFs Γ p2))), (3, .int (nI (gFs Γ (p2 + 1) - gFs Γ p2)))]) hx hb dX3_freePort_59 hl (k := 4) rfl (x_inc _) (by decide) rfl (fun ls hl => ?_)
          refine lv_goto (tgt := 26) hx hb dX3_freePort_62 (by decide) ?_
          exact L26  (i + 1) (by omega) (by omega) (lt_s h0 (by first | exact fun h => h37 h.1 | exact fun h => h48 h.2)) _ _ _ hW (lv_sub hl [1, 2, 3, 4, 0] rfl)
  exact L26 _ (0) (Nat.lt_succ_self _) (by omega) (fun q hq => absurd hq (Nat.not_lt_zero q)) _ _ _ hW (lv_sub hl [3, 4, 2, 1, 0] rfl)

abbrev rmX3_used : Room := { frames := 7, cells := 1, slots := 6, locals := 103 }
set_option maxHeartbeats 4000000 in
set_option maxRecDepth 100000 in
theorem c_X3_used (l : Launch) (E : xE) (n : Nat → Int32) (f : Nat → Nat → Int32) (o : Nat → Int64) (hfl : l.stackTraces = false) (Γ : xG) (hG : xGood Γ) (hR : xRepC Γ n f) (a : Int32) : xXi l yX3_used wsX3_used rmX3_used E [.ref (E.2.2.2 0), .int a] (n, f, o) 1 (fun r σ' => ocTrk Γ a = 0 ∧ r = nI (xcnt (fun i => gCb Γ (gTa Γ (xNa a) + i) ≠ -1 ∧ gCb Γ (gTb Γ (xNa a) + i) ≠ -1) (gTc Γ (xNa a))) ∧ xOKC Γ n f o σ') (fun X σ' => xX1o (ocTrk Γ a) X ∧ xOKC Γ n f o σ') := by
  refine x_startXi RX3 (by decide) rfl rfl (Nat.le_of_ble_eq_true rfl) ?_
  intro p e s m args below meth c ls S hr hlk htab hTh hW hl
  have hx := S.1
  have hb := S.2.1
  have hl : lv_has ls 6 [(0, .ref (E.2.2.2 0)), (1, .int a)] := hl
  have hinX3 : ∀ w ∈ wsX30, w ∈ wsX3_used := by decide +kernel
  have w33 : Cond.fieldLink RX3 33 "CableBook" "strandTo" "LCableBook$Row;" ∈ wsX3_used := by decide +kernel
  have w48 : Cond.fieldLink RX3 48 "CableBook" "trunkStart" "LCableBook$Row;" ∈ wsX3_used := by decide +kernel
  have w51 : Cond.fieldLink RX3 51 "CableBook" "strandCountOf" "LCableBook$Row;" ∈ wsX3_used := by decide +kernel
  have hno := hG.no
  have hnp := hG.np
  have hnt := hG.nt
  have hnm := hG.nm
  refine lv_aload_n hx hb dX3_used_0 rfl (lv_at hl 0 rfl) ?_
  refine lv_iload_n hx hb dX3_used_1 rfl (lv_at hl 1 rfl) ?_
  refine x_XVv (rest := []) S (c_X3_checkTrunk l E n f o hfl hR.nt (by omega) a) (cwV 1 S.2.2.2.2 gX3_used_X3_checkTrunk rfl rfl rfl (by decide +kernel) ⟨Nat.le_of_ble_eq_true rfl, Nat.le_of_ble_eq_true rfl⟩) hW hTh htab hlk (fun X σ9 h => ⟨⟨xif_t h.2.1, h.1⟩, by rw [h.2.2]; exact hR.same⟩) (Nat.le_of_ble_eq_true rfl) (Nat.le_of_ble_eq_true rfl) 0 (xw_0 E _) rfl rfl rfl hl.1 (Nat.le_of_ble_eq_true rfl) dX3_used_2 ⟨Nat.le_of_ble_eq_true rfl, Nat.le_of_ble_eq_true rfl⟩ (fun σ2 H locs hq1 hW => ?_)
  obtain ⟨⟨p2, hp2, rfl⟩, rfl⟩ := hq1
  refine lv_aload_n hx hb dX3_used_5 rfl (lv_at hl 0 rfl) ?_
  refine x_get (v := .ref (E.2.2.2 17)) S hW hinX3 0 (xw_0 E _) rfl 12 (by decide) w48 rfl dX3_used_6 ?_
  refine lv_iload_n hx hb dX3_used_9 rfl (lv_at hl 1 rfl) ?_
  refine x_Vi (rest := []) S (c_X2_at l E n f o (i := 8) (by decide) (k := p2) (show _ < 10 from by omega)) (cwV 1 S.2.2.2.2 gX3_used_X2_at rfl rfl rfl (by decide +kernel) ⟨Nat.le_of_ble_eq_true rfl, Nat.le_of_ble_eq_true rfl⟩) hW 17 (xw_17 E _) rfl rfl rfl hl.1 (Nat.le_of_ble_eq_true rfl) dX3_used_10 ⟨Nat.le_of_ble_eq_true rfl, Nat.le_of_ble_eq_true rfl⟩ (fun r10 σ10 H locs hq2 hW => ?_)
  obtain ⟨rfl, rfl⟩ := hq2
  refine x_topN (gTa Γ p2) (hR.ta p2 hp2) ?_
  refine lv_istore_n (lv' := [(2, .int (nI (gTa Γ p2))), (0, .ref (E.2.2.2 0)), (1, .int (nI p2))]) hx hb dX3_used_13 rfl hl (by decide) rfl (fun ls hl => ?_)
  refine lv_aload_n hx hb dX3_used_14 rfl (lv_at hl 1 rfl) ?_
  refine x_get (v := .ref (E.2.2.2 19)) S hW hinX3 0 (xw_0 E _) rfl 13 (by decide) w51 rfl dX3_used_15 ?_
  refine lv_iload_n hx hb dX3_used_18 rfl (lv_at hl 2 rfl) ?_
  refine x_Vi (rest := []) S (c_X2_at l E n f o (i := 9) (by decide) (k := p2) (show _ < 10 from by omega)) (cwV 1 S.2.2.2.2 gX3_used_X2_at rfl rfl rfl (by decide +kernel) ⟨Nat.le_of_ble_eq_true rfl, Nat.le_of_ble_eq_true rfl⟩) hW 19 (xw_19 E _) rfl rfl rfl hl.1 (Nat.le_of_ble_eq_true rfl) dX3_used_19 ⟨Nat.le_of_ble_eq_true rfl, Nat.le_of_ble_eq_true rfl⟩ (fun r19 σ19 H locs hq3 hW => ?_)
  obtain ⟨rfl, rfl⟩ := hq3
  have ht9 := hG.tt p2 hp2
  have hts := hG.ts p2 hp2
  refine x_topN (gTc Γ p2) (hR.tc p2 hp2) ?_
  refine lv_istore_n (lv' := [(3, .int (nI (gTc Γ p2))), (2, .int (nI (gTa Γ p2))), (0, .ref (E.2.2.2 0)), (1, .int (nI p2))]) hx hb dX3_used_22 rfl hl (by decide) rfl (fun ls hl => ?_)
  refine lv_iconst (v := 0) hx hb dX3_used_23 (by decide) ?_
  refine lv_istore (lv' := [(4, .int 0), (3, .int (nI (gTc Γ p2))), (2, .int (nI (gTa Γ p2))), (0, .ref (E.2.2.2 0)), (1, .int (nI p2))]) hx hb dX3_used_24 hl (by decide) rfl (fun ls hl => ?_)
  refine lv_iconst (v := 0) hx hb dX3_used_26 (by decide) ?_
  refine lv_istore (lv' := [(5, .int 0), (4, .int 0), (3, .int (nI (gTc Γ p2))), (2, .int (nI (gTa Γ p2))), (0, .ref (E.2.2.2 0)), (1, .int (nI p2))]) hx hb dX3_used_27 hl (by decide) rfl (fun ls hl => ?_)
  have L29 : ∀ (fu29 : Nat) (i : Nat) (hμ : gTc Γ p2 + 1 - i < fu29) (hi : i ≤ gTc Γ p2) (H : Heap) (locs : List Loc) (ls : Array Slot), xSt E (n, f, o) s s.heap H locs → lv_has ls 6 [(0, .ref (E.2.2.2 0)), (1, .int (nI p2)), (2, .int (nI (gTa Γ p2))), (3, .int (nI (gTc Γ p2))), (4, .int (nI (xcnt (fun i => gCb Γ (gTa Γ p2 + i) ≠ -1 ∧ gCb Γ (gTb Γ p2 + i) ≠ -1) i))), (5, .int (nI i))] → W p l e rmX3_used s m args below meth c H locs 1 6 (vx_MQ below (va_Qi (fun r σ' => ocTrk Γ (nI p2) = 0 ∧ r = nI (xcnt (fun i => gCb Γ (gTa Γ (xNa (nI p2)) + i) ≠ -1 ∧ gCb Γ (gTb Γ (xNa (nI p2)) + i) ≠ -1) (gTc Γ (xNa (nI p2)))) ∧ xOKC Γ n f o σ') (xWd E) (xA E)) (xPx E (fun X σ' => xX1o (ocTrk Γ (nI p2)) X ∧ xOKC Γ n f o σ')) args s 1 (6 * 1) (xA E)) (F0 m 29 ls []) := by
    intro fu29
    induction fu29 with
    | zero => intro i hμ; exact absurd hμ (Nat.not_lt_zero _)
    | succ fu29 L29 =>
      intro i hμ hi H locs ls hW hl
      have hx9 := xcnt_le (fun i => gCb Γ (gTa Γ p2 + i) ≠ -1 ∧ gCb Γ (gTb Γ p2 + i) ≠ -1) i
      refine lv_iload hx hb dX3_used_29 (lv_at hl 5 rfl) ?_
      refine lv_iload_n hx hb dX3_used_31 rfl (lv_at hl 3 rfl) ?_
      refine x_icmp_ge (a := i) (b := gTc Γ p2) (tgt := 73) hx hb dX3_used_32 (by decide) (by omega) (by omega) (fun c32 => ?_) (fun c32 => ?_)
      · refine lv_iload hx hb dX3_used_73 (lv_at hl 4 rfl) ?_
        exact x_Xreti S hr hlk hW (Nat.le_of_ble_eq_true rfl) (Nat.le_of_ble_eq_true rfl) dX3_used_75 (⟨xif_f (not_not_intro (xPn hp2)), by rw [xNa_n (by omega), show i = gTc Γ p2 by omega], hR.same⟩)
      · have ht8 := hts i (by omega)
        refine lv_aload_n hx hb dX3_used_35 rfl (lv_at hl 0 rfl) ?_
        refine lv_iload_n hx hb dX3_used_36 rfl (lv_at hl 2 rfl) ?_
        refine lv_iload hx hb dX3_used_37 (lv_at hl 5 rfl) ?_
        refine x_iadd (a := gTa Γ p2) (b := i) hx hb dX3_used_39 ?_
        refine x_Vi (rest := []) S (c_X3_hasCable l E n f o (p1 := ((gTa Γ p2) + i)) (by omega)) (cwV 1 S.2.2.2.2 gX3_used_X3_hasCable rfl rfl rfl (by decide +kernel) ⟨Nat.le_of_ble_eq_true rfl, Nat.le_of_ble_eq_true rfl⟩) hW 0 (xw_0 E _) rfl rfl rfl hl.1 (Nat.le_of_ble_eq_true rfl) dX3_used_40 ⟨Nat.le_of_ble_eq_true rfl, Nat.le_of_ble_eq_true rfl⟩ (fun r40 σ40 H locs hq4 hW => ?_)
        rcases hq4 with ⟨rfl, h40, rfl⟩ | ⟨rfl, h40, rfl⟩
        · rw [hR.cb _ (by omega)] at h40
          refine lv_if_eq (tgt := 67) hx hb dX3_used_43 (by decide) (fun c43 => ?_) (fun c43 => ?_)
          rotate_left
          · exact absurd c43 (by decide)
          refine lv_iinc (v := (nI (i + 1))) (lv' := [(5, .int (nI (i + 1))), (0, .ref (E.2.2.2 0)), (1, .int (nI p2)), (2, .int (nI (gTa Γ p2))), (3, .int (nI (gTc Γ p2))), (4, .int (nI (xcnt (fun i => gCb Γ (gTa Γ p2 + i) ≠ -1 ∧ gCb Γ (gTb Γ p2 + i) ≠ -1) i)))]) hx hb dX3_used_67 hl (k := 5) rfl (x_inc _) (by decide) rfl (fun ls hl => ?_)
          refine lv_goto (tgt := 29) hx hb dX3_used_70 (by decide) ?_
          rw [show xcnt (fun i => gCb Γ (gTa Γ p2 + i) ≠ -1 ∧ gCb Γ (gTb Γ p2 + i) ≠ -1) i = xcnt (fun i => gCb Γ (gTa Γ p2 + i) ≠ -1 ∧ gCb Γ (gTb Γ p2 + i) ≠ -1) (i + 1) from (xcnt_f (by first | exact fun h => h40 h.1 | exact fun h => h58 h.2)).symm] at hl
          exact L29  (i + 1) (by omega) (by omega) _ _ _ hW (lv_sub hl [1, 2, 3, 4, 5, 0] rfl)
        · rw [hR.cb _ (by omega)] at h40
          refine lv_if_eq (tgt := 67) hx hb dX3_used_43 (by decide) (fun c43 => ?_) (fun c43 => ?_)
          · exact absurd c43 (by decide)
          refine lv_aload_n hx hb dX3_used_46 rfl (lv_at hl 0 rfl) ?_
          refine lv_aload_n hx hb dX3_used_47 rfl (lv_at hl 0 rfl) ?_
          refine x_get (v := .ref (E.2.2.2 13)) S hW hinX3 0 (xw_0 E _) rfl 8 (by decide) w33 rfl dX3_used_48 ?_
          refine lv_iload_n hx hb dX3_used_51 rfl (lv_at hl 2 rfl) ?_
          refine lv_iload hx hb dX3_used_52 (lv_at hl 5 rfl) ?_
          refine x_iadd (a := gTa Γ p2) (b := i) hx hb dX3_used_54 ?_
          refine x_Vi (rest := [.ref (E.2.2.2 0)]) S (c_X2_at l E n f o (i := 6) (by decide) (k := (gTa Γ p2) + i) (show _ < 144 from by omega)) (cwV 1 S.2.2.2.2 gX3_used_X2_at rfl rfl rfl (by decide +kernel) ⟨Nat.le_of_ble_eq_true rfl, Nat.le_of_ble_eq_true rfl⟩) hW 13 (xw_13 E _) rfl rfl rfl hl.1 (Nat.le_of_ble_eq_true rfl) dX3_used_55 ⟨Nat.le_of_ble_eq_true rfl, Nat.le_of_ble_eq_true rfl⟩ (fun r55 σ55 H locs hq5 hW => ?_)
          obtain ⟨rfl, rfl⟩ := hq5
          refine x_topN (gTb Γ p2 + i) ((hR.st _ (by omega)).trans ht8.2.2) ?_
          refine x_Vi (rest := []) S (c_X3_hasCable l E n f o (p1 := (gTb Γ p2 + i)) (by omega)) (cwV 1 S.2.2.2.2 gX3_used_X3_hasCable rfl rfl rfl (by decide +kernel) ⟨Nat.le_of_ble_eq_true rfl, Nat.le_of_ble_eq_true rfl⟩) hW 0 (xw_0 E _) rfl rfl rfl hl.1 (Nat.le_of_ble_eq_true rfl) dX3_used_58 ⟨Nat.le_of_ble_eq_true rfl, Nat.le_of_ble_eq_true rfl⟩ (fun r58 σ58 H locs hq6 hW => ?_)
          rcases hq6 with ⟨rfl, h58, rfl⟩ | ⟨rfl, h58, rfl⟩
          · rw [hR.cb _ (by omega)] at h58
            refine lv_if_eq (tgt := 67) hx hb dX3_used_61 (by decide) (fun c61 => ?_) (fun c61 => ?_)
            rotate_left
            · exact absurd c61 (by decide)
            refine lv_iinc (v := (nI (i + 1))) (lv' := [(5, .int (nI (i + 1))), (0, .ref (E.2.2.2 0)), (1, .int (nI p2)), (2, .int (nI (gTa Γ p2))), (3, .int (nI (gTc Γ p2))), (4, .int (nI (xcnt (fun i => gCb Γ (gTa Γ p2 + i) ≠ -1 ∧ gCb Γ (gTb Γ p2 + i) ≠ -1) i)))]) hx hb dX3_used_67 hl (k := 5) rfl (x_inc _) (by decide) rfl (fun ls hl => ?_)
            refine lv_goto (tgt := 29) hx hb dX3_used_70 (by decide) ?_
            rw [show xcnt (fun i => gCb Γ (gTa Γ p2 + i) ≠ -1 ∧ gCb Γ (gTb Γ p2 + i) ≠ -1) i = xcnt (fun i => gCb Γ (gTa Γ p2 + i) ≠ -1 ∧ gCb Γ (gTb Γ p2 + i) ≠ -1) (i + 1) from (xcnt_f (by first | exact fun h => h40 h.1 | exact fun h => h58 h.2)).symm] at hl
            exact L29  (i + 1) (by omega) (by omega) _ _ _ hW (lv_sub hl [1, 2, 3, 4, 5, 0] rfl)
          · rw [hR.cb _ (by omega)] at h58
            refine lv_if_eq (tgt := 67) hx hb dX3_used_61 (by decide) (fun c61 => ?_) (fun c61 => ?_)
            · exact absurd c61 (by decide)
            refine lv_iinc (v := (nI (xcnt (fun i => gCb Γ (gTa Γ p2 + i) ≠ -1 ∧ gCb Γ (gTb Γ p2 + i) ≠ -1) i + 1))) (lv' := [(4, .int (nI (xcnt (fun i => gCb Γ (gTa Γ p2 + i) ≠ -1 ∧ gCb Γ (gTb Γ p2 + i) ≠ -1) i + 1))), (0, .ref (E.2.2.2 0)), (1, .int (nI p2)), (2, .int (nI (gTa Γ p2))), (3, .int (nI (gTc Γ p2))), (5, .int (nI i))]) hx hb dX3_used_64 hl (k := 4) rfl (x_inc _) (by decide) rfl (fun ls hl => ?_)
            refine lv_iinc (v := (nI (i + 1))) (lv' := [(5, .int (nI (i + 1))), (4, .int (nI (xcnt (fun i => gCb Γ (gTa Γ p2 + i) ≠ -1 ∧ gCb Γ (gTb Γ p2 + i) ≠ -1) i + 1))), (0, .ref (E.2.2.2 0)), (1, .int (nI p2)), (2, .int (nI (gTa Γ p2))), (3, .int (nI (gTc Γ p2)))]) hx hb dX3_used_67 hl (k := 5) rfl (x_inc _) (by decide) rfl (fun ls hl => ?_)
            refine lv_goto (tgt := 29) hx hb dX3_used_70 (by decide) ?_
            rw [show xcnt (fun i => gCb Γ (gTa Γ p2 + i) ≠ -1 ∧ gCb Γ (gTb Γ p2 + i) ≠ -1) i + 1 = xcnt (fun i => gCb Γ (gTa Γ p2 + i) ≠ -1 ∧ gCb Γ (gTb Γ p2 + i) ≠ -1) (i + 1) from (xcnt_t ⟨h40, h58⟩).symm] at hl
            exact L29  (i + 1) (by omega) (by omega) _ _ _ hW (lv_sub hl [2, 3, 4, 5, 1, 0] rfl)
  exact L29 _ (0) (Nat.lt_succ_self _) (by omega) _ _ _ hW (lv_sub hl [4, 5, 3, 2, 1, 0] rfl)

abbrev rmX3_lines : Room := { frames := 3, cells := 0, slots := 0, locals := 67 }
set_option maxHeartbeats 4000000 in
set_option maxRecDepth 100000 in
theorem c_X3_lines (l : Launch) (E : xE) (n : Nat → Int32) (f : Nat → Nat → Int32) (o : Nat → Int64) (Γ : xG) (hG : xGood Γ) (hR : xRepC Γ n f) : xCi l yX3_lines wsX3_lines rmX3_lines E [.ref (E.2.2.2 0)] (n, f, o) (fun r σ' => r = nI (xcnt (fun q => ∀ z, z < q → ¬ xR (gNo Γ) (gCb Γ) (gOp Γ) z q) (gNo Γ)) ∧ xOKC Γ n f o σ') := by
  refine x_starti RX3 (by decide) rfl rfl (Nat.le_of_ble_eq_true rfl) ?_
  intro p e s m args below meth c ls S hr hlk hW hl
  have hx := S.1
  have hb := S.2.1
  have hl : lv_has ls 3 [(0, .ref (E.2.2.2 0))] := hl
  have hinX3 : ∀ w ∈ wsX30, w ∈ wsX3_lines := by decide +kernel
  have w70 : Cond.fieldLink RX3 70 "CableBook" "found" "LCableBook$Marks;" ∈ wsX3_lines := by decide +kernel
  have w77 : Cond.fieldLink RX3 77 "CableBook" "portCount" "I" ∈ wsX3_lines := by decide +kernel
  have hno := hG.no
  have hnp := hG.np
  have hnt := hG.nt
  have hnm := hG.nm
  refine lv_aload_n hx hb dX3_lines_0 rfl (lv_at hl 0 rfl) ?_
  refine x_get (v := .ref (E.2.2.2 37)) S hW hinX3 0 (xw_0 E _) rfl 18 (by decide) w70 rfl dX3_lines_1 ?_
  refine x_Vv (rest := []) S (c_X0_clear l E n f o (i := 1) (by decide)) (cwV 0 S.2.2.2.2 gX3_lines_X0_clear rfl rfl rfl (by decide +kernel) ⟨Nat.le_of_ble_eq_true rfl, Nat.le_of_ble_eq_true rfl⟩) hW 37 (xw_37 E _) rfl rfl rfl hl.1 (Nat.le_of_ble_eq_true rfl) dX3_lines_4 ⟨Nat.zero_le _, Nat.zero_le _⟩ (fun σ4 H locs hq1 hW => ?_)
  obtain ⟨g4, rfl, hg4⟩ := hq1
  refine lv_iconst (v := 0) hx hb dX3_lines_7 (by decide) ?_
  refine lv_istore_n (lv' := [(1, .int 0), (0, .ref (E.2.2.2 0))]) hx hb dX3_lines_8 rfl hl (by decide) rfl (fun ls hl => ?_)
  refine lv_iconst (v := 0) hx hb dX3_lines_9 (by decide) ?_
  refine lv_istore_n (lv' := [(2, .int 0), (1, .int 0), (0, .ref (E.2.2.2 0))]) hx hb dX3_lines_10 rfl hl (by decide) rfl (fun ls hl => ?_)
  have L11 : ∀ (fu11 : Nat) (i : Nat) (F : Nat → Nat → Int32) (hμ : gNo Γ + 1 - i < fu11) (hi : i ≤ gNo Γ) (hF : ∀ q, q ≠ 11 → q ≠ 18 → F q = f q) (hm : ∀ w, w < gNo Γ → (F 18 w ≠ 0 ↔ ∃ z, z < i ∧ xR (gNo Γ) (gCb Γ) (gOp Γ) z w)) (H : Heap) (locs : List Loc) (ls : Array Slot), xSt E (n, F, o) s s.heap H locs → lv_has ls 3 [(0, .ref (E.2.2.2 0)), (1, .int (nI (xcnt (fun q => ∀ z, z < q → ¬ xR (gNo Γ) (gCb Γ) (gOp Γ) z q) i))), (2, .int (nI i))] → W p l e rmX3_lines s m args below meth c H locs 0 0 (MQ below (va_Qi (fun r σ' => r = nI (xcnt (fun q => ∀ z, z < q → ¬ xR (gNo Γ) (gCb Γ) (gOp Γ) z q) (gNo Γ)) ∧ xOKC Γ n f o σ') (xWd E) (xA E)) args s 0 0 (xA E)) (F0 m 11 ls []) := by
    intro fu11
    induction fu11 with
    | zero => intro i F hμ; exact absurd hμ (Nat.not_lt_zero _)
    | succ fu11 L11 =>
      intro i F hμ hi hF hm H locs ls hW hl
      have hx9 := xcnt_le (fun q => ∀ z, z < q → ¬ xR (gNo Γ) (gCb Γ) (gOp Γ) z q) i
      have hRF : xRepC Γ n F := hR.eqv (fun _ _ => rfl) (fun q _ h1 _ _ _ h2 => hF q h1 h2)
      refine lv_iload_n hx hb dX3_lines_11 rfl (lv_at hl 2 rfl) ?_
      refine lv_aload_n hx hb dX3_lines_12 rfl (lv_at hl 0 rfl) ?_
      refine x_get (v := .int (n 1)) S hW hinX3 0 (xw_0 E _) rfl 4 (by decide) w77 rfl dX3_lines_13 ?_
      refine x_topN (gNo Γ) (hR.no) ?_
      refine x_icmp_ge (a := i) (b := gNo Γ) (tgt := 68) hx hb dX3_lines_16 (by decide) (by omega) (by omega) (fun c16 => ?_) (fun c16 => ?_)
      · refine lv_iload_n hx hb dX3_lines_68 rfl (lv_at hl 1 rfl) ?_
        exact x_reti S hr hlk hW dX3_lines_69 (⟨by rw [show i = gNo Γ by omega], ⟨n, F, rfl, hRF, fun _ _ => rfl, fun q hq => hF q (by omega) (by omega)⟩⟩)
      · refine lv_aload_n hx hb dX3_lines_19 rfl (lv_at hl 0 rfl) ?_
        refine x_get (v := .ref (E.2.2.2 37)) S hW hinX3 0 (xw_0 E _) rfl 18 (by decide) w70 rfl dX3_lines_20 ?_
        refine lv_iload_n hx hb dX3_lines_23 rfl (lv_at hl 2 rfl) ?_
        refine x_Vi (rest := []) S (c_X0_has l E n F o (i := 1) (by decide) (k := i) (by omega)) (cwV 1 S.2.2.2.2 gX3_lines_X0_has rfl rfl rfl (by decide +kernel) ⟨Nat.le_of_ble_eq_true rfl, Nat.le_of_ble_eq_true rfl⟩) hW 37 (xw_37 E _) rfl rfl rfl hl.1 (Nat.le_of_ble_eq_true rfl) dX3_lines_24 ⟨Nat.zero_le _, Nat.zero_le _⟩ (fun r24 σ24 H locs hq2 hW => ?_)
        rcases hq2 with ⟨rfl, h24, rfl⟩ | ⟨rfl, h24, rfl⟩
        · replace h24 : (F 18) i = 0 := Classical.not_not.mp h24
          refine lv_if_ne (tgt := 62) hx hb dX3_lines_27 (by decide) (fun c27 => ?_) (fun c27 => ?_)
          · exact absurd c27 (by decide)
          refine lv_iinc (v := (nI (xcnt (fun q => ∀ z, z < q → ¬ xR (gNo Γ) (gCb Γ) (gOp Γ) z q) i + 1))) (lv' := [(1, .int (nI (xcnt (fun q => ∀ z, z < q → ¬ xR (gNo Γ) (gCb Γ) (gOp Γ) z q) i + 1))), (0, .ref (E.2.2.2 0)), (2, .int (nI i))]) hx hb dX3_lines_30 hl (k := 1) rfl (x_inc _) (by decide) rfl (fun ls hl => ?_)
          refine lv_aload_n hx hb dX3_lines_33 rfl (lv_at hl 1 rfl) ?_
          refine x_get (v := .ref (E.2.2.2 37)) S hW hinX3 0 (xw_0 E _) rfl 18 (by decide) w70 rfl dX3_lines_34 ?_
          refine lv_iload_n hx hb dX3_lines_37 rfl (lv_at hl 2 rfl) ?_
          refine lv_iconst (v := 1) hx hb dX3_lines_38 (by decide) ?_
          refine x_Vv (rest := []) S (c_X0_set l E n F o (i := 1) (by decide) (k := i) (by omega) (v := 1) (Or.inr rfl)) (cwV 2 S.2.2.2.2 gX3_lines_X0_set rfl rfl rfl (by decide +kernel) ⟨Nat.le_of_ble_eq_true rfl, Nat.le_of_ble_eq_true rfl⟩) hW 37 (xw_37 E _) rfl rfl rfl hl.1 (Nat.le_of_ble_eq_true rfl) dX3_lines_39 ⟨Nat.zero_le _, Nat.zero_le _⟩ (fun σ39 H locs hq3 hW => ?_)
          obtain rfl := hq3
          refine lv_aload_n hx hb dX3_lines_42 rfl (lv_at hl 1 rfl) ?_
          refine lv_aload_n hx hb dX3_lines_43 rfl (lv_at hl 1 rfl) ?_
          refine lv_iload_n hx hb dX3_lines_44 rfl (lv_at hl 2 rfl) ?_
          refine lv_iconst (v := 1) hx hb dX3_lines_45 (by decide) ?_
          refine x_Vi (rest := [.ref (E.2.2.2 0)]) S (c_X3_trace l E n (xu F 18 (upd (F 18) i 1)) o hG.no (hRF.cabM hG) (hRF.opM hG) (p1 := i) (show i < gNo Γ by omega) true) (cwV 2 S.2.2.2.2 gX3_lines_X3_trace rfl rfl rfl (by decide +kernel) ⟨Nat.le_of_ble_eq_true rfl, Nat.le_of_ble_eq_true rfl⟩) hW 0 (xw_0 E _) rfl rfl rfl hl.1 (Nat.le_of_ble_eq_true rfl) dX3_lines_46 ⟨Nat.zero_le _, Nat.zero_le _⟩ (fun r46 σ46 H locs hq4 hW => ?_)
          obtain ⟨K46, g46, rfl, rfl, hS46, hg46⟩ := hq4
          obtain ⟨hS46, hg46, hK46⟩ := hRF.tr hG (show i < gNo Γ by omega) hS46 hg46
          refine x_Vv (rest := []) S (c_X3_markTrail l E n (xu (xu F 18 (upd (F 18) i 1)) 11 g46) o (K := K46) (by omega) (fun k => xNa (g46 k)) (xtr_nat hG (by omega) hS46 hg46)) (cwV 1 S.2.2.2.2 gX3_lines_X3_markTrail rfl rfl rfl (by decide +kernel) ⟨Nat.le_of_ble_eq_true rfl, Nat.le_of_ble_eq_true rfl⟩) hW 0 (xw_0 E _) rfl rfl rfl hl.1 (Nat.le_of_ble_eq_true rfl) dX3_lines_49 ⟨Nat.zero_le _, Nat.zero_le _⟩ (fun σ49 H locs hq5 hW => ?_)
          obtain ⟨m49, rfl, ha49, hb49⟩ := hq5
          refine lv_aload_n hx hb dX3_lines_52 rfl (lv_at hl 1 rfl) ?_
          refine lv_aload_n hx hb dX3_lines_53 rfl (lv_at hl 1 rfl) ?_
          refine lv_iload_n hx hb dX3_lines_54 rfl (lv_at hl 2 rfl) ?_
          refine lv_iconst (v := 0) hx hb dX3_lines_55 (by decide) ?_
          refine x_Vi (rest := [.ref (E.2.2.2 0)]) S (c_X3_trace l E n (xu (xu (xu F 18 (upd (F 18) i 1)) 11 g46) 18 m49) o hG.no (hRF.cabM hG) (hRF.opM hG) (p1 := i) (show i < gNo Γ by omega) false) (cwV 2 S.2.2.2.2 gX3_lines_X3_trace rfl rfl rfl (by decide +kernel) ⟨Nat.le_of_ble_eq_true rfl, Nat.le_of_ble_eq_true rfl⟩) hW 0 (xw_0 E _) rfl rfl rfl hl.1 (Nat.le_of_ble_eq_true rfl) dX3_lines_56 ⟨Nat.zero_le _, Nat.zero_le _⟩ (fun r56 σ56 H locs hq6 hW => ?_)
          obtain ⟨K56, g56, rfl, rfl, hS56, hg56⟩ := hq6
          obtain ⟨hS56, hg56, hK56⟩ := hRF.tr hG (show i < gNo Γ by omega) hS56 hg56
          refine x_Vv (rest := []) S (c_X3_markTrail l E n (xu (xu (xu (xu F 18 (upd (F 18) i 1)) 11 g46) 18 m49) 11 g56) o (K := K56) (by omega) (fun k => xNa (g56 k)) (xtr_nat hG (by omega) hS56 hg56)) (cwV 1 S.2.2.2.2 gX3_lines_X3_markTrail rfl rfl rfl (by decide +kernel) ⟨Nat.le_of_ble_eq_true rfl, Nat.le_of_ble_eq_true rfl⟩) hW 0 (xw_0 E _) rfl rfl rfl hl.1 (Nat.le_of_ble_eq_true rfl) dX3_lines_59 ⟨Nat.zero_le _, Nat.zero_le _⟩ (fun σ59 H locs hq7 hW => ?_)
          obtain ⟨m59, rfl, ha59, hb59⟩ := hq7
          refine lv_iinc (v := (nI (i + 1))) (lv' := [(2, .int (nI (i + 1))), (1, .int (nI (xcnt (fun q => ∀ z, z < q → ¬ xR (gNo Γ) (gCb Γ) (gOp Γ) z q) i + 1))), (0, .ref (E.2.2.2 0))]) hx hb dX3_lines_62 hl (k := 2) rfl (x_inc _) (by decide) rfl (fun ls hl => ?_)
          refine lv_goto (tgt := 11) hx hb dX3_lines_65 (by decide) ?_
          rw [show xcnt (fun q => ∀ z, z < q → ¬ xR (gNo Γ) (gCb Γ) (gOp Γ) z q) i + 1 = xcnt (fun q => ∀ z, z < q → ¬ xR (gNo Γ) (gCb Γ) (gOp Γ) z q) (i + 1) from (xcnt_t (fun z hz hr => ((hm i (by omega)).mpr ⟨z, hz, hr⟩) h24)).symm] at hl
          have hnew := xln_t (no := gNo Γ) (by omega) hG.cb hG.op (by omega) hm hS46 hS56 hg46 hg56 ha49 hb49 ha59 hb59
          exact L11  (i + 1) ((xu (xu (xu (xu (xu F 18 (upd (F 18) i 1)) 11 g46) 18 m49) 11 g56) 18 m59)) (by omega) (by omega) (fun q h1 h2 => by rw [xu_n h2, xu_n h1, xu_n h2, xu_n h1, xu_n h2]; exact hF q h1 h2) (hnew) _ _ _ hW (lv_sub hl [2, 1, 0] rfl)
        · replace h24 : (F 18) i ≠ 0 := h24
          refine lv_if_ne (tgt := 62) hx hb dX3_lines_27 (by decide) (fun c27 => ?_) (fun c27 => ?_)
          rotate_left
          · exact absurd c27 (by decide)
          refine lv_iinc (v := (nI (i + 1))) (lv' := [(2, .int (nI (i + 1))), (0, .ref (E.2.2.2 0)), (1, .int (nI (xcnt (fun q => ∀ z, z < q → ¬ xR (gNo Γ) (gCb Γ) (gOp Γ) z q) i)))]) hx hb dX3_lines_62 hl (k := 2) rfl (x_inc _) (by decide) rfl (fun ls hl => ?_)
          refine lv_goto (tgt := 11) hx hb dX3_lines_65 (by decide) ?_
          rw [show xcnt (fun q => ∀ z, z < q → ¬ xR (gNo Γ) (gCb Γ) (gOp Γ) z q) i = xcnt (fun q => ∀ z, z < q → ¬ xR (gNo Γ) (gCb Γ) (gOp Γ) z q) (i + 1) from (xcnt_f (fun hq => by obtain ⟨z, a1, a2⟩ := (hm i (by omega)).mp h24; exact hq z a1 a2)).symm] at hl
          exact L11  (i + 1) (F) (by omega) (by omega) (hF) (xln_f (by omega) hm h24) _ _ _ hW (lv_sub hl [1, 2, 0] rfl)
  exact L11 _ (0) ((xu f 18 g4)) (Nat.lt_succ_self _) (by omega) (fun q _ h2 => xu_n h2) (fun w hw => ⟨fun h => absurd (hg4 w (by omega)) (by rw [xu_s] at h; exact h), fun ⟨z, hz, _⟩ => absurd hz (Nat.not_lt_zero z)⟩) _ _ _ hW (lv_sub hl [2, 1, 0] rfl)

abbrev rmX3_lengthOf : Room := { frames := 7, cells := 1, slots := 6, locals := 103 }
set_option maxHeartbeats 4000000 in
set_option maxRecDepth 100000 in
theorem c_X3_lengthOf (l : Launch) (E : xE) (n : Nat → Int32) (f : Nat → Nat → Int32) (o : Nat → Int64) (hfl : l.stackTraces = false) (Γ : xG) (hG : xGood Γ) (hR : xRepC Γ n f) (a : Int32) (b : Bool) : xXi l yX3_lengthOf wsX3_lengthOf rmX3_lengthOf E [.ref (E.2.2.2 0), .int a, .int (bz b)] (n, f, o) 1 (fun r σ' => ocPort Γ a = 0 ∧ (∃ K, xStop (gCb Γ) (gOp Γ) b (xNa a) K ∧ r = gLen Γ b (xNa a) K) ∧ xOKC Γ n f o σ') (fun X σ' => xX1o (ocPort Γ a) X ∧ xOKC Γ n f o σ') := by
  refine x_startXi RX3 (by decide) rfl rfl (Nat.le_of_ble_eq_true rfl) ?_
  intro p e s m args below meth c ls S hr hlk htab hTh hW hl
  have hx := S.1
  have hb := S.2.1
  have hl : lv_has ls 9 [(0, .ref (E.2.2.2 0)), (1, .int a), (2, .int (bz b))] := hl
  have hinX3 : ∀ w ∈ wsX30, w ∈ wsX3_lengthOf := by decide +kernel
  have w36 : Cond.fieldLink RX3 36 "CableBook" "trunkAt" "LCableBook$Row;" ∈ wsX3_lengthOf := by decide +kernel
  have w54 : Cond.fieldLink RX3 54 "CableBook" "trunkLength" "LCableBook$Row;" ∈ wsX3_lengthOf := by decide +kernel
  have w64 : Cond.fieldLink RX3 64 "CableBook" "trail" "LCableBook$Row;" ∈ wsX3_lengthOf := by decide +kernel
  have hno := hG.no
  have hnp := hG.np
  have hnt := hG.nt
  have hnm := hG.nm
  refine lv_aload_n hx hb dX3_lengthOf_0 rfl (lv_at hl 0 rfl) ?_
  refine lv_iload_n hx hb dX3_lengthOf_1 rfl (lv_at hl 1 rfl) ?_
  refine x_XVv (rest := []) S (c_X3_checkPort l E n f o hfl hR.no (by omega) a) (cwV 1 S.2.2.2.2 gX3_lengthOf_X3_checkPort rfl rfl rfl (by decide +kernel) ⟨Nat.le_of_ble_eq_true rfl, Nat.le_of_ble_eq_true rfl⟩) hW hTh htab hlk (fun X σ9 h => ⟨⟨xif_t h.2.1, h.1⟩, by rw [h.2.2]; exact hR.same⟩) (Nat.le_of_ble_eq_true rfl) (Nat.le_of_ble_eq_true rfl) 0 (xw_0 E _) rfl rfl rfl hl.1 (Nat.le_of_ble_eq_true rfl) dX3_lengthOf_2 ⟨Nat.le_of_ble_eq_true rfl, Nat.le_of_ble_eq_true rfl⟩ (fun σ2 H locs hq1 hW => ?_)
  obtain ⟨⟨p2, hp2, rfl⟩, rfl⟩ := hq1
  refine lv_aload_n hx hb dX3_lengthOf_5 rfl (lv_at hl 0 rfl) ?_
  refine lv_iload_n hx hb dX3_lengthOf_6 rfl (lv_at hl 1 rfl) ?_
  refine lv_iload_n hx hb dX3_lengthOf_7 rfl (lv_at hl 2 rfl) ?_
  refine x_Vi (rest := []) S (c_X3_trace l E n f o hG.no (hR.cabM hG) (hR.opM hG) (p1 := p2) hp2 b) (cwV 2 S.2.2.2.2 gX3_lengthOf_X3_trace rfl rfl rfl (by decide +kernel) ⟨Nat.le_of_ble_eq_true rfl, Nat.le_of_ble_eq_true rfl⟩) hW 0 (xw_0 E _) rfl rfl rfl hl.1 (Nat.le_of_ble_eq_true rfl) dX3_lengthOf_8 ⟨Nat.le_of_ble_eq_true rfl, Nat.le_of_ble_eq_true rfl⟩ (fun r8 σ8 H locs hq2 hW => ?_)
  obtain ⟨K8, g8, rfl, rfl, hS8, hg8⟩ := hq2
  obtain ⟨hS8, hg8, hK8⟩ := hR.tr hG hp2 hS8 hg8
  have hR8 : xRepC Γ n (xu f 11 g8) := hR.tlx g8
  refine lv_istore_n (lv' := [(3, .int (nI K8)), (0, .ref (E.2.2.2 0)), (1, .int (nI p2)), (2, .int (bz b))]) hx hb dX3_lengthOf_11 rfl hl (by decide) rfl (fun ls hl => ?_)
  refine lv_iconst (v := 0) hx hb dX3_lengthOf_12 (by decide) ?_
  refine lv_istore (lv' := [(4, .int 0), (3, .int (nI K8)), (0, .ref (E.2.2.2 0)), (1, .int (nI p2)), (2, .int (bz b))]) hx hb dX3_lengthOf_13 hl (by decide) rfl (fun ls hl => ?_)
  refine lv_iload_n hx hb dX3_lengthOf_15 rfl (lv_at hl 3 rfl) ?_
  refine lv_istore (lv' := [(5, .int (nI p2)), (4, .int 0), (3, .int (nI K8)), (0, .ref (E.2.2.2 0)), (1, .int (nI p2)), (2, .int (bz b))]) hx hb dX3_lengthOf_16 hl (by decide) rfl (fun ls hl => ?_)
  refine lv_iload_n hx hb dX3_lengthOf_18 rfl (lv_at hl 5 rfl) ?_
  refine lv_istore (lv' := [(6, .int (bz b)), (5, .int (nI p2)), (4, .int 0), (3, .int (nI K8)), (0, .ref (E.2.2.2 0)), (1, .int (nI p2)), (2, .int (bz b))]) hx hb dX3_lengthOf_19 hl (by decide) rfl (fun ls hl => ?_)
  refine lv_iconst (v := 0) hx hb dX3_lengthOf_21 (by decide) ?_
  refine lv_istore (lv' := [(7, .int 0), (6, .int (bz b)), (5, .int (nI p2)), (4, .int 0), (3, .int (nI K8)), (0, .ref (E.2.2.2 0)), (1, .int (nI p2)), (2, .int (bz b))]) hx hb dX3_lengthOf_22 hl (by decide) rfl (fun ls hl => ?_)
  have L24 : ∀ (fu24 : Nat) (i q : Nat) (hμ : K8 + 1 - i < fu24) (hi : i ≤ K8) (hq : q < gNo Γ) (hw : xw (gCb Γ) (gOp Γ) b p2 i = nI q) (H : Heap) (locs : List Loc) (ls : Array Slot), xSt E (n, (xu f 11 g8), o) s s.heap H locs → lv_has ls 9 [(0, .ref (E.2.2.2 0)), (3, .int (nI K8)), (4, .int (gLen Γ b p2 i)), (5, .int (nI q)), (6, .int (bz (xdir b i))), (7, .int (nI i))] → W p l e rmX3_lengthOf s m args below meth c H locs 1 6 (vx_MQ below (va_Qi (fun r σ' => ocPort Γ (nI p2) = 0 ∧ (∃ K, xStop (gCb Γ) (gOp Γ) b (xNa (nI p2)) K ∧ r = gLen Γ b (xNa (nI p2)) K) ∧ xOKC Γ n f o σ') (xWd E) (xA E)) (xPx E (fun X σ' => xX1o (ocPort Γ (nI p2)) X ∧ xOKC Γ n f o σ')) args s 1 (6 * 1) (xA E)) (F0 m 24 ls []) := by
    intro fu24
    induction fu24 with
    | zero => intro i q hμ; exact absurd hμ (Nat.not_lt_zero _)
    | succ fu24 L24 =>
      intro i q hμ hi hq hw H locs ls hW hl
      refine lv_iload hx hb dX3_lengthOf_24 (lv_at hl 5 rfl) ?_
      refine lv_iload_n hx hb dX3_lengthOf_26 rfl (lv_at hl 1 rfl) ?_
      refine x_icmp_ge (a := i) (b := K8) (tgt := 100) hx hb dX3_lengthOf_27 (by decide) (by omega) (by omega) (fun c27 => ?_) (fun c27 => ?_)
      · refine lv_iload hx hb dX3_lengthOf_100 (lv_at hl 2 rfl) ?_
        exact x_Xreti S hr hlk hW (Nat.le_of_ble_eq_true rfl) (Nat.le_of_ble_eq_true rfl) dX3_lengthOf_102 (⟨xif_f (not_not_intro (xPn hp2)), ⟨K8, by rw [xNa_n (by omega)]; exact hS8, by rw [xNa_n (by omega), show i = K8 by omega]⟩, hR.trail _⟩)
      · obtain ⟨q2, hq2, e2⟩ := hS8.get (no := gNo Γ) (by omega) hG.cb hG.op hp2 (k := i + 1) (by omega)
        refine lv_aload_n hx hb dX3_lengthOf_30 rfl (lv_at hl 0 rfl) ?_
        refine x_get (v := .ref (E.2.2.2 23)) S hW hinX3 0 (xw_0 E _) rfl 16 (by decide) w64 rfl dX3_lengthOf_31 ?_
        refine lv_iload hx hb dX3_lengthOf_34 (lv_at hl 5 rfl) ?_
        refine x_Vi (rest := []) S (c_X2_at l E n (xu f 11 g8) o (i := 11) (by decide) (k := i) (show _ < 144 from by omega)) (cwV 1 S.2.2.2.2 gX3_lengthOf_X2_at rfl rfl rfl (by decide +kernel) ⟨Nat.le_of_ble_eq_true rfl, Nat.le_of_ble_eq_true rfl⟩) hW 23 (xw_23 E _) rfl rfl rfl hl.1 (Nat.le_of_ble_eq_true rfl) dX3_lengthOf_36 ⟨Nat.le_of_ble_eq_true rfl, Nat.le_of_ble_eq_true rfl⟩ (fun r36 σ36 H locs hq3 hW => ?_)
        obtain ⟨rfl, rfl⟩ := hq3
        refine x_topN (q2) ((hg8 i (by omega)).trans e2) ?_
        refine lv_istore (lv' := [(8, .int (nI q2)), (0, .ref (E.2.2.2 0)), (3, .int (nI K8)), (4, .int (gLen Γ b p2 i)), (5, .int (nI q)), (6, .int (bz (xdir b i))), (7, .int (nI i))]) hx hb dX3_lengthOf_39 hl (by decide) rfl (fun ls hl => ?_)
        refine lv_iload hx hb dX3_lengthOf_41 (lv_at hl 3 rfl) ?_
        refine lv_iload hx hb dX3_lengthOf_43 (lv_at hl 5 rfl) ?_
        refine lv_if_eq (tgt := 59) hx hb dX3_lengthOf_45 (by decide) (fun c45 => ?_) (fun c45 => ?_)
        · refine lv_aload_n hx hb dX3_lengthOf_59 rfl (lv_at hl 1 rfl) ?_
          refine x_get (v := .ref (E.2.2.2 21)) S hW hinX3 0 (xw_0 E _) rfl 14 (by decide) w54 rfl dX3_lengthOf_60 ?_
          have hd9 := bz_e c45
          have hst9 : gSt Γ q ≠ -1 := by intro e9; have := xw_step hw (by omega); rw [hd9, e2] at this; exact absurd (this.trans (by show gOp Γ q = -1; unfold gOp xop; rw [e9]; split <;> rfl)) (nI_m1 (by omega))
          obtain ⟨t9, ht9, et9⟩ := hG.tk q hq hst9
          refine lv_aload_n hx hb dX3_lengthOf_63 rfl (lv_at hl 1 rfl) ?_
          refine x_get (v := .ref (E.2.2.2 15)) S hW hinX3 0 (xw_0 E _) rfl 9 (by decide) w36 rfl dX3_lengthOf_64 ?_
          refine lv_iload hx hb dX3_lengthOf_67 (lv_at hl 4 rfl) ?_
          refine x_Vi (rest := [.ref (E.2.2.2 21), .int (gLen Γ b p2 i)]) S (c_X2_at l E n (xu f 11 g8) o (i := 7) (by decide) (k := q) (show _ < 144 from by omega)) (cwV 1 S.2.2.2.2 gX3_lengthOf_X2_at rfl rfl rfl (by decide +kernel) ⟨Nat.le_of_ble_eq_true rfl, Nat.le_of_ble_eq_true rfl⟩) hW 15 (xw_15 E _) rfl rfl rfl hl.1 (Nat.le_of_ble_eq_true rfl) dX3_lengthOf_69 ⟨Nat.le_of_ble_eq_true rfl, Nat.le_of_ble_eq_true rfl⟩ (fun r69 σ69 H locs hq4 hW => ?_)
          obtain ⟨rfl, rfl⟩ := hq4
          refine x_topN (t9) ((hR.tk q hq hst9).trans et9) ?_
          refine x_Vi (rest := [.int (gLen Γ b p2 i)]) S (c_X2_at l E n (xu f 11 g8) o (i := 10) (by decide) (k := t9) (show _ < 10 from by omega)) (cwV 1 S.2.2.2.2 gX3_lengthOf_X2_at rfl rfl rfl (by decide +kernel) ⟨Nat.le_of_ble_eq_true rfl, Nat.le_of_ble_eq_true rfl⟩) hW 21 (xw_21 E _) rfl rfl rfl hl.1 (Nat.le_of_ble_eq_true rfl) dX3_lengthOf_72 ⟨Nat.le_of_ble_eq_true rfl, Nat.le_of_ble_eq_true rfl⟩ (fun r72 σ72 H locs hq5 hW => ?_)
          obtain ⟨rfl, rfl⟩ := hq5
          refine x_topE (gTl Γ t9) (hR.tl_ t9 ht9) ?_
          refine lv_iadd hx hb dX3_lengthOf_75 ?_
          refine x_topE (gLen Γ b p2 (i + 1)) (by rw [gLen, if_neg (by rw [hd9]; decide), hw, xNa_n (by omega), et9, xNa_n (by omega)]) ?_
          refine lv_istore (lv' := [(4, .int (gLen Γ b p2 (i + 1))), (8, .int (nI q2)), (0, .ref (E.2.2.2 0)), (3, .int (nI K8)), (5, .int (nI q)), (6, .int (bz (xdir b i))), (7, .int (nI i))]) hx hb dX3_lengthOf_76 hl (by decide) rfl (fun ls hl => ?_)
          refine lv_iload hx hb dX3_lengthOf_78 (lv_at hl 1 rfl) ?_
          refine lv_istore (lv' := [(5, .int (nI q2)), (4, .int (gLen Γ b p2 (i + 1))), (8, .int (nI q2)), (0, .ref (E.2.2.2 0)), (3, .int (nI K8)), (6, .int (bz (xdir b i))), (7, .int (nI i))]) hx hb dX3_lengthOf_80 hl (by decide) rfl (fun ls hl => ?_)
          refine lv_iload hx hb dX3_lengthOf_82 (lv_at hl 5 rfl) ?_
          refine lv_if_ne (tgt := 91) hx hb dX3_lengthOf_84 (by decide) (fun c84 => ?_) (fun c84 => ?_)
          · refine lv_iconst (v := 0) hx hb dX3_lengthOf_91 (by decide) ?_
            refine x_topE (bz (xdir b (i + 1))) ((by rw [xdir_s]; exact bz_f0 c84)) ?_
            refine lv_istore (lv' := [(6, .int (bz (xdir b (i + 1)))), (5, .int (nI q2)), (4, .int (gLen Γ b p2 (i + 1))), (8, .int (nI q2)), (0, .ref (E.2.2.2 0)), (3, .int (nI K8)), (7, .int (nI i))]) hx hb dX3_lengthOf_92 hl (by decide) rfl (fun ls hl => ?_)
            refine lv_iinc (v := (nI (i + 1))) (lv' := [(7, .int (nI (i + 1))), (6, .int (bz (xdir b (i + 1)))), (5, .int (nI q2)), (4, .int (gLen Γ b p2 (i + 1))), (8, .int (nI q2)), (0, .ref (E.2.2.2 0)), (3, .int (nI K8))]) hx hb dX3_lengthOf_94 hl (k := 6) rfl (x_inc _) (by decide) rfl (fun ls hl => ?_)
            refine lv_goto (tgt := 24) hx hb dX3_lengthOf_97 (by decide) ?_
            exact L24  (i + 1) (q2) (by omega) (by omega) (hq2) (e2) _ _ _ hW (lv_sub hl [5, 6, 3, 2, 1, 0] rfl)
          · refine lv_iconst (v := 1) hx hb dX3_lengthOf_87 (by decide) ?_
            refine lv_goto (tgt := 92) hx hb dX3_lengthOf_88 (by decide) ?_
            refine x_topE (bz (xdir b (i + 1))) ((by rw [xdir_s]; exact bz_f1 c84)) ?_
            refine lv_istore (lv' := [(6, .int (bz (xdir b (i + 1)))), (5, .int (nI q2)), (4, .int (gLen Γ b p2 (i + 1))), (8, .int (nI q2)), (0, .ref (E.2.2.2 0)), (3, .int (nI K8)), (7, .int (nI i))]) hx hb dX3_lengthOf_92 hl (by decide) rfl (fun ls hl => ?_)
            refine lv_iinc (v := (nI (i + 1))) (lv' := [(7, .int (nI (i + 1))), (6, .int (bz (xdir b (i + 1)))), (5, .int (nI q2)), (4, .int (gLen Γ b p2 (i + 1))), (8, .int (nI q2)), (0, .ref (E.2.2.2 0)), (3, .int (nI K8))]) hx hb dX3_lengthOf_94 hl (k := 6) rfl (x_inc _) (by decide) rfl (fun ls hl => ?_)
            refine lv_goto (tgt := 24) hx hb dX3_lengthOf_97 (by decide) ?_
            exact L24  (i + 1) (q2) (by omega) (by omega) (hq2) (e2) _ _ _ hW (lv_sub hl [5, 6, 3, 2, 1, 0] rfl)
        · refine lv_aload_n hx hb dX3_lengthOf_48 rfl (lv_at hl 1 rfl) ?_
          refine lv_iload hx hb dX3_lengthOf_49 (lv_at hl 4 rfl) ?_
          refine lv_iload hx hb dX3_lengthOf_51 (lv_at hl 0 rfl) ?_
          refine x_Vi (rest := [.int (gLen Γ b p2 i)]) S (c_X3_lengthBetween l E n (xu f 11 g8) o (p1 := q) (by omega) (p2 := q2) (by omega) (by have := (hG.pn q hq).1; omega) (by have := (hG.pn q2 hq2).1; omega) (hR8.pn q hq) (hR8.pn q2 hq2)) (cwV 2 S.2.2.2.2 gX3_lengthOf_X3_lengthBetween rfl rfl rfl (by decide +kernel) ⟨Nat.le_of_ble_eq_true rfl, Nat.le_of_ble_eq_true rfl⟩) hW 0 (xw_0 E _) rfl rfl rfl hl.1 (Nat.le_of_ble_eq_true rfl) dX3_lengthOf_53 ⟨Nat.le_of_ble_eq_true rfl, Nat.le_of_ble_eq_true rfl⟩ (fun r53 σ53 H locs hq6 hW => ?_)
          obtain ⟨e53, rfl⟩ := hq6
          have e53 : r53 = xlen (gRk Γ) (gPn Γ q) (gPn Γ q2) := e53.trans (xlen_c (hR8.rk _ (hG.pn q hq).1) (hR8.rk _ (hG.pn q2 hq2).1))
          subst e53
          refine lv_goto (tgt := 75) hx hb dX3_lengthOf_56 (by decide) ?_
          refine lv_iadd hx hb dX3_lengthOf_75 ?_
          refine x_topE (gLen Γ b p2 (i + 1)) (by rw [gLen, if_pos (bz_t c45), hw, e2, xNa_n (by omega), xNa_n (by omega)]) ?_
          refine lv_istore (lv' := [(4, .int (gLen Γ b p2 (i + 1))), (8, .int (nI q2)), (0, .ref (E.2.2.2 0)), (3, .int (nI K8)), (5, .int (nI q)), (6, .int (bz (xdir b i))), (7, .int (nI i))]) hx hb dX3_lengthOf_76 hl (by decide) rfl (fun ls hl => ?_)
          refine lv_iload hx hb dX3_lengthOf_78 (lv_at hl 1 rfl) ?_
          refine lv_istore (lv' := [(5, .int (nI q2)), (4, .int (gLen Γ b p2 (i + 1))), (8, .int (nI q2)), (0, .ref (E.2.2.2 0)), (3, .int (nI K8)), (6, .int (bz (xdir b i))), (7, .int (nI i))]) hx hb dX3_lengthOf_80 hl (by decide) rfl (fun ls hl => ?_)
          refine lv_iload hx hb dX3_lengthOf_82 (lv_at hl 5 rfl) ?_
          refine lv_if_ne (tgt := 91) hx hb dX3_lengthOf_84 (by decide) (fun c84 => ?_) (fun c84 => ?_)
          · refine lv_iconst (v := 0) hx hb dX3_lengthOf_91 (by decide) ?_
            refine x_topE (bz (xdir b (i + 1))) ((by rw [xdir_s]; exact bz_f0 c84)) ?_
            refine lv_istore (lv' := [(6, .int (bz (xdir b (i + 1)))), (5, .int (nI q2)), (4, .int (gLen Γ b p2 (i + 1))), (8, .int (nI q2)), (0, .ref (E.2.2.2 0)), (3, .int (nI K8)), (7, .int (nI i))]) hx hb dX3_lengthOf_92 hl (by decide) rfl (fun ls hl => ?_)
            refine lv_iinc (v := (nI (i + 1))) (lv' := [(7, .int (nI (i + 1))), (6, .int (bz (xdir b (i + 1)))), (5, .int (nI q2)), (4, .int (gLen Γ b p2 (i + 1))), (8, .int (nI q2)), (0, .ref (E.2.2.2 0)), (3, .int (nI K8))]) hx hb dX3_lengthOf_94 hl (k := 6) rfl (x_inc _) (by decide) rfl (fun ls hl => ?_)
            refine lv_goto (tgt := 24) hx hb dX3_lengthOf_97 (by decide) ?_
            exact L24  (i + 1) (q2) (by omega) (by omega) (hq2) (e2) _ _ _ hW (lv_sub hl [5, 6, 3, 2, 1, 0] rfl)
          · refine lv_iconst (v := 1) hx hb dX3_lengthOf_87 (by decide) ?_
            refine lv_goto (tgt := 92) hx hb dX3_lengthOf_88 (by decide) ?_
            refine x_topE (bz (xdir b (i + 1))) ((by rw [xdir_s]; exact bz_f1 c84)) ?_
            refine lv_istore (lv' := [(6, .int (bz (xdir b (i + 1)))), (5, .int (nI q2)), (4, .int (gLen Γ b p2 (i + 1))), (8, .int (nI q2)), (0, .ref (E.2.2.2 0)), (3, .int (nI K8)), (7, .int (nI i))]) hx hb dX3_lengthOf_92 hl (by decide) rfl (fun ls hl => ?_)
            refine lv_iinc (v := (nI (i + 1))) (lv' := [(7, .int (nI (i + 1))), (6, .int (bz (xdir b (i + 1)))), (5, .int (nI q2)), (4, .int (gLen Γ b p2 (i + 1))), (8, .int (nI q2)), (0, .ref (E.2.2.2 0)), (3, .int (nI K8))]) hx hb dX3_lengthOf_94 hl (k := 6) rfl (x_inc _) (by decide) rfl (fun ls hl => ?_)
            refine lv_goto (tgt := 24) hx hb dX3_lengthOf_97 (by decide) ?_
            exact L24  (i + 1) (q2) (by omega) (by omega) (hq2) (e2) _ _ _ hW (lv_sub hl [5, 6, 3, 2, 1, 0] rfl)
  exact L24 _ (0) (p2) (Nat.lt_succ_self _) (by omega) (hp2) (rfl) _ _ _ hW (lv_sub hl [5, 4, 3, 2, 1, 0] rfl)
