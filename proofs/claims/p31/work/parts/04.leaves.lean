abbrev rmX2_at : Room := { frames := 0, cells := 0, slots := 0, locals := 0 }
set_option maxHeartbeats 4000000 in
set_option maxRecDepth 100000 in
theorem c_X2_at (l : Launch) (E : xE) (n : Nat → Int32) (f : Nat → Nat → Int32) (o : Nat → Int64) {i : Nat} (hi : i < 17) {k : Nat} (hk : k < xsz i) : xCi l yX2_at wsX2_at rmX2_at E [.ref (E.2.2.2 (1 + 2 * i)), .int (nI k)] (n, f, o) (fun r σ' => r = f i k ∧ σ' = (n, f, o)) := by
  refine x_starti RX2 (by decide) rfl rfl (Nat.le_of_ble_eq_true rfl) ?_
  intro p e s m args below meth c ls S hr hlk hW hl
  have hx := S.1
  have hb := S.2.1
  have hl : lv_has ls 2 [(0, .ref (E.2.2.2 (1 + 2 * i))), (1, .int (nI k))] := hl
  have hinX2 : ∀ w ∈ wsX20, w ∈ wsX2_at := by decide +kernel
  have w13 : Cond.fieldLink RX2 13 "CableBook$Row" "values" "[I" ∈ wsX2_at := by decide +kernel
  have hsz := xsz_le i
  refine lv_iload_n hx hb dX2_at_0 rfl (lv_at hl 1 rfl) ?_
  refine x_if_lt (tgt := 22) hx hb dX2_at_1 (by decide) (by omega) ?_
  refine lv_iload_n hx hb dX2_at_4 rfl (lv_at hl 1 rfl) ?_
  refine lv_aload_n hx hb dX2_at_5 rfl (lv_at hl 0 rfl) ?_
  refine x_get (v := .ref (E.2.2.2 (2 + 2 * i))) S hW hinX2 (1 + 2 * i) (xw_row E _ hi) rfl 0 (by decide) w13 rfl dX2_at_6 ?_
  refine x_len (v := (nI (xsz i))) S hW (2 + 2 * i) (xw_arr E _ hi) rfl dX2_at_9 ?_
  refine x_icmp_ge (a := k) (b := (xsz i)) (tgt := 22) hx hb dX2_at_10 (by decide) (by omega) (by omega) (fun c10 => ?_) (fun c10 => ?_)
  · exact absurd c10 (by omega)
  refine lv_aload_n hx hb dX2_at_13 rfl (lv_at hl 0 rfl) ?_
  refine x_get (v := .ref (E.2.2.2 (2 + 2 * i))) S hW hinX2 (1 + 2 * i) (xw_row E _ hi) rfl 0 (by decide) w13 rfl dX2_at_14 ?_
  refine lv_iload_n hx hb dX2_at_17 rfl (lv_at hl 1 rfl) ?_
  refine x_ildN (k := k) (v := ((f i) k)) S hW (2 + 2 * i) (xw_arr E _ hi) (rfl) (by omega) (by omega) rfl dX2_at_18 ?_
  refine lv_goto (tgt := 26) hx hb dX2_at_19 (by decide) ?_
  exact x_reti S hr hlk hW dX2_at_26 (⟨rfl, rfl⟩)

abbrev rmX2_put : Room := { frames := 0, cells := 0, slots := 0, locals := 0 }
set_option maxHeartbeats 4000000 in
set_option maxRecDepth 100000 in
theorem c_X2_put (l : Launch) (E : xE) (n : Nat → Int32) (f : Nat → Nat → Int32) (o : Nat → Int64) {i : Nat} (hi : i < 17) {k : Nat} (hk : k < xsz i) (v : Int32) : xCv l yX2_put wsX2_put rmX2_put E [.ref (E.2.2.2 (1 + 2 * i)), .int (nI k), .int v] (n, f, o) (fun σ' => σ' = (n, xu f i (upd (f i) k v), o)) := by
  refine x_startv RX2 (by decide) rfl rfl (Nat.le_of_ble_eq_true rfl) ?_
  intro p e s m args below meth c ls S hr hlk hW hl
  have hx := S.1
  have hb := S.2.1
  have hl : lv_has ls 3 [(0, .ref (E.2.2.2 (1 + 2 * i))), (1, .int (nI k)), (2, .int v)] := hl
  have hinX2 : ∀ w ∈ wsX20, w ∈ wsX2_put := by decide +kernel
  have w13 : Cond.fieldLink RX2 13 "CableBook$Row" "values" "[I" ∈ wsX2_put := by decide +kernel
  have hsz := xsz_le i
  refine lv_iload_n hx hb dX2_put_0 rfl (lv_at hl 1 rfl) ?_
  refine x_if_lt (tgt := 20) hx hb dX2_put_1 (by decide) (by omega) ?_
  refine lv_iload_n hx hb dX2_put_4 rfl (lv_at hl 1 rfl) ?_
  refine lv_aload_n hx hb dX2_put_5 rfl (lv_at hl 0 rfl) ?_
  refine x_get (v := .ref (E.2.2.2 (2 + 2 * i))) S hW hinX2 (1 + 2 * i) (xw_row E _ hi) rfl 0 (by decide) w13 rfl dX2_put_6 ?_
  refine x_len (v := (nI (xsz i))) S hW (2 + 2 * i) (xw_arr E _ hi) rfl dX2_put_9 ?_
  refine x_icmp_ge (a := k) (b := (xsz i)) (tgt := 20) hx hb dX2_put_10 (by decide) (by omega) (by omega) (fun c10 => ?_) (fun c10 => ?_)
  · exact absurd c10 (by omega)
  refine lv_aload_n hx hb dX2_put_13 rfl (lv_at hl 0 rfl) ?_
  refine x_get (v := .ref (E.2.2.2 (2 + 2 * i))) S hW hinX2 (1 + 2 * i) (xw_row E _ hi) rfl 0 (by decide) w13 rfl dX2_put_14 ?_
  refine lv_iload_n hx hb dX2_put_17 rfl (lv_at hl 1 rfl) ?_
  refine lv_iload_n hx hb dX2_put_18 rfl (lv_at hl 2 rfl) ?_
  refine x_istN (k := k) (σ' := (n, (xu f i (upd (f i) k v)), o)) S hW (2 + 2 * i) (xw_arr E _ hi) (rfl) (by omega) (by omega) (xw_arrS E _ _ _ hi _) dX2_put_19 (fun H locs hW => ?_)
  exact x_retv S hr hlk hW dX2_put_20 (rfl)

abbrev rmX0_has : Room := { frames := 0, cells := 0, slots := 0, locals := 0 }
set_option maxHeartbeats 4000000 in
set_option maxRecDepth 100000 in
theorem c_X0_has (l : Launch) (E : xE) (n : Nat → Int32) (f : Nat → Nat → Int32) (o : Nat → Int64) {i : Nat} (hi : i < 2) {k : Nat} (hk : k < 144) : xCi l yX0_has wsX0_has rmX0_has E [.ref (E.2.2.2 (35 + 2 * i)), .int (nI k)] (n, f, o) (fun r σ' => (r = 0 ∧ ¬ (f (17 + i) k ≠ 0) ∧ σ' = (n, f, o)) ∨ (r = 1 ∧ (f (17 + i) k ≠ 0) ∧ σ' = (n, f, o))) := by
  refine x_starti RX0 (by decide) rfl rfl (Nat.le_of_ble_eq_true rfl) ?_
  intro p e s m args below meth c ls S hr hlk hW hl
  have hx := S.1
  have hb := S.2.1
  have hl : lv_has ls 2 [(0, .ref (E.2.2.2 (35 + 2 * i))), (1, .int (nI k))] := hl
  have hinX0 : ∀ w ∈ wsX00, w ∈ wsX0_has := by decide +kernel
  have w13 : Cond.fieldLink RX0 13 "CableBook$Marks" "marked" "[Z" ∈ wsX0_has := by decide +kernel
  refine lv_iload_n hx hb dX0_has_0 rfl (lv_at hl 1 rfl) ?_
  refine x_if_lt (tgt := 26) hx hb dX0_has_1 (by decide) (by omega) ?_
  refine lv_iload_n hx hb dX0_has_4 rfl (lv_at hl 1 rfl) ?_
  refine lv_aload_n hx hb dX0_has_5 rfl (lv_at hl 0 rfl) ?_
  refine x_get (v := .ref (E.2.2.2 (36 + 2 * i))) S hW hinX0 (35 + 2 * i) (xw_mrk E _ hi) rfl 0 (by decide) w13 rfl dX0_has_6 ?_
  refine x_lenZ (v := (nI 144)) S hW (36 + 2 * i) (xw_mar E _ hi) rfl dX0_has_9 ?_
  refine x_icmp_ge (a := k) (b := 144) (tgt := 26) hx hb dX0_has_10 (by decide) (by omega) (by omega) (fun c10 => ?_) (fun c10 => ?_)
  · exact absurd c10 (by omega)
  refine lv_aload_n hx hb dX0_has_13 rfl (lv_at hl 0 rfl) ?_
  refine x_get (v := .ref (E.2.2.2 (36 + 2 * i))) S hW hinX0 (35 + 2 * i) (xw_mrk E _ hi) rfl 0 (by decide) w13 rfl dX0_has_14 ?_
  refine lv_iload_n hx hb dX0_has_17 rfl (lv_at hl 1 rfl) ?_
  refine x_zldN (k := k) (v := ((f (17 + i)) k)) S hW (36 + 2 * i) (xw_mar E _ hi) (rfl) (by omega) (by omega) rfl dX0_has_18 ?_
  refine lv_if_eq (tgt := 26) hx hb dX0_has_19 (by decide) (fun c19 => ?_) (fun c19 => ?_)
  · refine lv_iconst (v := 0) hx hb dX0_has_26 (by decide) ?_
    exact x_retz S hr hlk hW dX0_has_27 (Or.inl rfl) (.inl ⟨rfl, not_not_intro c19, rfl⟩)
  · refine lv_iconst (v := 1) hx hb dX0_has_22 (by decide) ?_
    refine lv_goto (tgt := 27) hx hb dX0_has_23 (by decide) ?_
    exact x_retz S hr hlk hW dX0_has_27 (Or.inr rfl) (.inr ⟨rfl, c19, rfl⟩)

abbrev rmX0_set : Room := { frames := 0, cells := 0, slots := 0, locals := 0 }
set_option maxHeartbeats 4000000 in
set_option maxRecDepth 100000 in
theorem c_X0_set (l : Launch) (E : xE) (n : Nat → Int32) (f : Nat → Nat → Int32) (o : Nat → Int64) {i : Nat} (hi : i < 2) {k : Nat} (hk : k < 144) {v : Int32} (hv : v = 0 ∨ v = 1) : xCv l yX0_set wsX0_set rmX0_set E [.ref (E.2.2.2 (35 + 2 * i)), .int (nI k), .int v] (n, f, o) (fun σ' => σ' = (n, xu f (17 + i) (upd (f (17 + i)) k v), o)) := by
  refine x_startv RX0 (by decide) rfl rfl (Nat.le_of_ble_eq_true rfl) ?_
  intro p e s m args below meth c ls S hr hlk hW hl
  have hx := S.1
  have hb := S.2.1
  have hl : lv_has ls 3 [(0, .ref (E.2.2.2 (35 + 2 * i))), (1, .int (nI k)), (2, .int v)] := hl
  have hinX0 : ∀ w ∈ wsX00, w ∈ wsX0_set := by decide +kernel
  have w13 : Cond.fieldLink RX0 13 "CableBook$Marks" "marked" "[Z" ∈ wsX0_set := by decide +kernel
  refine lv_iload_n hx hb dX0_set_0 rfl (lv_at hl 1 rfl) ?_
  refine x_if_lt (tgt := 20) hx hb dX0_set_1 (by decide) (by omega) ?_
  refine lv_iload_n hx hb dX0_set_4 rfl (lv_at hl 1 rfl) ?_
  refine lv_aload_n hx hb dX0_set_5 rfl (lv_at hl 0 rfl) ?_
  refine x_get (v := .ref (E.2.2.2 (36 + 2 * i))) S hW hinX0 (35 + 2 * i) (xw_mrk E _ hi) rfl 0 (by decide) w13 rfl dX0_set_6 ?_
  refine x_lenZ (v := (nI 144)) S hW (36 + 2 * i) (xw_mar E _ hi) rfl dX0_set_9 ?_
  refine x_icmp_ge (a := k) (b := 144) (tgt := 20) hx hb dX0_set_10 (by decide) (by omega) (by omega) (fun c10 => ?_) (fun c10 => ?_)
  · exact absurd c10 (by omega)
  refine lv_aload_n hx hb dX0_set_13 rfl (lv_at hl 0 rfl) ?_
  refine x_get (v := .ref (E.2.2.2 (36 + 2 * i))) S hW hinX0 (35 + 2 * i) (xw_mrk E _ hi) rfl 0 (by decide) w13 rfl dX0_set_14 ?_
  refine lv_iload_n hx hb dX0_set_17 rfl (lv_at hl 1 rfl) ?_
  refine lv_iload_n hx hb dX0_set_18 rfl (lv_at hl 2 rfl) ?_
  refine x_zstN (k := k) (σ' := (n, (xu f (17 + i) (upd (f (17 + i)) k v)), o)) S hW (36 + 2 * i) (xw_mar E _ hi) (rfl) (by omega) (by omega) (hv) (xw_marS E _ _ _ hi _) dX0_set_19 (fun H locs hW => ?_)
  exact x_retv S hr hlk hW dX0_set_20 (rfl)

abbrev rmX0_clear : Room := { frames := 0, cells := 0, slots := 0, locals := 0 }
set_option maxHeartbeats 4000000 in
set_option maxRecDepth 100000 in
theorem c_X0_clear (l : Launch) (E : xE) (n : Nat → Int32) (f : Nat → Nat → Int32) (o : Nat → Int64) {i : Nat} (hi : i < 2) : xCv l yX0_clear wsX0_clear rmX0_clear E [.ref (E.2.2.2 (35 + 2 * i))] (n, f, o) (fun σ' => ∃ g, σ' = (n, xu f (17 + i) g, o) ∧ ∀ k, k < 144 → g k = 0) := by
  refine x_startv RX0 (by decide) rfl rfl (Nat.le_of_ble_eq_true rfl) ?_
  intro p e s m args below meth c ls S hr hlk hW hl
  have hx := S.1
  have hb := S.2.1
  have hl : lv_has ls 2 [(0, .ref (E.2.2.2 (35 + 2 * i)))] := hl
  have hinX0 : ∀ w ∈ wsX00, w ∈ wsX0_clear := by decide +kernel
  have w13 : Cond.fieldLink RX0 13 "CableBook$Marks" "marked" "[Z" ∈ wsX0_clear := by decide +kernel
  refine lv_iconst (v := 0) hx hb dX0_clear_0 (by decide) ?_
  refine lv_istore_n (lv' := [(1, .int 0), (0, .ref (E.2.2.2 (35 + 2 * i)))]) hx hb dX0_clear_1 rfl hl (by decide) rfl (fun ls hl => ?_)
  have L2 : ∀ (fu2 : Nat) (j : Nat) (F : Nat → Nat → Int32) (hμ : 145 - j < fu2) (hj : j ≤ 144) (hF : ∀ q, q ≠ 17 + i → F q = f q) (h0 : ∀ q, q < j → F (17 + i) q = 0) (H : Heap) (locs : List Loc) (ls : Array Slot), xSt E (n, F, o) s s.heap H locs → lv_has ls 2 [(0, .ref (E.2.2.2 (35 + 2 * i))), (1, .int (nI j))] → W p l e rmX0_clear s m args below meth c H locs 0 0 (MQ below (va_Qv (fun σ' => ∃ g, σ' = (n, xu f (17 + i) g, o) ∧ ∀ k, k < 144 → g k = 0) (xWd E) (xA E)) args s 0 0 (xA E)) (F0 m 2 ls []) := by
    intro fu2
    induction fu2 with
    | zero => intro j F hμ; exact absurd hμ (Nat.not_lt_zero _)
    | succ fu2 L2 =>
      intro j F hμ hj hF h0 H locs ls hW hl
      refine lv_iload_n hx hb dX0_clear_2 rfl (lv_at hl 1 rfl) ?_
      refine lv_aload_n hx hb dX0_clear_3 rfl (lv_at hl 0 rfl) ?_
      refine x_get (v := .ref (E.2.2.2 (36 + 2 * i))) S hW hinX0 (35 + 2 * i) (xw_mrk E _ hi) rfl 0 (by decide) w13 rfl dX0_clear_4 ?_
      refine x_lenZ (v := (nI 144)) S hW (36 + 2 * i) (xw_mar E _ hi) rfl dX0_clear_7 ?_
      refine x_icmp_ge (a := j) (b := 144) (tgt := 24) hx hb dX0_clear_8 (by decide) (by omega) (by omega) (fun c8 => ?_) (fun c8 => ?_)
      · exact x_retv S hr hlk hW dX0_clear_24 (⟨F (17 + i), by rw [← xu_of hF], fun q hq => h0 q (by omega)⟩)
      · refine lv_aload_n hx hb dX0_clear_11 rfl (lv_at hl 0 rfl) ?_
        refine x_get (v := .ref (E.2.2.2 (36 + 2 * i))) S hW hinX0 (35 + 2 * i) (xw_mrk E _ hi) rfl 0 (by decide) w13 rfl dX0_clear_12 ?_
        refine lv_iload_n hx hb dX0_clear_15 rfl (lv_at hl 1 rfl) ?_
        refine lv_iconst (v := 0) hx hb dX0_clear_16 (by decide) ?_
        refine x_zstN (k := j) (σ' := (n, (xu F (17 + i) (upd (F (17 + i)) j 0)), o)) S hW (36 + 2 * i) (xw_mar E _ hi) (rfl) (by omega) (by omega) (Or.inl rfl) (xw_marS E _ _ _ hi _) dX0_clear_17 (fun H locs hW => ?_)
        refine lv_iinc (v := (nI (j + 1))) (lv' := [(1, .int (nI (j + 1))), (0, .ref (E.2.2.2 (35 + 2 * i)))]) hx hb dX0_clear_18 hl (k := 1) rfl (x_inc _) (by decide) rfl (fun ls hl => ?_)
        refine lv_goto (tgt := 2) hx hb dX0_clear_21 (by decide) ?_
        exact L2  (j + 1) ((xu F (17 + i) (upd (F (17 + i)) j 0))) (by omega) (by omega) (xu_keep hF) (by rw [xu_s]; exact upd_lt h0) _ _ _ hW (lv_sub hl [1, 0] rfl)
  exact L2 _ (0) (f) (Nat.lt_succ_self _) (by omega) (fun _ _ => rfl) (fun q hq => absurd hq (Nat.not_lt_zero q)) _ _ _ hW (lv_sub hl [1, 0] rfl)
