/-! the law: its two loops -/
section XLL
variable {p : Program} {l : Launch} {e : Env} {s : State} {m : MethodId} {args : Array Value} {below : List Frame} {meth : Method} {c : Code} {Q : State → Prop}
variable {X : xF} {b L : Nat} {xs : Nat → Int32}
set_option maxHeartbeats 4000000 in
set_option maxRecDepth 100000 in
theorem lw_loops (S : CallFix p m c cL_law 7 s args wsL_law RL) (hfl : l.stackTraces = false) (hTh : xThF X s) (hNc : xNc s) (hX : va_X b L xs s s.heap) (hbl : b < s.heap.size) (hbA : ¬ xAF X b) (hL : L < 1000) {H : Heap} {locs : List Loc} {ls : Array Slot} (hW : pSt X xG0 xG0 s s.heap H locs) (hl : lv_has ls 7 [(0, .ref b), (1, .ref (X.2.2.2.1 0)), (2, .ref (X.2.2.2.2 0))])
    (kend : ∀ (H1 : Heap) (locs1 : List Loc) (ls1 : Array Slot), va_S (xAF X) s.heap H1 locs1 → W p l e room_1 s m args below meth c H1 locs1 651495 7147140 Q (F0 m 290 ls1 [.int 1])) : W p l e room_1 s m args below meth c H locs 500 (6 * 500) Q (F0 m 16 ls []) := by
  have hx := S.1
  have hb := S.2.1
  have wq16 : Cond.constant RL 16 (-99999) ∈ wsL_law := by decide +kernel
  refine lv_iconst (v := 1) hx hb dL_law_16 (by decide) ?_
  refine lv_istore_n (lv' := [(3, .int 1), (0, .ref b), (1, .ref (X.2.2.2.1 0)), (2, .ref (X.2.2.2.2 0))]) hx hb dL_law_17 rfl hl (by decide) rfl (fun ls hl => ?_)
  refine lv_iconst (v := 0) hx hb dL_law_18 (by decide) ?_
  refine lv_istore (lv' := [(4, .int 0), (3, .int 1), (0, .ref b), (1, .ref (X.2.2.2.1 0)), (2, .ref (X.2.2.2.2 0))]) hx hb dL_law_19 hl (by decide) rfl (fun ls hl => ?_)
  have L21 : ∀ (fu21 : Nat) (Γ : xG) (k : Nat) (hμ21 : 4 - k < fu21) (hk : k ≤ 3) (hG : xGd Γ) (hnp : gNp Γ = k) (hnk : k ≤ gNo Γ) (H : Heap) (locs : List Loc) (ls : Array Slot), pSt X Γ Γ s s.heap H locs → lv_has ls 7 [(0, .ref b), (1, .ref (X.2.2.2.1 0)), (2, .ref (X.2.2.2.2 0)), (3, .int 1), (4, .int (nI k))] → W p l e room_1 s m args below meth c H locs (500 + 2 * k) (6 * (500 + 2 * k)) (Q) (F0 m 21 ls []) := by
    intro fu21
    induction fu21 with
    | zero => intro Γ k hμ21; exact absurd hμ21 (Nat.not_lt_zero _)
    | succ fu21 L21 =>
      intro Γ k hμ21 hk hG hnp hnk H locs ls hW hl
      refine lv_iload hx hb dL_law_21 (lv_at hl 4 rfl) ?_
      refine lv_iconst (v := 3) hx hb dL_law_23 (by decide) ?_
      refine x_icmp_ge (a := k) (b := 3) (tgt := 98) hx hb dL_law_24 (by decide) (by omega) (by omega) (fun c24 => ?_) (fun c24 => ?_)
      · refine lv_iconst (v := 3) hx hb dL_law_98 (by decide) ?_
        refine lv_istore (lv' := [(4, .int 3), (0, .ref b), (1, .ref (X.2.2.2.1 0)), (2, .ref (X.2.2.2.2 0)), (3, .int 1)]) hx hb dL_law_99 hl (by decide) rfl (fun ls hl => ?_)
        have L101 : ∀ (fu101 : Nat) (Γ : xG) (k : Nat) (hμ101 : 73 - k < fu101) (hk3 : 3 ≤ k) (hk : k ≤ 72) (hG : xGd Γ) (hn0 : 0 < gNo Γ) (H : Heap) (locs : List Loc) (ls : Array Slot), pSt X Γ Γ s s.heap H locs → lv_has ls 7 [(0, .ref b), (1, .ref (X.2.2.2.1 0)), (2, .ref (X.2.2.2.2 0)), (3, .int 1), (4, .int (nI k))] → W p l e room_1 s m args below meth c H locs (600 + 30 * k) (6 * (600 + 30 * k)) (Q) (F0 m 101 ls []) := by
          intro fu101
          induction fu101 with
          | zero => intro Γ k hμ101; exact absurd hμ101 (Nat.not_lt_zero _)
          | succ fu101 L101 =>
            intro Γ k hμ101 hk3 hk hG hn0 H locs ls hW hl
            have hno := hG.1.no
            refine lv_iload hx hb dL_law_101 (lv_at hl 4 rfl) ?_
            refine lv_bipush (v := 72) hx hb dL_law_103 (by decide) ?_
            refine x_icmp_ge (a := k) (b := 72) (tgt := 257) hx hb dL_law_105 (by decide) (by omega) (by omega) (fun c105 => ?_) (fun c105 => ?_)
            · refine lv_iload_n hx hb dL_law_257 rfl (lv_at hl 3 rfl) ?_
              refine lv_if_eq (tgt := 289) hx hb dL_law_258 (by decide) (fun c258 => ?_) (fun c258 => ?_)
              · exact absurd c258 (by decide)
              refine lv_aload_n hx hb dL_law_261 rfl (lv_at hl 1 rfl) ?_
              refine lv_aload_n hx hb dL_law_262 rfl (lv_at hl 2 rfl) ?_
              refine p_S2 (K := 0) (rm := rmL_areAlike) (As := [.ref (X.2.2.2.1 0), .ref (X.2.2.2.2 0)]) (rest := []) S (c_L_areAlike l X hfl Γ hG) (cwS 2 S.2.2.2.2 gL_law_L_areAlike rfl rfl rfl (by decide +kernel) ⟨Nat.le_of_ble_eq_true rfl, Nat.le_of_ble_eq_true rfl⟩) hW hTh hNc rfl rfl hl.1 (Nat.le_of_ble_eq_true rfl) dL_law_263 (by show 600 + 30 * k + 0 ≤ 651495 ∧ 6 * (600 + 30 * k) + 6 * 0 ≤ 7147140; omega) (fun r263 Γ263 H locs hq263 hW => ?_)
              obtain ⟨rfl, rfl⟩ := hq263
              have hW : pSt X Γ Γ s s.heap H locs := hW
              refine lv_if_eq (tgt := 289) hx hb dL_law_266 (by decide) (fun c266 => ?_) (fun c266 => ?_)
              · exact absurd c266 (by decide)
              refine lv_aload_n hx hb dL_law_269 rfl (lv_at hl 1 rfl) ?_
              refine p_S (K := 12) (rm := rmL_arePortsSo) (Bs := []) (rest := []) S (fun E => c_L_arePortsSo l E hfl Γ hG ) (cwS 1 S.2.2.2.2 gL_law_L_arePortsSo rfl rfl rfl (by decide +kernel) ⟨Nat.le_of_ble_eq_true rfl, Nat.le_of_ble_eq_true rfl⟩) hW hTh hNc rfl rfl hl.1 (Nat.le_of_ble_eq_true rfl) dL_law_270 (by show 600 + 30 * k + 0 + 12 ≤ 651495 ∧ 6 * (600 + 30 * k) + 6 * 0 + 6 * 12 ≤ 7147140; omega) (fun r270 Γ270 H locs hq270 hW => ?_)
              obtain ⟨rfl, eΓ270⟩ := hq270
              obtain rfl := eΓ270.symm
              refine lv_if_eq (tgt := 289) hx hb dL_law_273 (by decide) (fun c273 => ?_) (fun c273 => ?_)
              · exact absurd c273 (by decide)
              refine lv_aload_n hx hb dL_law_276 rfl (lv_at hl 1 rfl) ?_
              refine lv_bipush (v := 99) hx hb dL_law_277 (by decide) ?_
              refine p_S (K := 0) (rm := rmL_areLinesSo) (Bs := [.int 99]) (rest := []) S (fun E => c_L_areLinesSo l E hfl Γ hG 99) (cwS 2 S.2.2.2.2 gL_law_L_areLinesSo rfl rfl rfl (by decide +kernel) ⟨Nat.le_of_ble_eq_true rfl, Nat.le_of_ble_eq_true rfl⟩) hW hTh hNc rfl rfl hl.1 (Nat.le_of_ble_eq_true rfl) dL_law_279 (by show 600 + 30 * k + 0 + 12 + 0 ≤ 651495 ∧ 6 * (600 + 30 * k) + 6 * 0 + 6 * 12 + 6 * 0 ≤ 7147140; omega) (fun r279 Γ279 H locs hq279 hW => ?_)
              obtain ⟨rfl, eΓ279⟩ := hq279
              obtain rfl := eΓ279.symm
              refine lv_if_eq (tgt := 289) hx hb dL_law_282 (by decide) (fun c282 => ?_) (fun c282 => ?_)
              · exact absurd c282 (by decide)
              refine lv_iconst (v := 1) hx hb dL_law_285 (by decide) ?_
              refine lv_goto (tgt := 290) hx hb dL_law_286 (by decide) ?_
              exact W.widen (by omega) (by omega) (kend _ _ _ hW.S)
            · refine lv_iload_n hx hb dL_law_108 rfl (lv_at hl 3 rfl) ?_
              refine lv_if_eq (tgt := 257) hx hb dL_law_109 (by decide) (fun c109 => ?_) (fun c109 => ?_)
              · exact absurd c109 (by decide)
              refine lv_aload_n hx hb dL_law_112 rfl (lv_at hl 0 rfl) ?_
              refine lv_iload hx hb dL_law_113 (lv_at hl 4 rfl) ?_
              refine p_cell (k := k) (rest := []) S (by omega) (by omega) hX hbl hbA (cwS 2 S.2.2.2.2 gL_law_L_cell rfl rfl rfl (by decide +kernel) ⟨Nat.le_of_ble_eq_true rfl, Nat.le_of_ble_eq_true rfl⟩) hW hl.1 (Nat.le_of_ble_eq_true rfl) dL_law_115 (by show 600 + 30 * k + 0 ≤ 651495 ∧ 6 * (600 + 30 * k) + 6 * 0 ≤ 7147140; omega) (fun H locs hW => ?_)
              refine lv_topi (fun v115 ev115 => ?_)
              refine lv_istore (lv' := [(5, .int v115), (0, .ref b), (1, .ref (X.2.2.2.1 0)), (2, .ref (X.2.2.2.2 0)), (3, .int 1), (4, .int (nI k))]) hx hb dL_law_118 hl (by decide) rfl (fun ls hl => ?_)
              refine lv_aload_n hx hb dL_law_120 rfl (lv_at hl 2 rfl) ?_
              refine lv_iload hx hb dL_law_121 (lv_at hl 0 rfl) ?_
              refine p_S (K := 3) (rm := rmL_act) (Bs := [.int v115]) (rest := []) S (fun E => c_L_act l E hfl Γ hG v115) (cwS 2 S.2.2.2.2 gL_law_L_act rfl rfl rfl (by decide +kernel) ⟨Nat.le_of_ble_eq_true rfl, Nat.le_of_ble_eq_true rfl⟩) hW hTh hNc rfl rfl hl.1 (Nat.le_of_ble_eq_true rfl) dL_law_123 (by show 600 + 30 * k + 3 ≤ 651495 ∧ 6 * (600 + 30 * k) + 6 * 3 ≤ 7147140; omega) (fun r123 Γ123 H locs hq123 hW => ?_)
              have hgo := fAct_go hG v115
              rw [← hq123] at hgo
              have hno8 : gNo Γ123 ≤ 144 := hgo.1.1.1.no
              have hgn8 : gNo Γ ≤ gNo Γ123 := hgo.2
              refine lv_istore (lv' := [(6, .int r123), (5, .int v115), (0, .ref b), (1, .ref (X.2.2.2.1 0)), (2, .ref (X.2.2.2.2 0)), (3, .int 1), (4, .int (nI k))]) hx hb dL_law_126 hl (by decide) rfl (fun ls hl => ?_)
              refine lv_iload hx hb dL_law_128 (lv_at hl 0 rfl) ?_
              refine lv_ldc (own := RL) (v := (-99999)) hx hb S.2.2.2.1 (S.2.2.2.2 _ wq16) dL_law_130 ?_
              refine lv_icmp_eq (tgt := 146) hx hb dL_law_132 (by decide) (fun c132 => ?_) (fun c132 => ?_)
              · obtain rfl := (hgo.1.2 c132).symm
                refine lv_iload hx hb dL_law_146 (lv_at hl 6 rfl) ?_
                refine lv_iconst (v := 4) hx hb dL_law_148 (by decide) ?_
                refine lv_irem hx hb dL_law_149 (by decide) ?_
                refine x_topN (k % 4) (x_rem (a := k) (m := 4) (by omega) (by omega)) ?_
                refine lv_iconst (v := 3) hx hb dL_law_150 (by decide) ?_
                refine x_icmp_ne (a := k % 4) (b := 3) (tgt := 162) hx hb dL_law_151 (by decide) (by omega) (by omega) (fun c151 => ?_) (fun c151 => ?_)
                · refine lv_iload hx hb dL_law_162 (lv_at hl 6 rfl) ?_
                  refine lv_iconst (v := 3) hx hb dL_law_164 (by decide) ?_
                  refine lv_irem hx hb dL_law_165 (by decide) ?_
                  refine x_topN (k % 3) (x_rem (a := k) (m := 3) (by omega) (by omega)) ?_
                  refine lv_iconst (v := 1) hx hb dL_law_166 (by decide) ?_
                  refine x_icmp_ne (a := k % 3) (b := 1) (tgt := 177) hx hb dL_law_167 (by decide) (by omega) (by omega) (fun c167 => ?_) (fun c167 => ?_)
                  · refine lv_iload hx hb dL_law_177 (lv_at hl 6 rfl) ?_
                    refine lv_bipush (v := 8) hx hb dL_law_179 (by decide) ?_
                    refine lv_irem hx hb dL_law_181 (by decide) ?_
                    refine x_topN (k % 8) (x_rem (a := k) (m := 8) (by omega) (by omega)) ?_
                    refine lv_iconst (v := 2) hx hb dL_law_182 (by decide) ?_
                    refine x_icmp_ne (a := k % 8) (b := 2) (tgt := 195) hx hb dL_law_183 (by decide) (by omega) (by omega) (fun c183 => ?_) (fun c183 => ?_)
                    · refine lv_iconst (v := 1) hx hb dL_law_195 (by decide) ?_
                      refine lv_goto (tgt := 200) hx hb dL_law_196 (by decide) ?_
                      refine lv_istore_n (lv' := [(3, .int 1), (6, .int r123), (5, .int v115), (0, .ref b), (1, .ref (X.2.2.2.1 0)), (2, .ref (X.2.2.2.2 0)), (4, .int (nI k))]) hx hb dL_law_200 rfl hl (by decide) rfl (fun ls hl => ?_)
                      refine lv_iload hx hb dL_law_201 (lv_at hl 6 rfl) ?_
                      refine lv_bipush (v := 9) hx hb dL_law_203 (by decide) ?_
                      refine lv_irem hx hb dL_law_205 (by decide) ?_
                      refine x_topN (k % 9) (x_rem (a := k) (m := 9) (by omega) (by omega)) ?_
                      refine lv_iconst (v := 5) hx hb dL_law_206 (by decide) ?_
                      refine x_icmp_ne (a := k % 9) (b := 5) (tgt := 251) hx hb dL_law_207 (by decide) (by omega) (by omega) (fun c207 => ?_) (fun c207 => ?_)
                      · refine lv_iinc (v := (nI (k + 1))) (lv' := [(4, .int (nI (k + 1))), (3, .int 1), (6, .int r123), (5, .int v115), (0, .ref b), (1, .ref (X.2.2.2.1 0)), (2, .ref (X.2.2.2.2 0))]) hx hb dL_law_251 hl (k := 6) rfl (x_inc _) (by decide) rfl (fun ls hl => ?_)
                        refine lv_goto (tgt := 101) hx hb dL_law_254 (by decide) ?_
                        exact W.widen (by omega) (by omega) (L101  (Γ) (k + 1) (by omega) (by omega) (by omega) (hG) (hn0) _ _ _ hW (lv_sub hl [4, 5, 6, 1, 0] rfl))
                      · refine lv_iload_n hx hb dL_law_210 rfl (lv_at hl 0 rfl) ?_
                        refine lv_if_eq (tgt := 249) hx hb dL_law_211 (by decide) (fun c211 => ?_) (fun c211 => ?_)
                        · exact absurd c211 (by decide)
                        refine lv_aload_n hx hb dL_law_214 rfl (lv_at hl 4 rfl) ?_
                        refine lv_aload_n hx hb dL_law_215 rfl (lv_at hl 5 rfl) ?_
                        refine lv_iload hx hb dL_law_216 (lv_at hl 2 rfl) ?_
                        refine lv_iconst (v := 3) hx hb dL_law_218 (by decide) ?_
                        refine lv_ishr hx hb dL_law_219 ?_
                        refine lv_aload_n hx hb dL_law_220 rfl (lv_at hl 4 rfl) ?_
                        refine p_V (rm := rmX3_ports) (As := []) (Γ' := Γ) (rest := [.int (v115 >>> (3 &&& 31)), .ref (X.2.2.2.2 0), .ref (X.2.2.2.1 0)]) S (fun E N F hR => c_X3_ports l E N F xo0 Γ hG.1 hR) (cwV 0 S.2.2.2.2 gL_law_X3_ports rfl rfl rfl (by decide +kernel) ⟨Nat.le_of_ble_eq_true rfl, Nat.le_of_ble_eq_true rfl⟩) hW rfl rfl hl.1 (Nat.le_of_ble_eq_true rfl) dL_law_221 (by show 600 + 30 * k + 3 ≤ 651495 ∧ 6 * (600 + 30 * k) + 6 * 3 ≤ 7147140; omega) (fun r221 H locs hq221 hW => ?_)
                        obtain rfl := hq221
                        refine p_S0 (K := 0) (rm := rmL_low) (As := [.int (v115 >>> (3 &&& 31)), .int (nI (gNo Γ))]) (rest := [.ref (X.2.2.2.2 0), .ref (X.2.2.2.1 0)]) S (fun E => c_L_low l E hfl Γ hG (v115 >>> (3 &&& 31)) (k := (gNo Γ)) (by omega) (by omega)) (cwS 2 S.2.2.2.2 gL_law_L_low rfl rfl rfl (by decide +kernel) ⟨Nat.le_of_ble_eq_true rfl, Nat.le_of_ble_eq_true rfl⟩) hW hTh hNc rfl rfl hl.1 (Nat.le_of_ble_eq_true rfl) dL_law_224 (by show 600 + 30 * k + 3 + 0 ≤ 651495 ∧ 6 * (600 + 30 * k) + 6 * 3 + 6 * 0 ≤ 7147140; omega) (fun r224 Γ224 H locs hq224 hW => ?_)
                        obtain ⟨rfl, eΓ224⟩ := hq224
                        obtain rfl := eΓ224.symm
                        have hlo224 := xlo_lt (v115 >>> (3 &&& 31)) (m := (gNo Γ)) (by omega)
                        refine lv_iload hx hb dL_law_227 (lv_at hl 2 rfl) ?_
                        refine lv_bipush (v := 8) hx hb dL_law_229 (by decide) ?_
                        refine lv_ishr hx hb dL_law_231 ?_
                        refine lv_aload_n hx hb dL_law_232 rfl (lv_at hl 4 rfl) ?_
                        refine p_V (rm := rmX3_ports) (As := []) (Γ' := Γ) (rest := [.int (v115 >>> (8 &&& 31)), .int (nI (xlo (v115 >>> (3 &&& 31)) (gNo Γ))), .ref (X.2.2.2.2 0), .ref (X.2.2.2.1 0)]) S (fun E N F hR => c_X3_ports l E N F xo0 Γ hG.1 hR) (cwV 0 S.2.2.2.2 gL_law_X3_ports rfl rfl rfl (by decide +kernel) ⟨Nat.le_of_ble_eq_true rfl, Nat.le_of_ble_eq_true rfl⟩) hW rfl rfl hl.1 (Nat.le_of_ble_eq_true rfl) dL_law_233 (by show 600 + 30 * k + 3 + 0 ≤ 651495 ∧ 6 * (600 + 30 * k) + 6 * 3 + 6 * 0 ≤ 7147140; omega) (fun r233 H locs hq233 hW => ?_)
                        obtain rfl := hq233
                        refine p_S0 (K := 0) (rm := rmL_low) (As := [.int (v115 >>> (8 &&& 31)), .int (nI (gNo Γ))]) (rest := [.int (nI (xlo (v115 >>> (3 &&& 31)) (gNo Γ))), .ref (X.2.2.2.2 0), .ref (X.2.2.2.1 0)]) S (fun E => c_L_low l E hfl Γ hG (v115 >>> (8 &&& 31)) (k := (gNo Γ)) (by omega) (by omega)) (cwS 2 S.2.2.2.2 gL_law_L_low rfl rfl rfl (by decide +kernel) ⟨Nat.le_of_ble_eq_true rfl, Nat.le_of_ble_eq_true rfl⟩) hW hTh hNc rfl rfl hl.1 (Nat.le_of_ble_eq_true rfl) dL_law_236 (by show 600 + 30 * k + 3 + 0 + 0 ≤ 651495 ∧ 6 * (600 + 30 * k) + 6 * 3 + 6 * 0 + 6 * 0 ≤ 7147140; omega) (fun r236 Γ236 H locs hq236 hW => ?_)
                        obtain ⟨rfl, eΓ236⟩ := hq236
                        obtain rfl := eΓ236.symm
                        have hlo236 := xlo_lt (v115 >>> (8 &&& 31)) (m := (gNo Γ)) (by omega)
                        refine p_S2 (K := 12) (rm := rmL_isPlanSo) (As := [.ref (X.2.2.2.1 0), .ref (X.2.2.2.2 0), .int (nI (xlo (v115 >>> (3 &&& 31)) (gNo Γ))), .int (nI (xlo (v115 >>> (8 &&& 31)) (gNo Γ)))]) (rest := []) S (c_L_isPlanSo l X hfl Γ hG (a := (xlo (v115 >>> (3 &&& 31)) (gNo Γ))) (b := (xlo (v115 >>> (8 &&& 31)) (gNo Γ))) (by omega) (by omega)) (cwS 4 S.2.2.2.2 gL_law_L_isPlanSo rfl rfl rfl (by decide +kernel) ⟨Nat.le_of_ble_eq_true rfl, Nat.le_of_ble_eq_true rfl⟩) hW hTh hNc rfl rfl hl.1 (Nat.le_of_ble_eq_true rfl) dL_law_239 (by show 600 + 30 * k + 3 + 0 + 0 + 12 ≤ 651495 ∧ 6 * (600 + 30 * k) + 6 * 3 + 6 * 0 + 6 * 0 + 6 * 12 ≤ 7147140; omega) (fun r239 Γ239 H locs hq239 hW => ?_)
                        obtain ⟨rfl, Δ239, hgd239, hgn239, rfl⟩ := hq239
                        have hW : pSt X Δ239 Δ239 s s.heap H locs := hW
                        refine lv_if_eq (tgt := 249) hx hb dL_law_242 (by decide) (fun c242 => ?_) (fun c242 => ?_)
                        · exact absurd c242 (by decide)
                        refine lv_iconst (v := 1) hx hb dL_law_245 (by decide) ?_
                        refine lv_goto (tgt := 250) hx hb dL_law_246 (by decide) ?_
                        refine lv_istore_n (lv' := [(3, .int 1), (6, .int r123), (5, .int v115), (0, .ref b), (1, .ref (X.2.2.2.1 0)), (2, .ref (X.2.2.2.2 0)), (4, .int (nI k))]) hx hb dL_law_250 rfl hl (by decide) rfl (fun ls hl => ?_)
                        refine lv_iinc (v := (nI (k + 1))) (lv' := [(4, .int (nI (k + 1))), (3, .int 1), (6, .int r123), (5, .int v115), (0, .ref b), (1, .ref (X.2.2.2.1 0)), (2, .ref (X.2.2.2.2 0))]) hx hb dL_law_251 hl (k := 6) rfl (x_inc _) (by decide) rfl (fun ls hl => ?_)
                        refine lv_goto (tgt := 101) hx hb dL_law_254 (by decide) ?_
                        exact W.widen (by omega) (by omega) (L101  (Δ239) (k + 1) (by omega) (by omega) (by omega) (hgd239) ((by omega)) _ _ _ hW (lv_sub hl [4, 5, 6, 1, 0] rfl))
                    · refine lv_aload_n hx hb dL_law_186 rfl (lv_at hl 3 rfl) ?_
                      refine lv_iload hx hb dL_law_187 (lv_at hl 1 rfl) ?_
                      refine p_S (K := 0) (rm := rmL_areLinesSo) (Bs := [.int v115]) (rest := []) S (fun E => c_L_areLinesSo l E hfl Γ hG v115) (cwS 2 S.2.2.2.2 gL_law_L_areLinesSo rfl rfl rfl (by decide +kernel) ⟨Nat.le_of_ble_eq_true rfl, Nat.le_of_ble_eq_true rfl⟩) hW hTh hNc rfl rfl hl.1 (Nat.le_of_ble_eq_true rfl) dL_law_189 (by show 600 + 30 * k + 3 + 0 ≤ 651495 ∧ 6 * (600 + 30 * k) + 6 * 3 + 6 * 0 ≤ 7147140; omega) (fun r189 Γ189 H locs hq189 hW => ?_)
                      obtain ⟨rfl, eΓ189⟩ := hq189
                      obtain rfl := eΓ189.symm
                      refine lv_if_eq (tgt := 199) hx hb dL_law_192 (by decide) (fun c192 => ?_) (fun c192 => ?_)
                      · exact absurd c192 (by decide)
                      refine lv_iconst (v := 1) hx hb dL_law_195 (by decide) ?_
                      refine lv_goto (tgt := 200) hx hb dL_law_196 (by decide) ?_
                      refine lv_istore_n (lv' := [(3, .int 1), (6, .int r123), (5, .int v115), (0, .ref b), (1, .ref (X.2.2.2.1 0)), (2, .ref (X.2.2.2.2 0)), (4, .int (nI k))]) hx hb dL_law_200 rfl hl (by decide) rfl (fun ls hl => ?_)
                      refine lv_iload hx hb dL_law_201 (lv_at hl 6 rfl) ?_
                      refine lv_bipush (v := 9) hx hb dL_law_203 (by decide) ?_
                      refine lv_irem hx hb dL_law_205 (by decide) ?_
                      refine x_topN (k % 9) (x_rem (a := k) (m := 9) (by omega) (by omega)) ?_
                      refine lv_iconst (v := 5) hx hb dL_law_206 (by decide) ?_
                      refine x_icmp_ne (a := k % 9) (b := 5) (tgt := 251) hx hb dL_law_207 (by decide) (by omega) (by omega) (fun c207 => ?_) (fun c207 => ?_)
                      · refine lv_iinc (v := (nI (k + 1))) (lv' := [(4, .int (nI (k + 1))), (3, .int 1), (6, .int r123), (5, .int v115), (0, .ref b), (1, .ref (X.2.2.2.1 0)), (2, .ref (X.2.2.2.2 0))]) hx hb dL_law_251 hl (k := 6) rfl (x_inc _) (by decide) rfl (fun ls hl => ?_)
                        refine lv_goto (tgt := 101) hx hb dL_law_254 (by decide) ?_
                        exact W.widen (by omega) (by omega) (L101  (Γ) (k + 1) (by omega) (by omega) (by omega) (hG) (hn0) _ _ _ hW (lv_sub hl [4, 5, 6, 1, 0] rfl))
                      · refine lv_iload_n hx hb dL_law_210 rfl (lv_at hl 0 rfl) ?_
                        refine lv_if_eq (tgt := 249) hx hb dL_law_211 (by decide) (fun c211 => ?_) (fun c211 => ?_)
                        · exact absurd c211 (by decide)
                        refine lv_aload_n hx hb dL_law_214 rfl (lv_at hl 4 rfl) ?_
                        refine lv_aload_n hx hb dL_law_215 rfl (lv_at hl 5 rfl) ?_
                        refine lv_iload hx hb dL_law_216 (lv_at hl 2 rfl) ?_
                        refine lv_iconst (v := 3) hx hb dL_law_218 (by decide) ?_
                        refine lv_ishr hx hb dL_law_219 ?_
                        refine lv_aload_n hx hb dL_law_220 rfl (lv_at hl 4 rfl) ?_
                        refine p_V (rm := rmX3_ports) (As := []) (Γ' := Γ) (rest := [.int (v115 >>> (3 &&& 31)), .ref (X.2.2.2.2 0), .ref (X.2.2.2.1 0)]) S (fun E N F hR => c_X3_ports l E N F xo0 Γ hG.1 hR) (cwV 0 S.2.2.2.2 gL_law_X3_ports rfl rfl rfl (by decide +kernel) ⟨Nat.le_of_ble_eq_true rfl, Nat.le_of_ble_eq_true rfl⟩) hW rfl rfl hl.1 (Nat.le_of_ble_eq_true rfl) dL_law_221 (by show 600 + 30 * k + 3 + 0 ≤ 651495 ∧ 6 * (600 + 30 * k) + 6 * 3 + 6 * 0 ≤ 7147140; omega) (fun r221 H locs hq221 hW => ?_)
                        obtain rfl := hq221
                        refine p_S0 (K := 0) (rm := rmL_low) (As := [.int (v115 >>> (3 &&& 31)), .int (nI (gNo Γ))]) (rest := [.ref (X.2.2.2.2 0), .ref (X.2.2.2.1 0)]) S (fun E => c_L_low l E hfl Γ hG (v115 >>> (3 &&& 31)) (k := (gNo Γ)) (by omega) (by omega)) (cwS 2 S.2.2.2.2 gL_law_L_low rfl rfl rfl (by decide +kernel) ⟨Nat.le_of_ble_eq_true rfl, Nat.le_of_ble_eq_true rfl⟩) hW hTh hNc rfl rfl hl.1 (Nat.le_of_ble_eq_true rfl) dL_law_224 (by show 600 + 30 * k + 3 + 0 + 0 ≤ 651495 ∧ 6 * (600 + 30 * k) + 6 * 3 + 6 * 0 + 6 * 0 ≤ 7147140; omega) (fun r224 Γ224 H locs hq224 hW => ?_)
                        obtain ⟨rfl, eΓ224⟩ := hq224
                        obtain rfl := eΓ224.symm
                        have hlo224 := xlo_lt (v115 >>> (3 &&& 31)) (m := (gNo Γ)) (by omega)
                        refine lv_iload hx hb dL_law_227 (lv_at hl 2 rfl) ?_
                        refine lv_bipush (v := 8) hx hb dL_law_229 (by decide) ?_
                        refine lv_ishr hx hb dL_law_231 ?_
                        refine lv_aload_n hx hb dL_law_232 rfl (lv_at hl 4 rfl) ?_
                        refine p_V (rm := rmX3_ports) (As := []) (Γ' := Γ) (rest := [.int (v115 >>> (8 &&& 31)), .int (nI (xlo (v115 >>> (3 &&& 31)) (gNo Γ))), .ref (X.2.2.2.2 0), .ref (X.2.2.2.1 0)]) S (fun E N F hR => c_X3_ports l E N F xo0 Γ hG.1 hR) (cwV 0 S.2.2.2.2 gL_law_X3_ports rfl rfl rfl (by decide +kernel) ⟨Nat.le_of_ble_eq_true rfl, Nat.le_of_ble_eq_true rfl⟩) hW rfl rfl hl.1 (Nat.le_of_ble_eq_true rfl) dL_law_233 (by show 600 + 30 * k + 3 + 0 + 0 ≤ 651495 ∧ 6 * (600 + 30 * k) + 6 * 3 + 6 * 0 + 6 * 0 ≤ 7147140; omega) (fun r233 H locs hq233 hW => ?_)
                        obtain rfl := hq233
                        refine p_S0 (K := 0) (rm := rmL_low) (As := [.int (v115 >>> (8 &&& 31)), .int (nI (gNo Γ))]) (rest := [.int (nI (xlo (v115 >>> (3 &&& 31)) (gNo Γ))), .ref (X.2.2.2.2 0), .ref (X.2.2.2.1 0)]) S (fun E => c_L_low l E hfl Γ hG (v115 >>> (8 &&& 31)) (k := (gNo Γ)) (by omega) (by omega)) (cwS 2 S.2.2.2.2 gL_law_L_low rfl rfl rfl (by decide +kernel) ⟨Nat.le_of_ble_eq_true rfl, Nat.le_of_ble_eq_true rfl⟩) hW hTh hNc rfl rfl hl.1 (Nat.le_of_ble_eq_true rfl) dL_law_236 (by show 600 + 30 * k + 3 + 0 + 0 + 0 ≤ 651495 ∧ 6 * (600 + 30 * k) + 6 * 3 + 6 * 0 + 6 * 0 + 6 * 0 ≤ 7147140; omega) (fun r236 Γ236 H locs hq236 hW => ?_)
                        obtain ⟨rfl, eΓ236⟩ := hq236
                        obtain rfl := eΓ236.symm
                        have hlo236 := xlo_lt (v115 >>> (8 &&& 31)) (m := (gNo Γ)) (by omega)
                        refine p_S2 (K := 12) (rm := rmL_isPlanSo) (As := [.ref (X.2.2.2.1 0), .ref (X.2.2.2.2 0), .int (nI (xlo (v115 >>> (3 &&& 31)) (gNo Γ))), .int (nI (xlo (v115 >>> (8 &&& 31)) (gNo Γ)))]) (rest := []) S (c_L_isPlanSo l X hfl Γ hG (a := (xlo (v115 >>> (3 &&& 31)) (gNo Γ))) (b := (xlo (v115 >>> (8 &&& 31)) (gNo Γ))) (by omega) (by omega)) (cwS 4 S.2.2.2.2 gL_law_L_isPlanSo rfl rfl rfl (by decide +kernel) ⟨Nat.le_of_ble_eq_true rfl, Nat.le_of_ble_eq_true rfl⟩) hW hTh hNc rfl rfl hl.1 (Nat.le_of_ble_eq_true rfl) dL_law_239 (by show 600 + 30 * k + 3 + 0 + 0 + 0 + 12 ≤ 651495 ∧ 6 * (600 + 30 * k) + 6 * 3 + 6 * 0 + 6 * 0 + 6 * 0 + 6 * 12 ≤ 7147140; omega) (fun r239 Γ239 H locs hq239 hW => ?_)
                        obtain ⟨rfl, Δ239, hgd239, hgn239, rfl⟩ := hq239
                        have hW : pSt X Δ239 Δ239 s s.heap H locs := hW
                        refine lv_if_eq (tgt := 249) hx hb dL_law_242 (by decide) (fun c242 => ?_) (fun c242 => ?_)
                        · exact absurd c242 (by decide)
                        refine lv_iconst (v := 1) hx hb dL_law_245 (by decide) ?_
                        refine lv_goto (tgt := 250) hx hb dL_law_246 (by decide) ?_
                        refine lv_istore_n (lv' := [(3, .int 1), (6, .int r123), (5, .int v115), (0, .ref b), (1, .ref (X.2.2.2.1 0)), (2, .ref (X.2.2.2.2 0)), (4, .int (nI k))]) hx hb dL_law_250 rfl hl (by decide) rfl (fun ls hl => ?_)
                        refine lv_iinc (v := (nI (k + 1))) (lv' := [(4, .int (nI (k + 1))), (3, .int 1), (6, .int r123), (5, .int v115), (0, .ref b), (1, .ref (X.2.2.2.1 0)), (2, .ref (X.2.2.2.2 0))]) hx hb dL_law_251 hl (k := 6) rfl (x_inc _) (by decide) rfl (fun ls hl => ?_)
                        refine lv_goto (tgt := 101) hx hb dL_law_254 (by decide) ?_
                        exact W.widen (by omega) (by omega) (L101  (Δ239) (k + 1) (by omega) (by omega) (by omega) (hgd239) ((by omega)) _ _ _ hW (lv_sub hl [4, 5, 6, 1, 0] rfl))
                  · refine lv_aload_n hx hb dL_law_170 rfl (lv_at hl 3 rfl) ?_
                    refine p_S (K := 12) (rm := rmL_arePortsSo) (Bs := []) (rest := []) S (fun E => c_L_arePortsSo l E hfl Γ hG ) (cwS 1 S.2.2.2.2 gL_law_L_arePortsSo rfl rfl rfl (by decide +kernel) ⟨Nat.le_of_ble_eq_true rfl, Nat.le_of_ble_eq_true rfl⟩) hW hTh hNc rfl rfl hl.1 (Nat.le_of_ble_eq_true rfl) dL_law_171 (by show 600 + 30 * k + 3 + 12 ≤ 651495 ∧ 6 * (600 + 30 * k) + 6 * 3 + 6 * 12 ≤ 7147140; omega) (fun r171 Γ171 H locs hq171 hW => ?_)
                    obtain ⟨rfl, eΓ171⟩ := hq171
                    obtain rfl := eΓ171.symm
                    refine lv_if_eq (tgt := 199) hx hb dL_law_174 (by decide) (fun c174 => ?_) (fun c174 => ?_)
                    · exact absurd c174 (by decide)
                    refine lv_iload hx hb dL_law_177 (lv_at hl 6 rfl) ?_
                    refine lv_bipush (v := 8) hx hb dL_law_179 (by decide) ?_
                    refine lv_irem hx hb dL_law_181 (by decide) ?_
                    refine x_topN (k % 8) (x_rem (a := k) (m := 8) (by omega) (by omega)) ?_
                    refine lv_iconst (v := 2) hx hb dL_law_182 (by decide) ?_
                    refine x_icmp_ne (a := k % 8) (b := 2) (tgt := 195) hx hb dL_law_183 (by decide) (by omega) (by omega) (fun c183 => ?_) (fun c183 => ?_)
                    · refine lv_iconst (v := 1) hx hb dL_law_195 (by decide) ?_
                      refine lv_goto (tgt := 200) hx hb dL_law_196 (by decide) ?_
                      refine lv_istore_n (lv' := [(3, .int 1), (6, .int r123), (5, .int v115), (0, .ref b), (1, .ref (X.2.2.2.1 0)), (2, .ref (X.2.2.2.2 0)), (4, .int (nI k))]) hx hb dL_law_200 rfl hl (by decide) rfl (fun ls hl => ?_)
                      refine lv_iload hx hb dL_law_201 (lv_at hl 6 rfl) ?_
                      refine lv_bipush (v := 9) hx hb dL_law_203 (by decide) ?_
                      refine lv_irem hx hb dL_law_205 (by decide) ?_
                      refine x_topN (k % 9) (x_rem (a := k) (m := 9) (by omega) (by omega)) ?_
                      refine lv_iconst (v := 5) hx hb dL_law_206 (by decide) ?_
                      refine x_icmp_ne (a := k % 9) (b := 5) (tgt := 251) hx hb dL_law_207 (by decide) (by omega) (by omega) (fun c207 => ?_) (fun c207 => ?_)
                      · refine lv_iinc (v := (nI (k + 1))) (lv' := [(4, .int (nI (k + 1))), (3, .int 1), (6, .int r123), (5, .int v115), (0, .ref b), (1, .ref (X.2.2.2.1 0)), (2, .ref (X.2.2.2.2 0))]) hx hb dL_law_251 hl (k := 6) rfl (x_inc _) (by decide) rfl (fun ls hl => ?_)
                        refine lv_goto (tgt := 101) hx hb dL_law_254 (by decide) ?_
                        exact W.widen (by omega) (by omega) (L101  (Γ) (k + 1) (by omega) (by omega) (by omega) (hG) (hn0) _ _ _ hW (lv_sub hl [4, 5, 6, 1, 0] rfl))
                      · refine lv_iload_n hx hb dL_law_210 rfl (lv_at hl 0 rfl) ?_
                        refine lv_if_eq (tgt := 249) hx hb dL_law_211 (by decide) (fun c211 => ?_) (fun c211 => ?_)
                        · exact absurd c211 (by decide)
                        refine lv_aload_n hx hb dL_law_214 rfl (lv_at hl 4 rfl) ?_
                        refine lv_aload_n hx hb dL_law_215 rfl (lv_at hl 5 rfl) ?_
                        refine lv_iload hx hb dL_law_216 (lv_at hl 2 rfl) ?_
                        refine lv_iconst (v := 3) hx hb dL_law_218 (by decide) ?_
                        refine lv_ishr hx hb dL_law_219 ?_
                        refine lv_aload_n hx hb dL_law_220 rfl (lv_at hl 4 rfl) ?_
                        refine p_V (rm := rmX3_ports) (As := []) (Γ' := Γ) (rest := [.int (v115 >>> (3 &&& 31)), .ref (X.2.2.2.2 0), .ref (X.2.2.2.1 0)]) S (fun E N F hR => c_X3_ports l E N F xo0 Γ hG.1 hR) (cwV 0 S.2.2.2.2 gL_law_X3_ports rfl rfl rfl (by decide +kernel) ⟨Nat.le_of_ble_eq_true rfl, Nat.le_of_ble_eq_true rfl⟩) hW rfl rfl hl.1 (Nat.le_of_ble_eq_true rfl) dL_law_221 (by show 600 + 30 * k + 3 + 12 ≤ 651495 ∧ 6 * (600 + 30 * k) + 6 * 3 + 6 * 12 ≤ 7147140; omega) (fun r221 H locs hq221 hW => ?_)
                        obtain rfl := hq221
                        refine p_S0 (K := 0) (rm := rmL_low) (As := [.int (v115 >>> (3 &&& 31)), .int (nI (gNo Γ))]) (rest := [.ref (X.2.2.2.2 0), .ref (X.2.2.2.1 0)]) S (fun E => c_L_low l E hfl Γ hG (v115 >>> (3 &&& 31)) (k := (gNo Γ)) (by omega) (by omega)) (cwS 2 S.2.2.2.2 gL_law_L_low rfl rfl rfl (by decide +kernel) ⟨Nat.le_of_ble_eq_true rfl, Nat.le_of_ble_eq_true rfl⟩) hW hTh hNc rfl rfl hl.1 (Nat.le_of_ble_eq_true rfl) dL_law_224 (by show 600 + 30 * k + 3 + 12 + 0 ≤ 651495 ∧ 6 * (600 + 30 * k) + 6 * 3 + 6 * 12 + 6 * 0 ≤ 7147140; omega) (fun r224 Γ224 H locs hq224 hW => ?_)
                        obtain ⟨rfl, eΓ224⟩ := hq224
                        obtain rfl := eΓ224.symm
                        have hlo224 := xlo_lt (v115 >>> (3 &&& 31)) (m := (gNo Γ)) (by omega)
                        refine lv_iload hx hb dL_law_227 (lv_at hl 2 rfl) ?_
                        refine lv_bipush (v := 8) hx hb dL_law_229 (by decide) ?_
                        refine lv_ishr hx hb dL_law_231 ?_
                        refine lv_aload_n hx hb dL_law_232 rfl (lv_at hl 4 rfl) ?_
                        refine p_V (rm := rmX3_ports) (As := []) (Γ' := Γ) (rest := [.int (v115 >>> (8 &&& 31)), .int (nI (xlo (v115 >>> (3 &&& 31)) (gNo Γ))), .ref (X.2.2.2.2 0), .ref (X.2.2.2.1 0)]) S (fun E N F hR => c_X3_ports l E N F xo0 Γ hG.1 hR) (cwV 0 S.2.2.2.2 gL_law_X3_ports rfl rfl rfl (by decide +kernel) ⟨Nat.le_of_ble_eq_true rfl, Nat.le_of_ble_eq_true rfl⟩) hW rfl rfl hl.1 (Nat.le_of_ble_eq_true rfl) dL_law_233 (by show 600 + 30 * k + 3 + 12 + 0 ≤ 651495 ∧ 6 * (600 + 30 * k) + 6 * 3 + 6 * 12 + 6 * 0 ≤ 7147140; omega) (fun r233 H locs hq233 hW => ?_)
                        obtain rfl := hq233
                        refine p_S0 (K := 0) (rm := rmL_low) (As := [.int (v115 >>> (8 &&& 31)), .int (nI (gNo Γ))]) (rest := [.int (nI (xlo (v115 >>> (3 &&& 31)) (gNo Γ))), .ref (X.2.2.2.2 0), .ref (X.2.2.2.1 0)]) S (fun E => c_L_low l E hfl Γ hG (v115 >>> (8 &&& 31)) (k := (gNo Γ)) (by omega) (by omega)) (cwS 2 S.2.2.2.2 gL_law_L_low rfl rfl rfl (by decide +kernel) ⟨Nat.le_of_ble_eq_true rfl, Nat.le_of_ble_eq_true rfl⟩) hW hTh hNc rfl rfl hl.1 (Nat.le_of_ble_eq_true rfl) dL_law_236 (by show 600 + 30 * k + 3 + 12 + 0 + 0 ≤ 651495 ∧ 6 * (600 + 30 * k) + 6 * 3 + 6 * 12 + 6 * 0 + 6 * 0 ≤ 7147140; omega) (fun r236 Γ236 H locs hq236 hW => ?_)
                        obtain ⟨rfl, eΓ236⟩ := hq236
                        obtain rfl := eΓ236.symm
                        have hlo236 := xlo_lt (v115 >>> (8 &&& 31)) (m := (gNo Γ)) (by omega)
                        refine p_S2 (K := 12) (rm := rmL_isPlanSo) (As := [.ref (X.2.2.2.1 0), .ref (X.2.2.2.2 0), .int (nI (xlo (v115 >>> (3 &&& 31)) (gNo Γ))), .int (nI (xlo (v115 >>> (8 &&& 31)) (gNo Γ)))]) (rest := []) S (c_L_isPlanSo l X hfl Γ hG (a := (xlo (v115 >>> (3 &&& 31)) (gNo Γ))) (b := (xlo (v115 >>> (8 &&& 31)) (gNo Γ))) (by omega) (by omega)) (cwS 4 S.2.2.2.2 gL_law_L_isPlanSo rfl rfl rfl (by decide +kernel) ⟨Nat.le_of_ble_eq_true rfl, Nat.le_of_ble_eq_true rfl⟩) hW hTh hNc rfl rfl hl.1 (Nat.le_of_ble_eq_true rfl) dL_law_239 (by show 600 + 30 * k + 3 + 12 + 0 + 0 + 12 ≤ 651495 ∧ 6 * (600 + 30 * k) + 6 * 3 + 6 * 12 + 6 * 0 + 6 * 0 + 6 * 12 ≤ 7147140; omega) (fun r239 Γ239 H locs hq239 hW => ?_)
                        obtain ⟨rfl, Δ239, hgd239, hgn239, rfl⟩ := hq239
                        have hW : pSt X Δ239 Δ239 s s.heap H locs := hW
                        refine lv_if_eq (tgt := 249) hx hb dL_law_242 (by decide) (fun c242 => ?_) (fun c242 => ?_)
                        · exact absurd c242 (by decide)
                        refine lv_iconst (v := 1) hx hb dL_law_245 (by decide) ?_
                        refine lv_goto (tgt := 250) hx hb dL_law_246 (by decide) ?_
                        refine lv_istore_n (lv' := [(3, .int 1), (6, .int r123), (5, .int v115), (0, .ref b), (1, .ref (X.2.2.2.1 0)), (2, .ref (X.2.2.2.2 0)), (4, .int (nI k))]) hx hb dL_law_250 rfl hl (by decide) rfl (fun ls hl => ?_)
                        refine lv_iinc (v := (nI (k + 1))) (lv' := [(4, .int (nI (k + 1))), (3, .int 1), (6, .int r123), (5, .int v115), (0, .ref b), (1, .ref (X.2.2.2.1 0)), (2, .ref (X.2.2.2.2 0))]) hx hb dL_law_251 hl (k := 6) rfl (x_inc _) (by decide) rfl (fun ls hl => ?_)
                        refine lv_goto (tgt := 101) hx hb dL_law_254 (by decide) ?_
                        exact W.widen (by omega) (by omega) (L101  (Δ239) (k + 1) (by omega) (by omega) (by omega) (hgd239) ((by omega)) _ _ _ hW (lv_sub hl [4, 5, 6, 1, 0] rfl))
                    · refine lv_aload_n hx hb dL_law_186 rfl (lv_at hl 3 rfl) ?_
                      refine lv_iload hx hb dL_law_187 (lv_at hl 1 rfl) ?_
                      refine p_S (K := 0) (rm := rmL_areLinesSo) (Bs := [.int v115]) (rest := []) S (fun E => c_L_areLinesSo l E hfl Γ hG v115) (cwS 2 S.2.2.2.2 gL_law_L_areLinesSo rfl rfl rfl (by decide +kernel) ⟨Nat.le_of_ble_eq_true rfl, Nat.le_of_ble_eq_true rfl⟩) hW hTh hNc rfl rfl hl.1 (Nat.le_of_ble_eq_true rfl) dL_law_189 (by show 600 + 30 * k + 3 + 12 + 0 ≤ 651495 ∧ 6 * (600 + 30 * k) + 6 * 3 + 6 * 12 + 6 * 0 ≤ 7147140; omega) (fun r189 Γ189 H locs hq189 hW => ?_)
                      obtain ⟨rfl, eΓ189⟩ := hq189
                      obtain rfl := eΓ189.symm
                      refine lv_if_eq (tgt := 199) hx hb dL_law_192 (by decide) (fun c192 => ?_) (fun c192 => ?_)
                      · exact absurd c192 (by decide)
                      refine lv_iconst (v := 1) hx hb dL_law_195 (by decide) ?_
                      refine lv_goto (tgt := 200) hx hb dL_law_196 (by decide) ?_
                      refine lv_istore_n (lv' := [(3, .int 1), (6, .int r123), (5, .int v115), (0, .ref b), (1, .ref (X.2.2.2.1 0)), (2, .ref (X.2.2.2.2 0)), (4, .int (nI k))]) hx hb dL_law_200 rfl hl (by decide) rfl (fun ls hl => ?_)
                      refine lv_iload hx hb dL_law_201 (lv_at hl 6 rfl) ?_
                      refine lv_bipush (v := 9) hx hb dL_law_203 (by decide) ?_
                      refine lv_irem hx hb dL_law_205 (by decide) ?_
                      refine x_topN (k % 9) (x_rem (a := k) (m := 9) (by omega) (by omega)) ?_
                      refine lv_iconst (v := 5) hx hb dL_law_206 (by decide) ?_
                      refine x_icmp_ne (a := k % 9) (b := 5) (tgt := 251) hx hb dL_law_207 (by decide) (by omega) (by omega) (fun c207 => ?_) (fun c207 => ?_)
                      · refine lv_iinc (v := (nI (k + 1))) (lv' := [(4, .int (nI (k + 1))), (3, .int 1), (6, .int r123), (5, .int v115), (0, .ref b), (1, .ref (X.2.2.2.1 0)), (2, .ref (X.2.2.2.2 0))]) hx hb dL_law_251 hl (k := 6) rfl (x_inc _) (by decide) rfl (fun ls hl => ?_)
                        refine lv_goto (tgt := 101) hx hb dL_law_254 (by decide) ?_
                        exact W.widen (by omega) (by omega) (L101  (Γ) (k + 1) (by omega) (by omega) (by omega) (hG) (hn0) _ _ _ hW (lv_sub hl [4, 5, 6, 1, 0] rfl))
                      · refine lv_iload_n hx hb dL_law_210 rfl (lv_at hl 0 rfl) ?_
                        refine lv_if_eq (tgt := 249) hx hb dL_law_211 (by decide) (fun c211 => ?_) (fun c211 => ?_)
                        · exact absurd c211 (by decide)
                        refine lv_aload_n hx hb dL_law_214 rfl (lv_at hl 4 rfl) ?_
                        refine lv_aload_n hx hb dL_law_215 rfl (lv_at hl 5 rfl) ?_
                        refine lv_iload hx hb dL_law_216 (lv_at hl 2 rfl) ?_
                        refine lv_iconst (v := 3) hx hb dL_law_218 (by decide) ?_
                        refine lv_ishr hx hb dL_law_219 ?_
                        refine lv_aload_n hx hb dL_law_220 rfl (lv_at hl 4 rfl) ?_
                        refine p_V (rm := rmX3_ports) (As := []) (Γ' := Γ) (rest := [.int (v115 >>> (3 &&& 31)), .ref (X.2.2.2.2 0), .ref (X.2.2.2.1 0)]) S (fun E N F hR => c_X3_ports l E N F xo0 Γ hG.1 hR) (cwV 0 S.2.2.2.2 gL_law_X3_ports rfl rfl rfl (by decide +kernel) ⟨Nat.le_of_ble_eq_true rfl, Nat.le_of_ble_eq_true rfl⟩) hW rfl rfl hl.1 (Nat.le_of_ble_eq_true rfl) dL_law_221 (by show 600 + 30 * k + 3 + 12 + 0 ≤ 651495 ∧ 6 * (600 + 30 * k) + 6 * 3 + 6 * 12 + 6 * 0 ≤ 7147140; omega) (fun r221 H locs hq221 hW => ?_)
                        obtain rfl := hq221
                        refine p_S0 (K := 0) (rm := rmL_low) (As := [.int (v115 >>> (3 &&& 31)), .int (nI (gNo Γ))]) (rest := [.ref (X.2.2.2.2 0), .ref (X.2.2.2.1 0)]) S (fun E => c_L_low l E hfl Γ hG (v115 >>> (3 &&& 31)) (k := (gNo Γ)) (by omega) (by omega)) (cwS 2 S.2.2.2.2 gL_law_L_low rfl rfl rfl (by decide +kernel) ⟨Nat.le_of_ble_eq_true rfl, Nat.le_of_ble_eq_true rfl⟩) hW hTh hNc rfl rfl hl.1 (Nat.le_of_ble_eq_true rfl) dL_law_224 (by show 600 + 30 * k + 3 + 12 + 0 + 0 ≤ 651495 ∧ 6 * (600 + 30 * k) + 6 * 3 + 6 * 12 + 6 * 0 + 6 * 0 ≤ 7147140; omega) (fun r224 Γ224 H locs hq224 hW => ?_)
                        obtain ⟨rfl, eΓ224⟩ := hq224
                        obtain rfl := eΓ224.symm
                        have hlo224 := xlo_lt (v115 >>> (3 &&& 31)) (m := (gNo Γ)) (by omega)
                        refine lv_iload hx hb dL_law_227 (lv_at hl 2 rfl) ?_
                        refine lv_bipush (v := 8) hx hb dL_law_229 (by decide) ?_
                        refine lv_ishr hx hb dL_law_231 ?_
                        refine lv_aload_n hx hb dL_law_232 rfl (lv_at hl 4 rfl) ?_
                        refine p_V (rm := rmX3_ports) (As := []) (Γ' := Γ) (rest := [.int (v115 >>> (8 &&& 31)), .int (nI (xlo (v115 >>> (3 &&& 31)) (gNo Γ))), .ref (X.2.2.2.2 0), .ref (X.2.2.2.1 0)]) S (fun E N F hR => c_X3_ports l E N F xo0 Γ hG.1 hR) (cwV 0 S.2.2.2.2 gL_law_X3_ports rfl rfl rfl (by decide +kernel) ⟨Nat.le_of_ble_eq_true rfl, Nat.le_of_ble_eq_true rfl⟩) hW rfl rfl hl.1 (Nat.le_of_ble_eq_true rfl) dL_law_233 (by show 600 + 30 * k + 3 + 12 + 0 + 0 ≤ 651495 ∧ 6 * (600 + 30 * k) + 6 * 3 + 6 * 12 + 6 * 0 + 6 * 0 ≤ 7147140; omega) (fun r233 H locs hq233 hW => ?_)
                        obtain rfl := hq233
                        refine p_S0 (K := 0) (rm := rmL_low) (As := [.int (v115 >>> (8 &&& 31)), .int (nI (gNo Γ))]) (rest := [.int (nI (xlo (v115 >>> (3 &&& 31)) (gNo Γ))), .ref (X.2.2.2.2 0), .ref (X.2.2.2.1 0)]) S (fun E => c_L_low l E hfl Γ hG (v115 >>> (8 &&& 31)) (k := (gNo Γ)) (by omega) (by omega)) (cwS 2 S.2.2.2.2 gL_law_L_low rfl rfl rfl (by decide +kernel) ⟨Nat.le_of_ble_eq_true rfl, Nat.le_of_ble_eq_true rfl⟩) hW hTh hNc rfl rfl hl.1 (Nat.le_of_ble_eq_true rfl) dL_law_236 (by show 600 + 30 * k + 3 + 12 + 0 + 0 + 0 ≤ 651495 ∧ 6 * (600 + 30 * k) + 6 * 3 + 6 * 12 + 6 * 0 + 6 * 0 + 6 * 0 ≤ 7147140; omega) (fun r236 Γ236 H locs hq236 hW => ?_)
                        obtain ⟨rfl, eΓ236⟩ := hq236
                        obtain rfl := eΓ236.symm
                        have hlo236 := xlo_lt (v115 >>> (8 &&& 31)) (m := (gNo Γ)) (by omega)
                        refine p_S2 (K := 12) (rm := rmL_isPlanSo) (As := [.ref (X.2.2.2.1 0), .ref (X.2.2.2.2 0), .int (nI (xlo (v115 >>> (3 &&& 31)) (gNo Γ))), .int (nI (xlo (v115 >>> (8 &&& 31)) (gNo Γ)))]) (rest := []) S (c_L_isPlanSo l X hfl Γ hG (a := (xlo (v115 >>> (3 &&& 31)) (gNo Γ))) (b := (xlo (v115 >>> (8 &&& 31)) (gNo Γ))) (by omega) (by omega)) (cwS 4 S.2.2.2.2 gL_law_L_isPlanSo rfl rfl rfl (by decide +kernel) ⟨Nat.le_of_ble_eq_true rfl, Nat.le_of_ble_eq_true rfl⟩) hW hTh hNc rfl rfl hl.1 (Nat.le_of_ble_eq_true rfl) dL_law_239 (by show 600 + 30 * k + 3 + 12 + 0 + 0 + 0 + 12 ≤ 651495 ∧ 6 * (600 + 30 * k) + 6 * 3 + 6 * 12 + 6 * 0 + 6 * 0 + 6 * 0 + 6 * 12 ≤ 7147140; omega) (fun r239 Γ239 H locs hq239 hW => ?_)
                        obtain ⟨rfl, Δ239, hgd239, hgn239, rfl⟩ := hq239
                        have hW : pSt X Δ239 Δ239 s s.heap H locs := hW
                        refine lv_if_eq (tgt := 249) hx hb dL_law_242 (by decide) (fun c242 => ?_) (fun c242 => ?_)
                        · exact absurd c242 (by decide)
                        refine lv_iconst (v := 1) hx hb dL_law_245 (by decide) ?_
                        refine lv_goto (tgt := 250) hx hb dL_law_246 (by decide) ?_
                        refine lv_istore_n (lv' := [(3, .int 1), (6, .int r123), (5, .int v115), (0, .ref b), (1, .ref (X.2.2.2.1 0)), (2, .ref (X.2.2.2.2 0)), (4, .int (nI k))]) hx hb dL_law_250 rfl hl (by decide) rfl (fun ls hl => ?_)
                        refine lv_iinc (v := (nI (k + 1))) (lv' := [(4, .int (nI (k + 1))), (3, .int 1), (6, .int r123), (5, .int v115), (0, .ref b), (1, .ref (X.2.2.2.1 0)), (2, .ref (X.2.2.2.2 0))]) hx hb dL_law_251 hl (k := 6) rfl (x_inc _) (by decide) rfl (fun ls hl => ?_)
                        refine lv_goto (tgt := 101) hx hb dL_law_254 (by decide) ?_
                        exact W.widen (by omega) (by omega) (L101  (Δ239) (k + 1) (by omega) (by omega) (by omega) (hgd239) ((by omega)) _ _ _ hW (lv_sub hl [4, 5, 6, 1, 0] rfl))
                · refine lv_aload_n hx hb dL_law_154 rfl (lv_at hl 3 rfl) ?_
                  refine lv_aload_n hx hb dL_law_155 rfl (lv_at hl 4 rfl) ?_
                  refine p_S2 (K := 0) (rm := rmL_areAlike) (As := [.ref (X.2.2.2.1 0), .ref (X.2.2.2.2 0)]) (rest := []) S (c_L_areAlike l X hfl Γ hG) (cwS 2 S.2.2.2.2 gL_law_L_areAlike rfl rfl rfl (by decide +kernel) ⟨Nat.le_of_ble_eq_true rfl, Nat.le_of_ble_eq_true rfl⟩) hW hTh hNc rfl rfl hl.1 (Nat.le_of_ble_eq_true rfl) dL_law_156 (by show 600 + 30 * k + 3 + 0 ≤ 651495 ∧ 6 * (600 + 30 * k) + 6 * 3 + 6 * 0 ≤ 7147140; omega) (fun r156 Γ156 H locs hq156 hW => ?_)
                  obtain ⟨rfl, rfl⟩ := hq156
                  have hW : pSt X Γ Γ s s.heap H locs := hW
                  refine lv_if_eq (tgt := 199) hx hb dL_law_159 (by decide) (fun c159 => ?_) (fun c159 => ?_)
                  · exact absurd c159 (by decide)
                  refine lv_iload hx hb dL_law_162 (lv_at hl 6 rfl) ?_
                  refine lv_iconst (v := 3) hx hb dL_law_164 (by decide) ?_
                  refine lv_irem hx hb dL_law_165 (by decide) ?_
                  refine x_topN (k % 3) (x_rem (a := k) (m := 3) (by omega) (by omega)) ?_
                  refine lv_iconst (v := 1) hx hb dL_law_166 (by decide) ?_
                  refine x_icmp_ne (a := k % 3) (b := 1) (tgt := 177) hx hb dL_law_167 (by decide) (by omega) (by omega) (fun c167 => ?_) (fun c167 => ?_)
                  · refine lv_iload hx hb dL_law_177 (lv_at hl 6 rfl) ?_
                    refine lv_bipush (v := 8) hx hb dL_law_179 (by decide) ?_
                    refine lv_irem hx hb dL_law_181 (by decide) ?_
                    refine x_topN (k % 8) (x_rem (a := k) (m := 8) (by omega) (by omega)) ?_
                    refine lv_iconst (v := 2) hx hb dL_law_182 (by decide) ?_
                    refine x_icmp_ne (a := k % 8) (b := 2) (tgt := 195) hx hb dL_law_183 (by decide) (by omega) (by omega) (fun c183 => ?_) (fun c183 => ?_)
                    · refine lv_iconst (v := 1) hx hb dL_law_195 (by decide) ?_
                      refine lv_goto (tgt := 200) hx hb dL_law_196 (by decide) ?_
                      refine lv_istore_n (lv' := [(3, .int 1), (6, .int r123), (5, .int v115), (0, .ref b), (1, .ref (X.2.2.2.1 0)), (2, .ref (X.2.2.2.2 0)), (4, .int (nI k))]) hx hb dL_law_200 rfl hl (by decide) rfl (fun ls hl => ?_)
                      refine lv_iload hx hb dL_law_201 (lv_at hl 6 rfl) ?_
                      refine lv_bipush (v := 9) hx hb dL_law_203 (by decide) ?_
                      refine lv_irem hx hb dL_law_205 (by decide) ?_
                      refine x_topN (k % 9) (x_rem (a := k) (m := 9) (by omega) (by omega)) ?_
                      refine lv_iconst (v := 5) hx hb dL_law_206 (by decide) ?_
                      refine x_icmp_ne (a := k % 9) (b := 5) (tgt := 251) hx hb dL_law_207 (by decide) (by omega) (by omega) (fun c207 => ?_) (fun c207 => ?_)
                      · refine lv_iinc (v := (nI (k + 1))) (lv' := [(4, .int (nI (k + 1))), (3, .int 1), (6, .int r123), (5, .int v115), (0, .ref b), (1, .ref (X.2.2.2.1 0)), (2, .ref (X.2.2.2.2 0))]) hx hb dL_law_251 hl (k := 6) rfl (x_inc _) (by decide) rfl (fun ls hl => ?_)
                        refine lv_goto (tgt := 101) hx hb dL_law_254 (by decide) ?_
                        exact W.widen (by omega) (by omega) (L101  (Γ) (k + 1) (by omega) (by omega) (by omega) (hG) (hn0) _ _ _ hW (lv_sub hl [4, 5, 6, 1, 0] rfl))
                      · refine lv_iload_n hx hb dL_law_210 rfl (lv_at hl 0 rfl) ?_
                        refine lv_if_eq (tgt := 249) hx hb dL_law_211 (by decide) (fun c211 => ?_) (fun c211 => ?_)
                        · exact absurd c211 (by decide)
                        refine lv_aload_n hx hb dL_law_214 rfl (lv_at hl 4 rfl) ?_
                        refine lv_aload_n hx hb dL_law_215 rfl (lv_at hl 5 rfl) ?_
                        refine lv_iload hx hb dL_law_216 (lv_at hl 2 rfl) ?_
                        refine lv_iconst (v := 3) hx hb dL_law_218 (by decide) ?_
                        refine lv_ishr hx hb dL_law_219 ?_
                        refine lv_aload_n hx hb dL_law_220 rfl (lv_at hl 4 rfl) ?_
                        refine p_V (rm := rmX3_ports) (As := []) (Γ' := Γ) (rest := [.int (v115 >>> (3 &&& 31)), .ref (X.2.2.2.2 0), .ref (X.2.2.2.1 0)]) S (fun E N F hR => c_X3_ports l E N F xo0 Γ hG.1 hR) (cwV 0 S.2.2.2.2 gL_law_X3_ports rfl rfl rfl (by decide +kernel) ⟨Nat.le_of_ble_eq_true rfl, Nat.le_of_ble_eq_true rfl⟩) hW rfl rfl hl.1 (Nat.le_of_ble_eq_true rfl) dL_law_221 (by show 600 + 30 * k + 3 + 0 ≤ 651495 ∧ 6 * (600 + 30 * k) + 6 * 3 + 6 * 0 ≤ 7147140; omega) (fun r221 H locs hq221 hW => ?_)
                        obtain rfl := hq221
                        refine p_S0 (K := 0) (rm := rmL_low) (As := [.int (v115 >>> (3 &&& 31)), .int (nI (gNo Γ))]) (rest := [.ref (X.2.2.2.2 0), .ref (X.2.2.2.1 0)]) S (fun E => c_L_low l E hfl Γ hG (v115 >>> (3 &&& 31)) (k := (gNo Γ)) (by omega) (by omega)) (cwS 2 S.2.2.2.2 gL_law_L_low rfl rfl rfl (by decide +kernel) ⟨Nat.le_of_ble_eq_true rfl, Nat.le_of_ble_eq_true rfl⟩) hW hTh hNc rfl rfl hl.1 (Nat.le_of_ble_eq_true rfl) dL_law_224 (by show 600 + 30 * k + 3 + 0 + 0 ≤ 651495 ∧ 6 * (600 + 30 * k) + 6 * 3 + 6 * 0 + 6 * 0 ≤ 7147140; omega) (fun r224 Γ224 H locs hq224 hW => ?_)
                        obtain ⟨rfl, eΓ224⟩ := hq224
                        obtain rfl := eΓ224.symm
                        have hlo224 := xlo_lt (v115 >>> (3 &&& 31)) (m := (gNo Γ)) (by omega)
                        refine lv_iload hx hb dL_law_227 (lv_at hl 2 rfl) ?_
                        refine lv_bipush (v := 8) hx hb dL_law_229 (by decide) ?_
                        refine lv_ishr hx hb dL_law_231 ?_
                        refine lv_aload_n hx hb dL_law_232 rfl (lv_at hl 4 rfl) ?_
                        refine p_V (rm := rmX3_ports) (As := []) (Γ' := Γ) (rest := [.int (v115 >>> (8 &&& 31)), .int (nI (xlo (v115 >>> (3 &&& 31)) (gNo Γ))), .ref (X.2.2.2.2 0), .ref (X.2.2.2.1 0)]) S (fun E N F hR => c_X3_ports l E N F xo0 Γ hG.1 hR) (cwV 0 S.2.2.2.2 gL_law_X3_ports rfl rfl rfl (by decide +kernel) ⟨Nat.le_of_ble_eq_true rfl, Nat.le_of_ble_eq_true rfl⟩) hW rfl rfl hl.1 (Nat.le_of_ble_eq_true rfl) dL_law_233 (by show 600 + 30 * k + 3 + 0 + 0 ≤ 651495 ∧ 6 * (600 + 30 * k) + 6 * 3 + 6 * 0 + 6 * 0 ≤ 7147140; omega) (fun r233 H locs hq233 hW => ?_)
                        obtain rfl := hq233
                        refine p_S0 (K := 0) (rm := rmL_low) (As := [.int (v115 >>> (8 &&& 31)), .int (nI (gNo Γ))]) (rest := [.int (nI (xlo (v115 >>> (3 &&& 31)) (gNo Γ))), .ref (X.2.2.2.2 0), .ref (X.2.2.2.1 0)]) S (fun E => c_L_low l E hfl Γ hG (v115 >>> (8 &&& 31)) (k := (gNo Γ)) (by omega) (by omega)) (cwS 2 S.2.2.2.2 gL_law_L_low rfl rfl rfl (by decide +kernel) ⟨Nat.le_of_ble_eq_true rfl, Nat.le_of_ble_eq_true rfl⟩) hW hTh hNc rfl rfl hl.1 (Nat.le_of_ble_eq_true rfl) dL_law_236 (by show 600 + 30 * k + 3 + 0 + 0 + 0 ≤ 651495 ∧ 6 * (600 + 30 * k) + 6 * 3 + 6 * 0 + 6 * 0 + 6 * 0 ≤ 7147140; omega) (fun r236 Γ236 H locs hq236 hW => ?_)
                        obtain ⟨rfl, eΓ236⟩ := hq236
                        obtain rfl := eΓ236.symm
                        have hlo236 := xlo_lt (v115 >>> (8 &&& 31)) (m := (gNo Γ)) (by omega)
                        refine p_S2 (K := 12) (rm := rmL_isPlanSo) (As := [.ref (X.2.2.2.1 0), .ref (X.2.2.2.2 0), .int (nI (xlo (v115 >>> (3 &&& 31)) (gNo Γ))), .int (nI (xlo (v115 >>> (8 &&& 31)) (gNo Γ)))]) (rest := []) S (c_L_isPlanSo l X hfl Γ hG (a := (xlo (v115 >>> (3 &&& 31)) (gNo Γ))) (b := (xlo (v115 >>> (8 &&& 31)) (gNo Γ))) (by omega) (by omega)) (cwS 4 S.2.2.2.2 gL_law_L_isPlanSo rfl rfl rfl (by decide +kernel) ⟨Nat.le_of_ble_eq_true rfl, Nat.le_of_ble_eq_true rfl⟩) hW hTh hNc rfl rfl hl.1 (Nat.le_of_ble_eq_true rfl) dL_law_239 (by show 600 + 30 * k + 3 + 0 + 0 + 0 + 12 ≤ 651495 ∧ 6 * (600 + 30 * k) + 6 * 3 + 6 * 0 + 6 * 0 + 6 * 0 + 6 * 12 ≤ 7147140; omega) (fun r239 Γ239 H locs hq239 hW => ?_)
                        obtain ⟨rfl, Δ239, hgd239, hgn239, rfl⟩ := hq239
                        have hW : pSt X Δ239 Δ239 s s.heap H locs := hW
                        refine lv_if_eq (tgt := 249) hx hb dL_law_242 (by decide) (fun c242 => ?_) (fun c242 => ?_)
                        · exact absurd c242 (by decide)
                        refine lv_iconst (v := 1) hx hb dL_law_245 (by decide) ?_
                        refine lv_goto (tgt := 250) hx hb dL_law_246 (by decide) ?_
                        refine lv_istore_n (lv' := [(3, .int 1), (6, .int r123), (5, .int v115), (0, .ref b), (1, .ref (X.2.2.2.1 0)), (2, .ref (X.2.2.2.2 0)), (4, .int (nI k))]) hx hb dL_law_250 rfl hl (by decide) rfl (fun ls hl => ?_)
                        refine lv_iinc (v := (nI (k + 1))) (lv' := [(4, .int (nI (k + 1))), (3, .int 1), (6, .int r123), (5, .int v115), (0, .ref b), (1, .ref (X.2.2.2.1 0)), (2, .ref (X.2.2.2.2 0))]) hx hb dL_law_251 hl (k := 6) rfl (x_inc _) (by decide) rfl (fun ls hl => ?_)
                        refine lv_goto (tgt := 101) hx hb dL_law_254 (by decide) ?_
                        exact W.widen (by omega) (by omega) (L101  (Δ239) (k + 1) (by omega) (by omega) (by omega) (hgd239) ((by omega)) _ _ _ hW (lv_sub hl [4, 5, 6, 1, 0] rfl))
                    · refine lv_aload_n hx hb dL_law_186 rfl (lv_at hl 3 rfl) ?_
                      refine lv_iload hx hb dL_law_187 (lv_at hl 1 rfl) ?_
                      refine p_S (K := 0) (rm := rmL_areLinesSo) (Bs := [.int v115]) (rest := []) S (fun E => c_L_areLinesSo l E hfl Γ hG v115) (cwS 2 S.2.2.2.2 gL_law_L_areLinesSo rfl rfl rfl (by decide +kernel) ⟨Nat.le_of_ble_eq_true rfl, Nat.le_of_ble_eq_true rfl⟩) hW hTh hNc rfl rfl hl.1 (Nat.le_of_ble_eq_true rfl) dL_law_189 (by show 600 + 30 * k + 3 + 0 + 0 ≤ 651495 ∧ 6 * (600 + 30 * k) + 6 * 3 + 6 * 0 + 6 * 0 ≤ 7147140; omega) (fun r189 Γ189 H locs hq189 hW => ?_)
                      obtain ⟨rfl, eΓ189⟩ := hq189
                      obtain rfl := eΓ189.symm
                      refine lv_if_eq (tgt := 199) hx hb dL_law_192 (by decide) (fun c192 => ?_) (fun c192 => ?_)
                      · exact absurd c192 (by decide)
                      refine lv_iconst (v := 1) hx hb dL_law_195 (by decide) ?_
                      refine lv_goto (tgt := 200) hx hb dL_law_196 (by decide) ?_
                      refine lv_istore_n (lv' := [(3, .int 1), (6, .int r123), (5, .int v115), (0, .ref b), (1, .ref (X.2.2.2.1 0)), (2, .ref (X.2.2.2.2 0)), (4, .int (nI k))]) hx hb dL_law_200 rfl hl (by decide) rfl (fun ls hl => ?_)
                      refine lv_iload hx hb dL_law_201 (lv_at hl 6 rfl) ?_
                      refine lv_bipush (v := 9) hx hb dL_law_203 (by decide) ?_
                      refine lv_irem hx hb dL_law_205 (by decide) ?_
                      refine x_topN (k % 9) (x_rem (a := k) (m := 9) (by omega) (by omega)) ?_
                      refine lv_iconst (v := 5) hx hb dL_law_206 (by decide) ?_
                      refine x_icmp_ne (a := k % 9) (b := 5) (tgt := 251) hx hb dL_law_207 (by decide) (by omega) (by omega) (fun c207 => ?_) (fun c207 => ?_)
                      · refine lv_iinc (v := (nI (k + 1))) (lv' := [(4, .int (nI (k + 1))), (3, .int 1), (6, .int r123), (5, .int v115), (0, .ref b), (1, .ref (X.2.2.2.1 0)), (2, .ref (X.2.2.2.2 0))]) hx hb dL_law_251 hl (k := 6) rfl (x_inc _) (by decide) rfl (fun ls hl => ?_)
                        refine lv_goto (tgt := 101) hx hb dL_law_254 (by decide) ?_
                        exact W.widen (by omega) (by omega) (L101  (Γ) (k + 1) (by omega) (by omega) (by omega) (hG) (hn0) _ _ _ hW (lv_sub hl [4, 5, 6, 1, 0] rfl))
                      · refine lv_iload_n hx hb dL_law_210 rfl (lv_at hl 0 rfl) ?_
                        refine lv_if_eq (tgt := 249) hx hb dL_law_211 (by decide) (fun c211 => ?_) (fun c211 => ?_)
                        · exact absurd c211 (by decide)
                        refine lv_aload_n hx hb dL_law_214 rfl (lv_at hl 4 rfl) ?_
                        refine lv_aload_n hx hb dL_law_215 rfl (lv_at hl 5 rfl) ?_
                        refine lv_iload hx hb dL_law_216 (lv_at hl 2 rfl) ?_
                        refine lv_iconst (v := 3) hx hb dL_law_218 (by decide) ?_
                        refine lv_ishr hx hb dL_law_219 ?_
                        refine lv_aload_n hx hb dL_law_220 rfl (lv_at hl 4 rfl) ?_
                        refine p_V (rm := rmX3_ports) (As := []) (Γ' := Γ) (rest := [.int (v115 >>> (3 &&& 31)), .ref (X.2.2.2.2 0), .ref (X.2.2.2.1 0)]) S (fun E N F hR => c_X3_ports l E N F xo0 Γ hG.1 hR) (cwV 0 S.2.2.2.2 gL_law_X3_ports rfl rfl rfl (by decide +kernel) ⟨Nat.le_of_ble_eq_true rfl, Nat.le_of_ble_eq_true rfl⟩) hW rfl rfl hl.1 (Nat.le_of_ble_eq_true rfl) dL_law_221 (by show 600 + 30 * k + 3 + 0 + 0 ≤ 651495 ∧ 6 * (600 + 30 * k) + 6 * 3 + 6 * 0 + 6 * 0 ≤ 7147140; omega) (fun r221 H locs hq221 hW => ?_)
                        obtain rfl := hq221
                        refine p_S0 (K := 0) (rm := rmL_low) (As := [.int (v115 >>> (3 &&& 31)), .int (nI (gNo Γ))]) (rest := [.ref (X.2.2.2.2 0), .ref (X.2.2.2.1 0)]) S (fun E => c_L_low l E hfl Γ hG (v115 >>> (3 &&& 31)) (k := (gNo Γ)) (by omega) (by omega)) (cwS 2 S.2.2.2.2 gL_law_L_low rfl rfl rfl (by decide +kernel) ⟨Nat.le_of_ble_eq_true rfl, Nat.le_of_ble_eq_true rfl⟩) hW hTh hNc rfl rfl hl.1 (Nat.le_of_ble_eq_true rfl) dL_law_224 (by show 600 + 30 * k + 3 + 0 + 0 + 0 ≤ 651495 ∧ 6 * (600 + 30 * k) + 6 * 3 + 6 * 0 + 6 * 0 + 6 * 0 ≤ 7147140; omega) (fun r224 Γ224 H locs hq224 hW => ?_)
                        obtain ⟨rfl, eΓ224⟩ := hq224
                        obtain rfl := eΓ224.symm
                        have hlo224 := xlo_lt (v115 >>> (3 &&& 31)) (m := (gNo Γ)) (by omega)
                        refine lv_iload hx hb dL_law_227 (lv_at hl 2 rfl) ?_
                        refine lv_bipush (v := 8) hx hb dL_law_229 (by decide) ?_
                        refine lv_ishr hx hb dL_law_231 ?_
                        refine lv_aload_n hx hb dL_law_232 rfl (lv_at hl 4 rfl) ?_
                        refine p_V (rm := rmX3_ports) (As := []) (Γ' := Γ) (rest := [.int (v115 >>> (8 &&& 31)), .int (nI (xlo (v115 >>> (3 &&& 31)) (gNo Γ))), .ref (X.2.2.2.2 0), .ref (X.2.2.2.1 0)]) S (fun E N F hR => c_X3_ports l E N F xo0 Γ hG.1 hR) (cwV 0 S.2.2.2.2 gL_law_X3_ports rfl rfl rfl (by decide +kernel) ⟨Nat.le_of_ble_eq_true rfl, Nat.le_of_ble_eq_true rfl⟩) hW rfl rfl hl.1 (Nat.le_of_ble_eq_true rfl) dL_law_233 (by show 600 + 30 * k + 3 + 0 + 0 + 0 ≤ 651495 ∧ 6 * (600 + 30 * k) + 6 * 3 + 6 * 0 + 6 * 0 + 6 * 0 ≤ 7147140; omega) (fun r233 H locs hq233 hW => ?_)
                        obtain rfl := hq233
                        refine p_S0 (K := 0) (rm := rmL_low) (As := [.int (v115 >>> (8 &&& 31)), .int (nI (gNo Γ))]) (rest := [.int (nI (xlo (v115 >>> (3 &&& 31)) (gNo Γ))), .ref (X.2.2.2.2 0), .ref (X.2.2.2.1 0)]) S (fun E => c_L_low l E hfl Γ hG (v115 >>> (8 &&& 31)) (k := (gNo Γ)) (by omega) (by omega)) (cwS 2 S.2.2.2.2 gL_law_L_low rfl rfl rfl (by decide +kernel) ⟨Nat.le_of_ble_eq_true rfl, Nat.le_of_ble_eq_true rfl⟩) hW hTh hNc rfl rfl hl.1 (Nat.le_of_ble_eq_true rfl) dL_law_236 (by show 600 + 30 * k + 3 + 0 + 0 + 0 + 0 ≤ 651495 ∧ 6 * (600 + 30 * k) + 6 * 3 + 6 * 0 + 6 * 0 + 6 * 0 + 6 * 0 ≤ 7147140; omega) (fun r236 Γ236 H locs hq236 hW => ?_)
                        obtain ⟨rfl, eΓ236⟩ := hq236
                        obtain rfl := eΓ236.symm
                        have hlo236 := xlo_lt (v115 >>> (8 &&& 31)) (m := (gNo Γ)) (by omega)
                        refine p_S2 (K := 12) (rm := rmL_isPlanSo) (As := [.ref (X.2.2.2.1 0), .ref (X.2.2.2.2 0), .int (nI (xlo (v115 >>> (3 &&& 31)) (gNo Γ))), .int (nI (xlo (v115 >>> (8 &&& 31)) (gNo Γ)))]) (rest := []) S (c_L_isPlanSo l X hfl Γ hG (a := (xlo (v115 >>> (3 &&& 31)) (gNo Γ))) (b := (xlo (v115 >>> (8 &&& 31)) (gNo Γ))) (by omega) (by omega)) (cwS 4 S.2.2.2.2 gL_law_L_isPlanSo rfl rfl rfl (by decide +kernel) ⟨Nat.le_of_ble_eq_true rfl, Nat.le_of_ble_eq_true rfl⟩) hW hTh hNc rfl rfl hl.1 (Nat.le_of_ble_eq_true rfl) dL_law_239 (by show 600 + 30 * k + 3 + 0 + 0 + 0 + 0 + 12 ≤ 651495 ∧ 6 * (600 + 30 * k) + 6 * 3 + 6 * 0 + 6 * 0 + 6 * 0 + 6 * 0 + 6 * 12 ≤ 7147140; omega) (fun r239 Γ239 H locs hq239 hW => ?_)
                        obtain ⟨rfl, Δ239, hgd239, hgn239, rfl⟩ := hq239
                        have hW : pSt X Δ239 Δ239 s s.heap H locs := hW
                        refine lv_if_eq (tgt := 249) hx hb dL_law_242 (by decide) (fun c242 => ?_) (fun c242 => ?_)
                        · exact absurd c242 (by decide)
                        refine lv_iconst (v := 1) hx hb dL_law_245 (by decide) ?_
                        refine lv_goto (tgt := 250) hx hb dL_law_246 (by decide) ?_
                        refine lv_istore_n (lv' := [(3, .int 1), (6, .int r123), (5, .int v115), (0, .ref b), (1, .ref (X.2.2.2.1 0)), (2, .ref (X.2.2.2.2 0)), (4, .int (nI k))]) hx hb dL_law_250 rfl hl (by decide) rfl (fun ls hl => ?_)
                        refine lv_iinc (v := (nI (k + 1))) (lv' := [(4, .int (nI (k + 1))), (3, .int 1), (6, .int r123), (5, .int v115), (0, .ref b), (1, .ref (X.2.2.2.1 0)), (2, .ref (X.2.2.2.2 0))]) hx hb dL_law_251 hl (k := 6) rfl (x_inc _) (by decide) rfl (fun ls hl => ?_)
                        refine lv_goto (tgt := 101) hx hb dL_law_254 (by decide) ?_
                        exact W.widen (by omega) (by omega) (L101  (Δ239) (k + 1) (by omega) (by omega) (by omega) (hgd239) ((by omega)) _ _ _ hW (lv_sub hl [4, 5, 6, 1, 0] rfl))
                  · refine lv_aload_n hx hb dL_law_170 rfl (lv_at hl 3 rfl) ?_
                    refine p_S (K := 12) (rm := rmL_arePortsSo) (Bs := []) (rest := []) S (fun E => c_L_arePortsSo l E hfl Γ hG ) (cwS 1 S.2.2.2.2 gL_law_L_arePortsSo rfl rfl rfl (by decide +kernel) ⟨Nat.le_of_ble_eq_true rfl, Nat.le_of_ble_eq_true rfl⟩) hW hTh hNc rfl rfl hl.1 (Nat.le_of_ble_eq_true rfl) dL_law_171 (by show 600 + 30 * k + 3 + 0 + 12 ≤ 651495 ∧ 6 * (600 + 30 * k) + 6 * 3 + 6 * 0 + 6 * 12 ≤ 7147140; omega) (fun r171 Γ171 H locs hq171 hW => ?_)
                    obtain ⟨rfl, eΓ171⟩ := hq171
                    obtain rfl := eΓ171.symm
                    refine lv_if_eq (tgt := 199) hx hb dL_law_174 (by decide) (fun c174 => ?_) (fun c174 => ?_)
                    · exact absurd c174 (by decide)
                    refine lv_iload hx hb dL_law_177 (lv_at hl 6 rfl) ?_
                    refine lv_bipush (v := 8) hx hb dL_law_179 (by decide) ?_
                    refine lv_irem hx hb dL_law_181 (by decide) ?_
                    refine x_topN (k % 8) (x_rem (a := k) (m := 8) (by omega) (by omega)) ?_
                    refine lv_iconst (v := 2) hx hb dL_law_182 (by decide) ?_
                    refine x_icmp_ne (a := k % 8) (b := 2) (tgt := 195) hx hb dL_law_183 (by decide) (by omega) (by omega) (fun c183 => ?_) (fun c183 => ?_)
                    · refine lv_iconst (v := 1) hx hb dL_law_195 (by decide) ?_
                      refine lv_goto (tgt := 200) hx hb dL_law_196 (by decide) ?_
                      refine lv_istore_n (lv' := [(3, .int 1), (6, .int r123), (5, .int v115), (0, .ref b), (1, .ref (X.2.2.2.1 0)), (2, .ref (X.2.2.2.2 0)), (4, .int (nI k))]) hx hb dL_law_200 rfl hl (by decide) rfl (fun ls hl => ?_)
                      refine lv_iload hx hb dL_law_201 (lv_at hl 6 rfl) ?_
                      refine lv_bipush (v := 9) hx hb dL_law_203 (by decide) ?_
                      refine lv_irem hx hb dL_law_205 (by decide) ?_
                      refine x_topN (k % 9) (x_rem (a := k) (m := 9) (by omega) (by omega)) ?_
                      refine lv_iconst (v := 5) hx hb dL_law_206 (by decide) ?_
                      refine x_icmp_ne (a := k % 9) (b := 5) (tgt := 251) hx hb dL_law_207 (by decide) (by omega) (by omega) (fun c207 => ?_) (fun c207 => ?_)
                      · refine lv_iinc (v := (nI (k + 1))) (lv' := [(4, .int (nI (k + 1))), (3, .int 1), (6, .int r123), (5, .int v115), (0, .ref b), (1, .ref (X.2.2.2.1 0)), (2, .ref (X.2.2.2.2 0))]) hx hb dL_law_251 hl (k := 6) rfl (x_inc _) (by decide) rfl (fun ls hl => ?_)
                        refine lv_goto (tgt := 101) hx hb dL_law_254 (by decide) ?_
                        exact W.widen (by omega) (by omega) (L101  (Γ) (k + 1) (by omega) (by omega) (by omega) (hG) (hn0) _ _ _ hW (lv_sub hl [4, 5, 6, 1, 0] rfl))
                      · refine lv_iload_n hx hb dL_law_210 rfl (lv_at hl 0 rfl) ?_
                        refine lv_if_eq (tgt := 249) hx hb dL_law_211 (by decide) (fun c211 => ?_) (fun c211 => ?_)
                        · exact absurd c211 (by decide)
                        refine lv_aload_n hx hb dL_law_214 rfl (lv_at hl 4 rfl) ?_
                        refine lv_aload_n hx hb dL_law_215 rfl (lv_at hl 5 rfl) ?_
                        refine lv_iload hx hb dL_law_216 (lv_at hl 2 rfl) ?_
                        refine lv_iconst (v := 3) hx hb dL_law_218 (by decide) ?_
                        refine lv_ishr hx hb dL_law_219 ?_
                        refine lv_aload_n hx hb dL_law_220 rfl (lv_at hl 4 rfl) ?_
                        refine p_V (rm := rmX3_ports) (As := []) (Γ' := Γ) (rest := [.int (v115 >>> (3 &&& 31)), .ref (X.2.2.2.2 0), .ref (X.2.2.2.1 0)]) S (fun E N F hR => c_X3_ports l E N F xo0 Γ hG.1 hR) (cwV 0 S.2.2.2.2 gL_law_X3_ports rfl rfl rfl (by decide +kernel) ⟨Nat.le_of_ble_eq_true rfl, Nat.le_of_ble_eq_true rfl⟩) hW rfl rfl hl.1 (Nat.le_of_ble_eq_true rfl) dL_law_221 (by show 600 + 30 * k + 3 + 0 + 12 ≤ 651495 ∧ 6 * (600 + 30 * k) + 6 * 3 + 6 * 0 + 6 * 12 ≤ 7147140; omega) (fun r221 H locs hq221 hW => ?_)
                        obtain rfl := hq221
                        refine p_S0 (K := 0) (rm := rmL_low) (As := [.int (v115 >>> (3 &&& 31)), .int (nI (gNo Γ))]) (rest := [.ref (X.2.2.2.2 0), .ref (X.2.2.2.1 0)]) S (fun E => c_L_low l E hfl Γ hG (v115 >>> (3 &&& 31)) (k := (gNo Γ)) (by omega) (by omega)) (cwS 2 S.2.2.2.2 gL_law_L_low rfl rfl rfl (by decide +kernel) ⟨Nat.le_of_ble_eq_true rfl, Nat.le_of_ble_eq_true rfl⟩) hW hTh hNc rfl rfl hl.1 (Nat.le_of_ble_eq_true rfl) dL_law_224 (by show 600 + 30 * k + 3 + 0 + 12 + 0 ≤ 651495 ∧ 6 * (600 + 30 * k) + 6 * 3 + 6 * 0 + 6 * 12 + 6 * 0 ≤ 7147140; omega) (fun r224 Γ224 H locs hq224 hW => ?_)
                        obtain ⟨rfl, eΓ224⟩ := hq224
                        obtain rfl := eΓ224.symm
                        have hlo224 := xlo_lt (v115 >>> (3 &&& 31)) (m := (gNo Γ)) (by omega)
                        refine lv_iload hx hb dL_law_227 (lv_at hl 2 rfl) ?_
                        refine lv_bipush (v := 8) hx hb dL_law_229 (by decide) ?_
                        refine lv_ishr hx hb dL_law_231 ?_
                        refine lv_aload_n hx hb dL_law_232 rfl (lv_at hl 4 rfl) ?_
                        refine p_V (rm := rmX3_ports) (As := []) (Γ' := Γ) (rest := [.int (v115 >>> (8 &&& 31)), .int (nI (xlo (v115 >>> (3 &&& 31)) (gNo Γ))), .ref (X.2.2.2.2 0), .ref (X.2.2.2.1 0)]) S (fun E N F hR => c_X3_ports l E N F xo0 Γ hG.1 hR) (cwV 0 S.2.2.2.2 gL_law_X3_ports rfl rfl rfl (by decide +kernel) ⟨Nat.le_of_ble_eq_true rfl, Nat.le_of_ble_eq_true rfl⟩) hW rfl rfl hl.1 (Nat.le_of_ble_eq_true rfl) dL_law_233 (by show 600 + 30 * k + 3 + 0 + 12 + 0 ≤ 651495 ∧ 6 * (600 + 30 * k) + 6 * 3 + 6 * 0 + 6 * 12 + 6 * 0 ≤ 7147140; omega) (fun r233 H locs hq233 hW => ?_)
                        obtain rfl := hq233
                        refine p_S0 (K := 0) (rm := rmL_low) (As := [.int (v115 >>> (8 &&& 31)), .int (nI (gNo Γ))]) (rest := [.int (nI (xlo (v115 >>> (3 &&& 31)) (gNo Γ))), .ref (X.2.2.2.2 0), .ref (X.2.2.2.1 0)]) S (fun E => c_L_low l E hfl Γ hG (v115 >>> (8 &&& 31)) (k := (gNo Γ)) (by omega) (by omega)) (cwS 2 S.2.2.2.2 gL_law_L_low rfl rfl rfl (by decide +kernel) ⟨Nat.le_of_ble_eq_true rfl, Nat.le_of_ble_eq_true rfl⟩) hW hTh hNc rfl rfl hl.1 (Nat.le_of_ble_eq_true rfl) dL_law_236 (by show 600 + 30 * k + 3 + 0 + 12 + 0 + 0 ≤ 651495 ∧ 6 * (600 + 30 * k) + 6 * 3 + 6 * 0 + 6 * 12 + 6 * 0 + 6 * 0 ≤ 7147140; omega) (fun r236 Γ236 H locs hq236 hW => ?_)
                        obtain ⟨rfl, eΓ236⟩ := hq236
                        obtain rfl := eΓ236.symm
                        have hlo236 := xlo_lt (v115 >>> (8 &&& 31)) (m := (gNo Γ)) (by omega)
                        refine p_S2 (K := 12) (rm := rmL_isPlanSo) (As := [.ref (X.2.2.2.1 0), .ref (X.2.2.2.2 0), .int (nI (xlo (v115 >>> (3 &&& 31)) (gNo Γ))), .int (nI (xlo (v115 >>> (8 &&& 31)) (gNo Γ)))]) (rest := []) S (c_L_isPlanSo l X hfl Γ hG (a := (xlo (v115 >>> (3 &&& 31)) (gNo Γ))) (b := (xlo (v115 >>> (8 &&& 31)) (gNo Γ))) (by omega) (by omega)) (cwS 4 S.2.2.2.2 gL_law_L_isPlanSo rfl rfl rfl (by decide +kernel) ⟨Nat.le_of_ble_eq_true rfl, Nat.le_of_ble_eq_true rfl⟩) hW hTh hNc rfl rfl hl.1 (Nat.le_of_ble_eq_true rfl) dL_law_239 (by show 600 + 30 * k + 3 + 0 + 12 + 0 + 0 + 12 ≤ 651495 ∧ 6 * (600 + 30 * k) + 6 * 3 + 6 * 0 + 6 * 12 + 6 * 0 + 6 * 0 + 6 * 12 ≤ 7147140; omega) (fun r239 Γ239 H locs hq239 hW => ?_)
                        obtain ⟨rfl, Δ239, hgd239, hgn239, rfl⟩ := hq239
                        have hW : pSt X Δ239 Δ239 s s.heap H locs := hW
                        refine lv_if_eq (tgt := 249) hx hb dL_law_242 (by decide) (fun c242 => ?_) (fun c242 => ?_)
                        · exact absurd c242 (by decide)
                        refine lv_iconst (v := 1) hx hb dL_law_245 (by decide) ?_
                        refine lv_goto (tgt := 250) hx hb dL_law_246 (by decide) ?_
                        refine lv_istore_n (lv' := [(3, .int 1), (6, .int r123), (5, .int v115), (0, .ref b), (1, .ref (X.2.2.2.1 0)), (2, .ref (X.2.2.2.2 0)), (4, .int (nI k))]) hx hb dL_law_250 rfl hl (by decide) rfl (fun ls hl => ?_)
                        refine lv_iinc (v := (nI (k + 1))) (lv' := [(4, .int (nI (k + 1))), (3, .int 1), (6, .int r123), (5, .int v115), (0, .ref b), (1, .ref (X.2.2.2.1 0)), (2, .ref (X.2.2.2.2 0))]) hx hb dL_law_251 hl (k := 6) rfl (x_inc _) (by decide) rfl (fun ls hl => ?_)
                        refine lv_goto (tgt := 101) hx hb dL_law_254 (by decide) ?_
                        exact W.widen (by omega) (by omega) (L101  (Δ239) (k + 1) (by omega) (by omega) (by omega) (hgd239) ((by omega)) _ _ _ hW (lv_sub hl [4, 5, 6, 1, 0] rfl))
                    · refine lv_aload_n hx hb dL_law_186 rfl (lv_at hl 3 rfl) ?_
                      refine lv_iload hx hb dL_law_187 (lv_at hl 1 rfl) ?_
                      refine p_S (K := 0) (rm := rmL_areLinesSo) (Bs := [.int v115]) (rest := []) S (fun E => c_L_areLinesSo l E hfl Γ hG v115) (cwS 2 S.2.2.2.2 gL_law_L_areLinesSo rfl rfl rfl (by decide +kernel) ⟨Nat.le_of_ble_eq_true rfl, Nat.le_of_ble_eq_true rfl⟩) hW hTh hNc rfl rfl hl.1 (Nat.le_of_ble_eq_true rfl) dL_law_189 (by show 600 + 30 * k + 3 + 0 + 12 + 0 ≤ 651495 ∧ 6 * (600 + 30 * k) + 6 * 3 + 6 * 0 + 6 * 12 + 6 * 0 ≤ 7147140; omega) (fun r189 Γ189 H locs hq189 hW => ?_)
                      obtain ⟨rfl, eΓ189⟩ := hq189
                      obtain rfl := eΓ189.symm
                      refine lv_if_eq (tgt := 199) hx hb dL_law_192 (by decide) (fun c192 => ?_) (fun c192 => ?_)
                      · exact absurd c192 (by decide)
                      refine lv_iconst (v := 1) hx hb dL_law_195 (by decide) ?_
                      refine lv_goto (tgt := 200) hx hb dL_law_196 (by decide) ?_
                      refine lv_istore_n (lv' := [(3, .int 1), (6, .int r123), (5, .int v115), (0, .ref b), (1, .ref (X.2.2.2.1 0)), (2, .ref (X.2.2.2.2 0)), (4, .int (nI k))]) hx hb dL_law_200 rfl hl (by decide) rfl (fun ls hl => ?_)
                      refine lv_iload hx hb dL_law_201 (lv_at hl 6 rfl) ?_
                      refine lv_bipush (v := 9) hx hb dL_law_203 (by decide) ?_
                      refine lv_irem hx hb dL_law_205 (by decide) ?_
                      refine x_topN (k % 9) (x_rem (a := k) (m := 9) (by omega) (by omega)) ?_
                      refine lv_iconst (v := 5) hx hb dL_law_206 (by decide) ?_
                      refine x_icmp_ne (a := k % 9) (b := 5) (tgt := 251) hx hb dL_law_207 (by decide) (by omega) (by omega) (fun c207 => ?_) (fun c207 => ?_)
                      · refine lv_iinc (v := (nI (k + 1))) (lv' := [(4, .int (nI (k + 1))), (3, .int 1), (6, .int r123), (5, .int v115), (0, .ref b), (1, .ref (X.2.2.2.1 0)), (2, .ref (X.2.2.2.2 0))]) hx hb dL_law_251 hl (k := 6) rfl (x_inc _) (by decide) rfl (fun ls hl => ?_)
                        refine lv_goto (tgt := 101) hx hb dL_law_254 (by decide) ?_
                        exact W.widen (by omega) (by omega) (L101  (Γ) (k + 1) (by omega) (by omega) (by omega) (hG) (hn0) _ _ _ hW (lv_sub hl [4, 5, 6, 1, 0] rfl))
                      · refine lv_iload_n hx hb dL_law_210 rfl (lv_at hl 0 rfl) ?_
                        refine lv_if_eq (tgt := 249) hx hb dL_law_211 (by decide) (fun c211 => ?_) (fun c211 => ?_)
                        · exact absurd c211 (by decide)
                        refine lv_aload_n hx hb dL_law_214 rfl (lv_at hl 4 rfl) ?_
                        refine lv_aload_n hx hb dL_law_215 rfl (lv_at hl 5 rfl) ?_
                        refine lv_iload hx hb dL_law_216 (lv_at hl 2 rfl) ?_
                        refine lv_iconst (v := 3) hx hb dL_law_218 (by decide) ?_
                        refine lv_ishr hx hb dL_law_219 ?_
                        refine lv_aload_n hx hb dL_law_220 rfl (lv_at hl 4 rfl) ?_
                        refine p_V (rm := rmX3_ports) (As := []) (Γ' := Γ) (rest := [.int (v115 >>> (3 &&& 31)), .ref (X.2.2.2.2 0), .ref (X.2.2.2.1 0)]) S (fun E N F hR => c_X3_ports l E N F xo0 Γ hG.1 hR) (cwV 0 S.2.2.2.2 gL_law_X3_ports rfl rfl rfl (by decide +kernel) ⟨Nat.le_of_ble_eq_true rfl, Nat.le_of_ble_eq_true rfl⟩) hW rfl rfl hl.1 (Nat.le_of_ble_eq_true rfl) dL_law_221 (by show 600 + 30 * k + 3 + 0 + 12 + 0 ≤ 651495 ∧ 6 * (600 + 30 * k) + 6 * 3 + 6 * 0 + 6 * 12 + 6 * 0 ≤ 7147140; omega) (fun r221 H locs hq221 hW => ?_)
                        obtain rfl := hq221
                        refine p_S0 (K := 0) (rm := rmL_low) (As := [.int (v115 >>> (3 &&& 31)), .int (nI (gNo Γ))]) (rest := [.ref (X.2.2.2.2 0), .ref (X.2.2.2.1 0)]) S (fun E => c_L_low l E hfl Γ hG (v115 >>> (3 &&& 31)) (k := (gNo Γ)) (by omega) (by omega)) (cwS 2 S.2.2.2.2 gL_law_L_low rfl rfl rfl (by decide +kernel) ⟨Nat.le_of_ble_eq_true rfl, Nat.le_of_ble_eq_true rfl⟩) hW hTh hNc rfl rfl hl.1 (Nat.le_of_ble_eq_true rfl) dL_law_224 (by show 600 + 30 * k + 3 + 0 + 12 + 0 + 0 ≤ 651495 ∧ 6 * (600 + 30 * k) + 6 * 3 + 6 * 0 + 6 * 12 + 6 * 0 + 6 * 0 ≤ 7147140; omega) (fun r224 Γ224 H locs hq224 hW => ?_)
                        obtain ⟨rfl, eΓ224⟩ := hq224
                        obtain rfl := eΓ224.symm
                        have hlo224 := xlo_lt (v115 >>> (3 &&& 31)) (m := (gNo Γ)) (by omega)
                        refine lv_iload hx hb dL_law_227 (lv_at hl 2 rfl) ?_
                        refine lv_bipush (v := 8) hx hb dL_law_229 (by decide) ?_
                        refine lv_ishr hx hb dL_law_231 ?_
                        refine lv_aload_n hx hb dL_law_232 rfl (lv_at hl 4 rfl) ?_
                        refine p_V (rm := rmX3_ports) (As := []) (Γ' := Γ) (rest := [.int (v115 >>> (8 &&& 31)), .int (nI (xlo (v115 >>> (3 &&& 31)) (gNo Γ))), .ref (X.2.2.2.2 0), .ref (X.2.2.2.1 0)]) S (fun E N F hR => c_X3_ports l E N F xo0 Γ hG.1 hR) (cwV 0 S.2.2.2.2 gL_law_X3_ports rfl rfl rfl (by decide +kernel) ⟨Nat.le_of_ble_eq_true rfl, Nat.le_of_ble_eq_true rfl⟩) hW rfl rfl hl.1 (Nat.le_of_ble_eq_true rfl) dL_law_233 (by show 600 + 30 * k + 3 + 0 + 12 + 0 + 0 ≤ 651495 ∧ 6 * (600 + 30 * k) + 6 * 3 + 6 * 0 + 6 * 12 + 6 * 0 + 6 * 0 ≤ 7147140; omega) (fun r233 H locs hq233 hW => ?_)
                        obtain rfl := hq233
                        refine p_S0 (K := 0) (rm := rmL_low) (As := [.int (v115 >>> (8 &&& 31)), .int (nI (gNo Γ))]) (rest := [.int (nI (xlo (v115 >>> (3 &&& 31)) (gNo Γ))), .ref (X.2.2.2.2 0), .ref (X.2.2.2.1 0)]) S (fun E => c_L_low l E hfl Γ hG (v115 >>> (8 &&& 31)) (k := (gNo Γ)) (by omega) (by omega)) (cwS 2 S.2.2.2.2 gL_law_L_low rfl rfl rfl (by decide +kernel) ⟨Nat.le_of_ble_eq_true rfl, Nat.le_of_ble_eq_true rfl⟩) hW hTh hNc rfl rfl hl.1 (Nat.le_of_ble_eq_true rfl) dL_law_236 (by show 600 + 30 * k + 3 + 0 + 12 + 0 + 0 + 0 ≤ 651495 ∧ 6 * (600 + 30 * k) + 6 * 3 + 6 * 0 + 6 * 12 + 6 * 0 + 6 * 0 + 6 * 0 ≤ 7147140; omega) (fun r236 Γ236 H locs hq236 hW => ?_)
                        obtain ⟨rfl, eΓ236⟩ := hq236
                        obtain rfl := eΓ236.symm
                        have hlo236 := xlo_lt (v115 >>> (8 &&& 31)) (m := (gNo Γ)) (by omega)
                        refine p_S2 (K := 12) (rm := rmL_isPlanSo) (As := [.ref (X.2.2.2.1 0), .ref (X.2.2.2.2 0), .int (nI (xlo (v115 >>> (3 &&& 31)) (gNo Γ))), .int (nI (xlo (v115 >>> (8 &&& 31)) (gNo Γ)))]) (rest := []) S (c_L_isPlanSo l X hfl Γ hG (a := (xlo (v115 >>> (3 &&& 31)) (gNo Γ))) (b := (xlo (v115 >>> (8 &&& 31)) (gNo Γ))) (by omega) (by omega)) (cwS 4 S.2.2.2.2 gL_law_L_isPlanSo rfl rfl rfl (by decide +kernel) ⟨Nat.le_of_ble_eq_true rfl, Nat.le_of_ble_eq_true rfl⟩) hW hTh hNc rfl rfl hl.1 (Nat.le_of_ble_eq_true rfl) dL_law_239 (by show 600 + 30 * k + 3 + 0 + 12 + 0 + 0 + 0 + 12 ≤ 651495 ∧ 6 * (600 + 30 * k) + 6 * 3 + 6 * 0 + 6 * 12 + 6 * 0 + 6 * 0 + 6 * 0 + 6 * 12 ≤ 7147140; omega) (fun r239 Γ239 H locs hq239 hW => ?_)
                        obtain ⟨rfl, Δ239, hgd239, hgn239, rfl⟩ := hq239
                        have hW : pSt X Δ239 Δ239 s s.heap H locs := hW
                        refine lv_if_eq (tgt := 249) hx hb dL_law_242 (by decide) (fun c242 => ?_) (fun c242 => ?_)
                        · exact absurd c242 (by decide)
                        refine lv_iconst (v := 1) hx hb dL_law_245 (by decide) ?_
                        refine lv_goto (tgt := 250) hx hb dL_law_246 (by decide) ?_
                        refine lv_istore_n (lv' := [(3, .int 1), (6, .int r123), (5, .int v115), (0, .ref b), (1, .ref (X.2.2.2.1 0)), (2, .ref (X.2.2.2.2 0)), (4, .int (nI k))]) hx hb dL_law_250 rfl hl (by decide) rfl (fun ls hl => ?_)
                        refine lv_iinc (v := (nI (k + 1))) (lv' := [(4, .int (nI (k + 1))), (3, .int 1), (6, .int r123), (5, .int v115), (0, .ref b), (1, .ref (X.2.2.2.1 0)), (2, .ref (X.2.2.2.2 0))]) hx hb dL_law_251 hl (k := 6) rfl (x_inc _) (by decide) rfl (fun ls hl => ?_)
                        refine lv_goto (tgt := 101) hx hb dL_law_254 (by decide) ?_
                        exact W.widen (by omega) (by omega) (L101  (Δ239) (k + 1) (by omega) (by omega) (by omega) (hgd239) ((by omega)) _ _ _ hW (lv_sub hl [4, 5, 6, 1, 0] rfl))
              · refine lv_aload_n hx hb dL_law_135 rfl (lv_at hl 4 rfl) ?_
                refine lv_iload hx hb dL_law_136 (lv_at hl 1 rfl) ?_
                refine p_Sq (K := 3) (rm := rmL_act) (Bs := [.int v115]) (rest := []) S (fun E => c_L_act l E hfl Γ hG v115) (cwS 2 S.2.2.2.2 gL_law_L_act rfl rfl rfl (by decide +kernel) ⟨Nat.le_of_ble_eq_true rfl, Nat.le_of_ble_eq_true rfl⟩) hW hTh hNc rfl rfl hl.1 (Nat.le_of_ble_eq_true rfl) dL_law_138 (by show 600 + 30 * k + 3 + 3 ≤ 651495 ∧ 6 * (600 + 30 * k) + 6 * 3 + 6 * 3 ≤ 7147140; omega) (fun r138 Γ138 H locs hq138 hW => ?_)
                obtain ⟨e8, e9⟩ := Prod.mk.inj (hq138.trans hq123.symm)
                obtain rfl := e8.symm
                obtain rfl := e9.symm
                refine lv_iload hx hb dL_law_141 (lv_at hl 0 rfl) ?_
                refine lv_icmp_ne (tgt := 199) hx hb dL_law_143 (by decide) (fun c143 => ?_) (fun c143 => ?_)
                · exact absurd rfl c143
                refine lv_iload hx hb dL_law_146 (lv_at hl 6 rfl) ?_
                refine lv_iconst (v := 4) hx hb dL_law_148 (by decide) ?_
                refine lv_irem hx hb dL_law_149 (by decide) ?_
                refine x_topN (k % 4) (x_rem (a := k) (m := 4) (by omega) (by omega)) ?_
                refine lv_iconst (v := 3) hx hb dL_law_150 (by decide) ?_
                refine x_icmp_ne (a := k % 4) (b := 3) (tgt := 162) hx hb dL_law_151 (by decide) (by omega) (by omega) (fun c151 => ?_) (fun c151 => ?_)
                · refine lv_iload hx hb dL_law_162 (lv_at hl 6 rfl) ?_
                  refine lv_iconst (v := 3) hx hb dL_law_164 (by decide) ?_
                  refine lv_irem hx hb dL_law_165 (by decide) ?_
                  refine x_topN (k % 3) (x_rem (a := k) (m := 3) (by omega) (by omega)) ?_
                  refine lv_iconst (v := 1) hx hb dL_law_166 (by decide) ?_
                  refine x_icmp_ne (a := k % 3) (b := 1) (tgt := 177) hx hb dL_law_167 (by decide) (by omega) (by omega) (fun c167 => ?_) (fun c167 => ?_)
                  · refine lv_iload hx hb dL_law_177 (lv_at hl 6 rfl) ?_
                    refine lv_bipush (v := 8) hx hb dL_law_179 (by decide) ?_
                    refine lv_irem hx hb dL_law_181 (by decide) ?_
                    refine x_topN (k % 8) (x_rem (a := k) (m := 8) (by omega) (by omega)) ?_
                    refine lv_iconst (v := 2) hx hb dL_law_182 (by decide) ?_
                    refine x_icmp_ne (a := k % 8) (b := 2) (tgt := 195) hx hb dL_law_183 (by decide) (by omega) (by omega) (fun c183 => ?_) (fun c183 => ?_)
                    · refine lv_iconst (v := 1) hx hb dL_law_195 (by decide) ?_
                      refine lv_goto (tgt := 200) hx hb dL_law_196 (by decide) ?_
                      refine lv_istore_n (lv' := [(3, .int 1), (6, .int r123), (5, .int v115), (0, .ref b), (1, .ref (X.2.2.2.1 0)), (2, .ref (X.2.2.2.2 0)), (4, .int (nI k))]) hx hb dL_law_200 rfl hl (by decide) rfl (fun ls hl => ?_)
                      refine lv_iload hx hb dL_law_201 (lv_at hl 6 rfl) ?_
                      refine lv_bipush (v := 9) hx hb dL_law_203 (by decide) ?_
                      refine lv_irem hx hb dL_law_205 (by decide) ?_
                      refine x_topN (k % 9) (x_rem (a := k) (m := 9) (by omega) (by omega)) ?_
                      refine lv_iconst (v := 5) hx hb dL_law_206 (by decide) ?_
                      refine x_icmp_ne (a := k % 9) (b := 5) (tgt := 251) hx hb dL_law_207 (by decide) (by omega) (by omega) (fun c207 => ?_) (fun c207 => ?_)
                      · refine lv_iinc (v := (nI (k + 1))) (lv' := [(4, .int (nI (k + 1))), (3, .int 1), (6, .int r123), (5, .int v115), (0, .ref b), (1, .ref (X.2.2.2.1 0)), (2, .ref (X.2.2.2.2 0))]) hx hb dL_law_251 hl (k := 6) rfl (x_inc _) (by decide) rfl (fun ls hl => ?_)
                        refine lv_goto (tgt := 101) hx hb dL_law_254 (by decide) ?_
                        exact W.widen (by omega) (by omega) (L101  (Γ123) (k + 1) (by omega) (by omega) (by omega) (hgo.1.1) ((show 0 < gNo Γ123 by have h8 : gNo Γ ≤ gNo Γ123 := hgo.2; omega)) _ _ _ hW (lv_sub hl [4, 5, 6, 1, 0] rfl))
                      · refine lv_iload_n hx hb dL_law_210 rfl (lv_at hl 0 rfl) ?_
                        refine lv_if_eq (tgt := 249) hx hb dL_law_211 (by decide) (fun c211 => ?_) (fun c211 => ?_)
                        · exact absurd c211 (by decide)
                        refine lv_aload_n hx hb dL_law_214 rfl (lv_at hl 4 rfl) ?_
                        refine lv_aload_n hx hb dL_law_215 rfl (lv_at hl 5 rfl) ?_
                        refine lv_iload hx hb dL_law_216 (lv_at hl 2 rfl) ?_
                        refine lv_iconst (v := 3) hx hb dL_law_218 (by decide) ?_
                        refine lv_ishr hx hb dL_law_219 ?_
                        refine lv_aload_n hx hb dL_law_220 rfl (lv_at hl 4 rfl) ?_
                        refine p_V (rm := rmX3_ports) (As := []) (Γ' := Γ123) (rest := [.int (v115 >>> (3 &&& 31)), .ref (X.2.2.2.2 0), .ref (X.2.2.2.1 0)]) S (fun E N F hR => c_X3_ports l E N F xo0 Γ123 hgo.1.1.1 hR) (cwV 0 S.2.2.2.2 gL_law_X3_ports rfl rfl rfl (by decide +kernel) ⟨Nat.le_of_ble_eq_true rfl, Nat.le_of_ble_eq_true rfl⟩) hW rfl rfl hl.1 (Nat.le_of_ble_eq_true rfl) dL_law_221 (by show 600 + 30 * k + 3 + 3 ≤ 651495 ∧ 6 * (600 + 30 * k) + 6 * 3 + 6 * 3 ≤ 7147140; omega) (fun r221 H locs hq221 hW => ?_)
                        obtain rfl := hq221
                        refine p_S0 (K := 0) (rm := rmL_low) (As := [.int (v115 >>> (3 &&& 31)), .int (nI (gNo Γ123))]) (rest := [.ref (X.2.2.2.2 0), .ref (X.2.2.2.1 0)]) S (fun E => c_L_low l E hfl Γ123 hgo.1.1 (v115 >>> (3 &&& 31)) (k := (gNo Γ123)) (by omega) (by omega)) (cwS 2 S.2.2.2.2 gL_law_L_low rfl rfl rfl (by decide +kernel) ⟨Nat.le_of_ble_eq_true rfl, Nat.le_of_ble_eq_true rfl⟩) hW hTh hNc rfl rfl hl.1 (Nat.le_of_ble_eq_true rfl) dL_law_224 (by show 600 + 30 * k + 3 + 3 + 0 ≤ 651495 ∧ 6 * (600 + 30 * k) + 6 * 3 + 6 * 3 + 6 * 0 ≤ 7147140; omega) (fun r224 Γ224 H locs hq224 hW => ?_)
                        obtain ⟨rfl, eΓ224⟩ := hq224
                        obtain rfl := eΓ224.symm
                        have hlo224 := xlo_lt (v115 >>> (3 &&& 31)) (m := (gNo Γ123)) (by omega)
                        refine lv_iload hx hb dL_law_227 (lv_at hl 2 rfl) ?_
                        refine lv_bipush (v := 8) hx hb dL_law_229 (by decide) ?_
                        refine lv_ishr hx hb dL_law_231 ?_
                        refine lv_aload_n hx hb dL_law_232 rfl (lv_at hl 4 rfl) ?_
                        refine p_V (rm := rmX3_ports) (As := []) (Γ' := Γ123) (rest := [.int (v115 >>> (8 &&& 31)), .int (nI (xlo (v115 >>> (3 &&& 31)) (gNo Γ123))), .ref (X.2.2.2.2 0), .ref (X.2.2.2.1 0)]) S (fun E N F hR => c_X3_ports l E N F xo0 Γ123 hgo.1.1.1 hR) (cwV 0 S.2.2.2.2 gL_law_X3_ports rfl rfl rfl (by decide +kernel) ⟨Nat.le_of_ble_eq_true rfl, Nat.le_of_ble_eq_true rfl⟩) hW rfl rfl hl.1 (Nat.le_of_ble_eq_true rfl) dL_law_233 (by show 600 + 30 * k + 3 + 3 + 0 ≤ 651495 ∧ 6 * (600 + 30 * k) + 6 * 3 + 6 * 3 + 6 * 0 ≤ 7147140; omega) (fun r233 H locs hq233 hW => ?_)
                        obtain rfl := hq233
                        refine p_S0 (K := 0) (rm := rmL_low) (As := [.int (v115 >>> (8 &&& 31)), .int (nI (gNo Γ123))]) (rest := [.int (nI (xlo (v115 >>> (3 &&& 31)) (gNo Γ123))), .ref (X.2.2.2.2 0), .ref (X.2.2.2.1 0)]) S (fun E => c_L_low l E hfl Γ123 hgo.1.1 (v115 >>> (8 &&& 31)) (k := (gNo Γ123)) (by omega) (by omega)) (cwS 2 S.2.2.2.2 gL_law_L_low rfl rfl rfl (by decide +kernel) ⟨Nat.le_of_ble_eq_true rfl, Nat.le_of_ble_eq_true rfl⟩) hW hTh hNc rfl rfl hl.1 (Nat.le_of_ble_eq_true rfl) dL_law_236 (by show 600 + 30 * k + 3 + 3 + 0 + 0 ≤ 651495 ∧ 6 * (600 + 30 * k) + 6 * 3 + 6 * 3 + 6 * 0 + 6 * 0 ≤ 7147140; omega) (fun r236 Γ236 H locs hq236 hW => ?_)
                        obtain ⟨rfl, eΓ236⟩ := hq236
                        obtain rfl := eΓ236.symm
                        have hlo236 := xlo_lt (v115 >>> (8 &&& 31)) (m := (gNo Γ123)) (by omega)
                        refine p_S2 (K := 12) (rm := rmL_isPlanSo) (As := [.ref (X.2.2.2.1 0), .ref (X.2.2.2.2 0), .int (nI (xlo (v115 >>> (3 &&& 31)) (gNo Γ123))), .int (nI (xlo (v115 >>> (8 &&& 31)) (gNo Γ123)))]) (rest := []) S (c_L_isPlanSo l X hfl Γ123 hgo.1.1 (a := (xlo (v115 >>> (3 &&& 31)) (gNo Γ123))) (b := (xlo (v115 >>> (8 &&& 31)) (gNo Γ123))) (by omega) (by omega)) (cwS 4 S.2.2.2.2 gL_law_L_isPlanSo rfl rfl rfl (by decide +kernel) ⟨Nat.le_of_ble_eq_true rfl, Nat.le_of_ble_eq_true rfl⟩) hW hTh hNc rfl rfl hl.1 (Nat.le_of_ble_eq_true rfl) dL_law_239 (by show 600 + 30 * k + 3 + 3 + 0 + 0 + 12 ≤ 651495 ∧ 6 * (600 + 30 * k) + 6 * 3 + 6 * 3 + 6 * 0 + 6 * 0 + 6 * 12 ≤ 7147140; omega) (fun r239 Γ239 H locs hq239 hW => ?_)
                        obtain ⟨rfl, Δ239, hgd239, hgn239, rfl⟩ := hq239
                        have hW : pSt X Δ239 Δ239 s s.heap H locs := hW
                        refine lv_if_eq (tgt := 249) hx hb dL_law_242 (by decide) (fun c242 => ?_) (fun c242 => ?_)
                        · exact absurd c242 (by decide)
                        refine lv_iconst (v := 1) hx hb dL_law_245 (by decide) ?_
                        refine lv_goto (tgt := 250) hx hb dL_law_246 (by decide) ?_
                        refine lv_istore_n (lv' := [(3, .int 1), (6, .int r123), (5, .int v115), (0, .ref b), (1, .ref (X.2.2.2.1 0)), (2, .ref (X.2.2.2.2 0)), (4, .int (nI k))]) hx hb dL_law_250 rfl hl (by decide) rfl (fun ls hl => ?_)
                        refine lv_iinc (v := (nI (k + 1))) (lv' := [(4, .int (nI (k + 1))), (3, .int 1), (6, .int r123), (5, .int v115), (0, .ref b), (1, .ref (X.2.2.2.1 0)), (2, .ref (X.2.2.2.2 0))]) hx hb dL_law_251 hl (k := 6) rfl (x_inc _) (by decide) rfl (fun ls hl => ?_)
                        refine lv_goto (tgt := 101) hx hb dL_law_254 (by decide) ?_
                        exact W.widen (by omega) (by omega) (L101  (Δ239) (k + 1) (by omega) (by omega) (by omega) (hgd239) ((by omega)) _ _ _ hW (lv_sub hl [4, 5, 6, 1, 0] rfl))
                    · refine lv_aload_n hx hb dL_law_186 rfl (lv_at hl 3 rfl) ?_
                      refine lv_iload hx hb dL_law_187 (lv_at hl 1 rfl) ?_
                      refine p_S (K := 0) (rm := rmL_areLinesSo) (Bs := [.int v115]) (rest := []) S (fun E => c_L_areLinesSo l E hfl Γ123 hgo.1.1 v115) (cwS 2 S.2.2.2.2 gL_law_L_areLinesSo rfl rfl rfl (by decide +kernel) ⟨Nat.le_of_ble_eq_true rfl, Nat.le_of_ble_eq_true rfl⟩) hW hTh hNc rfl rfl hl.1 (Nat.le_of_ble_eq_true rfl) dL_law_189 (by show 600 + 30 * k + 3 + 3 + 0 ≤ 651495 ∧ 6 * (600 + 30 * k) + 6 * 3 + 6 * 3 + 6 * 0 ≤ 7147140; omega) (fun r189 Γ189 H locs hq189 hW => ?_)
                      obtain ⟨rfl, eΓ189⟩ := hq189
                      obtain rfl := eΓ189.symm
                      refine lv_if_eq (tgt := 199) hx hb dL_law_192 (by decide) (fun c192 => ?_) (fun c192 => ?_)
                      · exact absurd c192 (by decide)
                      refine lv_iconst (v := 1) hx hb dL_law_195 (by decide) ?_
                      refine lv_goto (tgt := 200) hx hb dL_law_196 (by decide) ?_
                      refine lv_istore_n (lv' := [(3, .int 1), (6, .int r123), (5, .int v115), (0, .ref b), (1, .ref (X.2.2.2.1 0)), (2, .ref (X.2.2.2.2 0)), (4, .int (nI k))]) hx hb dL_law_200 rfl hl (by decide) rfl (fun ls hl => ?_)
                      refine lv_iload hx hb dL_law_201 (lv_at hl 6 rfl) ?_
                      refine lv_bipush (v := 9) hx hb dL_law_203 (by decide) ?_
                      refine lv_irem hx hb dL_law_205 (by decide) ?_
                      refine x_topN (k % 9) (x_rem (a := k) (m := 9) (by omega) (by omega)) ?_
                      refine lv_iconst (v := 5) hx hb dL_law_206 (by decide) ?_
                      refine x_icmp_ne (a := k % 9) (b := 5) (tgt := 251) hx hb dL_law_207 (by decide) (by omega) (by omega) (fun c207 => ?_) (fun c207 => ?_)
                      · refine lv_iinc (v := (nI (k + 1))) (lv' := [(4, .int (nI (k + 1))), (3, .int 1), (6, .int r123), (5, .int v115), (0, .ref b), (1, .ref (X.2.2.2.1 0)), (2, .ref (X.2.2.2.2 0))]) hx hb dL_law_251 hl (k := 6) rfl (x_inc _) (by decide) rfl (fun ls hl => ?_)
                        refine lv_goto (tgt := 101) hx hb dL_law_254 (by decide) ?_
                        exact W.widen (by omega) (by omega) (L101  (Γ123) (k + 1) (by omega) (by omega) (by omega) (hgo.1.1) ((show 0 < gNo Γ123 by have h8 : gNo Γ ≤ gNo Γ123 := hgo.2; omega)) _ _ _ hW (lv_sub hl [4, 5, 6, 1, 0] rfl))
                      · refine lv_iload_n hx hb dL_law_210 rfl (lv_at hl 0 rfl) ?_
                        refine lv_if_eq (tgt := 249) hx hb dL_law_211 (by decide) (fun c211 => ?_) (fun c211 => ?_)
                        · exact absurd c211 (by decide)
                        refine lv_aload_n hx hb dL_law_214 rfl (lv_at hl 4 rfl) ?_
                        refine lv_aload_n hx hb dL_law_215 rfl (lv_at hl 5 rfl) ?_
                        refine lv_iload hx hb dL_law_216 (lv_at hl 2 rfl) ?_
                        refine lv_iconst (v := 3) hx hb dL_law_218 (by decide) ?_
                        refine lv_ishr hx hb dL_law_219 ?_
                        refine lv_aload_n hx hb dL_law_220 rfl (lv_at hl 4 rfl) ?_
                        refine p_V (rm := rmX3_ports) (As := []) (Γ' := Γ123) (rest := [.int (v115 >>> (3 &&& 31)), .ref (X.2.2.2.2 0), .ref (X.2.2.2.1 0)]) S (fun E N F hR => c_X3_ports l E N F xo0 Γ123 hgo.1.1.1 hR) (cwV 0 S.2.2.2.2 gL_law_X3_ports rfl rfl rfl (by decide +kernel) ⟨Nat.le_of_ble_eq_true rfl, Nat.le_of_ble_eq_true rfl⟩) hW rfl rfl hl.1 (Nat.le_of_ble_eq_true rfl) dL_law_221 (by show 600 + 30 * k + 3 + 3 + 0 ≤ 651495 ∧ 6 * (600 + 30 * k) + 6 * 3 + 6 * 3 + 6 * 0 ≤ 7147140; omega) (fun r221 H locs hq221 hW => ?_)
                        obtain rfl := hq221
                        refine p_S0 (K := 0) (rm := rmL_low) (As := [.int (v115 >>> (3 &&& 31)), .int (nI (gNo Γ123))]) (rest := [.ref (X.2.2.2.2 0), .ref (X.2.2.2.1 0)]) S (fun E => c_L_low l E hfl Γ123 hgo.1.1 (v115 >>> (3 &&& 31)) (k := (gNo Γ123)) (by omega) (by omega)) (cwS 2 S.2.2.2.2 gL_law_L_low rfl rfl rfl (by decide +kernel) ⟨Nat.le_of_ble_eq_true rfl, Nat.le_of_ble_eq_true rfl⟩) hW hTh hNc rfl rfl hl.1 (Nat.le_of_ble_eq_true rfl) dL_law_224 (by show 600 + 30 * k + 3 + 3 + 0 + 0 ≤ 651495 ∧ 6 * (600 + 30 * k) + 6 * 3 + 6 * 3 + 6 * 0 + 6 * 0 ≤ 7147140; omega) (fun r224 Γ224 H locs hq224 hW => ?_)
                        obtain ⟨rfl, eΓ224⟩ := hq224
                        obtain rfl := eΓ224.symm
                        have hlo224 := xlo_lt (v115 >>> (3 &&& 31)) (m := (gNo Γ123)) (by omega)
                        refine lv_iload hx hb dL_law_227 (lv_at hl 2 rfl) ?_
                        refine lv_bipush (v := 8) hx hb dL_law_229 (by decide) ?_
                        refine lv_ishr hx hb dL_law_231 ?_
                        refine lv_aload_n hx hb dL_law_232 rfl (lv_at hl 4 rfl) ?_
                        refine p_V (rm := rmX3_ports) (As := []) (Γ' := Γ123) (rest := [.int (v115 >>> (8 &&& 31)), .int (nI (xlo (v115 >>> (3 &&& 31)) (gNo Γ123))), .ref (X.2.2.2.2 0), .ref (X.2.2.2.1 0)]) S (fun E N F hR => c_X3_ports l E N F xo0 Γ123 hgo.1.1.1 hR) (cwV 0 S.2.2.2.2 gL_law_X3_ports rfl rfl rfl (by decide +kernel) ⟨Nat.le_of_ble_eq_true rfl, Nat.le_of_ble_eq_true rfl⟩) hW rfl rfl hl.1 (Nat.le_of_ble_eq_true rfl) dL_law_233 (by show 600 + 30 * k + 3 + 3 + 0 + 0 ≤ 651495 ∧ 6 * (600 + 30 * k) + 6 * 3 + 6 * 3 + 6 * 0 + 6 * 0 ≤ 7147140; omega) (fun r233 H locs hq233 hW => ?_)
                        obtain rfl := hq233
                        refine p_S0 (K := 0) (rm := rmL_low) (As := [.int (v115 >>> (8 &&& 31)), .int (nI (gNo Γ123))]) (rest := [.int (nI (xlo (v115 >>> (3 &&& 31)) (gNo Γ123))), .ref (X.2.2.2.2 0), .ref (X.2.2.2.1 0)]) S (fun E => c_L_low l E hfl Γ123 hgo.1.1 (v115 >>> (8 &&& 31)) (k := (gNo Γ123)) (by omega) (by omega)) (cwS 2 S.2.2.2.2 gL_law_L_low rfl rfl rfl (by decide +kernel) ⟨Nat.le_of_ble_eq_true rfl, Nat.le_of_ble_eq_true rfl⟩) hW hTh hNc rfl rfl hl.1 (Nat.le_of_ble_eq_true rfl) dL_law_236 (by show 600 + 30 * k + 3 + 3 + 0 + 0 + 0 ≤ 651495 ∧ 6 * (600 + 30 * k) + 6 * 3 + 6 * 3 + 6 * 0 + 6 * 0 + 6 * 0 ≤ 7147140; omega) (fun r236 Γ236 H locs hq236 hW => ?_)
                        obtain ⟨rfl, eΓ236⟩ := hq236
                        obtain rfl := eΓ236.symm
                        have hlo236 := xlo_lt (v115 >>> (8 &&& 31)) (m := (gNo Γ123)) (by omega)
                        refine p_S2 (K := 12) (rm := rmL_isPlanSo) (As := [.ref (X.2.2.2.1 0), .ref (X.2.2.2.2 0), .int (nI (xlo (v115 >>> (3 &&& 31)) (gNo Γ123))), .int (nI (xlo (v115 >>> (8 &&& 31)) (gNo Γ123)))]) (rest := []) S (c_L_isPlanSo l X hfl Γ123 hgo.1.1 (a := (xlo (v115 >>> (3 &&& 31)) (gNo Γ123))) (b := (xlo (v115 >>> (8 &&& 31)) (gNo Γ123))) (by omega) (by omega)) (cwS 4 S.2.2.2.2 gL_law_L_isPlanSo rfl rfl rfl (by decide +kernel) ⟨Nat.le_of_ble_eq_true rfl, Nat.le_of_ble_eq_true rfl⟩) hW hTh hNc rfl rfl hl.1 (Nat.le_of_ble_eq_true rfl) dL_law_239 (by show 600 + 30 * k + 3 + 3 + 0 + 0 + 0 + 12 ≤ 651495 ∧ 6 * (600 + 30 * k) + 6 * 3 + 6 * 3 + 6 * 0 + 6 * 0 + 6 * 0 + 6 * 12 ≤ 7147140; omega) (fun r239 Γ239 H locs hq239 hW => ?_)
                        obtain ⟨rfl, Δ239, hgd239, hgn239, rfl⟩ := hq239
                        have hW : pSt X Δ239 Δ239 s s.heap H locs := hW
                        refine lv_if_eq (tgt := 249) hx hb dL_law_242 (by decide) (fun c242 => ?_) (fun c242 => ?_)
                        · exact absurd c242 (by decide)
                        refine lv_iconst (v := 1) hx hb dL_law_245 (by decide) ?_
                        refine lv_goto (tgt := 250) hx hb dL_law_246 (by decide) ?_
                        refine lv_istore_n (lv' := [(3, .int 1), (6, .int r123), (5, .int v115), (0, .ref b), (1, .ref (X.2.2.2.1 0)), (2, .ref (X.2.2.2.2 0)), (4, .int (nI k))]) hx hb dL_law_250 rfl hl (by decide) rfl (fun ls hl => ?_)
                        refine lv_iinc (v := (nI (k + 1))) (lv' := [(4, .int (nI (k + 1))), (3, .int 1), (6, .int r123), (5, .int v115), (0, .ref b), (1, .ref (X.2.2.2.1 0)), (2, .ref (X.2.2.2.2 0))]) hx hb dL_law_251 hl (k := 6) rfl (x_inc _) (by decide) rfl (fun ls hl => ?_)
                        refine lv_goto (tgt := 101) hx hb dL_law_254 (by decide) ?_
                        exact W.widen (by omega) (by omega) (L101  (Δ239) (k + 1) (by omega) (by omega) (by omega) (hgd239) ((by omega)) _ _ _ hW (lv_sub hl [4, 5, 6, 1, 0] rfl))
                  · refine lv_aload_n hx hb dL_law_170 rfl (lv_at hl 3 rfl) ?_
                    refine p_S (K := 12) (rm := rmL_arePortsSo) (Bs := []) (rest := []) S (fun E => c_L_arePortsSo l E hfl Γ123 hgo.1.1 ) (cwS 1 S.2.2.2.2 gL_law_L_arePortsSo rfl rfl rfl (by decide +kernel) ⟨Nat.le_of_ble_eq_true rfl, Nat.le_of_ble_eq_true rfl⟩) hW hTh hNc rfl rfl hl.1 (Nat.le_of_ble_eq_true rfl) dL_law_171 (by show 600 + 30 * k + 3 + 3 + 12 ≤ 651495 ∧ 6 * (600 + 30 * k) + 6 * 3 + 6 * 3 + 6 * 12 ≤ 7147140; omega) (fun r171 Γ171 H locs hq171 hW => ?_)
                    obtain ⟨rfl, eΓ171⟩ := hq171
                    obtain rfl := eΓ171.symm
                    refine lv_if_eq (tgt := 199) hx hb dL_law_174 (by decide) (fun c174 => ?_) (fun c174 => ?_)
                    · exact absurd c174 (by decide)
                    refine lv_iload hx hb dL_law_177 (lv_at hl 6 rfl) ?_
                    refine lv_bipush (v := 8) hx hb dL_law_179 (by decide) ?_
                    refine lv_irem hx hb dL_law_181 (by decide) ?_
                    refine x_topN (k % 8) (x_rem (a := k) (m := 8) (by omega) (by omega)) ?_
                    refine lv_iconst (v := 2) hx hb dL_law_182 (by decide) ?_
                    refine x_icmp_ne (a := k % 8) (b := 2) (tgt := 195) hx hb dL_law_183 (by decide) (by omega) (by omega) (fun c183 => ?_) (fun c183 => ?_)
                    · refine lv_iconst (v := 1) hx hb dL_law_195 (by decide) ?_
                      refine lv_goto (tgt := 200) hx hb dL_law_196 (by decide) ?_
                      refine lv_istore_n (lv' := [(3, .int 1), (6, .int r123), (5, .int v115), (0, .ref b), (1, .ref (X.2.2.2.1 0)), (2, .ref (X.2.2.2.2 0)), (4, .int (nI k))]) hx hb dL_law_200 rfl hl (by decide) rfl (fun ls hl => ?_)
                      refine lv_iload hx hb dL_law_201 (lv_at hl 6 rfl) ?_
                      refine lv_bipush (v := 9) hx hb dL_law_203 (by decide) ?_
                      refine lv_irem hx hb dL_law_205 (by decide) ?_
                      refine x_topN (k % 9) (x_rem (a := k) (m := 9) (by omega) (by omega)) ?_
                      refine lv_iconst (v := 5) hx hb dL_law_206 (by decide) ?_
                      refine x_icmp_ne (a := k % 9) (b := 5) (tgt := 251) hx hb dL_law_207 (by decide) (by omega) (by omega) (fun c207 => ?_) (fun c207 => ?_)
                      · refine lv_iinc (v := (nI (k + 1))) (lv' := [(4, .int (nI (k + 1))), (3, .int 1), (6, .int r123), (5, .int v115), (0, .ref b), (1, .ref (X.2.2.2.1 0)), (2, .ref (X.2.2.2.2 0))]) hx hb dL_law_251 hl (k := 6) rfl (x_inc _) (by decide) rfl (fun ls hl => ?_)
                        refine lv_goto (tgt := 101) hx hb dL_law_254 (by decide) ?_
                        exact W.widen (by omega) (by omega) (L101  (Γ123) (k + 1) (by omega) (by omega) (by omega) (hgo.1.1) ((show 0 < gNo Γ123 by have h8 : gNo Γ ≤ gNo Γ123 := hgo.2; omega)) _ _ _ hW (lv_sub hl [4, 5, 6, 1, 0] rfl))
                      · refine lv_iload_n hx hb dL_law_210 rfl (lv_at hl 0 rfl) ?_
                        refine lv_if_eq (tgt := 249) hx hb dL_law_211 (by decide) (fun c211 => ?_) (fun c211 => ?_)
                        · exact absurd c211 (by decide)
                        refine lv_aload_n hx hb dL_law_214 rfl (lv_at hl 4 rfl) ?_
                        refine lv_aload_n hx hb dL_law_215 rfl (lv_at hl 5 rfl) ?_
                        refine lv_iload hx hb dL_law_216 (lv_at hl 2 rfl) ?_
                        refine lv_iconst (v := 3) hx hb dL_law_218 (by decide) ?_
                        refine lv_ishr hx hb dL_law_219 ?_
                        refine lv_aload_n hx hb dL_law_220 rfl (lv_at hl 4 rfl) ?_
                        refine p_V (rm := rmX3_ports) (As := []) (Γ' := Γ123) (rest := [.int (v115 >>> (3 &&& 31)), .ref (X.2.2.2.2 0), .ref (X.2.2.2.1 0)]) S (fun E N F hR => c_X3_ports l E N F xo0 Γ123 hgo.1.1.1 hR) (cwV 0 S.2.2.2.2 gL_law_X3_ports rfl rfl rfl (by decide +kernel) ⟨Nat.le_of_ble_eq_true rfl, Nat.le_of_ble_eq_true rfl⟩) hW rfl rfl hl.1 (Nat.le_of_ble_eq_true rfl) dL_law_221 (by show 600 + 30 * k + 3 + 3 + 12 ≤ 651495 ∧ 6 * (600 + 30 * k) + 6 * 3 + 6 * 3 + 6 * 12 ≤ 7147140; omega) (fun r221 H locs hq221 hW => ?_)
                        obtain rfl := hq221
                        refine p_S0 (K := 0) (rm := rmL_low) (As := [.int (v115 >>> (3 &&& 31)), .int (nI (gNo Γ123))]) (rest := [.ref (X.2.2.2.2 0), .ref (X.2.2.2.1 0)]) S (fun E => c_L_low l E hfl Γ123 hgo.1.1 (v115 >>> (3 &&& 31)) (k := (gNo Γ123)) (by omega) (by omega)) (cwS 2 S.2.2.2.2 gL_law_L_low rfl rfl rfl (by decide +kernel) ⟨Nat.le_of_ble_eq_true rfl, Nat.le_of_ble_eq_true rfl⟩) hW hTh hNc rfl rfl hl.1 (Nat.le_of_ble_eq_true rfl) dL_law_224 (by show 600 + 30 * k + 3 + 3 + 12 + 0 ≤ 651495 ∧ 6 * (600 + 30 * k) + 6 * 3 + 6 * 3 + 6 * 12 + 6 * 0 ≤ 7147140; omega) (fun r224 Γ224 H locs hq224 hW => ?_)
                        obtain ⟨rfl, eΓ224⟩ := hq224
                        obtain rfl := eΓ224.symm
                        have hlo224 := xlo_lt (v115 >>> (3 &&& 31)) (m := (gNo Γ123)) (by omega)
                        refine lv_iload hx hb dL_law_227 (lv_at hl 2 rfl) ?_
                        refine lv_bipush (v := 8) hx hb dL_law_229 (by decide) ?_
                        refine lv_ishr hx hb dL_law_231 ?_
                        refine lv_aload_n hx hb dL_law_232 rfl (lv_at hl 4 rfl) ?_
                        refine p_V (rm := rmX3_ports) (As := []) (Γ' := Γ123) (rest := [.int (v115 >>> (8 &&& 31)), .int (nI (xlo (v115 >>> (3 &&& 31)) (gNo Γ123))), .ref (X.2.2.2.2 0), .ref (X.2.2.2.1 0)]) S (fun E N F hR => c_X3_ports l E N F xo0 Γ123 hgo.1.1.1 hR) (cwV 0 S.2.2.2.2 gL_law_X3_ports rfl rfl rfl (by decide +kernel) ⟨Nat.le_of_ble_eq_true rfl, Nat.le_of_ble_eq_true rfl⟩) hW rfl rfl hl.1 (Nat.le_of_ble_eq_true rfl) dL_law_233 (by show 600 + 30 * k + 3 + 3 + 12 + 0 ≤ 651495 ∧ 6 * (600 + 30 * k) + 6 * 3 + 6 * 3 + 6 * 12 + 6 * 0 ≤ 7147140; omega) (fun r233 H locs hq233 hW => ?_)
                        obtain rfl := hq233
                        refine p_S0 (K := 0) (rm := rmL_low) (As := [.int (v115 >>> (8 &&& 31)), .int (nI (gNo Γ123))]) (rest := [.int (nI (xlo (v115 >>> (3 &&& 31)) (gNo Γ123))), .ref (X.2.2.2.2 0), .ref (X.2.2.2.1 0)]) S (fun E => c_L_low l E hfl Γ123 hgo.1.1 (v115 >>> (8 &&& 31)) (k := (gNo Γ123)) (by omega) (by omega)) (cwS 2 S.2.2.2.2 gL_law_L_low rfl rfl rfl (by decide +kernel) ⟨Nat.le_of_ble_eq_true rfl, Nat.le_of_ble_eq_true rfl⟩) hW hTh hNc rfl rfl hl.1 (Nat.le_of_ble_eq_true rfl) dL_law_236 (by show 600 + 30 * k + 3 + 3 + 12 + 0 + 0 ≤ 651495 ∧ 6 * (600 + 30 * k) + 6 * 3 + 6 * 3 + 6 * 12 + 6 * 0 + 6 * 0 ≤ 7147140; omega) (fun r236 Γ236 H locs hq236 hW => ?_)
                        obtain ⟨rfl, eΓ236⟩ := hq236
                        obtain rfl := eΓ236.symm
                        have hlo236 := xlo_lt (v115 >>> (8 &&& 31)) (m := (gNo Γ123)) (by omega)
                        refine p_S2 (K := 12) (rm := rmL_isPlanSo) (As := [.ref (X.2.2.2.1 0), .ref (X.2.2.2.2 0), .int (nI (xlo (v115 >>> (3 &&& 31)) (gNo Γ123))), .int (nI (xlo (v115 >>> (8 &&& 31)) (gNo Γ123)))]) (rest := []) S (c_L_isPlanSo l X hfl Γ123 hgo.1.1 (a := (xlo (v115 >>> (3 &&& 31)) (gNo Γ123))) (b := (xlo (v115 >>> (8 &&& 31)) (gNo Γ123))) (by omega) (by omega)) (cwS 4 S.2.2.2.2 gL_law_L_isPlanSo rfl rfl rfl (by decide +kernel) ⟨Nat.le_of_ble_eq_true rfl, Nat.le_of_ble_eq_true rfl⟩) hW hTh hNc rfl rfl hl.1 (Nat.le_of_ble_eq_true rfl) dL_law_239 (by show 600 + 30 * k + 3 + 3 + 12 + 0 + 0 + 12 ≤ 651495 ∧ 6 * (600 + 30 * k) + 6 * 3 + 6 * 3 + 6 * 12 + 6 * 0 + 6 * 0 + 6 * 12 ≤ 7147140; omega) (fun r239 Γ239 H locs hq239 hW => ?_)
                        obtain ⟨rfl, Δ239, hgd239, hgn239, rfl⟩ := hq239
                        have hW : pSt X Δ239 Δ239 s s.heap H locs := hW
                        refine lv_if_eq (tgt := 249) hx hb dL_law_242 (by decide) (fun c242 => ?_) (fun c242 => ?_)
                        · exact absurd c242 (by decide)
                        refine lv_iconst (v := 1) hx hb dL_law_245 (by decide) ?_
                        refine lv_goto (tgt := 250) hx hb dL_law_246 (by decide) ?_
                        refine lv_istore_n (lv' := [(3, .int 1), (6, .int r123), (5, .int v115), (0, .ref b), (1, .ref (X.2.2.2.1 0)), (2, .ref (X.2.2.2.2 0)), (4, .int (nI k))]) hx hb dL_law_250 rfl hl (by decide) rfl (fun ls hl => ?_)
                        refine lv_iinc (v := (nI (k + 1))) (lv' := [(4, .int (nI (k + 1))), (3, .int 1), (6, .int r123), (5, .int v115), (0, .ref b), (1, .ref (X.2.2.2.1 0)), (2, .ref (X.2.2.2.2 0))]) hx hb dL_law_251 hl (k := 6) rfl (x_inc _) (by decide) rfl (fun ls hl => ?_)
                        refine lv_goto (tgt := 101) hx hb dL_law_254 (by decide) ?_
                        exact W.widen (by omega) (by omega) (L101  (Δ239) (k + 1) (by omega) (by omega) (by omega) (hgd239) ((by omega)) _ _ _ hW (lv_sub hl [4, 5, 6, 1, 0] rfl))
                    · refine lv_aload_n hx hb dL_law_186 rfl (lv_at hl 3 rfl) ?_
                      refine lv_iload hx hb dL_law_187 (lv_at hl 1 rfl) ?_
                      refine p_S (K := 0) (rm := rmL_areLinesSo) (Bs := [.int v115]) (rest := []) S (fun E => c_L_areLinesSo l E hfl Γ123 hgo.1.1 v115) (cwS 2 S.2.2.2.2 gL_law_L_areLinesSo rfl rfl rfl (by decide +kernel) ⟨Nat.le_of_ble_eq_true rfl, Nat.le_of_ble_eq_true rfl⟩) hW hTh hNc rfl rfl hl.1 (Nat.le_of_ble_eq_true rfl) dL_law_189 (by show 600 + 30 * k + 3 + 3 + 12 + 0 ≤ 651495 ∧ 6 * (600 + 30 * k) + 6 * 3 + 6 * 3 + 6 * 12 + 6 * 0 ≤ 7147140; omega) (fun r189 Γ189 H locs hq189 hW => ?_)
                      obtain ⟨rfl, eΓ189⟩ := hq189
                      obtain rfl := eΓ189.symm
                      refine lv_if_eq (tgt := 199) hx hb dL_law_192 (by decide) (fun c192 => ?_) (fun c192 => ?_)
                      · exact absurd c192 (by decide)
                      refine lv_iconst (v := 1) hx hb dL_law_195 (by decide) ?_
                      refine lv_goto (tgt := 200) hx hb dL_law_196 (by decide) ?_
                      refine lv_istore_n (lv' := [(3, .int 1), (6, .int r123), (5, .int v115), (0, .ref b), (1, .ref (X.2.2.2.1 0)), (2, .ref (X.2.2.2.2 0)), (4, .int (nI k))]) hx hb dL_law_200 rfl hl (by decide) rfl (fun ls hl => ?_)
                      refine lv_iload hx hb dL_law_201 (lv_at hl 6 rfl) ?_
                      refine lv_bipush (v := 9) hx hb dL_law_203 (by decide) ?_
                      refine lv_irem hx hb dL_law_205 (by decide) ?_
                      refine x_topN (k % 9) (x_rem (a := k) (m := 9) (by omega) (by omega)) ?_
                      refine lv_iconst (v := 5) hx hb dL_law_206 (by decide) ?_
                      refine x_icmp_ne (a := k % 9) (b := 5) (tgt := 251) hx hb dL_law_207 (by decide) (by omega) (by omega) (fun c207 => ?_) (fun c207 => ?_)
                      · refine lv_iinc (v := (nI (k + 1))) (lv' := [(4, .int (nI (k + 1))), (3, .int 1), (6, .int r123), (5, .int v115), (0, .ref b), (1, .ref (X.2.2.2.1 0)), (2, .ref (X.2.2.2.2 0))]) hx hb dL_law_251 hl (k := 6) rfl (x_inc _) (by decide) rfl (fun ls hl => ?_)
                        refine lv_goto (tgt := 101) hx hb dL_law_254 (by decide) ?_
                        exact W.widen (by omega) (by omega) (L101  (Γ123) (k + 1) (by omega) (by omega) (by omega) (hgo.1.1) ((show 0 < gNo Γ123 by have h8 : gNo Γ ≤ gNo Γ123 := hgo.2; omega)) _ _ _ hW (lv_sub hl [4, 5, 6, 1, 0] rfl))
                      · refine lv_iload_n hx hb dL_law_210 rfl (lv_at hl 0 rfl) ?_
                        refine lv_if_eq (tgt := 249) hx hb dL_law_211 (by decide) (fun c211 => ?_) (fun c211 => ?_)
                        · exact absurd c211 (by decide)
                        refine lv_aload_n hx hb dL_law_214 rfl (lv_at hl 4 rfl) ?_
                        refine lv_aload_n hx hb dL_law_215 rfl (lv_at hl 5 rfl) ?_
                        refine lv_iload hx hb dL_law_216 (lv_at hl 2 rfl) ?_
                        refine lv_iconst (v := 3) hx hb dL_law_218 (by decide) ?_
                        refine lv_ishr hx hb dL_law_219 ?_
                        refine lv_aload_n hx hb dL_law_220 rfl (lv_at hl 4 rfl) ?_
                        refine p_V (rm := rmX3_ports) (As := []) (Γ' := Γ123) (rest := [.int (v115 >>> (3 &&& 31)), .ref (X.2.2.2.2 0), .ref (X.2.2.2.1 0)]) S (fun E N F hR => c_X3_ports l E N F xo0 Γ123 hgo.1.1.1 hR) (cwV 0 S.2.2.2.2 gL_law_X3_ports rfl rfl rfl (by decide +kernel) ⟨Nat.le_of_ble_eq_true rfl, Nat.le_of_ble_eq_true rfl⟩) hW rfl rfl hl.1 (Nat.le_of_ble_eq_true rfl) dL_law_221 (by show 600 + 30 * k + 3 + 3 + 12 + 0 ≤ 651495 ∧ 6 * (600 + 30 * k) + 6 * 3 + 6 * 3 + 6 * 12 + 6 * 0 ≤ 7147140; omega) (fun r221 H locs hq221 hW => ?_)
                        obtain rfl := hq221
                        refine p_S0 (K := 0) (rm := rmL_low) (As := [.int (v115 >>> (3 &&& 31)), .int (nI (gNo Γ123))]) (rest := [.ref (X.2.2.2.2 0), .ref (X.2.2.2.1 0)]) S (fun E => c_L_low l E hfl Γ123 hgo.1.1 (v115 >>> (3 &&& 31)) (k := (gNo Γ123)) (by omega) (by omega)) (cwS 2 S.2.2.2.2 gL_law_L_low rfl rfl rfl (by decide +kernel) ⟨Nat.le_of_ble_eq_true rfl, Nat.le_of_ble_eq_true rfl⟩) hW hTh hNc rfl rfl hl.1 (Nat.le_of_ble_eq_true rfl) dL_law_224 (by show 600 + 30 * k + 3 + 3 + 12 + 0 + 0 ≤ 651495 ∧ 6 * (600 + 30 * k) + 6 * 3 + 6 * 3 + 6 * 12 + 6 * 0 + 6 * 0 ≤ 7147140; omega) (fun r224 Γ224 H locs hq224 hW => ?_)
                        obtain ⟨rfl, eΓ224⟩ := hq224
                        obtain rfl := eΓ224.symm
                        have hlo224 := xlo_lt (v115 >>> (3 &&& 31)) (m := (gNo Γ123)) (by omega)
                        refine lv_iload hx hb dL_law_227 (lv_at hl 2 rfl) ?_
                        refine lv_bipush (v := 8) hx hb dL_law_229 (by decide) ?_
                        refine lv_ishr hx hb dL_law_231 ?_
                        refine lv_aload_n hx hb dL_law_232 rfl (lv_at hl 4 rfl) ?_
                        refine p_V (rm := rmX3_ports) (As := []) (Γ' := Γ123) (rest := [.int (v115 >>> (8 &&& 31)), .int (nI (xlo (v115 >>> (3 &&& 31)) (gNo Γ123))), .ref (X.2.2.2.2 0), .ref (X.2.2.2.1 0)]) S (fun E N F hR => c_X3_ports l E N F xo0 Γ123 hgo.1.1.1 hR) (cwV 0 S.2.2.2.2 gL_law_X3_ports rfl rfl rfl (by decide +kernel) ⟨Nat.le_of_ble_eq_true rfl, Nat.le_of_ble_eq_true rfl⟩) hW rfl rfl hl.1 (Nat.le_of_ble_eq_true rfl) dL_law_233 (by show 600 + 30 * k + 3 + 3 + 12 + 0 + 0 ≤ 651495 ∧ 6 * (600 + 30 * k) + 6 * 3 + 6 * 3 + 6 * 12 + 6 * 0 + 6 * 0 ≤ 7147140; omega) (fun r233 H locs hq233 hW => ?_)
                        obtain rfl := hq233
                        refine p_S0 (K := 0) (rm := rmL_low) (As := [.int (v115 >>> (8 &&& 31)), .int (nI (gNo Γ123))]) (rest := [.int (nI (xlo (v115 >>> (3 &&& 31)) (gNo Γ123))), .ref (X.2.2.2.2 0), .ref (X.2.2.2.1 0)]) S (fun E => c_L_low l E hfl Γ123 hgo.1.1 (v115 >>> (8 &&& 31)) (k := (gNo Γ123)) (by omega) (by omega)) (cwS 2 S.2.2.2.2 gL_law_L_low rfl rfl rfl (by decide +kernel) ⟨Nat.le_of_ble_eq_true rfl, Nat.le_of_ble_eq_true rfl⟩) hW hTh hNc rfl rfl hl.1 (Nat.le_of_ble_eq_true rfl) dL_law_236 (by show 600 + 30 * k + 3 + 3 + 12 + 0 + 0 + 0 ≤ 651495 ∧ 6 * (600 + 30 * k) + 6 * 3 + 6 * 3 + 6 * 12 + 6 * 0 + 6 * 0 + 6 * 0 ≤ 7147140; omega) (fun r236 Γ236 H locs hq236 hW => ?_)
                        obtain ⟨rfl, eΓ236⟩ := hq236
                        obtain rfl := eΓ236.symm
                        have hlo236 := xlo_lt (v115 >>> (8 &&& 31)) (m := (gNo Γ123)) (by omega)
                        refine p_S2 (K := 12) (rm := rmL_isPlanSo) (As := [.ref (X.2.2.2.1 0), .ref (X.2.2.2.2 0), .int (nI (xlo (v115 >>> (3 &&& 31)) (gNo Γ123))), .int (nI (xlo (v115 >>> (8 &&& 31)) (gNo Γ123)))]) (rest := []) S (c_L_isPlanSo l X hfl Γ123 hgo.1.1 (a := (xlo (v115 >>> (3 &&& 31)) (gNo Γ123))) (b := (xlo (v115 >>> (8 &&& 31)) (gNo Γ123))) (by omega) (by omega)) (cwS 4 S.2.2.2.2 gL_law_L_isPlanSo rfl rfl rfl (by decide +kernel) ⟨Nat.le_of_ble_eq_true rfl, Nat.le_of_ble_eq_true rfl⟩) hW hTh hNc rfl rfl hl.1 (Nat.le_of_ble_eq_true rfl) dL_law_239 (by show 600 + 30 * k + 3 + 3 + 12 + 0 + 0 + 0 + 12 ≤ 651495 ∧ 6 * (600 + 30 * k) + 6 * 3 + 6 * 3 + 6 * 12 + 6 * 0 + 6 * 0 + 6 * 0 + 6 * 12 ≤ 7147140; omega) (fun r239 Γ239 H locs hq239 hW => ?_)
                        obtain ⟨rfl, Δ239, hgd239, hgn239, rfl⟩ := hq239
                        have hW : pSt X Δ239 Δ239 s s.heap H locs := hW
                        refine lv_if_eq (tgt := 249) hx hb dL_law_242 (by decide) (fun c242 => ?_) (fun c242 => ?_)
                        · exact absurd c242 (by decide)
                        refine lv_iconst (v := 1) hx hb dL_law_245 (by decide) ?_
                        refine lv_goto (tgt := 250) hx hb dL_law_246 (by decide) ?_
                        refine lv_istore_n (lv' := [(3, .int 1), (6, .int r123), (5, .int v115), (0, .ref b), (1, .ref (X.2.2.2.1 0)), (2, .ref (X.2.2.2.2 0)), (4, .int (nI k))]) hx hb dL_law_250 rfl hl (by decide) rfl (fun ls hl => ?_)
                        refine lv_iinc (v := (nI (k + 1))) (lv' := [(4, .int (nI (k + 1))), (3, .int 1), (6, .int r123), (5, .int v115), (0, .ref b), (1, .ref (X.2.2.2.1 0)), (2, .ref (X.2.2.2.2 0))]) hx hb dL_law_251 hl (k := 6) rfl (x_inc _) (by decide) rfl (fun ls hl => ?_)
                        refine lv_goto (tgt := 101) hx hb dL_law_254 (by decide) ?_
                        exact W.widen (by omega) (by omega) (L101  (Δ239) (k + 1) (by omega) (by omega) (by omega) (hgd239) ((by omega)) _ _ _ hW (lv_sub hl [4, 5, 6, 1, 0] rfl))
                · refine lv_aload_n hx hb dL_law_154 rfl (lv_at hl 3 rfl) ?_
                  refine lv_aload_n hx hb dL_law_155 rfl (lv_at hl 4 rfl) ?_
                  refine p_S2 (K := 0) (rm := rmL_areAlike) (As := [.ref (X.2.2.2.1 0), .ref (X.2.2.2.2 0)]) (rest := []) S (c_L_areAlike l X hfl Γ123 hgo.1.1) (cwS 2 S.2.2.2.2 gL_law_L_areAlike rfl rfl rfl (by decide +kernel) ⟨Nat.le_of_ble_eq_true rfl, Nat.le_of_ble_eq_true rfl⟩) hW hTh hNc rfl rfl hl.1 (Nat.le_of_ble_eq_true rfl) dL_law_156 (by show 600 + 30 * k + 3 + 3 + 0 ≤ 651495 ∧ 6 * (600 + 30 * k) + 6 * 3 + 6 * 3 + 6 * 0 ≤ 7147140; omega) (fun r156 Γ156 H locs hq156 hW => ?_)
                  obtain ⟨rfl, rfl⟩ := hq156
                  have hW : pSt X Γ123 Γ123 s s.heap H locs := hW
                  refine lv_if_eq (tgt := 199) hx hb dL_law_159 (by decide) (fun c159 => ?_) (fun c159 => ?_)
                  · exact absurd c159 (by decide)
                  refine lv_iload hx hb dL_law_162 (lv_at hl 6 rfl) ?_
                  refine lv_iconst (v := 3) hx hb dL_law_164 (by decide) ?_
                  refine lv_irem hx hb dL_law_165 (by decide) ?_
                  refine x_topN (k % 3) (x_rem (a := k) (m := 3) (by omega) (by omega)) ?_
                  refine lv_iconst (v := 1) hx hb dL_law_166 (by decide) ?_
                  refine x_icmp_ne (a := k % 3) (b := 1) (tgt := 177) hx hb dL_law_167 (by decide) (by omega) (by omega) (fun c167 => ?_) (fun c167 => ?_)
                  · refine lv_iload hx hb dL_law_177 (lv_at hl 6 rfl) ?_
                    refine lv_bipush (v := 8) hx hb dL_law_179 (by decide) ?_
                    refine lv_irem hx hb dL_law_181 (by decide) ?_
                    refine x_topN (k % 8) (x_rem (a := k) (m := 8) (by omega) (by omega)) ?_
                    refine lv_iconst (v := 2) hx hb dL_law_182 (by decide) ?_
                    refine x_icmp_ne (a := k % 8) (b := 2) (tgt := 195) hx hb dL_law_183 (by decide) (by omega) (by omega) (fun c183 => ?_) (fun c183 => ?_)
                    · refine lv_iconst (v := 1) hx hb dL_law_195 (by decide) ?_
                      refine lv_goto (tgt := 200) hx hb dL_law_196 (by decide) ?_
                      refine lv_istore_n (lv' := [(3, .int 1), (6, .int r123), (5, .int v115), (0, .ref b), (1, .ref (X.2.2.2.1 0)), (2, .ref (X.2.2.2.2 0)), (4, .int (nI k))]) hx hb dL_law_200 rfl hl (by decide) rfl (fun ls hl => ?_)
                      refine lv_iload hx hb dL_law_201 (lv_at hl 6 rfl) ?_
                      refine lv_bipush (v := 9) hx hb dL_law_203 (by decide) ?_
                      refine lv_irem hx hb dL_law_205 (by decide) ?_
                      refine x_topN (k % 9) (x_rem (a := k) (m := 9) (by omega) (by omega)) ?_
                      refine lv_iconst (v := 5) hx hb dL_law_206 (by decide) ?_
                      refine x_icmp_ne (a := k % 9) (b := 5) (tgt := 251) hx hb dL_law_207 (by decide) (by omega) (by omega) (fun c207 => ?_) (fun c207 => ?_)
                      · refine lv_iinc (v := (nI (k + 1))) (lv' := [(4, .int (nI (k + 1))), (3, .int 1), (6, .int r123), (5, .int v115), (0, .ref b), (1, .ref (X.2.2.2.1 0)), (2, .ref (X.2.2.2.2 0))]) hx hb dL_law_251 hl (k := 6) rfl (x_inc _) (by decide) rfl (fun ls hl => ?_)
                        refine lv_goto (tgt := 101) hx hb dL_law_254 (by decide) ?_
                        exact W.widen (by omega) (by omega) (L101  (Γ123) (k + 1) (by omega) (by omega) (by omega) (hgo.1.1) ((show 0 < gNo Γ123 by have h8 : gNo Γ ≤ gNo Γ123 := hgo.2; omega)) _ _ _ hW (lv_sub hl [4, 5, 6, 1, 0] rfl))
                      · refine lv_iload_n hx hb dL_law_210 rfl (lv_at hl 0 rfl) ?_
                        refine lv_if_eq (tgt := 249) hx hb dL_law_211 (by decide) (fun c211 => ?_) (fun c211 => ?_)
                        · exact absurd c211 (by decide)
                        refine lv_aload_n hx hb dL_law_214 rfl (lv_at hl 4 rfl) ?_
                        refine lv_aload_n hx hb dL_law_215 rfl (lv_at hl 5 rfl) ?_
                        refine lv_iload hx hb dL_law_216 (lv_at hl 2 rfl) ?_
                        refine lv_iconst (v := 3) hx hb dL_law_218 (by decide) ?_
                        refine lv_ishr hx hb dL_law_219 ?_
                        refine lv_aload_n hx hb dL_law_220 rfl (lv_at hl 4 rfl) ?_
                        refine p_V (rm := rmX3_ports) (As := []) (Γ' := Γ123) (rest := [.int (v115 >>> (3 &&& 31)), .ref (X.2.2.2.2 0), .ref (X.2.2.2.1 0)]) S (fun E N F hR => c_X3_ports l E N F xo0 Γ123 hgo.1.1.1 hR) (cwV 0 S.2.2.2.2 gL_law_X3_ports rfl rfl rfl (by decide +kernel) ⟨Nat.le_of_ble_eq_true rfl, Nat.le_of_ble_eq_true rfl⟩) hW rfl rfl hl.1 (Nat.le_of_ble_eq_true rfl) dL_law_221 (by show 600 + 30 * k + 3 + 3 + 0 ≤ 651495 ∧ 6 * (600 + 30 * k) + 6 * 3 + 6 * 3 + 6 * 0 ≤ 7147140; omega) (fun r221 H locs hq221 hW => ?_)
                        obtain rfl := hq221
                        refine p_S0 (K := 0) (rm := rmL_low) (As := [.int (v115 >>> (3 &&& 31)), .int (nI (gNo Γ123))]) (rest := [.ref (X.2.2.2.2 0), .ref (X.2.2.2.1 0)]) S (fun E => c_L_low l E hfl Γ123 hgo.1.1 (v115 >>> (3 &&& 31)) (k := (gNo Γ123)) (by omega) (by omega)) (cwS 2 S.2.2.2.2 gL_law_L_low rfl rfl rfl (by decide +kernel) ⟨Nat.le_of_ble_eq_true rfl, Nat.le_of_ble_eq_true rfl⟩) hW hTh hNc rfl rfl hl.1 (Nat.le_of_ble_eq_true rfl) dL_law_224 (by show 600 + 30 * k + 3 + 3 + 0 + 0 ≤ 651495 ∧ 6 * (600 + 30 * k) + 6 * 3 + 6 * 3 + 6 * 0 + 6 * 0 ≤ 7147140; omega) (fun r224 Γ224 H locs hq224 hW => ?_)
                        obtain ⟨rfl, eΓ224⟩ := hq224
                        obtain rfl := eΓ224.symm
                        have hlo224 := xlo_lt (v115 >>> (3 &&& 31)) (m := (gNo Γ123)) (by omega)
                        refine lv_iload hx hb dL_law_227 (lv_at hl 2 rfl) ?_
                        refine lv_bipush (v := 8) hx hb dL_law_229 (by decide) ?_
                        refine lv_ishr hx hb dL_law_231 ?_
                        refine lv_aload_n hx hb dL_law_232 rfl (lv_at hl 4 rfl) ?_
                        refine p_V (rm := rmX3_ports) (As := []) (Γ' := Γ123) (rest := [.int (v115 >>> (8 &&& 31)), .int (nI (xlo (v115 >>> (3 &&& 31)) (gNo Γ123))), .ref (X.2.2.2.2 0), .ref (X.2.2.2.1 0)]) S (fun E N F hR => c_X3_ports l E N F xo0 Γ123 hgo.1.1.1 hR) (cwV 0 S.2.2.2.2 gL_law_X3_ports rfl rfl rfl (by decide +kernel) ⟨Nat.le_of_ble_eq_true rfl, Nat.le_of_ble_eq_true rfl⟩) hW rfl rfl hl.1 (Nat.le_of_ble_eq_true rfl) dL_law_233 (by show 600 + 30 * k + 3 + 3 + 0 + 0 ≤ 651495 ∧ 6 * (600 + 30 * k) + 6 * 3 + 6 * 3 + 6 * 0 + 6 * 0 ≤ 7147140; omega) (fun r233 H locs hq233 hW => ?_)
                        obtain rfl := hq233
                        refine p_S0 (K := 0) (rm := rmL_low) (As := [.int (v115 >>> (8 &&& 31)), .int (nI (gNo Γ123))]) (rest := [.int (nI (xlo (v115 >>> (3 &&& 31)) (gNo Γ123))), .ref (X.2.2.2.2 0), .ref (X.2.2.2.1 0)]) S (fun E => c_L_low l E hfl Γ123 hgo.1.1 (v115 >>> (8 &&& 31)) (k := (gNo Γ123)) (by omega) (by omega)) (cwS 2 S.2.2.2.2 gL_law_L_low rfl rfl rfl (by decide +kernel) ⟨Nat.le_of_ble_eq_true rfl, Nat.le_of_ble_eq_true rfl⟩) hW hTh hNc rfl rfl hl.1 (Nat.le_of_ble_eq_true rfl) dL_law_236 (by show 600 + 30 * k + 3 + 3 + 0 + 0 + 0 ≤ 651495 ∧ 6 * (600 + 30 * k) + 6 * 3 + 6 * 3 + 6 * 0 + 6 * 0 + 6 * 0 ≤ 7147140; omega) (fun r236 Γ236 H locs hq236 hW => ?_)
                        obtain ⟨rfl, eΓ236⟩ := hq236
                        obtain rfl := eΓ236.symm
                        have hlo236 := xlo_lt (v115 >>> (8 &&& 31)) (m := (gNo Γ123)) (by omega)
                        refine p_S2 (K := 12) (rm := rmL_isPlanSo) (As := [.ref (X.2.2.2.1 0), .ref (X.2.2.2.2 0), .int (nI (xlo (v115 >>> (3 &&& 31)) (gNo Γ123))), .int (nI (xlo (v115 >>> (8 &&& 31)) (gNo Γ123)))]) (rest := []) S (c_L_isPlanSo l X hfl Γ123 hgo.1.1 (a := (xlo (v115 >>> (3 &&& 31)) (gNo Γ123))) (b := (xlo (v115 >>> (8 &&& 31)) (gNo Γ123))) (by omega) (by omega)) (cwS 4 S.2.2.2.2 gL_law_L_isPlanSo rfl rfl rfl (by decide +kernel) ⟨Nat.le_of_ble_eq_true rfl, Nat.le_of_ble_eq_true rfl⟩) hW hTh hNc rfl rfl hl.1 (Nat.le_of_ble_eq_true rfl) dL_law_239 (by show 600 + 30 * k + 3 + 3 + 0 + 0 + 0 + 12 ≤ 651495 ∧ 6 * (600 + 30 * k) + 6 * 3 + 6 * 3 + 6 * 0 + 6 * 0 + 6 * 0 + 6 * 12 ≤ 7147140; omega) (fun r239 Γ239 H locs hq239 hW => ?_)
                        obtain ⟨rfl, Δ239, hgd239, hgn239, rfl⟩ := hq239
                        have hW : pSt X Δ239 Δ239 s s.heap H locs := hW
                        refine lv_if_eq (tgt := 249) hx hb dL_law_242 (by decide) (fun c242 => ?_) (fun c242 => ?_)
                        · exact absurd c242 (by decide)
                        refine lv_iconst (v := 1) hx hb dL_law_245 (by decide) ?_
                        refine lv_goto (tgt := 250) hx hb dL_law_246 (by decide) ?_
                        refine lv_istore_n (lv' := [(3, .int 1), (6, .int r123), (5, .int v115), (0, .ref b), (1, .ref (X.2.2.2.1 0)), (2, .ref (X.2.2.2.2 0)), (4, .int (nI k))]) hx hb dL_law_250 rfl hl (by decide) rfl (fun ls hl => ?_)
                        refine lv_iinc (v := (nI (k + 1))) (lv' := [(4, .int (nI (k + 1))), (3, .int 1), (6, .int r123), (5, .int v115), (0, .ref b), (1, .ref (X.2.2.2.1 0)), (2, .ref (X.2.2.2.2 0))]) hx hb dL_law_251 hl (k := 6) rfl (x_inc _) (by decide) rfl (fun ls hl => ?_)
                        refine lv_goto (tgt := 101) hx hb dL_law_254 (by decide) ?_
                        exact W.widen (by omega) (by omega) (L101  (Δ239) (k + 1) (by omega) (by omega) (by omega) (hgd239) ((by omega)) _ _ _ hW (lv_sub hl [4, 5, 6, 1, 0] rfl))
                    · refine lv_aload_n hx hb dL_law_186 rfl (lv_at hl 3 rfl) ?_
                      refine lv_iload hx hb dL_law_187 (lv_at hl 1 rfl) ?_
                      refine p_S (K := 0) (rm := rmL_areLinesSo) (Bs := [.int v115]) (rest := []) S (fun E => c_L_areLinesSo l E hfl Γ123 hgo.1.1 v115) (cwS 2 S.2.2.2.2 gL_law_L_areLinesSo rfl rfl rfl (by decide +kernel) ⟨Nat.le_of_ble_eq_true rfl, Nat.le_of_ble_eq_true rfl⟩) hW hTh hNc rfl rfl hl.1 (Nat.le_of_ble_eq_true rfl) dL_law_189 (by show 600 + 30 * k + 3 + 3 + 0 + 0 ≤ 651495 ∧ 6 * (600 + 30 * k) + 6 * 3 + 6 * 3 + 6 * 0 + 6 * 0 ≤ 7147140; omega) (fun r189 Γ189 H locs hq189 hW => ?_)
                      obtain ⟨rfl, eΓ189⟩ := hq189
                      obtain rfl := eΓ189.symm
                      refine lv_if_eq (tgt := 199) hx hb dL_law_192 (by decide) (fun c192 => ?_) (fun c192 => ?_)
                      · exact absurd c192 (by decide)
                      refine lv_iconst (v := 1) hx hb dL_law_195 (by decide) ?_
                      refine lv_goto (tgt := 200) hx hb dL_law_196 (by decide) ?_
                      refine lv_istore_n (lv' := [(3, .int 1), (6, .int r123), (5, .int v115), (0, .ref b), (1, .ref (X.2.2.2.1 0)), (2, .ref (X.2.2.2.2 0)), (4, .int (nI k))]) hx hb dL_law_200 rfl hl (by decide) rfl (fun ls hl => ?_)
                      refine lv_iload hx hb dL_law_201 (lv_at hl 6 rfl) ?_
                      refine lv_bipush (v := 9) hx hb dL_law_203 (by decide) ?_
                      refine lv_irem hx hb dL_law_205 (by decide) ?_
                      refine x_topN (k % 9) (x_rem (a := k) (m := 9) (by omega) (by omega)) ?_
                      refine lv_iconst (v := 5) hx hb dL_law_206 (by decide) ?_
                      refine x_icmp_ne (a := k % 9) (b := 5) (tgt := 251) hx hb dL_law_207 (by decide) (by omega) (by omega) (fun c207 => ?_) (fun c207 => ?_)
                      · refine lv_iinc (v := (nI (k + 1))) (lv' := [(4, .int (nI (k + 1))), (3, .int 1), (6, .int r123), (5, .int v115), (0, .ref b), (1, .ref (X.2.2.2.1 0)), (2, .ref (X.2.2.2.2 0))]) hx hb dL_law_251 hl (k := 6) rfl (x_inc _) (by decide) rfl (fun ls hl => ?_)
                        refine lv_goto (tgt := 101) hx hb dL_law_254 (by decide) ?_
                        exact W.widen (by omega) (by omega) (L101  (Γ123) (k + 1) (by omega) (by omega) (by omega) (hgo.1.1) ((show 0 < gNo Γ123 by have h8 : gNo Γ ≤ gNo Γ123 := hgo.2; omega)) _ _ _ hW (lv_sub hl [4, 5, 6, 1, 0] rfl))
                      · refine lv_iload_n hx hb dL_law_210 rfl (lv_at hl 0 rfl) ?_
                        refine lv_if_eq (tgt := 249) hx hb dL_law_211 (by decide) (fun c211 => ?_) (fun c211 => ?_)
                        · exact absurd c211 (by decide)
                        refine lv_aload_n hx hb dL_law_214 rfl (lv_at hl 4 rfl) ?_
                        refine lv_aload_n hx hb dL_law_215 rfl (lv_at hl 5 rfl) ?_
                        refine lv_iload hx hb dL_law_216 (lv_at hl 2 rfl) ?_
                        refine lv_iconst (v := 3) hx hb dL_law_218 (by decide) ?_
                        refine lv_ishr hx hb dL_law_219 ?_
                        refine lv_aload_n hx hb dL_law_220 rfl (lv_at hl 4 rfl) ?_
                        refine p_V (rm := rmX3_ports) (As := []) (Γ' := Γ123) (rest := [.int (v115 >>> (3 &&& 31)), .ref (X.2.2.2.2 0), .ref (X.2.2.2.1 0)]) S (fun E N F hR => c_X3_ports l E N F xo0 Γ123 hgo.1.1.1 hR) (cwV 0 S.2.2.2.2 gL_law_X3_ports rfl rfl rfl (by decide +kernel) ⟨Nat.le_of_ble_eq_true rfl, Nat.le_of_ble_eq_true rfl⟩) hW rfl rfl hl.1 (Nat.le_of_ble_eq_true rfl) dL_law_221 (by show 600 + 30 * k + 3 + 3 + 0 + 0 ≤ 651495 ∧ 6 * (600 + 30 * k) + 6 * 3 + 6 * 3 + 6 * 0 + 6 * 0 ≤ 7147140; omega) (fun r221 H locs hq221 hW => ?_)
                        obtain rfl := hq221
                        refine p_S0 (K := 0) (rm := rmL_low) (As := [.int (v115 >>> (3 &&& 31)), .int (nI (gNo Γ123))]) (rest := [.ref (X.2.2.2.2 0), .ref (X.2.2.2.1 0)]) S (fun E => c_L_low l E hfl Γ123 hgo.1.1 (v115 >>> (3 &&& 31)) (k := (gNo Γ123)) (by omega) (by omega)) (cwS 2 S.2.2.2.2 gL_law_L_low rfl rfl rfl (by decide +kernel) ⟨Nat.le_of_ble_eq_true rfl, Nat.le_of_ble_eq_true rfl⟩) hW hTh hNc rfl rfl hl.1 (Nat.le_of_ble_eq_true rfl) dL_law_224 (by show 600 + 30 * k + 3 + 3 + 0 + 0 + 0 ≤ 651495 ∧ 6 * (600 + 30 * k) + 6 * 3 + 6 * 3 + 6 * 0 + 6 * 0 + 6 * 0 ≤ 7147140; omega) (fun r224 Γ224 H locs hq224 hW => ?_)
                        obtain ⟨rfl, eΓ224⟩ := hq224
                        obtain rfl := eΓ224.symm
                        have hlo224 := xlo_lt (v115 >>> (3 &&& 31)) (m := (gNo Γ123)) (by omega)
                        refine lv_iload hx hb dL_law_227 (lv_at hl 2 rfl) ?_
                        refine lv_bipush (v := 8) hx hb dL_law_229 (by decide) ?_
                        refine lv_ishr hx hb dL_law_231 ?_
                        refine lv_aload_n hx hb dL_law_232 rfl (lv_at hl 4 rfl) ?_
                        refine p_V (rm := rmX3_ports) (As := []) (Γ' := Γ123) (rest := [.int (v115 >>> (8 &&& 31)), .int (nI (xlo (v115 >>> (3 &&& 31)) (gNo Γ123))), .ref (X.2.2.2.2 0), .ref (X.2.2.2.1 0)]) S (fun E N F hR => c_X3_ports l E N F xo0 Γ123 hgo.1.1.1 hR) (cwV 0 S.2.2.2.2 gL_law_X3_ports rfl rfl rfl (by decide +kernel) ⟨Nat.le_of_ble_eq_true rfl, Nat.le_of_ble_eq_true rfl⟩) hW rfl rfl hl.1 (Nat.le_of_ble_eq_true rfl) dL_law_233 (by show 600 + 30 * k + 3 + 3 + 0 + 0 + 0 ≤ 651495 ∧ 6 * (600 + 30 * k) + 6 * 3 + 6 * 3 + 6 * 0 + 6 * 0 + 6 * 0 ≤ 7147140; omega) (fun r233 H locs hq233 hW => ?_)
                        obtain rfl := hq233
                        refine p_S0 (K := 0) (rm := rmL_low) (As := [.int (v115 >>> (8 &&& 31)), .int (nI (gNo Γ123))]) (rest := [.int (nI (xlo (v115 >>> (3 &&& 31)) (gNo Γ123))), .ref (X.2.2.2.2 0), .ref (X.2.2.2.1 0)]) S (fun E => c_L_low l E hfl Γ123 hgo.1.1 (v115 >>> (8 &&& 31)) (k := (gNo Γ123)) (by omega) (by omega)) (cwS 2 S.2.2.2.2 gL_law_L_low rfl rfl rfl (by decide +kernel) ⟨Nat.le_of_ble_eq_true rfl, Nat.le_of_ble_eq_true rfl⟩) hW hTh hNc rfl rfl hl.1 (Nat.le_of_ble_eq_true rfl) dL_law_236 (by show 600 + 30 * k + 3 + 3 + 0 + 0 + 0 + 0 ≤ 651495 ∧ 6 * (600 + 30 * k) + 6 * 3 + 6 * 3 + 6 * 0 + 6 * 0 + 6 * 0 + 6 * 0 ≤ 7147140; omega) (fun r236 Γ236 H locs hq236 hW => ?_)
                        obtain ⟨rfl, eΓ236⟩ := hq236
                        obtain rfl := eΓ236.symm
                        have hlo236 := xlo_lt (v115 >>> (8 &&& 31)) (m := (gNo Γ123)) (by omega)
                        refine p_S2 (K := 12) (rm := rmL_isPlanSo) (As := [.ref (X.2.2.2.1 0), .ref (X.2.2.2.2 0), .int (nI (xlo (v115 >>> (3 &&& 31)) (gNo Γ123))), .int (nI (xlo (v115 >>> (8 &&& 31)) (gNo Γ123)))]) (rest := []) S (c_L_isPlanSo l X hfl Γ123 hgo.1.1 (a := (xlo (v115 >>> (3 &&& 31)) (gNo Γ123))) (b := (xlo (v115 >>> (8 &&& 31)) (gNo Γ123))) (by omega) (by omega)) (cwS 4 S.2.2.2.2 gL_law_L_isPlanSo rfl rfl rfl (by decide +kernel) ⟨Nat.le_of_ble_eq_true rfl, Nat.le_of_ble_eq_true rfl⟩) hW hTh hNc rfl rfl hl.1 (Nat.le_of_ble_eq_true rfl) dL_law_239 (by show 600 + 30 * k + 3 + 3 + 0 + 0 + 0 + 0 + 12 ≤ 651495 ∧ 6 * (600 + 30 * k) + 6 * 3 + 6 * 3 + 6 * 0 + 6 * 0 + 6 * 0 + 6 * 0 + 6 * 12 ≤ 7147140; omega) (fun r239 Γ239 H locs hq239 hW => ?_)
                        obtain ⟨rfl, Δ239, hgd239, hgn239, rfl⟩ := hq239
                        have hW : pSt X Δ239 Δ239 s s.heap H locs := hW
                        refine lv_if_eq (tgt := 249) hx hb dL_law_242 (by decide) (fun c242 => ?_) (fun c242 => ?_)
                        · exact absurd c242 (by decide)
                        refine lv_iconst (v := 1) hx hb dL_law_245 (by decide) ?_
                        refine lv_goto (tgt := 250) hx hb dL_law_246 (by decide) ?_
                        refine lv_istore_n (lv' := [(3, .int 1), (6, .int r123), (5, .int v115), (0, .ref b), (1, .ref (X.2.2.2.1 0)), (2, .ref (X.2.2.2.2 0)), (4, .int (nI k))]) hx hb dL_law_250 rfl hl (by decide) rfl (fun ls hl => ?_)
                        refine lv_iinc (v := (nI (k + 1))) (lv' := [(4, .int (nI (k + 1))), (3, .int 1), (6, .int r123), (5, .int v115), (0, .ref b), (1, .ref (X.2.2.2.1 0)), (2, .ref (X.2.2.2.2 0))]) hx hb dL_law_251 hl (k := 6) rfl (x_inc _) (by decide) rfl (fun ls hl => ?_)
                        refine lv_goto (tgt := 101) hx hb dL_law_254 (by decide) ?_
                        exact W.widen (by omega) (by omega) (L101  (Δ239) (k + 1) (by omega) (by omega) (by omega) (hgd239) ((by omega)) _ _ _ hW (lv_sub hl [4, 5, 6, 1, 0] rfl))
                  · refine lv_aload_n hx hb dL_law_170 rfl (lv_at hl 3 rfl) ?_
                    refine p_S (K := 12) (rm := rmL_arePortsSo) (Bs := []) (rest := []) S (fun E => c_L_arePortsSo l E hfl Γ123 hgo.1.1 ) (cwS 1 S.2.2.2.2 gL_law_L_arePortsSo rfl rfl rfl (by decide +kernel) ⟨Nat.le_of_ble_eq_true rfl, Nat.le_of_ble_eq_true rfl⟩) hW hTh hNc rfl rfl hl.1 (Nat.le_of_ble_eq_true rfl) dL_law_171 (by show 600 + 30 * k + 3 + 3 + 0 + 12 ≤ 651495 ∧ 6 * (600 + 30 * k) + 6 * 3 + 6 * 3 + 6 * 0 + 6 * 12 ≤ 7147140; omega) (fun r171 Γ171 H locs hq171 hW => ?_)
                    obtain ⟨rfl, eΓ171⟩ := hq171
                    obtain rfl := eΓ171.symm
                    refine lv_if_eq (tgt := 199) hx hb dL_law_174 (by decide) (fun c174 => ?_) (fun c174 => ?_)
                    · exact absurd c174 (by decide)
                    refine lv_iload hx hb dL_law_177 (lv_at hl 6 rfl) ?_
                    refine lv_bipush (v := 8) hx hb dL_law_179 (by decide) ?_
                    refine lv_irem hx hb dL_law_181 (by decide) ?_
                    refine x_topN (k % 8) (x_rem (a := k) (m := 8) (by omega) (by omega)) ?_
                    refine lv_iconst (v := 2) hx hb dL_law_182 (by decide) ?_
                    refine x_icmp_ne (a := k % 8) (b := 2) (tgt := 195) hx hb dL_law_183 (by decide) (by omega) (by omega) (fun c183 => ?_) (fun c183 => ?_)
                    · refine lv_iconst (v := 1) hx hb dL_law_195 (by decide) ?_
                      refine lv_goto (tgt := 200) hx hb dL_law_196 (by decide) ?_
                      refine lv_istore_n (lv' := [(3, .int 1), (6, .int r123), (5, .int v115), (0, .ref b), (1, .ref (X.2.2.2.1 0)), (2, .ref (X.2.2.2.2 0)), (4, .int (nI k))]) hx hb dL_law_200 rfl hl (by decide) rfl (fun ls hl => ?_)
                      refine lv_iload hx hb dL_law_201 (lv_at hl 6 rfl) ?_
                      refine lv_bipush (v := 9) hx hb dL_law_203 (by decide) ?_
                      refine lv_irem hx hb dL_law_205 (by decide) ?_
                      refine x_topN (k % 9) (x_rem (a := k) (m := 9) (by omega) (by omega)) ?_
                      refine lv_iconst (v := 5) hx hb dL_law_206 (by decide) ?_
                      refine x_icmp_ne (a := k % 9) (b := 5) (tgt := 251) hx hb dL_law_207 (by decide) (by omega) (by omega) (fun c207 => ?_) (fun c207 => ?_)
                      · refine lv_iinc (v := (nI (k + 1))) (lv' := [(4, .int (nI (k + 1))), (3, .int 1), (6, .int r123), (5, .int v115), (0, .ref b), (1, .ref (X.2.2.2.1 0)), (2, .ref (X.2.2.2.2 0))]) hx hb dL_law_251 hl (k := 6) rfl (x_inc _) (by decide) rfl (fun ls hl => ?_)
                        refine lv_goto (tgt := 101) hx hb dL_law_254 (by decide) ?_
                        exact W.widen (by omega) (by omega) (L101  (Γ123) (k + 1) (by omega) (by omega) (by omega) (hgo.1.1) ((show 0 < gNo Γ123 by have h8 : gNo Γ ≤ gNo Γ123 := hgo.2; omega)) _ _ _ hW (lv_sub hl [4, 5, 6, 1, 0] rfl))
                      · refine lv_iload_n hx hb dL_law_210 rfl (lv_at hl 0 rfl) ?_
                        refine lv_if_eq (tgt := 249) hx hb dL_law_211 (by decide) (fun c211 => ?_) (fun c211 => ?_)
                        · exact absurd c211 (by decide)
                        refine lv_aload_n hx hb dL_law_214 rfl (lv_at hl 4 rfl) ?_
                        refine lv_aload_n hx hb dL_law_215 rfl (lv_at hl 5 rfl) ?_
                        refine lv_iload hx hb dL_law_216 (lv_at hl 2 rfl) ?_
                        refine lv_iconst (v := 3) hx hb dL_law_218 (by decide) ?_
                        refine lv_ishr hx hb dL_law_219 ?_
                        refine lv_aload_n hx hb dL_law_220 rfl (lv_at hl 4 rfl) ?_
                        refine p_V (rm := rmX3_ports) (As := []) (Γ' := Γ123) (rest := [.int (v115 >>> (3 &&& 31)), .ref (X.2.2.2.2 0), .ref (X.2.2.2.1 0)]) S (fun E N F hR => c_X3_ports l E N F xo0 Γ123 hgo.1.1.1 hR) (cwV 0 S.2.2.2.2 gL_law_X3_ports rfl rfl rfl (by decide +kernel) ⟨Nat.le_of_ble_eq_true rfl, Nat.le_of_ble_eq_true rfl⟩) hW rfl rfl hl.1 (Nat.le_of_ble_eq_true rfl) dL_law_221 (by show 600 + 30 * k + 3 + 3 + 0 + 12 ≤ 651495 ∧ 6 * (600 + 30 * k) + 6 * 3 + 6 * 3 + 6 * 0 + 6 * 12 ≤ 7147140; omega) (fun r221 H locs hq221 hW => ?_)
                        obtain rfl := hq221
                        refine p_S0 (K := 0) (rm := rmL_low) (As := [.int (v115 >>> (3 &&& 31)), .int (nI (gNo Γ123))]) (rest := [.ref (X.2.2.2.2 0), .ref (X.2.2.2.1 0)]) S (fun E => c_L_low l E hfl Γ123 hgo.1.1 (v115 >>> (3 &&& 31)) (k := (gNo Γ123)) (by omega) (by omega)) (cwS 2 S.2.2.2.2 gL_law_L_low rfl rfl rfl (by decide +kernel) ⟨Nat.le_of_ble_eq_true rfl, Nat.le_of_ble_eq_true rfl⟩) hW hTh hNc rfl rfl hl.1 (Nat.le_of_ble_eq_true rfl) dL_law_224 (by show 600 + 30 * k + 3 + 3 + 0 + 12 + 0 ≤ 651495 ∧ 6 * (600 + 30 * k) + 6 * 3 + 6 * 3 + 6 * 0 + 6 * 12 + 6 * 0 ≤ 7147140; omega) (fun r224 Γ224 H locs hq224 hW => ?_)
                        obtain ⟨rfl, eΓ224⟩ := hq224
                        obtain rfl := eΓ224.symm
                        have hlo224 := xlo_lt (v115 >>> (3 &&& 31)) (m := (gNo Γ123)) (by omega)
                        refine lv_iload hx hb dL_law_227 (lv_at hl 2 rfl) ?_
                        refine lv_bipush (v := 8) hx hb dL_law_229 (by decide) ?_
                        refine lv_ishr hx hb dL_law_231 ?_
                        refine lv_aload_n hx hb dL_law_232 rfl (lv_at hl 4 rfl) ?_
                        refine p_V (rm := rmX3_ports) (As := []) (Γ' := Γ123) (rest := [.int (v115 >>> (8 &&& 31)), .int (nI (xlo (v115 >>> (3 &&& 31)) (gNo Γ123))), .ref (X.2.2.2.2 0), .ref (X.2.2.2.1 0)]) S (fun E N F hR => c_X3_ports l E N F xo0 Γ123 hgo.1.1.1 hR) (cwV 0 S.2.2.2.2 gL_law_X3_ports rfl rfl rfl (by decide +kernel) ⟨Nat.le_of_ble_eq_true rfl, Nat.le_of_ble_eq_true rfl⟩) hW rfl rfl hl.1 (Nat.le_of_ble_eq_true rfl) dL_law_233 (by show 600 + 30 * k + 3 + 3 + 0 + 12 + 0 ≤ 651495 ∧ 6 * (600 + 30 * k) + 6 * 3 + 6 * 3 + 6 * 0 + 6 * 12 + 6 * 0 ≤ 7147140; omega) (fun r233 H locs hq233 hW => ?_)
                        obtain rfl := hq233
                        refine p_S0 (K := 0) (rm := rmL_low) (As := [.int (v115 >>> (8 &&& 31)), .int (nI (gNo Γ123))]) (rest := [.int (nI (xlo (v115 >>> (3 &&& 31)) (gNo Γ123))), .ref (X.2.2.2.2 0), .ref (X.2.2.2.1 0)]) S (fun E => c_L_low l E hfl Γ123 hgo.1.1 (v115 >>> (8 &&& 31)) (k := (gNo Γ123)) (by omega) (by omega)) (cwS 2 S.2.2.2.2 gL_law_L_low rfl rfl rfl (by decide +kernel) ⟨Nat.le_of_ble_eq_true rfl, Nat.le_of_ble_eq_true rfl⟩) hW hTh hNc rfl rfl hl.1 (Nat.le_of_ble_eq_true rfl) dL_law_236 (by show 600 + 30 * k + 3 + 3 + 0 + 12 + 0 + 0 ≤ 651495 ∧ 6 * (600 + 30 * k) + 6 * 3 + 6 * 3 + 6 * 0 + 6 * 12 + 6 * 0 + 6 * 0 ≤ 7147140; omega) (fun r236 Γ236 H locs hq236 hW => ?_)
                        obtain ⟨rfl, eΓ236⟩ := hq236
                        obtain rfl := eΓ236.symm
                        have hlo236 := xlo_lt (v115 >>> (8 &&& 31)) (m := (gNo Γ123)) (by omega)
                        refine p_S2 (K := 12) (rm := rmL_isPlanSo) (As := [.ref (X.2.2.2.1 0), .ref (X.2.2.2.2 0), .int (nI (xlo (v115 >>> (3 &&& 31)) (gNo Γ123))), .int (nI (xlo (v115 >>> (8 &&& 31)) (gNo Γ123)))]) (rest := []) S (c_L_isPlanSo l X hfl Γ123 hgo.1.1 (a := (xlo (v115 >>> (3 &&& 31)) (gNo Γ123))) (b := (xlo (v115 >>> (8 &&& 31)) (gNo Γ123))) (by omega) (by omega)) (cwS 4 S.2.2.2.2 gL_law_L_isPlanSo rfl rfl rfl (by decide +kernel) ⟨Nat.le_of_ble_eq_true rfl, Nat.le_of_ble_eq_true rfl⟩) hW hTh hNc rfl rfl hl.1 (Nat.le_of_ble_eq_true rfl) dL_law_239 (by show 600 + 30 * k + 3 + 3 + 0 + 12 + 0 + 0 + 12 ≤ 651495 ∧ 6 * (600 + 30 * k) + 6 * 3 + 6 * 3 + 6 * 0 + 6 * 12 + 6 * 0 + 6 * 0 + 6 * 12 ≤ 7147140; omega) (fun r239 Γ239 H locs hq239 hW => ?_)
                        obtain ⟨rfl, Δ239, hgd239, hgn239, rfl⟩ := hq239
                        have hW : pSt X Δ239 Δ239 s s.heap H locs := hW
                        refine lv_if_eq (tgt := 249) hx hb dL_law_242 (by decide) (fun c242 => ?_) (fun c242 => ?_)
                        · exact absurd c242 (by decide)
                        refine lv_iconst (v := 1) hx hb dL_law_245 (by decide) ?_
                        refine lv_goto (tgt := 250) hx hb dL_law_246 (by decide) ?_
                        refine lv_istore_n (lv' := [(3, .int 1), (6, .int r123), (5, .int v115), (0, .ref b), (1, .ref (X.2.2.2.1 0)), (2, .ref (X.2.2.2.2 0)), (4, .int (nI k))]) hx hb dL_law_250 rfl hl (by decide) rfl (fun ls hl => ?_)
                        refine lv_iinc (v := (nI (k + 1))) (lv' := [(4, .int (nI (k + 1))), (3, .int 1), (6, .int r123), (5, .int v115), (0, .ref b), (1, .ref (X.2.2.2.1 0)), (2, .ref (X.2.2.2.2 0))]) hx hb dL_law_251 hl (k := 6) rfl (x_inc _) (by decide) rfl (fun ls hl => ?_)
                        refine lv_goto (tgt := 101) hx hb dL_law_254 (by decide) ?_
                        exact W.widen (by omega) (by omega) (L101  (Δ239) (k + 1) (by omega) (by omega) (by omega) (hgd239) ((by omega)) _ _ _ hW (lv_sub hl [4, 5, 6, 1, 0] rfl))
                    · refine lv_aload_n hx hb dL_law_186 rfl (lv_at hl 3 rfl) ?_
                      refine lv_iload hx hb dL_law_187 (lv_at hl 1 rfl) ?_
                      refine p_S (K := 0) (rm := rmL_areLinesSo) (Bs := [.int v115]) (rest := []) S (fun E => c_L_areLinesSo l E hfl Γ123 hgo.1.1 v115) (cwS 2 S.2.2.2.2 gL_law_L_areLinesSo rfl rfl rfl (by decide +kernel) ⟨Nat.le_of_ble_eq_true rfl, Nat.le_of_ble_eq_true rfl⟩) hW hTh hNc rfl rfl hl.1 (Nat.le_of_ble_eq_true rfl) dL_law_189 (by show 600 + 30 * k + 3 + 3 + 0 + 12 + 0 ≤ 651495 ∧ 6 * (600 + 30 * k) + 6 * 3 + 6 * 3 + 6 * 0 + 6 * 12 + 6 * 0 ≤ 7147140; omega) (fun r189 Γ189 H locs hq189 hW => ?_)
                      obtain ⟨rfl, eΓ189⟩ := hq189
                      obtain rfl := eΓ189.symm
                      refine lv_if_eq (tgt := 199) hx hb dL_law_192 (by decide) (fun c192 => ?_) (fun c192 => ?_)
                      · exact absurd c192 (by decide)
                      refine lv_iconst (v := 1) hx hb dL_law_195 (by decide) ?_
                      refine lv_goto (tgt := 200) hx hb dL_law_196 (by decide) ?_
                      refine lv_istore_n (lv' := [(3, .int 1), (6, .int r123), (5, .int v115), (0, .ref b), (1, .ref (X.2.2.2.1 0)), (2, .ref (X.2.2.2.2 0)), (4, .int (nI k))]) hx hb dL_law_200 rfl hl (by decide) rfl (fun ls hl => ?_)
                      refine lv_iload hx hb dL_law_201 (lv_at hl 6 rfl) ?_
                      refine lv_bipush (v := 9) hx hb dL_law_203 (by decide) ?_
                      refine lv_irem hx hb dL_law_205 (by decide) ?_
                      refine x_topN (k % 9) (x_rem (a := k) (m := 9) (by omega) (by omega)) ?_
                      refine lv_iconst (v := 5) hx hb dL_law_206 (by decide) ?_
                      refine x_icmp_ne (a := k % 9) (b := 5) (tgt := 251) hx hb dL_law_207 (by decide) (by omega) (by omega) (fun c207 => ?_) (fun c207 => ?_)
                      · refine lv_iinc (v := (nI (k + 1))) (lv' := [(4, .int (nI (k + 1))), (3, .int 1), (6, .int r123), (5, .int v115), (0, .ref b), (1, .ref (X.2.2.2.1 0)), (2, .ref (X.2.2.2.2 0))]) hx hb dL_law_251 hl (k := 6) rfl (x_inc _) (by decide) rfl (fun ls hl => ?_)
                        refine lv_goto (tgt := 101) hx hb dL_law_254 (by decide) ?_
                        exact W.widen (by omega) (by omega) (L101  (Γ123) (k + 1) (by omega) (by omega) (by omega) (hgo.1.1) ((show 0 < gNo Γ123 by have h8 : gNo Γ ≤ gNo Γ123 := hgo.2; omega)) _ _ _ hW (lv_sub hl [4, 5, 6, 1, 0] rfl))
                      · refine lv_iload_n hx hb dL_law_210 rfl (lv_at hl 0 rfl) ?_
                        refine lv_if_eq (tgt := 249) hx hb dL_law_211 (by decide) (fun c211 => ?_) (fun c211 => ?_)
                        · exact absurd c211 (by decide)
                        refine lv_aload_n hx hb dL_law_214 rfl (lv_at hl 4 rfl) ?_
                        refine lv_aload_n hx hb dL_law_215 rfl (lv_at hl 5 rfl) ?_
                        refine lv_iload hx hb dL_law_216 (lv_at hl 2 rfl) ?_
                        refine lv_iconst (v := 3) hx hb dL_law_218 (by decide) ?_
                        refine lv_ishr hx hb dL_law_219 ?_
                        refine lv_aload_n hx hb dL_law_220 rfl (lv_at hl 4 rfl) ?_
                        refine p_V (rm := rmX3_ports) (As := []) (Γ' := Γ123) (rest := [.int (v115 >>> (3 &&& 31)), .ref (X.2.2.2.2 0), .ref (X.2.2.2.1 0)]) S (fun E N F hR => c_X3_ports l E N F xo0 Γ123 hgo.1.1.1 hR) (cwV 0 S.2.2.2.2 gL_law_X3_ports rfl rfl rfl (by decide +kernel) ⟨Nat.le_of_ble_eq_true rfl, Nat.le_of_ble_eq_true rfl⟩) hW rfl rfl hl.1 (Nat.le_of_ble_eq_true rfl) dL_law_221 (by show 600 + 30 * k + 3 + 3 + 0 + 12 + 0 ≤ 651495 ∧ 6 * (600 + 30 * k) + 6 * 3 + 6 * 3 + 6 * 0 + 6 * 12 + 6 * 0 ≤ 7147140; omega) (fun r221 H locs hq221 hW => ?_)
                        obtain rfl := hq221
                        refine p_S0 (K := 0) (rm := rmL_low) (As := [.int (v115 >>> (3 &&& 31)), .int (nI (gNo Γ123))]) (rest := [.ref (X.2.2.2.2 0), .ref (X.2.2.2.1 0)]) S (fun E => c_L_low l E hfl Γ123 hgo.1.1 (v115 >>> (3 &&& 31)) (k := (gNo Γ123)) (by omega) (by omega)) (cwS 2 S.2.2.2.2 gL_law_L_low rfl rfl rfl (by decide +kernel) ⟨Nat.le_of_ble_eq_true rfl, Nat.le_of_ble_eq_true rfl⟩) hW hTh hNc rfl rfl hl.1 (Nat.le_of_ble_eq_true rfl) dL_law_224 (by show 600 + 30 * k + 3 + 3 + 0 + 12 + 0 + 0 ≤ 651495 ∧ 6 * (600 + 30 * k) + 6 * 3 + 6 * 3 + 6 * 0 + 6 * 12 + 6 * 0 + 6 * 0 ≤ 7147140; omega) (fun r224 Γ224 H locs hq224 hW => ?_)
                        obtain ⟨rfl, eΓ224⟩ := hq224
                        obtain rfl := eΓ224.symm
                        have hlo224 := xlo_lt (v115 >>> (3 &&& 31)) (m := (gNo Γ123)) (by omega)
                        refine lv_iload hx hb dL_law_227 (lv_at hl 2 rfl) ?_
                        refine lv_bipush (v := 8) hx hb dL_law_229 (by decide) ?_
                        refine lv_ishr hx hb dL_law_231 ?_
                        refine lv_aload_n hx hb dL_law_232 rfl (lv_at hl 4 rfl) ?_
                        refine p_V (rm := rmX3_ports) (As := []) (Γ' := Γ123) (rest := [.int (v115 >>> (8 &&& 31)), .int (nI (xlo (v115 >>> (3 &&& 31)) (gNo Γ123))), .ref (X.2.2.2.2 0), .ref (X.2.2.2.1 0)]) S (fun E N F hR => c_X3_ports l E N F xo0 Γ123 hgo.1.1.1 hR) (cwV 0 S.2.2.2.2 gL_law_X3_ports rfl rfl rfl (by decide +kernel) ⟨Nat.le_of_ble_eq_true rfl, Nat.le_of_ble_eq_true rfl⟩) hW rfl rfl hl.1 (Nat.le_of_ble_eq_true rfl) dL_law_233 (by show 600 + 30 * k + 3 + 3 + 0 + 12 + 0 + 0 ≤ 651495 ∧ 6 * (600 + 30 * k) + 6 * 3 + 6 * 3 + 6 * 0 + 6 * 12 + 6 * 0 + 6 * 0 ≤ 7147140; omega) (fun r233 H locs hq233 hW => ?_)
                        obtain rfl := hq233
                        refine p_S0 (K := 0) (rm := rmL_low) (As := [.int (v115 >>> (8 &&& 31)), .int (nI (gNo Γ123))]) (rest := [.int (nI (xlo (v115 >>> (3 &&& 31)) (gNo Γ123))), .ref (X.2.2.2.2 0), .ref (X.2.2.2.1 0)]) S (fun E => c_L_low l E hfl Γ123 hgo.1.1 (v115 >>> (8 &&& 31)) (k := (gNo Γ123)) (by omega) (by omega)) (cwS 2 S.2.2.2.2 gL_law_L_low rfl rfl rfl (by decide +kernel) ⟨Nat.le_of_ble_eq_true rfl, Nat.le_of_ble_eq_true rfl⟩) hW hTh hNc rfl rfl hl.1 (Nat.le_of_ble_eq_true rfl) dL_law_236 (by show 600 + 30 * k + 3 + 3 + 0 + 12 + 0 + 0 + 0 ≤ 651495 ∧ 6 * (600 + 30 * k) + 6 * 3 + 6 * 3 + 6 * 0 + 6 * 12 + 6 * 0 + 6 * 0 + 6 * 0 ≤ 7147140; omega) (fun r236 Γ236 H locs hq236 hW => ?_)
                        obtain ⟨rfl, eΓ236⟩ := hq236
                        obtain rfl := eΓ236.symm
                        have hlo236 := xlo_lt (v115 >>> (8 &&& 31)) (m := (gNo Γ123)) (by omega)
                        refine p_S2 (K := 12) (rm := rmL_isPlanSo) (As := [.ref (X.2.2.2.1 0), .ref (X.2.2.2.2 0), .int (nI (xlo (v115 >>> (3 &&& 31)) (gNo Γ123))), .int (nI (xlo (v115 >>> (8 &&& 31)) (gNo Γ123)))]) (rest := []) S (c_L_isPlanSo l X hfl Γ123 hgo.1.1 (a := (xlo (v115 >>> (3 &&& 31)) (gNo Γ123))) (b := (xlo (v115 >>> (8 &&& 31)) (gNo Γ123))) (by omega) (by omega)) (cwS 4 S.2.2.2.2 gL_law_L_isPlanSo rfl rfl rfl (by decide +kernel) ⟨Nat.le_of_ble_eq_true rfl, Nat.le_of_ble_eq_true rfl⟩) hW hTh hNc rfl rfl hl.1 (Nat.le_of_ble_eq_true rfl) dL_law_239 (by show 600 + 30 * k + 3 + 3 + 0 + 12 + 0 + 0 + 0 + 12 ≤ 651495 ∧ 6 * (600 + 30 * k) + 6 * 3 + 6 * 3 + 6 * 0 + 6 * 12 + 6 * 0 + 6 * 0 + 6 * 0 + 6 * 12 ≤ 7147140; omega) (fun r239 Γ239 H locs hq239 hW => ?_)
                        obtain ⟨rfl, Δ239, hgd239, hgn239, rfl⟩ := hq239
                        have hW : pSt X Δ239 Δ239 s s.heap H locs := hW
                        refine lv_if_eq (tgt := 249) hx hb dL_law_242 (by decide) (fun c242 => ?_) (fun c242 => ?_)
                        · exact absurd c242 (by decide)
                        refine lv_iconst (v := 1) hx hb dL_law_245 (by decide) ?_
                        refine lv_goto (tgt := 250) hx hb dL_law_246 (by decide) ?_
                        refine lv_istore_n (lv' := [(3, .int 1), (6, .int r123), (5, .int v115), (0, .ref b), (1, .ref (X.2.2.2.1 0)), (2, .ref (X.2.2.2.2 0)), (4, .int (nI k))]) hx hb dL_law_250 rfl hl (by decide) rfl (fun ls hl => ?_)
                        refine lv_iinc (v := (nI (k + 1))) (lv' := [(4, .int (nI (k + 1))), (3, .int 1), (6, .int r123), (5, .int v115), (0, .ref b), (1, .ref (X.2.2.2.1 0)), (2, .ref (X.2.2.2.2 0))]) hx hb dL_law_251 hl (k := 6) rfl (x_inc _) (by decide) rfl (fun ls hl => ?_)
                        refine lv_goto (tgt := 101) hx hb dL_law_254 (by decide) ?_
                        exact W.widen (by omega) (by omega) (L101  (Δ239) (k + 1) (by omega) (by omega) (by omega) (hgd239) ((by omega)) _ _ _ hW (lv_sub hl [4, 5, 6, 1, 0] rfl))
        exact W.widen (by omega) (by omega) (L101 _ (Γ) (3) (Nat.lt_succ_self _) (by omega) (by omega) (hG) (by omega) _ _ _ hW (lv_sub hl [1, 2, 3, 4, 0] rfl))
      · refine lv_aload_n hx hb dL_law_27 rfl (lv_at hl 0 rfl) ?_
        refine lv_iload hx hb dL_law_28 (lv_at hl 4 rfl) ?_
        refine p_cell (k := k) (rest := []) S (by omega) (by omega) hX hbl hbA (cwS 2 S.2.2.2.2 gL_law_L_cell rfl rfl rfl (by decide +kernel) ⟨Nat.le_of_ble_eq_true rfl, Nat.le_of_ble_eq_true rfl⟩) hW hl.1 (Nat.le_of_ble_eq_true rfl) dL_law_30 (by show 500 + 2 * k + 0 ≤ 651495 ∧ 6 * (500 + 2 * k) + 6 * 0 ≤ 7147140; omega) (fun H locs hW => ?_)
        refine lv_topi (fun v30 ev30 => ?_)
        refine lv_istore (lv' := [(5, .int v30), (0, .ref b), (1, .ref (X.2.2.2.1 0)), (2, .ref (X.2.2.2.2 0)), (3, .int 1), (4, .int (nI k))]) hx hb dL_law_33 hl (by decide) rfl (fun ls hl => ?_)
        refine lv_iload_n hx hb dL_law_35 rfl (lv_at hl 4 rfl) ?_
        refine lv_if_eq (tgt := 90) hx hb dL_law_36 (by decide) (fun c36 => ?_) (fun c36 => ?_)
        · exact absurd c36 (by decide)
        refine lv_aload_n hx hb dL_law_39 rfl (lv_at hl 2 rfl) ?_
        refine lv_iload hx hb dL_law_40 (lv_at hl 0 rfl) ?_
        refine lv_bipush (v := 10) hx hb dL_law_42 (by decide) ?_
        refine p_S0 (K := 0) (rm := rmL_low) (As := [.int v30, .int 10]) (rest := [.ref (X.2.2.2.1 0)]) S (fun E => c_L_low l E hfl Γ hG v30 (k := 10) (by omega) (by omega)) (cwS 2 S.2.2.2.2 gL_law_L_low rfl rfl rfl (by decide +kernel) ⟨Nat.le_of_ble_eq_true rfl, Nat.le_of_ble_eq_true rfl⟩) hW hTh hNc rfl rfl hl.1 (Nat.le_of_ble_eq_true rfl) dL_law_44 (by show 500 + 2 * k + 0 ≤ 651495 ∧ 6 * (500 + 2 * k) + 6 * 0 ≤ 7147140; omega) (fun r44 Γ44 H locs hq44 hW => ?_)
        obtain ⟨rfl, eΓ44⟩ := hq44
        obtain rfl := eΓ44.symm
        have hlo44 := xlo_lt v30 (m := 10) (by omega)
        refine lv_iconst (v := 2) hx hb dL_law_47 (by decide) ?_
        refine lv_iload hx hb dL_law_48 (lv_at hl 0 rfl) ?_
        refine lv_iconst (v := 4) hx hb dL_law_50 (by decide) ?_
        refine lv_ishr hx hb dL_law_51 ?_
        refine lv_bipush (v := 10) hx hb dL_law_52 (by decide) ?_
        refine p_S0 (K := 0) (rm := rmL_low) (As := [.int (v30 >>> (4 &&& 31)), .int 10]) (rest := [.int 2, .int (nI (xlo v30 10)), .ref (X.2.2.2.1 0)]) S (fun E => c_L_low l E hfl Γ hG (v30 >>> (4 &&& 31)) (k := 10) (by omega) (by omega)) (cwS 2 S.2.2.2.2 gL_law_L_low rfl rfl rfl (by decide +kernel) ⟨Nat.le_of_ble_eq_true rfl, Nat.le_of_ble_eq_true rfl⟩) hW hTh hNc rfl rfl hl.1 (Nat.le_of_ble_eq_true rfl) dL_law_54 (by show 500 + 2 * k + 0 + 0 ≤ 651495 ∧ 6 * (500 + 2 * k) + 6 * 0 + 6 * 0 ≤ 7147140; omega) (fun r54 Γ54 H locs hq54 hW => ?_)
        obtain ⟨rfl, eΓ54⟩ := hq54
        obtain rfl := eΓ54.symm
        have hlo54 := xlo_lt (v30 >>> (4 &&& 31)) (m := 10) (by omega)
        refine x_iadd (a := 2) (b := xlo (v30 >>> (4 &&& 31)) 10) hx hb dL_law_57 ?_
        refine p_SX (K := 1) (rm := rmL_addPanel) (Bs := [.int (nI (xlo v30 10)), .int (nI (2 + (xlo (v30 >>> (4 &&& 31)) 10)))]) (rest := []) S (fun E => c_L_addPanel l E hfl Γ hG (nI (xlo v30 10)) (nI (2 + (xlo (v30 >>> (4 &&& 31)) 10)))) (vx_cwSW 3 S.2.2.2.2 gL_law_L_addPanel rfl rfl rfl (by decide +kernel) ⟨Nat.le_of_ble_eq_true rfl, Nat.le_of_ble_eq_true rfl⟩) hW hTh hNc rfl rfl hl.1 (Nat.le_of_ble_eq_true rfl) dL_law_58 (by show 500 + 2 * k + 0 + 0 + 1 ≤ 651495 ∧ 6 * (500 + 2 * k) + 6 * 0 + 6 * 0 + 6 * 1 ≤ 7147140; omega) (fun r58 Γ58 H locs hq58 hW => ?_)
        rw [fPanel_3 (by omega) (by omega) (by omega)] at hq58
        obtain ⟨rfl, eΓ58⟩ := Prod.mk.inj hq58
        subst eΓ58
        refine lv_aload_n hx hb dL_law_61 rfl (lv_at hl 3 rfl) ?_
        refine lv_iload hx hb dL_law_62 (lv_at hl 0 rfl) ?_
        refine lv_bipush (v := 10) hx hb dL_law_64 (by decide) ?_
        refine p_S0 (K := 0) (rm := rmL_low) (As := [.int v30, .int 10]) (rest := [.ref (X.2.2.2.2 0), .int (nI (gNo Γ))]) S (fun E => c_L_low l E hfl (gPanel Γ (nI (xlo v30 10)) (2 + (xlo (v30 >>> (4 &&& 31)) 10))) (gd_panel3 hG (by omega) (by omega) (by omega)) v30 (k := 10) (by omega) (by omega)) (cwS 2 S.2.2.2.2 gL_law_L_low rfl rfl rfl (by decide +kernel) ⟨Nat.le_of_ble_eq_true rfl, Nat.le_of_ble_eq_true rfl⟩) hW hTh hNc rfl rfl hl.1 (Nat.le_of_ble_eq_true rfl) dL_law_66 (by show 500 + 2 * k + 0 + 0 + 1 + 0 ≤ 651495 ∧ 6 * (500 + 2 * k) + 6 * 0 + 6 * 0 + 6 * 1 + 6 * 0 ≤ 7147140; omega) (fun r66 Γ66 H locs hq66 hW => ?_)
        obtain ⟨rfl, eΓ66⟩ := hq66
        obtain rfl := eΓ66.symm
        have hlo66 := xlo_lt v30 (m := 10) (by omega)
        refine lv_iconst (v := 2) hx hb dL_law_69 (by decide) ?_
        refine lv_iload hx hb dL_law_70 (lv_at hl 0 rfl) ?_
        refine lv_iconst (v := 4) hx hb dL_law_72 (by decide) ?_
        refine lv_ishr hx hb dL_law_73 ?_
        refine lv_bipush (v := 10) hx hb dL_law_74 (by decide) ?_
        refine p_S0 (K := 0) (rm := rmL_low) (As := [.int (v30 >>> (4 &&& 31)), .int 10]) (rest := [.int 2, .int (nI (xlo v30 10)), .ref (X.2.2.2.2 0), .int (nI (gNo Γ))]) S (fun E => c_L_low l E hfl (gPanel Γ (nI (xlo v30 10)) (2 + (xlo (v30 >>> (4 &&& 31)) 10))) (gd_panel3 hG (by omega) (by omega) (by omega)) (v30 >>> (4 &&& 31)) (k := 10) (by omega) (by omega)) (cwS 2 S.2.2.2.2 gL_law_L_low rfl rfl rfl (by decide +kernel) ⟨Nat.le_of_ble_eq_true rfl, Nat.le_of_ble_eq_true rfl⟩) hW hTh hNc rfl rfl hl.1 (Nat.le_of_ble_eq_true rfl) dL_law_76 (by show 500 + 2 * k + 0 + 0 + 1 + 0 + 0 ≤ 651495 ∧ 6 * (500 + 2 * k) + 6 * 0 + 6 * 0 + 6 * 1 + 6 * 0 + 6 * 0 ≤ 7147140; omega) (fun r76 Γ76 H locs hq76 hW => ?_)
        obtain ⟨rfl, eΓ76⟩ := hq76
        obtain rfl := eΓ76.symm
        have hlo76 := xlo_lt (v30 >>> (4 &&& 31)) (m := 10) (by omega)
        refine x_iadd (a := 2) (b := xlo (v30 >>> (4 &&& 31)) 10) hx hb dL_law_79 ?_
        refine p_SXq (K := 1) (rm := rmL_addPanel) (Bs := [.int (nI (xlo v30 10)), .int (nI (2 + (xlo (v30 >>> (4 &&& 31)) 10)))]) (rest := [.int (nI (gNo Γ))]) S (fun E => c_L_addPanel l E hfl Γ hG (nI (xlo v30 10)) (nI (2 + (xlo (v30 >>> (4 &&& 31)) 10)))) (vx_cwSW 3 S.2.2.2.2 gL_law_L_addPanel rfl rfl rfl (by decide +kernel) ⟨Nat.le_of_ble_eq_true rfl, Nat.le_of_ble_eq_true rfl⟩) hW hTh hNc rfl rfl hl.1 (Nat.le_of_ble_eq_true rfl) dL_law_80 (by show 500 + 2 * k + 0 + 0 + 1 + 0 + 0 + 1 ≤ 651495 ∧ 6 * (500 + 2 * k) + 6 * 0 + 6 * 0 + 6 * 1 + 6 * 0 + 6 * 0 + 6 * 1 ≤ 7147140; omega) (fun r80 Γ80 H locs hq80 hW => ?_)
        rw [fPanel_3 (by omega) (by omega) (by omega)] at hq80
        obtain ⟨rfl, eΓ80⟩ := Prod.mk.inj hq80
        subst eΓ80
        refine lv_icmp_ne (tgt := 90) hx hb dL_law_83 (by decide) (fun c83 => ?_) (fun c83 => ?_)
        · exact absurd rfl c83
        refine lv_iconst (v := 1) hx hb dL_law_86 (by decide) ?_
        refine lv_goto (tgt := 91) hx hb dL_law_87 (by decide) ?_
        refine lv_istore_n (lv' := [(3, .int 1), (5, .int v30), (0, .ref b), (1, .ref (X.2.2.2.1 0)), (2, .ref (X.2.2.2.2 0)), (4, .int (nI k))]) hx hb dL_law_91 rfl hl (by decide) rfl (fun ls hl => ?_)
        refine lv_iinc (v := (nI (k + 1))) (lv' := [(4, .int (nI (k + 1))), (3, .int 1), (5, .int v30), (0, .ref b), (1, .ref (X.2.2.2.1 0)), (2, .ref (X.2.2.2.2 0))]) hx hb dL_law_92 hl (k := 5) rfl (x_inc _) (by decide) rfl (fun ls hl => ?_)
        refine lv_goto (tgt := 21) hx hb dL_law_95 (by decide) ?_
        exact W.widen (by omega) (by omega) (L21  ((gPanel Γ (nI (xlo v30 10)) (2 + (xlo (v30 >>> (4 &&& 31)) 10)))) (k + 1) (by omega) (by omega) (gd_panel3 hG (by omega) (by omega) (by omega)) (by show gNp Γ + 1 = k + 1; rw [hnp]) (by show k + 1 ≤ gNo Γ + _; omega) _ _ _ hW (lv_sub hl [3, 4, 5, 1, 0] rfl))
  exact W.widen (by omega) (by omega) (L21 _ (xG0) (0) (Nat.lt_succ_self _) (by omega) (xGd0) (rfl) (Nat.zero_le _) _ _ _ hW (lv_sub hl [2, 3, 4, 1, 0] rfl))
end XLL
