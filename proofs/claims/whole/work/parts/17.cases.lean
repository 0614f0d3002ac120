/-! the law: a case each -/
section XLC
variable {p : Program} {l : Launch} {e : Env} {s : State} {m : MethodId} {args : Array Value} {below : List Frame} {meth : Method} {c : Code} {H : Heap} {locs : List Loc} {cells slots : Nat} {Q : State → Prop}
variable {ls : Array Slot} {E : xE} {b L : Nat} {xs : Nat → Int32}
set_option maxHeartbeats 4000000 in
theorem lc_0 (S : CallFix p m c cL_law 7 s args wsL_law RL) (hfl : l.stackTraces = false) (hTh : xTh E s) (hNc : xNc s) (hX : va_X b L xs s s.heap) (hbl : b < s.heap.size) (hbA : ¬ xA E b) (hL : L ≤ 2560) {i : Nat} (hi : i + 5 ≤ L) (hV : xLv E s H locs) (hl : lv_has ls 7 (xLs E b i)) (hc : cells + 3 ≤ room_1.cells ∧ slots + 18 ≤ room_1.slots)
    (kk : ∀ (H1 : Heap) (locs1 : List Loc) (ls1 : Array Slot), lv_has ls1 7 (xLs E b i) → xLv E s H1 locs1 → W p l e room_1 s m args below meth c H1 locs1 (cells + 3) (slots + 18) Q (F0 m 1731 ls1 [])) : W p l e room_1 s m args below meth c H locs cells slots Q (F0 m 164 ls []) := by
  obtain ⟨Γ, n, f, o, hG, hC, hR, hW⟩ := hV
  refine lv_aload_n S.1 S.2.1 dL_law_164 rfl (lv_at hl 3 rfl) ?_
  refine lw_arg (i := i) (j := 1) S hX hbl hbA hW.2.2.2 (lv_at hl 4 rfl) (lv_at hl 0 rfl) hL (by omega) dL_law_165 dL_law_166 dL_law_168 rfl dL_law_169 dL_law_170 ?_
  refine lw_arg (i := i) (j := 2) S hX hbl hbA hW.2.2.2 (lv_at hl 4 rfl) (lv_at hl 0 rfl) hL (by omega) dL_law_171 dL_law_172 dL_law_174 rfl dL_law_175 dL_law_176 ?_
  refine lv_aload_n S.1 S.2.1 dL_law_177 rfl (lv_at hl 1 rfl) ?_
  refine x_LS (rest := []) S (c_L_addPanel l E n f o hfl Γ hG hC (xs (i + 1)) (xs (i + 2))) (vx_cwSW 4 S.2.2.2.2 gL_law_L_addPanel rfl rfl rfl (by decide +kernel) ⟨Nat.le_of_ble_eq_true rfl, Nat.le_of_ble_eq_true rfl⟩) hW hTh hNc rfl rfl hl.1 (Nat.le_of_ble_eq_true rfl) dL_law_178 ⟨Nat.le_trans (Nat.add_le_add_left (by decide) _) hc.1, Nat.le_trans (Nat.add_le_add_left (by decide) _) hc.2⟩ (fun r1 σ1 H locs hq hW => ?_)
  obtain ⟨rfl, N, F, o1, rfl, hF1, hp⟩ := hq
  refine lv_istore S.1 S.2.1 dL_law_181 hl (Nat.le_of_ble_eq_true rfl) rfl (fun ls hl => ?_)
  refine lv_aload_n S.1 S.2.1 dL_law_183 rfl (lv_at hl 3 rfl) ?_
  refine lw_arg (i := i) (j := 1) S hX hbl hbA hW.2.2.2 (lv_at hl 5 rfl) (lv_at hl 1 rfl) hL (by omega) dL_law_184 dL_law_185 dL_law_187 rfl dL_law_188 dL_law_189 ?_
  refine lw_arg (i := i) (j := 2) S hX hbl hbA hW.2.2.2 (lv_at hl 5 rfl) (lv_at hl 1 rfl) hL (by omega) dL_law_190 dL_law_191 dL_law_193 rfl dL_law_194 dL_law_195 ?_
  refine x_Vi (rest := []) S (c_X4_addPanel l E N F o1 Γ hG (hR.fr hF1) (xs (i + 1)) (xs (i + 2))) (cwV 2 S.2.2.2.2 gL_law_X4_addPanel rfl rfl rfl (by decide +kernel) ⟨Nat.le_of_ble_eq_true rfl, Nat.le_of_ble_eq_true rfl⟩) hW 40 (xw_40 E _) rfl rfl rfl hl.1 (Nat.le_of_ble_eq_true rfl) dL_law_196 ⟨Nat.le_trans (Nat.add_le_add_left (by decide) _) hc.1, Nat.le_trans (Nat.add_le_add_left (by decide) _) hc.2⟩ (fun r2 σ2 H locs hq hW => ?_)
  refine lv_istore S.1 S.2.1 dL_law_199 hl (Nat.le_of_ble_eq_true rfl) rfl (fun ls hl => ?_)
  obtain ⟨Γ2, N2, F2, rfl, hG2, hC2, hR2, h10, hv⟩ := xjoin hp hq (fun v w hv hw => hv.trans hw.symm) hG (fun z => og_panel hG z)
  refine lw_tailI (P := 201) S ⟨Nat.le_of_ble_eq_true rfl, Nat.le_of_ble_eq_true rfl⟩ hW hl.1 (lv_at hl 4 rfl) (lv_at hl 3 rfl) (lv_at hl 1 rfl) (lv_at hl 0 rfl) h10 (ocb_AddPanel _ _ _) (fun z => (hv z).2) ⟨Nat.le_trans (Nat.add_le_add_left (by decide) _) hc.1, Nat.le_trans (Nat.add_le_add_left (by decide) _) hc.2⟩ (cwV 0 S.2.2.2.2 gL_law_X4_thrown rfl rfl rfl (by decide +kernel) ⟨Nat.le_of_ble_eq_true rfl, Nat.le_of_ble_eq_true rfl⟩) dL_law_201 dL_law_202 dL_law_205 dL_law_207 dL_law_212 dL_law_214 dL_law_217 dL_law_218 dL_law_219 dL_law_220 dL_law_222 dL_law_223 dL_law_224 (fun H locs hW => ?_)
  refine lv_goto S.1 S.2.1 dL_law_229 (tgt := 1731) rfl ?_
  exact W.widen (Nat.add_le_add_left (by decide) _) (Nat.add_le_add_left (by decide) _) (kk _ _ _ (lv_sub hl [2, 3, 4, 5, 6] rfl) ⟨Γ2, N2, F2, o1, hG2, hC2, hR2, hW⟩)
set_option maxHeartbeats 4000000 in
theorem lc_1 (S : CallFix p m c cL_law 7 s args wsL_law RL) (hfl : l.stackTraces = false) (hTh : xTh E s) (hNc : xNc s) (hX : va_X b L xs s s.heap) (hbl : b < s.heap.size) (hbA : ¬ xA E b) (hL : L ≤ 2560) {i : Nat} (hi : i + 5 ≤ L) (hV : xLv E s H locs) (hl : lv_has ls 7 (xLs E b i)) (hc : cells + 3 ≤ room_1.cells ∧ slots + 18 ≤ room_1.slots)
    (kk : ∀ (H1 : Heap) (locs1 : List Loc) (ls1 : Array Slot), lv_has ls1 7 (xLs E b i) → xLv E s H1 locs1 → W p l e room_1 s m args below meth c H1 locs1 (cells + 3) (slots + 18) Q (F0 m 1731 ls1 [])) : W p l e room_1 s m args below meth c H locs cells slots Q (F0 m 232 ls []) := by
  obtain ⟨Γ, n, f, o, hG, hC, hR, hW⟩ := hV
  refine lv_aload_n S.1 S.2.1 dL_law_232 rfl (lv_at hl 3 rfl) ?_
  refine lw_arg (i := i) (j := 1) S hX hbl hbA hW.2.2.2 (lv_at hl 4 rfl) (lv_at hl 0 rfl) hL (by omega) dL_law_233 dL_law_234 dL_law_236 rfl dL_law_237 dL_law_238 ?_
  refine lw_arg (i := i) (j := 2) S hX hbl hbA hW.2.2.2 (lv_at hl 4 rfl) (lv_at hl 0 rfl) hL (by omega) dL_law_239 dL_law_240 dL_law_242 rfl dL_law_243 dL_law_244 ?_
  refine lw_arg (i := i) (j := 3) S hX hbl hbA hW.2.2.2 (lv_at hl 4 rfl) (lv_at hl 0 rfl) hL (by omega) dL_law_245 dL_law_246 dL_law_248 rfl dL_law_249 dL_law_250 ?_
  refine lw_arg (i := i) (j := 4) S hX hbl hbA hW.2.2.2 (lv_at hl 4 rfl) (lv_at hl 0 rfl) hL (by omega) dL_law_251 dL_law_252 dL_law_254 rfl dL_law_255 dL_law_256 ?_
  refine lv_aload_n S.1 S.2.1 dL_law_257 rfl (lv_at hl 1 rfl) ?_
  refine x_LS (rest := []) S (c_L_addTrunk l E n f o hfl Γ hG hC (xs (i + 1)) (xs (i + 2)) (xs (i + 3)) (xs (i + 4))) (vx_cwSW 6 S.2.2.2.2 gL_law_L_addTrunk rfl rfl rfl (by decide +kernel) ⟨Nat.le_of_ble_eq_true rfl, Nat.le_of_ble_eq_true rfl⟩) hW hTh hNc rfl rfl hl.1 (Nat.le_of_ble_eq_true rfl) dL_law_258 ⟨Nat.le_trans (Nat.add_le_add_left (by decide) _) hc.1, Nat.le_trans (Nat.add_le_add_left (by decide) _) hc.2⟩ (fun r1 σ1 H locs hq hW => ?_)
  obtain ⟨rfl, N, F, o1, rfl, hF1, hp⟩ := hq
  refine lv_istore S.1 S.2.1 dL_law_261 hl (Nat.le_of_ble_eq_true rfl) rfl (fun ls hl => ?_)
  refine lv_aload_n S.1 S.2.1 dL_law_263 rfl (lv_at hl 3 rfl) ?_
  refine lw_arg (i := i) (j := 1) S hX hbl hbA hW.2.2.2 (lv_at hl 5 rfl) (lv_at hl 1 rfl) hL (by omega) dL_law_264 dL_law_265 dL_law_267 rfl dL_law_268 dL_law_269 ?_
  refine lw_arg (i := i) (j := 2) S hX hbl hbA hW.2.2.2 (lv_at hl 5 rfl) (lv_at hl 1 rfl) hL (by omega) dL_law_270 dL_law_271 dL_law_273 rfl dL_law_274 dL_law_275 ?_
  refine lw_arg (i := i) (j := 3) S hX hbl hbA hW.2.2.2 (lv_at hl 5 rfl) (lv_at hl 1 rfl) hL (by omega) dL_law_276 dL_law_277 dL_law_279 rfl dL_law_280 dL_law_281 ?_
  refine lw_arg (i := i) (j := 4) S hX hbl hbA hW.2.2.2 (lv_at hl 5 rfl) (lv_at hl 1 rfl) hL (by omega) dL_law_282 dL_law_283 dL_law_285 rfl dL_law_286 dL_law_287 ?_
  refine x_Vi (rest := []) S (c_X4_addTrunk l E N F o1 Γ hG (hR.fr hF1) (xs (i + 1)) (xs (i + 2)) (xs (i + 3)) (xs (i + 4))) (cwV 4 S.2.2.2.2 gL_law_X4_addTrunk rfl rfl rfl (by decide +kernel) ⟨Nat.le_of_ble_eq_true rfl, Nat.le_of_ble_eq_true rfl⟩) hW 40 (xw_40 E _) rfl rfl rfl hl.1 (Nat.le_of_ble_eq_true rfl) dL_law_288 ⟨Nat.le_trans (Nat.add_le_add_left (by decide) _) hc.1, Nat.le_trans (Nat.add_le_add_left (by decide) _) hc.2⟩ (fun r2 σ2 H locs hq hW => ?_)
  refine lv_istore S.1 S.2.1 dL_law_291 hl (Nat.le_of_ble_eq_true rfl) rfl (fun ls hl => ?_)
  obtain ⟨Γ2, N2, F2, rfl, hG2, hC2, hR2, h10, hv⟩ := xjoin hp hq (fun v w hv hw => hv.trans hw.symm) hG (fun z => og_trunk hG z)
  refine lw_tailI (P := 293) S ⟨Nat.le_of_ble_eq_true rfl, Nat.le_of_ble_eq_true rfl⟩ hW hl.1 (lv_at hl 4 rfl) (lv_at hl 3 rfl) (lv_at hl 1 rfl) (lv_at hl 0 rfl) h10 (ocb_Trunk _ _ _ _ _) (fun z => (hv z).2) ⟨Nat.le_trans (Nat.add_le_add_left (by decide) _) hc.1, Nat.le_trans (Nat.add_le_add_left (by decide) _) hc.2⟩ (cwV 0 S.2.2.2.2 gL_law_X4_thrown rfl rfl rfl (by decide +kernel) ⟨Nat.le_of_ble_eq_true rfl, Nat.le_of_ble_eq_true rfl⟩) dL_law_293 dL_law_294 dL_law_297 dL_law_299 dL_law_304 dL_law_306 dL_law_309 dL_law_310 dL_law_311 dL_law_312 dL_law_314 dL_law_315 dL_law_316 (fun H locs hW => ?_)
  refine lv_goto S.1 S.2.1 dL_law_321 (tgt := 1731) rfl ?_
  exact W.widen (Nat.add_le_add_left (by decide) _) (Nat.add_le_add_left (by decide) _) (kk _ _ _ (lv_sub hl [2, 3, 4, 5, 6] rfl) ⟨Γ2, N2, F2, o1, hG2, hC2, hR2, hW⟩)
set_option maxHeartbeats 4000000 in
theorem lc_2 (S : CallFix p m c cL_law 7 s args wsL_law RL) (hfl : l.stackTraces = false) (hTh : xTh E s) (hNc : xNc s) (hX : va_X b L xs s s.heap) (hbl : b < s.heap.size) (hbA : ¬ xA E b) (hL : L ≤ 2560) {i : Nat} (hi : i + 5 ≤ L) (hV : xLv E s H locs) (hl : lv_has ls 7 (xLs E b i)) (hc : cells + 3 ≤ room_1.cells ∧ slots + 18 ≤ room_1.slots)
    (kk : ∀ (H1 : Heap) (locs1 : List Loc) (ls1 : Array Slot), lv_has ls1 7 (xLs E b i) → xLv E s H1 locs1 → W p l e room_1 s m args below meth c H1 locs1 (cells + 3) (slots + 18) Q (F0 m 1731 ls1 [])) : W p l e room_1 s m args below meth c H locs cells slots Q (F0 m 324 ls []) := by
  obtain ⟨Γ, n, f, o, hG, hC, hR, hW⟩ := hV
  refine lv_aload_n S.1 S.2.1 dL_law_324 rfl (lv_at hl 3 rfl) ?_
  refine lw_arg (i := i) (j := 1) S hX hbl hbA hW.2.2.2 (lv_at hl 4 rfl) (lv_at hl 0 rfl) hL (by omega) dL_law_325 dL_law_326 dL_law_328 rfl dL_law_329 dL_law_330 ?_
  refine lw_arg (i := i) (j := 2) S hX hbl hbA hW.2.2.2 (lv_at hl 4 rfl) (lv_at hl 0 rfl) hL (by omega) dL_law_331 dL_law_332 dL_law_334 rfl dL_law_335 dL_law_336 ?_
  refine lw_arg (i := i) (j := 3) S hX hbl hbA hW.2.2.2 (lv_at hl 4 rfl) (lv_at hl 0 rfl) hL (by omega) dL_law_337 dL_law_338 dL_law_340 rfl dL_law_341 dL_law_342 ?_
  refine lw_bool S dL_law_343 dL_law_346 dL_law_347 dL_law_350 ?_
  refine lv_aload_n S.1 S.2.1 dL_law_351 rfl (lv_at hl 1 rfl) ?_
  refine x_LS (rest := []) S (c_L_setBroken l E n f o hfl Γ hG hC (xs (i + 1)) (xs (i + 2)) (decide (xs (i + 3) ≠ 0))) (vx_cwSW 5 S.2.2.2.2 gL_law_L_setBroken rfl rfl rfl (by decide +kernel) ⟨Nat.le_of_ble_eq_true rfl, Nat.le_of_ble_eq_true rfl⟩) hW hTh hNc rfl rfl hl.1 (Nat.le_of_ble_eq_true rfl) dL_law_352 ⟨Nat.le_trans (Nat.add_le_add_left (by decide) _) hc.1, Nat.le_trans (Nat.add_le_add_left (by decide) _) hc.2⟩ (fun r1 σ1 H locs hq hW => ?_)
  obtain ⟨rfl, N, F, o1, rfl, hF1, hp⟩ := hq
  refine lv_istore S.1 S.2.1 dL_law_355 hl (Nat.le_of_ble_eq_true rfl) rfl (fun ls hl => ?_)
  refine lv_aload_n S.1 S.2.1 dL_law_357 rfl (lv_at hl 3 rfl) ?_
  refine lw_arg (i := i) (j := 1) S hX hbl hbA hW.2.2.2 (lv_at hl 5 rfl) (lv_at hl 1 rfl) hL (by omega) dL_law_358 dL_law_359 dL_law_361 rfl dL_law_362 dL_law_363 ?_
  refine lw_arg (i := i) (j := 2) S hX hbl hbA hW.2.2.2 (lv_at hl 5 rfl) (lv_at hl 1 rfl) hL (by omega) dL_law_364 dL_law_365 dL_law_367 rfl dL_law_368 dL_law_369 ?_
  refine lw_arg (i := i) (j := 3) S hX hbl hbA hW.2.2.2 (lv_at hl 5 rfl) (lv_at hl 1 rfl) hL (by omega) dL_law_370 dL_law_371 dL_law_373 rfl dL_law_374 dL_law_375 ?_
  refine lw_bool S dL_law_376 dL_law_379 dL_law_380 dL_law_383 ?_
  refine x_Vi (rest := []) S (c_X4_setBroken l E N F o1 Γ hG (hR.fr hF1) (xs (i + 1)) (xs (i + 2)) (decide (xs (i + 3) ≠ 0))) (cwV 3 S.2.2.2.2 gL_law_X4_setBroken rfl rfl rfl (by decide +kernel) ⟨Nat.le_of_ble_eq_true rfl, Nat.le_of_ble_eq_true rfl⟩) hW 40 (xw_40 E _) rfl rfl rfl hl.1 (Nat.le_of_ble_eq_true rfl) dL_law_384 ⟨Nat.le_trans (Nat.add_le_add_left (by decide) _) hc.1, Nat.le_trans (Nat.add_le_add_left (by decide) _) hc.2⟩ (fun r2 σ2 H locs hq hW => ?_)
  refine lv_istore S.1 S.2.1 dL_law_387 hl (Nat.le_of_ble_eq_true rfl) rfl (fun ls hl => ?_)
  obtain ⟨Γ2, N2, F2, rfl, hG2, hC2, hR2, h10, hv⟩ := xjoin hp hq (fun v w hv hw => hv.trans hw.symm) hG (fun z => og_brk hG z)
  refine lw_tailZ (P := 389) S ⟨Nat.le_of_ble_eq_true rfl, Nat.le_of_ble_eq_true rfl⟩ hW hl.1 (lv_at hl 4 rfl) (lv_at hl 3 rfl) (lv_at hl 1 rfl) (lv_at hl 0 rfl) h10 (ocb_Brk _ _ _) (fun z => ⟨(by rw [(hv z).1]; exact hG.b01 _), (hv z).2⟩) ⟨Nat.le_trans (Nat.add_le_add_left (by decide) _) hc.1, Nat.le_trans (Nat.add_le_add_left (by decide) _) hc.2⟩ (cwV 0 S.2.2.2.2 gL_law_X4_thrown rfl rfl rfl (by decide +kernel) ⟨Nat.le_of_ble_eq_true rfl, Nat.le_of_ble_eq_true rfl⟩) dL_law_389 dL_law_390 dL_law_393 dL_law_395 dL_law_400 dL_law_402 dL_law_405 dL_law_406 dL_law_407 dL_law_408 dL_law_410 dL_law_413 dL_law_414 dL_law_417 dL_law_418 dL_law_419 (fun H locs hW => ?_)
  refine lv_goto S.1 S.2.1 dL_law_424 (tgt := 1731) rfl ?_
  exact W.widen (Nat.add_le_add_left (by decide) _) (Nat.add_le_add_left (by decide) _) (kk _ _ _ (lv_sub hl [2, 3, 4, 5, 6] rfl) ⟨Γ2, N2, F2, o1, hG2, hC2, hR2, hW⟩)
set_option maxHeartbeats 4000000 in
theorem lc_3 (S : CallFix p m c cL_law 7 s args wsL_law RL) (hfl : l.stackTraces = false) (hTh : xTh E s) (hNc : xNc s) (hX : va_X b L xs s s.heap) (hbl : b < s.heap.size) (hbA : ¬ xA E b) (hL : L ≤ 2560) {i : Nat} (hi : i + 5 ≤ L) (hV : xLv E s H locs) (hl : lv_has ls 7 (xLs E b i)) (hc : cells + 3 ≤ room_1.cells ∧ slots + 18 ≤ room_1.slots)
    (kk : ∀ (H1 : Heap) (locs1 : List Loc) (ls1 : Array Slot), lv_has ls1 7 (xLs E b i) → xLv E s H1 locs1 → W p l e room_1 s m args below meth c H1 locs1 (cells + 3) (slots + 18) Q (F0 m 1731 ls1 [])) : W p l e room_1 s m args below meth c H locs cells slots Q (F0 m 427 ls []) := by
  obtain ⟨Γ, n, f, o, hG, hC, hR, hW⟩ := hV
  refine lv_aload_n S.1 S.2.1 dL_law_427 rfl (lv_at hl 3 rfl) ?_
  refine lw_arg (i := i) (j := 1) S hX hbl hbA hW.2.2.2 (lv_at hl 4 rfl) (lv_at hl 0 rfl) hL (by omega) dL_law_428 dL_law_429 dL_law_431 rfl dL_law_432 dL_law_433 ?_
  refine lw_arg (i := i) (j := 2) S hX hbl hbA hW.2.2.2 (lv_at hl 4 rfl) (lv_at hl 0 rfl) hL (by omega) dL_law_434 dL_law_435 dL_law_437 rfl dL_law_438 dL_law_439 ?_
  refine lw_arg (i := i) (j := 3) S hX hbl hbA hW.2.2.2 (lv_at hl 4 rfl) (lv_at hl 0 rfl) hL (by omega) dL_law_440 dL_law_441 dL_law_443 rfl dL_law_444 dL_law_445 ?_
  refine lv_aload_n S.1 S.2.1 dL_law_446 rfl (lv_at hl 1 rfl) ?_
  refine x_LS (rest := []) S (c_L_plug l E n f o hfl Γ hG hC (xs (i + 1)) (xs (i + 2)) (xs (i + 3))) (vx_cwSW 5 S.2.2.2.2 gL_law_L_plug rfl rfl rfl (by decide +kernel) ⟨Nat.le_of_ble_eq_true rfl, Nat.le_of_ble_eq_true rfl⟩) hW hTh hNc rfl rfl hl.1 (Nat.le_of_ble_eq_true rfl) dL_law_447 ⟨Nat.le_trans (Nat.add_le_add_left (by decide) _) hc.1, Nat.le_trans (Nat.add_le_add_left (by decide) _) hc.2⟩ (fun r1 σ1 H locs hq hW => ?_)
  obtain ⟨rfl, N, F, o1, rfl, hF1, hp⟩ := hq
  refine lv_istore S.1 S.2.1 dL_law_450 hl (Nat.le_of_ble_eq_true rfl) rfl (fun ls hl => ?_)
  refine lv_aload_n S.1 S.2.1 dL_law_452 rfl (lv_at hl 3 rfl) ?_
  refine lw_arg (i := i) (j := 1) S hX hbl hbA hW.2.2.2 (lv_at hl 5 rfl) (lv_at hl 1 rfl) hL (by omega) dL_law_453 dL_law_454 dL_law_456 rfl dL_law_457 dL_law_458 ?_
  refine lw_arg (i := i) (j := 2) S hX hbl hbA hW.2.2.2 (lv_at hl 5 rfl) (lv_at hl 1 rfl) hL (by omega) dL_law_459 dL_law_460 dL_law_462 rfl dL_law_463 dL_law_464 ?_
  refine lw_arg (i := i) (j := 3) S hX hbl hbA hW.2.2.2 (lv_at hl 5 rfl) (lv_at hl 1 rfl) hL (by omega) dL_law_465 dL_law_466 dL_law_468 rfl dL_law_469 dL_law_470 ?_
  refine x_Vi (rest := []) S (c_X4_plug l E N F o1 Γ hG (hR.fr hF1) (xs (i + 1)) (xs (i + 2)) (xs (i + 3))) (cwV 3 S.2.2.2.2 gL_law_X4_plug rfl rfl rfl (by decide +kernel) ⟨Nat.le_of_ble_eq_true rfl, Nat.le_of_ble_eq_true rfl⟩) hW 40 (xw_40 E _) rfl rfl rfl hl.1 (Nat.le_of_ble_eq_true rfl) dL_law_471 ⟨Nat.le_trans (Nat.add_le_add_left (by decide) _) hc.1, Nat.le_trans (Nat.add_le_add_left (by decide) _) hc.2⟩ (fun r2 σ2 H locs hq hW => ?_)
  refine lv_istore S.1 S.2.1 dL_law_474 hl (Nat.le_of_ble_eq_true rfl) rfl (fun ls hl => ?_)
  obtain ⟨Γ2, N2, F2, rfl, hG2, hC2, hR2, h10, hv⟩ := xjoin hp hq (fun v w hv hw => hv.trans hw.symm) hG (fun z => og_plug hG z)
  refine lw_tailI (P := 476) S ⟨Nat.le_of_ble_eq_true rfl, Nat.le_of_ble_eq_true rfl⟩ hW hl.1 (lv_at hl 4 rfl) (lv_at hl 3 rfl) (lv_at hl 1 rfl) (lv_at hl 0 rfl) h10 (ocb_Plug _ _ _ _) (fun z => (hv z).2) ⟨Nat.le_trans (Nat.add_le_add_left (by decide) _) hc.1, Nat.le_trans (Nat.add_le_add_left (by decide) _) hc.2⟩ (cwV 0 S.2.2.2.2 gL_law_X4_thrown rfl rfl rfl (by decide +kernel) ⟨Nat.le_of_ble_eq_true rfl, Nat.le_of_ble_eq_true rfl⟩) dL_law_476 dL_law_477 dL_law_480 dL_law_482 dL_law_487 dL_law_489 dL_law_492 dL_law_493 dL_law_494 dL_law_495 dL_law_497 dL_law_498 dL_law_499 (fun H locs hW => ?_)
  refine lv_goto S.1 S.2.1 dL_law_504 (tgt := 1731) rfl ?_
  exact W.widen (Nat.add_le_add_left (by decide) _) (Nat.add_le_add_left (by decide) _) (kk _ _ _ (lv_sub hl [2, 3, 4, 5, 6] rfl) ⟨Γ2, N2, F2, o1, hG2, hC2, hR2, hW⟩)
set_option maxHeartbeats 4000000 in
theorem lc_4 (S : CallFix p m c cL_law 7 s args wsL_law RL) (hfl : l.stackTraces = false) (hTh : xTh E s) (hNc : xNc s) (hX : va_X b L xs s s.heap) (hbl : b < s.heap.size) (hbA : ¬ xA E b) (hL : L ≤ 2560) {i : Nat} (hi : i + 5 ≤ L) (hV : xLv E s H locs) (hl : lv_has ls 7 (xLs E b i)) (hc : cells + 3 ≤ room_1.cells ∧ slots + 18 ≤ room_1.slots)
    (kk : ∀ (H1 : Heap) (locs1 : List Loc) (ls1 : Array Slot), lv_has ls1 7 (xLs E b i) → xLv E s H1 locs1 → W p l e room_1 s m args below meth c H1 locs1 (cells + 3) (slots + 18) Q (F0 m 1731 ls1 [])) : W p l e room_1 s m args below meth c H locs cells slots Q (F0 m 507 ls []) := by
  obtain ⟨Γ, n, f, o, hG, hC, hR, hW⟩ := hV
  refine lv_aload_n S.1 S.2.1 dL_law_507 rfl (lv_at hl 3 rfl) ?_
  refine lw_arg (i := i) (j := 1) S hX hbl hbA hW.2.2.2 (lv_at hl 4 rfl) (lv_at hl 0 rfl) hL (by omega) dL_law_508 dL_law_509 dL_law_511 rfl dL_law_512 dL_law_513 ?_
  refine lv_aload_n S.1 S.2.1 dL_law_514 rfl (lv_at hl 1 rfl) ?_
  refine x_LS (rest := []) S (c_L_pull l E n f o hfl Γ hG hC (xs (i + 1))) (vx_cwSW 3 S.2.2.2.2 gL_law_L_pull rfl rfl rfl (by decide +kernel) ⟨Nat.le_of_ble_eq_true rfl, Nat.le_of_ble_eq_true rfl⟩) hW hTh hNc rfl rfl hl.1 (Nat.le_of_ble_eq_true rfl) dL_law_515 ⟨Nat.le_trans (Nat.add_le_add_left (by decide) _) hc.1, Nat.le_trans (Nat.add_le_add_left (by decide) _) hc.2⟩ (fun r1 σ1 H locs hq hW => ?_)
  obtain ⟨rfl, N, F, o1, rfl, hF1, hp⟩ := hq
  refine lv_istore S.1 S.2.1 dL_law_518 hl (Nat.le_of_ble_eq_true rfl) rfl (fun ls hl => ?_)
  refine lv_aload_n S.1 S.2.1 dL_law_520 rfl (lv_at hl 3 rfl) ?_
  refine lw_arg (i := i) (j := 1) S hX hbl hbA hW.2.2.2 (lv_at hl 5 rfl) (lv_at hl 1 rfl) hL (by omega) dL_law_521 dL_law_522 dL_law_524 rfl dL_law_525 dL_law_526 ?_
  refine x_Vi (rest := []) S (c_X4_pull l E N F o1 Γ hG (hR.fr hF1) (xs (i + 1))) (cwV 1 S.2.2.2.2 gL_law_X4_pull rfl rfl rfl (by decide +kernel) ⟨Nat.le_of_ble_eq_true rfl, Nat.le_of_ble_eq_true rfl⟩) hW 40 (xw_40 E _) rfl rfl rfl hl.1 (Nat.le_of_ble_eq_true rfl) dL_law_527 ⟨Nat.le_trans (Nat.add_le_add_left (by decide) _) hc.1, Nat.le_trans (Nat.add_le_add_left (by decide) _) hc.2⟩ (fun r2 σ2 H locs hq hW => ?_)
  refine lv_istore S.1 S.2.1 dL_law_530 hl (Nat.le_of_ble_eq_true rfl) rfl (fun ls hl => ?_)
  obtain ⟨Γ2, N2, F2, rfl, hG2, hC2, hR2, h10, hv⟩ := xjoin hp hq (fun v w hv hw => hv.trans hw.symm) hG (fun z => og_pull hG z)
  refine lw_tailI (P := 532) S ⟨Nat.le_of_ble_eq_true rfl, Nat.le_of_ble_eq_true rfl⟩ hW hl.1 (lv_at hl 4 rfl) (lv_at hl 3 rfl) (lv_at hl 1 rfl) (lv_at hl 0 rfl) h10 (ocb_Pull _ _) (fun z => (hv z).2) ⟨Nat.le_trans (Nat.add_le_add_left (by decide) _) hc.1, Nat.le_trans (Nat.add_le_add_left (by decide) _) hc.2⟩ (cwV 0 S.2.2.2.2 gL_law_X4_thrown rfl rfl rfl (by decide +kernel) ⟨Nat.le_of_ble_eq_true rfl, Nat.le_of_ble_eq_true rfl⟩) dL_law_532 dL_law_533 dL_law_536 dL_law_538 dL_law_543 dL_law_545 dL_law_548 dL_law_549 dL_law_550 dL_law_551 dL_law_553 dL_law_554 dL_law_555 (fun H locs hW => ?_)
  refine lv_goto S.1 S.2.1 dL_law_560 (tgt := 1731) rfl ?_
  exact W.widen (Nat.add_le_add_left (by decide) _) (Nat.add_le_add_left (by decide) _) (kk _ _ _ (lv_sub hl [2, 3, 4, 5, 6] rfl) ⟨Γ2, N2, F2, o1, hG2, hC2, hR2, hW⟩)
set_option maxHeartbeats 4000000 in
theorem lc_5 (S : CallFix p m c cL_law 7 s args wsL_law RL) (hfl : l.stackTraces = false) (hTh : xTh E s) (hNc : xNc s) (hX : va_X b L xs s s.heap) (hbl : b < s.heap.size) (hbA : ¬ xA E b) (hL : L ≤ 2560) {i : Nat} (hi : i + 5 ≤ L) (hV : xLv E s H locs) (hl : lv_has ls 7 (xLs E b i)) (hc : cells + 3 ≤ room_1.cells ∧ slots + 18 ≤ room_1.slots)
    (kk : ∀ (H1 : Heap) (locs1 : List Loc) (ls1 : Array Slot), lv_has ls1 7 (xLs E b i) → xLv E s H1 locs1 → W p l e room_1 s m args below meth c H1 locs1 (cells + 3) (slots + 18) Q (F0 m 1731 ls1 [])) : W p l e room_1 s m args below meth c H locs cells slots Q (F0 m 563 ls []) := by
  obtain ⟨Γ, n, f, o, hG, hC, hR, hW⟩ := hV
  refine lv_aload_n S.1 S.2.1 dL_law_563 rfl (lv_at hl 3 rfl) ?_
  refine lw_arg (i := i) (j := 1) S hX hbl hbA hW.2.2.2 (lv_at hl 4 rfl) (lv_at hl 0 rfl) hL (by omega) dL_law_564 dL_law_565 dL_law_567 rfl dL_law_568 dL_law_569 ?_
  refine lw_arg (i := i) (j := 2) S hX hbl hbA hW.2.2.2 (lv_at hl 4 rfl) (lv_at hl 0 rfl) hL (by omega) dL_law_570 dL_law_571 dL_law_573 rfl dL_law_574 dL_law_575 ?_
  refine lv_aload_n S.1 S.2.1 dL_law_576 rfl (lv_at hl 1 rfl) ?_
  refine x_LS (rest := []) S (c_L_addMove l E n f o hfl Γ hG hC (xs (i + 1)) (xs (i + 2))) (vx_cwSW 4 S.2.2.2.2 gL_law_L_addMove rfl rfl rfl (by decide +kernel) ⟨Nat.le_of_ble_eq_true rfl, Nat.le_of_ble_eq_true rfl⟩) hW hTh hNc rfl rfl hl.1 (Nat.le_of_ble_eq_true rfl) dL_law_577 ⟨Nat.le_trans (Nat.add_le_add_left (by decide) _) hc.1, Nat.le_trans (Nat.add_le_add_left (by decide) _) hc.2⟩ (fun r1 σ1 H locs hq hW => ?_)
  obtain ⟨rfl, N, F, o1, rfl, hF1, hp⟩ := hq
  refine lv_istore S.1 S.2.1 dL_law_580 hl (Nat.le_of_ble_eq_true rfl) rfl (fun ls hl => ?_)
  refine lv_aload_n S.1 S.2.1 dL_law_582 rfl (lv_at hl 3 rfl) ?_
  refine lw_arg (i := i) (j := 1) S hX hbl hbA hW.2.2.2 (lv_at hl 5 rfl) (lv_at hl 1 rfl) hL (by omega) dL_law_583 dL_law_584 dL_law_586 rfl dL_law_587 dL_law_588 ?_
  refine lw_arg (i := i) (j := 2) S hX hbl hbA hW.2.2.2 (lv_at hl 5 rfl) (lv_at hl 1 rfl) hL (by omega) dL_law_589 dL_law_590 dL_law_592 rfl dL_law_593 dL_law_594 ?_
  refine x_Vi (rest := []) S (c_X4_addMove l E N F o1 Γ hG (hR.fr hF1) (xs (i + 1)) (xs (i + 2))) (cwV 2 S.2.2.2.2 gL_law_X4_addMove rfl rfl rfl (by decide +kernel) ⟨Nat.le_of_ble_eq_true rfl, Nat.le_of_ble_eq_true rfl⟩) hW 40 (xw_40 E _) rfl rfl rfl hl.1 (Nat.le_of_ble_eq_true rfl) dL_law_595 ⟨Nat.le_trans (Nat.add_le_add_left (by decide) _) hc.1, Nat.le_trans (Nat.add_le_add_left (by decide) _) hc.2⟩ (fun r2 σ2 H locs hq hW => ?_)
  refine lv_istore S.1 S.2.1 dL_law_598 hl (Nat.le_of_ble_eq_true rfl) rfl (fun ls hl => ?_)
  obtain ⟨Γ2, N2, F2, rfl, hG2, hC2, hR2, h10, hv⟩ := xjoin hp hq (fun v w hv hw => hv.trans hw.symm) hG (fun z => og_move hG z)
  refine lw_tailI (P := 600) S ⟨Nat.le_of_ble_eq_true rfl, Nat.le_of_ble_eq_true rfl⟩ hW hl.1 (lv_at hl 4 rfl) (lv_at hl 3 rfl) (lv_at hl 1 rfl) (lv_at hl 0 rfl) h10 (ocb_Move _ _ _) (fun z => (hv z).2) ⟨Nat.le_trans (Nat.add_le_add_left (by decide) _) hc.1, Nat.le_trans (Nat.add_le_add_left (by decide) _) hc.2⟩ (cwV 0 S.2.2.2.2 gL_law_X4_thrown rfl rfl rfl (by decide +kernel) ⟨Nat.le_of_ble_eq_true rfl, Nat.le_of_ble_eq_true rfl⟩) dL_law_600 dL_law_601 dL_law_604 dL_law_606 dL_law_611 dL_law_613 dL_law_616 dL_law_617 dL_law_618 dL_law_619 dL_law_621 dL_law_622 dL_law_623 (fun H locs hW => ?_)
  refine lv_goto S.1 S.2.1 dL_law_628 (tgt := 1731) rfl ?_
  exact W.widen (Nat.add_le_add_left (by decide) _) (Nat.add_le_add_left (by decide) _) (kk _ _ _ (lv_sub hl [2, 3, 4, 5, 6] rfl) ⟨Γ2, N2, F2, o1, hG2, hC2, hR2, hW⟩)
set_option maxHeartbeats 4000000 in
theorem lc_6 (S : CallFix p m c cL_law 7 s args wsL_law RL) (hfl : l.stackTraces = false) (hTh : xTh E s) (hNc : xNc s) (hX : va_X b L xs s s.heap) (hbl : b < s.heap.size) (hbA : ¬ xA E b) (hL : L ≤ 2560) {i : Nat} (hi : i + 5 ≤ L) (hV : xLv E s H locs) (hl : lv_has ls 7 (xLs E b i)) (hc : cells + 3 ≤ room_1.cells ∧ slots + 18 ≤ room_1.slots)
    (kk : ∀ (H1 : Heap) (locs1 : List Loc) (ls1 : Array Slot), lv_has ls1 7 (xLs E b i) → xLv E s H1 locs1 → W p l e room_1 s m args below meth c H1 locs1 (cells + 3) (slots + 18) Q (F0 m 1731 ls1 [])) : W p l e room_1 s m args below meth c H locs cells slots Q (F0 m 631 ls []) := by
  obtain ⟨Γ, n, f, o, hG, hC, hR, hW⟩ := hV
  refine lv_aload_n S.1 S.2.1 dL_law_631 rfl (lv_at hl 3 rfl) ?_
  refine x_Vi (rest := []) S (c_X3_dropPlan l E n f o Γ hG hC) (cwV 0 S.2.2.2.2 gL_law_X3_dropPlan rfl rfl rfl (by decide +kernel) ⟨Nat.le_of_ble_eq_true rfl, Nat.le_of_ble_eq_true rfl⟩) hW 0 (xw_0 E _) rfl rfl rfl hl.1 (Nat.le_of_ble_eq_true rfl) dL_law_632 ⟨Nat.le_trans (Nat.le_add_right _ _) hc.1, Nat.le_trans (Nat.le_add_right _ _) hc.2⟩ (fun r1 σ1 H locs hq hW => ?_)
  obtain ⟨hr1, N, F, rfl, hC1, hF1⟩ := hq
  refine lv_aload_n S.1 S.2.1 dL_law_635 rfl (lv_at hl 2 rfl) ?_
  refine x_Vi (rest := [.int r1]) S (c_X4_dropPlan l E N F o Γ hG (hR.fr hF1)) (cwV 0 S.2.2.2.2 gL_law_X4_dropPlan rfl rfl rfl (by decide +kernel) ⟨Nat.le_of_ble_eq_true rfl, Nat.le_of_ble_eq_true rfl⟩) hW 40 (xw_40 E _) rfl rfl rfl hl.1 (Nat.le_of_ble_eq_true rfl) dL_law_636 ⟨Nat.le_trans (Nat.le_add_right _ _) hc.1, Nat.le_trans (Nat.le_add_right _ _) hc.2⟩ (fun r2 σ2 H locs hq hW => ?_)
  obtain ⟨hr2, N2, F2, rfl, hR2, hF2, -⟩ := hq
  exact lv_icmp_eq S.1 S.2.1 dL_law_639 (tgt := 1731) rfl (fun _ => W.widen (Nat.le_add_right _ _) (Nat.le_add_right _ _) (kk _ _ _ hl ⟨_, N2, F2, o, (good_drop hG), hC1.fr hF2, hR2, hW⟩)) (fun h => absurd (by rw [hr1, hr2]) h)
set_option maxHeartbeats 4000000 in
theorem lc_7 (S : CallFix p m c cL_law 7 s args wsL_law RL) (hfl : l.stackTraces = false) (hTh : xTh E s) (hNc : xNc s) (hX : va_X b L xs s s.heap) (hbl : b < s.heap.size) (hbA : ¬ xA E b) (hL : L ≤ 2560) {i : Nat} (hi : i + 5 ≤ L) (hV : xLv E s H locs) (hl : lv_has ls 7 (xLs E b i)) (hc : cells + 3 ≤ room_1.cells ∧ slots + 18 ≤ room_1.slots)
    (kk : ∀ (H1 : Heap) (locs1 : List Loc) (ls1 : Array Slot), lv_has ls1 7 (xLs E b i) → xLv E s H1 locs1 → W p l e room_1 s m args below meth c H1 locs1 (cells + 3) (slots + 18) Q (F0 m 1731 ls1 [])) : W p l e room_1 s m args below meth c H locs cells slots Q (F0 m 644 ls []) := by
  obtain ⟨Γ, n, f, o, hG, hC, hR, hW⟩ := hV
  refine lv_aload_n S.1 S.2.1 dL_law_644 rfl (lv_at hl 3 rfl) ?_
  refine lv_aload_n S.1 S.2.1 dL_law_645 rfl (lv_at hl 1 rfl) ?_
  refine x_LS (rest := []) S (c_L_carryOut l E n f o hfl Γ hG hC) (vx_cwSW 2 S.2.2.2.2 gL_law_L_carryOut rfl rfl rfl (by decide +kernel) ⟨Nat.le_of_ble_eq_true rfl, Nat.le_of_ble_eq_true rfl⟩) hW hTh hNc rfl rfl hl.1 (Nat.le_of_ble_eq_true rfl) dL_law_646 ⟨Nat.le_trans (Nat.add_le_add_left (by decide) _) hc.1, Nat.le_trans (Nat.add_le_add_left (by decide) _) hc.2⟩ (fun r1 σ1 H locs hq hW => ?_)
  obtain ⟨rfl, N, F, o1, rfl, hF1, hp⟩ := hq
  refine lv_istore S.1 S.2.1 dL_law_649 hl (Nat.le_of_ble_eq_true rfl) rfl (fun ls hl => ?_)
  refine lv_aload_n S.1 S.2.1 dL_law_651 rfl (lv_at hl 3 rfl) ?_
  refine x_Vi (rest := []) S (c_X4_carryOut l E N F o1 Γ hG (hR.fr hF1)) (cwV 0 S.2.2.2.2 gL_law_X4_carryOut rfl rfl rfl (by decide +kernel) ⟨Nat.le_of_ble_eq_true rfl, Nat.le_of_ble_eq_true rfl⟩) hW 40 (xw_40 E _) rfl rfl rfl hl.1 (Nat.le_of_ble_eq_true rfl) dL_law_652 ⟨Nat.le_trans (Nat.add_le_add_left (by decide) _) hc.1, Nat.le_trans (Nat.add_le_add_left (by decide) _) hc.2⟩ (fun r2 σ2 H locs hq hW => ?_)
  refine lv_istore S.1 S.2.1 dL_law_655 hl (Nat.le_of_ble_eq_true rfl) rfl (fun ls hl => ?_)
  obtain ⟨Γ2, N2, F2, rfl, hG2, hC2, hR2, h10, hv⟩ := xjoin hp hq (fun v w hv hw => hv.trans hw.symm) hG (fun z => og_carry hG z)
  refine lw_tailI (P := 657) S ⟨Nat.le_of_ble_eq_true rfl, Nat.le_of_ble_eq_true rfl⟩ hW hl.1 (lv_at hl 4 rfl) (lv_at hl 3 rfl) (lv_at hl 1 rfl) (lv_at hl 0 rfl) h10 (ocb_Carry _) (fun z => (hv z).2) ⟨Nat.le_trans (Nat.add_le_add_left (by decide) _) hc.1, Nat.le_trans (Nat.add_le_add_left (by decide) _) hc.2⟩ (cwV 0 S.2.2.2.2 gL_law_X4_thrown rfl rfl rfl (by decide +kernel) ⟨Nat.le_of_ble_eq_true rfl, Nat.le_of_ble_eq_true rfl⟩) dL_law_657 dL_law_658 dL_law_661 dL_law_663 dL_law_668 dL_law_670 dL_law_673 dL_law_674 dL_law_675 dL_law_676 dL_law_678 dL_law_679 dL_law_680 (fun H locs hW => ?_)
  refine lv_goto S.1 S.2.1 dL_law_685 (tgt := 1731) rfl ?_
  exact W.widen (Nat.add_le_add_left (by decide) _) (Nat.add_le_add_left (by decide) _) (kk _ _ _ (lv_sub hl [2, 3, 4, 5, 6] rfl) ⟨Γ2, N2, F2, o1, hG2, hC2, hR2, hW⟩)
set_option maxHeartbeats 4000000 in
theorem lc_8 (S : CallFix p m c cL_law 7 s args wsL_law RL) (hfl : l.stackTraces = false) (hTh : xTh E s) (hNc : xNc s) (hX : va_X b L xs s s.heap) (hbl : b < s.heap.size) (hbA : ¬ xA E b) (hL : L ≤ 2560) {i : Nat} (hi : i + 5 ≤ L) (hV : xLv E s H locs) (hl : lv_has ls 7 (xLs E b i)) (hc : cells + 3 ≤ room_1.cells ∧ slots + 18 ≤ room_1.slots)
    (kk : ∀ (H1 : Heap) (locs1 : List Loc) (ls1 : Array Slot), lv_has ls1 7 (xLs E b i) → xLv E s H1 locs1 → W p l e room_1 s m args below meth c H1 locs1 (cells + 3) (slots + 18) Q (F0 m 1731 ls1 [])) : W p l e room_1 s m args below meth c H locs cells slots Q (F0 m 688 ls []) := by
  obtain ⟨Γ, n, f, o, hG, hC, hR, hW⟩ := hV
  refine lv_aload_n S.1 S.2.1 dL_law_688 rfl (lv_at hl 3 rfl) ?_
  refine x_Vi (rest := []) S (c_X3_ports l E n f o Γ hG hC) (cwV 0 S.2.2.2.2 gL_law_X3_ports rfl rfl rfl (by decide +kernel) ⟨Nat.le_of_ble_eq_true rfl, Nat.le_of_ble_eq_true rfl⟩) hW 0 (xw_0 E _) rfl rfl rfl hl.1 (Nat.le_of_ble_eq_true rfl) dL_law_689 ⟨Nat.le_trans (Nat.le_add_right _ _) hc.1, Nat.le_trans (Nat.le_add_right _ _) hc.2⟩ (fun r1 σ1 H locs hq hW => ?_)
  obtain ⟨hr1, N, F, rfl, hC1, hF1⟩ := hq
  refine lv_aload_n S.1 S.2.1 dL_law_692 rfl (lv_at hl 2 rfl) ?_
  refine x_Vi (rest := [.int r1]) S (c_X4_ports l E N F o Γ hG (hR.fr hF1)) (cwV 0 S.2.2.2.2 gL_law_X4_ports rfl rfl rfl (by decide +kernel) ⟨Nat.le_of_ble_eq_true rfl, Nat.le_of_ble_eq_true rfl⟩) hW 40 (xw_40 E _) rfl rfl rfl hl.1 (Nat.le_of_ble_eq_true rfl) dL_law_693 ⟨Nat.le_trans (Nat.le_add_right _ _) hc.1, Nat.le_trans (Nat.le_add_right _ _) hc.2⟩ (fun r2 σ2 H locs hq hW => ?_)
  obtain ⟨hr2, N2, F2, rfl, hR2, hF2, -⟩ := hq
  exact lv_icmp_eq S.1 S.2.1 dL_law_696 (tgt := 1731) rfl (fun _ => W.widen (Nat.le_add_right _ _) (Nat.le_add_right _ _) (kk _ _ _ hl ⟨_, N2, F2, o, hG, hC1.fr hF2, hR2, hW⟩)) (fun h => absurd (by rw [hr1, hr2]) h)
set_option maxHeartbeats 4000000 in
theorem lc_9 (S : CallFix p m c cL_law 7 s args wsL_law RL) (hfl : l.stackTraces = false) (hTh : xTh E s) (hNc : xNc s) (hX : va_X b L xs s s.heap) (hbl : b < s.heap.size) (hbA : ¬ xA E b) (hL : L ≤ 2560) {i : Nat} (hi : i + 5 ≤ L) (hV : xLv E s H locs) (hl : lv_has ls 7 (xLs E b i)) (hc : cells + 3 ≤ room_1.cells ∧ slots + 18 ≤ room_1.slots)
    (kk : ∀ (H1 : Heap) (locs1 : List Loc) (ls1 : Array Slot), lv_has ls1 7 (xLs E b i) → xLv E s H1 locs1 → W p l e room_1 s m args below meth c H1 locs1 (cells + 3) (slots + 18) Q (F0 m 1731 ls1 [])) : W p l e room_1 s m args below meth c H locs cells slots Q (F0 m 701 ls []) := by
  obtain ⟨Γ, n, f, o, hG, hC, hR, hW⟩ := hV
  refine lv_aload_n S.1 S.2.1 dL_law_701 rfl (lv_at hl 3 rfl) ?_
  refine x_Vi (rest := []) S (c_X3_trunks l E n f o Γ hG hC) (cwV 0 S.2.2.2.2 gL_law_X3_trunks rfl rfl rfl (by decide +kernel) ⟨Nat.le_of_ble_eq_true rfl, Nat.le_of_ble_eq_true rfl⟩) hW 0 (xw_0 E _) rfl rfl rfl hl.1 (Nat.le_of_ble_eq_true rfl) dL_law_702 ⟨Nat.le_trans (Nat.le_add_right _ _) hc.1, Nat.le_trans (Nat.le_add_right _ _) hc.2⟩ (fun r1 σ1 H locs hq hW => ?_)
  obtain ⟨hr1, N, F, rfl, hC1, hF1⟩ := hq
  refine lv_aload_n S.1 S.2.1 dL_law_705 rfl (lv_at hl 2 rfl) ?_
  refine x_Vi (rest := [.int r1]) S (c_X4_trunks l E N F o Γ hG (hR.fr hF1)) (cwV 0 S.2.2.2.2 gL_law_X4_trunks rfl rfl rfl (by decide +kernel) ⟨Nat.le_of_ble_eq_true rfl, Nat.le_of_ble_eq_true rfl⟩) hW 40 (xw_40 E _) rfl rfl rfl hl.1 (Nat.le_of_ble_eq_true rfl) dL_law_706 ⟨Nat.le_trans (Nat.le_add_right _ _) hc.1, Nat.le_trans (Nat.le_add_right _ _) hc.2⟩ (fun r2 σ2 H locs hq hW => ?_)
  obtain ⟨hr2, N2, F2, rfl, hR2, hF2, -⟩ := hq
  exact lv_icmp_eq S.1 S.2.1 dL_law_709 (tgt := 1731) rfl (fun _ => W.widen (Nat.le_add_right _ _) (Nat.le_add_right _ _) (kk _ _ _ hl ⟨_, N2, F2, o, hG, hC1.fr hF2, hR2, hW⟩)) (fun h => absurd (by rw [hr1, hr2]) h)
set_option maxHeartbeats 4000000 in
theorem lc_10 (S : CallFix p m c cL_law 7 s args wsL_law RL) (hfl : l.stackTraces = false) (hTh : xTh E s) (hNc : xNc s) (hX : va_X b L xs s s.heap) (hbl : b < s.heap.size) (hbA : ¬ xA E b) (hL : L ≤ 2560) {i : Nat} (hi : i + 5 ≤ L) (hV : xLv E s H locs) (hl : lv_has ls 7 (xLs E b i)) (hc : cells + 3 ≤ room_1.cells ∧ slots + 18 ≤ room_1.slots)
    (kk : ∀ (H1 : Heap) (locs1 : List Loc) (ls1 : Array Slot), lv_has ls1 7 (xLs E b i) → xLv E s H1 locs1 → W p l e room_1 s m args below meth c H1 locs1 (cells + 3) (slots + 18) Q (F0 m 1731 ls1 [])) : W p l e room_1 s m args below meth c H locs cells slots Q (F0 m 714 ls []) := by
  obtain ⟨Γ, n, f, o, hG, hC, hR, hW⟩ := hV
  refine lv_aload_n S.1 S.2.1 dL_law_714 rfl (lv_at hl 3 rfl) ?_
  refine x_Vi (rest := []) S (c_X3_cables l E n f o Γ hG hC) (cwV 0 S.2.2.2.2 gL_law_X3_cables rfl rfl rfl (by decide +kernel) ⟨Nat.le_of_ble_eq_true rfl, Nat.le_of_ble_eq_true rfl⟩) hW 0 (xw_0 E _) rfl rfl rfl hl.1 (Nat.le_of_ble_eq_true rfl) dL_law_715 ⟨Nat.le_trans (Nat.le_add_right _ _) hc.1, Nat.le_trans (Nat.le_add_right _ _) hc.2⟩ (fun r1 σ1 H locs hq hW => ?_)
  obtain ⟨hr1, N, F, rfl, hC1, hF1⟩ := hq
  refine lv_aload_n S.1 S.2.1 dL_law_718 rfl (lv_at hl 2 rfl) ?_
  refine x_Vi (rest := [.int r1]) S (c_X4_cables l E N F o Γ hG (hR.fr hF1)) (cwV 0 S.2.2.2.2 gL_law_X4_cables rfl rfl rfl (by decide +kernel) ⟨Nat.le_of_ble_eq_true rfl, Nat.le_of_ble_eq_true rfl⟩) hW 40 (xw_40 E _) rfl rfl rfl hl.1 (Nat.le_of_ble_eq_true rfl) dL_law_719 ⟨Nat.le_trans (Nat.le_add_right _ _) hc.1, Nat.le_trans (Nat.le_add_right _ _) hc.2⟩ (fun r2 σ2 H locs hq hW => ?_)
  obtain ⟨hr2, N2, F2, rfl, hR2, hF2, -⟩ := hq
  exact lv_icmp_eq S.1 S.2.1 dL_law_722 (tgt := 1731) rfl (fun _ => W.widen (Nat.le_add_right _ _) (Nat.le_add_right _ _) (kk _ _ _ hl ⟨_, N2, F2, o, hG, hC1.fr hF2, hR2, hW⟩)) (fun h => absurd (by rw [hr1, hr2, xmatch (by have := hG.no; omega) hG.cb]) h)
set_option maxHeartbeats 4000000 in
theorem lc_11 (S : CallFix p m c cL_law 7 s args wsL_law RL) (hfl : l.stackTraces = false) (hTh : xTh E s) (hNc : xNc s) (hX : va_X b L xs s s.heap) (hbl : b < s.heap.size) (hbA : ¬ xA E b) (hL : L ≤ 2560) {i : Nat} (hi : i + 5 ≤ L) (hV : xLv E s H locs) (hl : lv_has ls 7 (xLs E b i)) (hc : cells + 3 ≤ room_1.cells ∧ slots + 18 ≤ room_1.slots)
    (kk : ∀ (H1 : Heap) (locs1 : List Loc) (ls1 : Array Slot), lv_has ls1 7 (xLs E b i) → xLv E s H1 locs1 → W p l e room_1 s m args below meth c H1 locs1 (cells + 3) (slots + 18) Q (F0 m 1731 ls1 [])) : W p l e room_1 s m args below meth c H locs cells slots Q (F0 m 727 ls []) := by
  obtain ⟨Γ, n, f, o, hG, hC, hR, hW⟩ := hV
  refine lv_aload_n S.1 S.2.1 dL_law_727 rfl (lv_at hl 3 rfl) ?_
  refine lw_arg (i := i) (j := 1) S hX hbl hbA hW.2.2.2 (lv_at hl 4 rfl) (lv_at hl 0 rfl) hL (by omega) dL_law_728 dL_law_729 dL_law_731 rfl dL_law_732 dL_law_733 ?_
  refine lv_aload_n S.1 S.2.1 dL_law_734 rfl (lv_at hl 1 rfl) ?_
  refine x_LS (rest := []) S (c_L_panelOf l E n f o hfl Γ hG hC (xs (i + 1))) (vx_cwSW 3 S.2.2.2.2 gL_law_L_panelOf rfl rfl rfl (by decide +kernel) ⟨Nat.le_of_ble_eq_true rfl, Nat.le_of_ble_eq_true rfl⟩) hW hTh hNc rfl rfl hl.1 (Nat.le_of_ble_eq_true rfl) dL_law_735 ⟨Nat.le_trans (Nat.add_le_add_left (by decide) _) hc.1, Nat.le_trans (Nat.add_le_add_left (by decide) _) hc.2⟩ (fun r1 σ1 H locs hq hW => ?_)
  obtain ⟨rfl, N, F, o1, rfl, hF1, hp⟩ := hq
  refine lv_istore S.1 S.2.1 dL_law_738 hl (Nat.le_of_ble_eq_true rfl) rfl (fun ls hl => ?_)
  refine lv_aload_n S.1 S.2.1 dL_law_740 rfl (lv_at hl 3 rfl) ?_
  refine lw_arg (i := i) (j := 1) S hX hbl hbA hW.2.2.2 (lv_at hl 5 rfl) (lv_at hl 1 rfl) hL (by omega) dL_law_741 dL_law_742 dL_law_744 rfl dL_law_745 dL_law_746 ?_
  refine x_Vi (rest := []) S (c_X4_panelOf l E N F o1 Γ hG (hR.fr hF1) (xs (i + 1))) (cwV 1 S.2.2.2.2 gL_law_X4_panelOf rfl rfl rfl (by decide +kernel) ⟨Nat.le_of_ble_eq_true rfl, Nat.le_of_ble_eq_true rfl⟩) hW 40 (xw_40 E _) rfl rfl rfl hl.1 (Nat.le_of_ble_eq_true rfl) dL_law_747 ⟨Nat.le_trans (Nat.add_le_add_left (by decide) _) hc.1, Nat.le_trans (Nat.add_le_add_left (by decide) _) hc.2⟩ (fun r2 σ2 H locs hq hW => ?_)
  refine lv_istore S.1 S.2.1 dL_law_750 hl (Nat.le_of_ble_eq_true rfl) rfl (fun ls hl => ?_)
  obtain ⟨Γ2, N2, F2, rfl, hG2, hC2, hR2, h10, hv⟩ := xjoin hp hq (fun v w hv hw => hv.trans hw.symm) hG (fun _ => hG)
  refine lw_tailI (P := 752) S ⟨Nat.le_of_ble_eq_true rfl, Nat.le_of_ble_eq_true rfl⟩ hW hl.1 (lv_at hl 4 rfl) (lv_at hl 3 rfl) (lv_at hl 1 rfl) (lv_at hl 0 rfl) h10 (ocb_Port _ _) (fun z => (hv z).2) ⟨Nat.le_trans (Nat.add_le_add_left (by decide) _) hc.1, Nat.le_trans (Nat.add_le_add_left (by decide) _) hc.2⟩ (cwV 0 S.2.2.2.2 gL_law_X4_thrown rfl rfl rfl (by decide +kernel) ⟨Nat.le_of_ble_eq_true rfl, Nat.le_of_ble_eq_true rfl⟩) dL_law_752 dL_law_753 dL_law_756 dL_law_758 dL_law_763 dL_law_765 dL_law_768 dL_law_769 dL_law_770 dL_law_771 dL_law_773 dL_law_774 dL_law_775 (fun H locs hW => ?_)
  refine lv_goto S.1 S.2.1 dL_law_780 (tgt := 1731) rfl ?_
  exact W.widen (Nat.add_le_add_left (by decide) _) (Nat.add_le_add_left (by decide) _) (kk _ _ _ (lv_sub hl [2, 3, 4, 5, 6] rfl) ⟨Γ2, N2, F2, o1, hG2, hC2, hR2, hW⟩)
set_option maxHeartbeats 4000000 in
theorem lc_12 (S : CallFix p m c cL_law 7 s args wsL_law RL) (hfl : l.stackTraces = false) (hTh : xTh E s) (hNc : xNc s) (hX : va_X b L xs s s.heap) (hbl : b < s.heap.size) (hbA : ¬ xA E b) (hL : L ≤ 2560) {i : Nat} (hi : i + 5 ≤ L) (hV : xLv E s H locs) (hl : lv_has ls 7 (xLs E b i)) (hc : cells + 3 ≤ room_1.cells ∧ slots + 18 ≤ room_1.slots)
    (kk : ∀ (H1 : Heap) (locs1 : List Loc) (ls1 : Array Slot), lv_has ls1 7 (xLs E b i) → xLv E s H1 locs1 → W p l e room_1 s m args below meth c H1 locs1 (cells + 3) (slots + 18) Q (F0 m 1731 ls1 [])) : W p l e room_1 s m args below meth c H locs cells slots Q (F0 m 783 ls []) := by
  obtain ⟨Γ, n, f, o, hG, hC, hR, hW⟩ := hV
  refine lv_aload_n S.1 S.2.1 dL_law_783 rfl (lv_at hl 3 rfl) ?_
  refine lw_arg (i := i) (j := 1) S hX hbl hbA hW.2.2.2 (lv_at hl 4 rfl) (lv_at hl 0 rfl) hL (by omega) dL_law_784 dL_law_785 dL_law_787 rfl dL_law_788 dL_law_789 ?_
  refine lv_aload_n S.1 S.2.1 dL_law_790 rfl (lv_at hl 1 rfl) ?_
  refine x_LS (rest := []) S (c_L_byCable l E n f o hfl Γ hG hC (xs (i + 1))) (vx_cwSW 3 S.2.2.2.2 gL_law_L_byCable rfl rfl rfl (by decide +kernel) ⟨Nat.le_of_ble_eq_true rfl, Nat.le_of_ble_eq_true rfl⟩) hW hTh hNc rfl rfl hl.1 (Nat.le_of_ble_eq_true rfl) dL_law_791 ⟨Nat.le_trans (Nat.add_le_add_left (by decide) _) hc.1, Nat.le_trans (Nat.add_le_add_left (by decide) _) hc.2⟩ (fun r1 σ1 H locs hq hW => ?_)
  obtain ⟨rfl, N, F, o1, rfl, hF1, hp⟩ := hq
  refine lv_istore S.1 S.2.1 dL_law_794 hl (Nat.le_of_ble_eq_true rfl) rfl (fun ls hl => ?_)
  refine lv_aload_n S.1 S.2.1 dL_law_796 rfl (lv_at hl 3 rfl) ?_
  refine lw_arg (i := i) (j := 1) S hX hbl hbA hW.2.2.2 (lv_at hl 5 rfl) (lv_at hl 1 rfl) hL (by omega) dL_law_797 dL_law_798 dL_law_800 rfl dL_law_801 dL_law_802 ?_
  refine x_Vi (rest := []) S (c_X4_byCable l E N F o1 Γ hG (hR.fr hF1) (xs (i + 1))) (cwV 1 S.2.2.2.2 gL_law_X4_byCable rfl rfl rfl (by decide +kernel) ⟨Nat.le_of_ble_eq_true rfl, Nat.le_of_ble_eq_true rfl⟩) hW 40 (xw_40 E _) rfl rfl rfl hl.1 (Nat.le_of_ble_eq_true rfl) dL_law_803 ⟨Nat.le_trans (Nat.add_le_add_left (by decide) _) hc.1, Nat.le_trans (Nat.add_le_add_left (by decide) _) hc.2⟩ (fun r2 σ2 H locs hq hW => ?_)
  refine lv_istore S.1 S.2.1 dL_law_806 hl (Nat.le_of_ble_eq_true rfl) rfl (fun ls hl => ?_)
  obtain ⟨Γ2, N2, F2, rfl, hG2, hC2, hR2, h10, hv⟩ := xjoin hp hq (fun v w hv hw => hv.trans hw.symm) hG (fun _ => hG)
  refine lw_tailI (P := 808) S ⟨Nat.le_of_ble_eq_true rfl, Nat.le_of_ble_eq_true rfl⟩ hW hl.1 (lv_at hl 4 rfl) (lv_at hl 3 rfl) (lv_at hl 1 rfl) (lv_at hl 0 rfl) h10 (ocb_Port _ _) (fun z => (hv z).2) ⟨Nat.le_trans (Nat.add_le_add_left (by decide) _) hc.1, Nat.le_trans (Nat.add_le_add_left (by decide) _) hc.2⟩ (cwV 0 S.2.2.2.2 gL_law_X4_thrown rfl rfl rfl (by decide +kernel) ⟨Nat.le_of_ble_eq_true rfl, Nat.le_of_ble_eq_true rfl⟩) dL_law_808 dL_law_809 dL_law_812 dL_law_814 dL_law_819 dL_law_821 dL_law_824 dL_law_825 dL_law_826 dL_law_827 dL_law_829 dL_law_830 dL_law_831 (fun H locs hW => ?_)
  refine lv_goto S.1 S.2.1 dL_law_836 (tgt := 1731) rfl ?_
  exact W.widen (Nat.add_le_add_left (by decide) _) (Nat.add_le_add_left (by decide) _) (kk _ _ _ (lv_sub hl [2, 3, 4, 5, 6] rfl) ⟨Γ2, N2, F2, o1, hG2, hC2, hR2, hW⟩)
set_option maxHeartbeats 4000000 in
theorem lc_13 (S : CallFix p m c cL_law 7 s args wsL_law RL) (hfl : l.stackTraces = false) (hTh : xTh E s) (hNc : xNc s) (hX : va_X b L xs s s.heap) (hbl : b < s.heap.size) (hbA : ¬ xA E b) (hL : L ≤ 2560) {i : Nat} (hi : i + 5 ≤ L) (hV : xLv E s H locs) (hl : lv_has ls 7 (xLs E b i)) (hc : cells + 3 ≤ room_1.cells ∧ slots + 18 ≤ room_1.slots)
    (kk : ∀ (H1 : Heap) (locs1 : List Loc) (ls1 : Array Slot), lv_has ls1 7 (xLs E b i) → xLv E s H1 locs1 → W p l e room_1 s m args below meth c H1 locs1 (cells + 3) (slots + 18) Q (F0 m 1731 ls1 [])) : W p l e room_1 s m args below meth c H locs cells slots Q (F0 m 839 ls []) := by
  obtain ⟨Γ, n, f, o, hG, hC, hR, hW⟩ := hV
  refine lv_aload_n S.1 S.2.1 dL_law_839 rfl (lv_at hl 3 rfl) ?_
  refine lw_arg (i := i) (j := 1) S hX hbl hbA hW.2.2.2 (lv_at hl 4 rfl) (lv_at hl 0 rfl) hL (by omega) dL_law_840 dL_law_841 dL_law_843 rfl dL_law_844 dL_law_845 ?_
  refine lv_aload_n S.1 S.2.1 dL_law_846 rfl (lv_at hl 1 rfl) ?_
  refine x_LS (rest := []) S (c_L_byStrand l E n f o hfl Γ hG hC (xs (i + 1))) (vx_cwSW 3 S.2.2.2.2 gL_law_L_byStrand rfl rfl rfl (by decide +kernel) ⟨Nat.le_of_ble_eq_true rfl, Nat.le_of_ble_eq_true rfl⟩) hW hTh hNc rfl rfl hl.1 (Nat.le_of_ble_eq_true rfl) dL_law_847 ⟨Nat.le_trans (Nat.add_le_add_left (by decide) _) hc.1, Nat.le_trans (Nat.add_le_add_left (by decide) _) hc.2⟩ (fun r1 σ1 H locs hq hW => ?_)
  obtain ⟨rfl, N, F, o1, rfl, hF1, hp⟩ := hq
  refine lv_istore S.1 S.2.1 dL_law_850 hl (Nat.le_of_ble_eq_true rfl) rfl (fun ls hl => ?_)
  refine lv_aload_n S.1 S.2.1 dL_law_852 rfl (lv_at hl 3 rfl) ?_
  refine lw_arg (i := i) (j := 1) S hX hbl hbA hW.2.2.2 (lv_at hl 5 rfl) (lv_at hl 1 rfl) hL (by omega) dL_law_853 dL_law_854 dL_law_856 rfl dL_law_857 dL_law_858 ?_
  refine x_Vi (rest := []) S (c_X4_byStrand l E N F o1 Γ hG (hR.fr hF1) (xs (i + 1))) (cwV 1 S.2.2.2.2 gL_law_X4_byStrand rfl rfl rfl (by decide +kernel) ⟨Nat.le_of_ble_eq_true rfl, Nat.le_of_ble_eq_true rfl⟩) hW 40 (xw_40 E _) rfl rfl rfl hl.1 (Nat.le_of_ble_eq_true rfl) dL_law_859 ⟨Nat.le_trans (Nat.add_le_add_left (by decide) _) hc.1, Nat.le_trans (Nat.add_le_add_left (by decide) _) hc.2⟩ (fun r2 σ2 H locs hq hW => ?_)
  refine lv_istore S.1 S.2.1 dL_law_862 hl (Nat.le_of_ble_eq_true rfl) rfl (fun ls hl => ?_)
  obtain ⟨Γ2, N2, F2, rfl, hG2, hC2, hR2, h10, hv⟩ := xjoin hp hq (fun v w hv hw => hv.trans hw.symm) hG (fun _ => hG)
  refine lw_tailI (P := 864) S ⟨Nat.le_of_ble_eq_true rfl, Nat.le_of_ble_eq_true rfl⟩ hW hl.1 (lv_at hl 4 rfl) (lv_at hl 3 rfl) (lv_at hl 1 rfl) (lv_at hl 0 rfl) h10 (ocb_Port _ _) (fun z => (hv z).2) ⟨Nat.le_trans (Nat.add_le_add_left (by decide) _) hc.1, Nat.le_trans (Nat.add_le_add_left (by decide) _) hc.2⟩ (cwV 0 S.2.2.2.2 gL_law_X4_thrown rfl rfl rfl (by decide +kernel) ⟨Nat.le_of_ble_eq_true rfl, Nat.le_of_ble_eq_true rfl⟩) dL_law_864 dL_law_865 dL_law_868 dL_law_870 dL_law_875 dL_law_877 dL_law_880 dL_law_881 dL_law_882 dL_law_883 dL_law_885 dL_law_886 dL_law_887 (fun H locs hW => ?_)
  refine lv_goto S.1 S.2.1 dL_law_892 (tgt := 1731) rfl ?_
  exact W.widen (Nat.add_le_add_left (by decide) _) (Nat.add_le_add_left (by decide) _) (kk _ _ _ (lv_sub hl [2, 3, 4, 5, 6] rfl) ⟨Γ2, N2, F2, o1, hG2, hC2, hR2, hW⟩)
set_option maxHeartbeats 4000000 in
theorem lc_14 (S : CallFix p m c cL_law 7 s args wsL_law RL) (hfl : l.stackTraces = false) (hTh : xTh E s) (hNc : xNc s) (hX : va_X b L xs s s.heap) (hbl : b < s.heap.size) (hbA : ¬ xA E b) (hL : L ≤ 2560) {i : Nat} (hi : i + 5 ≤ L) (hV : xLv E s H locs) (hl : lv_has ls 7 (xLs E b i)) (hc : cells + 3 ≤ room_1.cells ∧ slots + 18 ≤ room_1.slots)
    (kk : ∀ (H1 : Heap) (locs1 : List Loc) (ls1 : Array Slot), lv_has ls1 7 (xLs E b i) → xLv E s H1 locs1 → W p l e room_1 s m args below meth c H1 locs1 (cells + 3) (slots + 18) Q (F0 m 1731 ls1 [])) : W p l e room_1 s m args below meth c H locs cells slots Q (F0 m 895 ls []) := by
  obtain ⟨Γ, n, f, o, hG, hC, hR, hW⟩ := hV
  refine lv_aload_n S.1 S.2.1 dL_law_895 rfl (lv_at hl 3 rfl) ?_
  refine lw_arg (i := i) (j := 1) S hX hbl hbA hW.2.2.2 (lv_at hl 4 rfl) (lv_at hl 0 rfl) hL (by omega) dL_law_896 dL_law_897 dL_law_899 rfl dL_law_900 dL_law_901 ?_
  refine lv_aload_n S.1 S.2.1 dL_law_902 rfl (lv_at hl 1 rfl) ?_
  refine x_LS (rest := []) S (c_L_colour l E n f o hfl Γ hG hC (xs (i + 1))) (vx_cwSW 3 S.2.2.2.2 gL_law_L_colour rfl rfl rfl (by decide +kernel) ⟨Nat.le_of_ble_eq_true rfl, Nat.le_of_ble_eq_true rfl⟩) hW hTh hNc rfl rfl hl.1 (Nat.le_of_ble_eq_true rfl) dL_law_903 ⟨Nat.le_trans (Nat.add_le_add_left (by decide) _) hc.1, Nat.le_trans (Nat.add_le_add_left (by decide) _) hc.2⟩ (fun r1 σ1 H locs hq hW => ?_)
  obtain ⟨rfl, N, F, o1, rfl, hF1, hp⟩ := hq
  refine lv_istore S.1 S.2.1 dL_law_906 hl (Nat.le_of_ble_eq_true rfl) rfl (fun ls hl => ?_)
  refine lv_aload_n S.1 S.2.1 dL_law_908 rfl (lv_at hl 3 rfl) ?_
  refine lw_arg (i := i) (j := 1) S hX hbl hbA hW.2.2.2 (lv_at hl 5 rfl) (lv_at hl 1 rfl) hL (by omega) dL_law_909 dL_law_910 dL_law_912 rfl dL_law_913 dL_law_914 ?_
  refine x_Vi (rest := []) S (c_X4_colour l E N F o1 Γ hG (hR.fr hF1) (xs (i + 1))) (cwV 1 S.2.2.2.2 gL_law_X4_colour rfl rfl rfl (by decide +kernel) ⟨Nat.le_of_ble_eq_true rfl, Nat.le_of_ble_eq_true rfl⟩) hW 40 (xw_40 E _) rfl rfl rfl hl.1 (Nat.le_of_ble_eq_true rfl) dL_law_915 ⟨Nat.le_trans (Nat.add_le_add_left (by decide) _) hc.1, Nat.le_trans (Nat.add_le_add_left (by decide) _) hc.2⟩ (fun r2 σ2 H locs hq hW => ?_)
  refine lv_istore S.1 S.2.1 dL_law_918 hl (Nat.le_of_ble_eq_true rfl) rfl (fun ls hl => ?_)
  obtain ⟨Γ2, N2, F2, rfl, hG2, hC2, hR2, h10, hv⟩ := xjoin hp hq (fun v w hv hw => hv.trans hw.symm) hG (fun _ => hG)
  refine lw_tailI (P := 920) S ⟨Nat.le_of_ble_eq_true rfl, Nat.le_of_ble_eq_true rfl⟩ hW hl.1 (lv_at hl 4 rfl) (lv_at hl 3 rfl) (lv_at hl 1 rfl) (lv_at hl 0 rfl) h10 (ocb_Port _ _) (fun z => (hv z).2) ⟨Nat.le_trans (Nat.add_le_add_left (by decide) _) hc.1, Nat.le_trans (Nat.add_le_add_left (by decide) _) hc.2⟩ (cwV 0 S.2.2.2.2 gL_law_X4_thrown rfl rfl rfl (by decide +kernel) ⟨Nat.le_of_ble_eq_true rfl, Nat.le_of_ble_eq_true rfl⟩) dL_law_920 dL_law_921 dL_law_924 dL_law_926 dL_law_931 dL_law_933 dL_law_936 dL_law_937 dL_law_938 dL_law_939 dL_law_941 dL_law_942 dL_law_943 (fun H locs hW => ?_)
  refine lv_goto S.1 S.2.1 dL_law_948 (tgt := 1731) rfl ?_
  exact W.widen (Nat.add_le_add_left (by decide) _) (Nat.add_le_add_left (by decide) _) (kk _ _ _ (lv_sub hl [2, 3, 4, 5, 6] rfl) ⟨Γ2, N2, F2, o1, hG2, hC2, hR2, hW⟩)
set_option maxHeartbeats 4000000 in
theorem lc_15 (S : CallFix p m c cL_law 7 s args wsL_law RL) (hfl : l.stackTraces = false) (hTh : xTh E s) (hNc : xNc s) (hX : va_X b L xs s s.heap) (hbl : b < s.heap.size) (hbA : ¬ xA E b) (hL : L ≤ 2560) {i : Nat} (hi : i + 5 ≤ L) (hV : xLv E s H locs) (hl : lv_has ls 7 (xLs E b i)) (hc : cells + 3 ≤ room_1.cells ∧ slots + 18 ≤ room_1.slots)
    (kk : ∀ (H1 : Heap) (locs1 : List Loc) (ls1 : Array Slot), lv_has ls1 7 (xLs E b i) → xLv E s H1 locs1 → W p l e room_1 s m args below meth c H1 locs1 (cells + 3) (slots + 18) Q (F0 m 1731 ls1 [])) : W p l e room_1 s m args below meth c H locs cells slots Q (F0 m 951 ls []) := by
  obtain ⟨Γ, n, f, o, hG, hC, hR, hW⟩ := hV
  refine lv_aload_n S.1 S.2.1 dL_law_951 rfl (lv_at hl 3 rfl) ?_
  refine lw_arg (i := i) (j := 1) S hX hbl hbA hW.2.2.2 (lv_at hl 4 rfl) (lv_at hl 0 rfl) hL (by omega) dL_law_952 dL_law_953 dL_law_955 rfl dL_law_956 dL_law_957 ?_
  refine lw_arg (i := i) (j := 2) S hX hbl hbA hW.2.2.2 (lv_at hl 4 rfl) (lv_at hl 0 rfl) hL (by omega) dL_law_958 dL_law_959 dL_law_961 rfl dL_law_962 dL_law_963 ?_
  refine lw_bool S dL_law_964 dL_law_967 dL_law_968 dL_law_971 ?_
  refine lv_aload_n S.1 S.2.1 dL_law_972 rfl (lv_at hl 1 rfl) ?_
  refine x_LS (rest := []) S (c_L_end l E n f o hfl Γ hG hC (xs (i + 1)) (decide (xs (i + 2) ≠ 0))) (vx_cwSW 4 S.2.2.2.2 gL_law_L_end rfl rfl rfl (by decide +kernel) ⟨Nat.le_of_ble_eq_true rfl, Nat.le_of_ble_eq_true rfl⟩) hW hTh hNc rfl rfl hl.1 (Nat.le_of_ble_eq_true rfl) dL_law_973 ⟨Nat.le_trans (Nat.add_le_add_left (by decide) _) hc.1, Nat.le_trans (Nat.add_le_add_left (by decide) _) hc.2⟩ (fun r1 σ1 H locs hq hW => ?_)
  obtain ⟨rfl, N, F, o1, rfl, hF1, hp⟩ := hq
  refine lv_istore S.1 S.2.1 dL_law_976 hl (Nat.le_of_ble_eq_true rfl) rfl (fun ls hl => ?_)
  refine lv_aload_n S.1 S.2.1 dL_law_978 rfl (lv_at hl 3 rfl) ?_
  refine lw_arg (i := i) (j := 1) S hX hbl hbA hW.2.2.2 (lv_at hl 5 rfl) (lv_at hl 1 rfl) hL (by omega) dL_law_979 dL_law_980 dL_law_982 rfl dL_law_983 dL_law_984 ?_
  refine lw_arg (i := i) (j := 2) S hX hbl hbA hW.2.2.2 (lv_at hl 5 rfl) (lv_at hl 1 rfl) hL (by omega) dL_law_985 dL_law_986 dL_law_988 rfl dL_law_989 dL_law_990 ?_
  refine lw_bool S dL_law_991 dL_law_994 dL_law_995 dL_law_998 ?_
  refine x_Vi (rest := []) S (c_X4_end l E N F o1 Γ hG (hR.fr hF1) (xs (i + 1)) (decide (xs (i + 2) ≠ 0))) (cwV 2 S.2.2.2.2 gL_law_X4_end rfl rfl rfl (by decide +kernel) ⟨Nat.le_of_ble_eq_true rfl, Nat.le_of_ble_eq_true rfl⟩) hW 40 (xw_40 E _) rfl rfl rfl hl.1 (Nat.le_of_ble_eq_true rfl) dL_law_999 ⟨Nat.le_trans (Nat.add_le_add_left (by decide) _) hc.1, Nat.le_trans (Nat.add_le_add_left (by decide) _) hc.2⟩ (fun r2 σ2 H locs hq hW => ?_)
  refine lv_istore S.1 S.2.1 dL_law_1002 hl (Nat.le_of_ble_eq_true rfl) rfl (fun ls hl => ?_)
  obtain ⟨Γ2, N2, F2, rfl, hG2, hC2, hR2, h10, hv⟩ := xjoin hp hq (fun v w hv hw => by obtain ⟨K1, h1, e1⟩ := hv; obtain ⟨K2, h2, e2⟩ := hw; rw [e1, e2, h1.uniq h2]) hG (fun _ => hG)
  refine lw_tailI (P := 1004) S ⟨Nat.le_of_ble_eq_true rfl, Nat.le_of_ble_eq_true rfl⟩ hW hl.1 (lv_at hl 4 rfl) (lv_at hl 3 rfl) (lv_at hl 1 rfl) (lv_at hl 0 rfl) h10 (ocb_Port _ _) (fun z => (hv z).2) ⟨Nat.le_trans (Nat.add_le_add_left (by decide) _) hc.1, Nat.le_trans (Nat.add_le_add_left (by decide) _) hc.2⟩ (cwV 0 S.2.2.2.2 gL_law_X4_thrown rfl rfl rfl (by decide +kernel) ⟨Nat.le_of_ble_eq_true rfl, Nat.le_of_ble_eq_true rfl⟩) dL_law_1004 dL_law_1005 dL_law_1008 dL_law_1010 dL_law_1015 dL_law_1017 dL_law_1020 dL_law_1021 dL_law_1022 dL_law_1023 dL_law_1025 dL_law_1026 dL_law_1027 (fun H locs hW => ?_)
  refine lv_goto S.1 S.2.1 dL_law_1032 (tgt := 1731) rfl ?_
  exact W.widen (Nat.add_le_add_left (by decide) _) (Nat.add_le_add_left (by decide) _) (kk _ _ _ (lv_sub hl [2, 3, 4, 5, 6] rfl) ⟨Γ2, N2, F2, o1, hG2, hC2, hR2, hW⟩)
set_option maxHeartbeats 4000000 in
theorem lc_16 (S : CallFix p m c cL_law 7 s args wsL_law RL) (hfl : l.stackTraces = false) (hTh : xTh E s) (hNc : xNc s) (hX : va_X b L xs s s.heap) (hbl : b < s.heap.size) (hbA : ¬ xA E b) (hL : L ≤ 2560) {i : Nat} (hi : i + 5 ≤ L) (hV : xLv E s H locs) (hl : lv_has ls 7 (xLs E b i)) (hc : cells + 3 ≤ room_1.cells ∧ slots + 18 ≤ room_1.slots)
    (kk : ∀ (H1 : Heap) (locs1 : List Loc) (ls1 : Array Slot), lv_has ls1 7 (xLs E b i) → xLv E s H1 locs1 → W p l e room_1 s m args below meth c H1 locs1 (cells + 3) (slots + 18) Q (F0 m 1731 ls1 [])) : W p l e room_1 s m args below meth c H locs cells slots Q (F0 m 1035 ls []) := by
  obtain ⟨Γ, n, f, o, hG, hC, hR, hW⟩ := hV
  refine lv_aload_n S.1 S.2.1 dL_law_1035 rfl (lv_at hl 3 rfl) ?_
  refine lw_arg (i := i) (j := 1) S hX hbl hbA hW.2.2.2 (lv_at hl 4 rfl) (lv_at hl 0 rfl) hL (by omega) dL_law_1036 dL_law_1037 dL_law_1039 rfl dL_law_1040 dL_law_1041 ?_
  refine lw_arg (i := i) (j := 2) S hX hbl hbA hW.2.2.2 (lv_at hl 4 rfl) (lv_at hl 0 rfl) hL (by omega) dL_law_1042 dL_law_1043 dL_law_1045 rfl dL_law_1046 dL_law_1047 ?_
  refine lw_bool S dL_law_1048 dL_law_1051 dL_law_1052 dL_law_1055 ?_
  refine lv_aload_n S.1 S.2.1 dL_law_1056 rfl (lv_at hl 1 rfl) ?_
  refine x_LS (rest := []) S (c_L_hops l E n f o hfl Γ hG hC (xs (i + 1)) (decide (xs (i + 2) ≠ 0))) (vx_cwSW 4 S.2.2.2.2 gL_law_L_hops rfl rfl rfl (by decide +kernel) ⟨Nat.le_of_ble_eq_true rfl, Nat.le_of_ble_eq_true rfl⟩) hW hTh hNc rfl rfl hl.1 (Nat.le_of_ble_eq_true rfl) dL_law_1057 ⟨Nat.le_trans (Nat.add_le_add_left (by decide) _) hc.1, Nat.le_trans (Nat.add_le_add_left (by decide) _) hc.2⟩ (fun r1 σ1 H locs hq hW => ?_)
  obtain ⟨rfl, N, F, o1, rfl, hF1, hp⟩ := hq
  refine lv_istore S.1 S.2.1 dL_law_1060 hl (Nat.le_of_ble_eq_true rfl) rfl (fun ls hl => ?_)
  refine lv_aload_n S.1 S.2.1 dL_law_1062 rfl (lv_at hl 3 rfl) ?_
  refine lw_arg (i := i) (j := 1) S hX hbl hbA hW.2.2.2 (lv_at hl 5 rfl) (lv_at hl 1 rfl) hL (by omega) dL_law_1063 dL_law_1064 dL_law_1066 rfl dL_law_1067 dL_law_1068 ?_
  refine lw_arg (i := i) (j := 2) S hX hbl hbA hW.2.2.2 (lv_at hl 5 rfl) (lv_at hl 1 rfl) hL (by omega) dL_law_1069 dL_law_1070 dL_law_1072 rfl dL_law_1073 dL_law_1074 ?_
  refine lw_bool S dL_law_1075 dL_law_1078 dL_law_1079 dL_law_1082 ?_
  refine x_Vi (rest := []) S (c_X4_hops l E N F o1 Γ hG (hR.fr hF1) (xs (i + 1)) (decide (xs (i + 2) ≠ 0))) (cwV 2 S.2.2.2.2 gL_law_X4_hops rfl rfl rfl (by decide +kernel) ⟨Nat.le_of_ble_eq_true rfl, Nat.le_of_ble_eq_true rfl⟩) hW 40 (xw_40 E _) rfl rfl rfl hl.1 (Nat.le_of_ble_eq_true rfl) dL_law_1083 ⟨Nat.le_trans (Nat.add_le_add_left (by decide) _) hc.1, Nat.le_trans (Nat.add_le_add_left (by decide) _) hc.2⟩ (fun r2 σ2 H locs hq hW => ?_)
  refine lv_istore S.1 S.2.1 dL_law_1086 hl (Nat.le_of_ble_eq_true rfl) rfl (fun ls hl => ?_)
  obtain ⟨Γ2, N2, F2, rfl, hG2, hC2, hR2, h10, hv⟩ := xjoin hp hq (fun v w hv hw => by obtain ⟨K1, h1, e1⟩ := hv; obtain ⟨K2, h2, e2⟩ := hw; rw [e1, e2, h1.uniq h2]) hG (fun _ => hG)
  refine lw_tailI (P := 1088) S ⟨Nat.le_of_ble_eq_true rfl, Nat.le_of_ble_eq_true rfl⟩ hW hl.1 (lv_at hl 4 rfl) (lv_at hl 3 rfl) (lv_at hl 1 rfl) (lv_at hl 0 rfl) h10 (ocb_Port _ _) (fun z => (hv z).2) ⟨Nat.le_trans (Nat.add_le_add_left (by decide) _) hc.1, Nat.le_trans (Nat.add_le_add_left (by decide) _) hc.2⟩ (cwV 0 S.2.2.2.2 gL_law_X4_thrown rfl rfl rfl (by decide +kernel) ⟨Nat.le_of_ble_eq_true rfl, Nat.le_of_ble_eq_true rfl⟩) dL_law_1088 dL_law_1089 dL_law_1092 dL_law_1094 dL_law_1099 dL_law_1101 dL_law_1104 dL_law_1105 dL_law_1106 dL_law_1107 dL_law_1109 dL_law_1110 dL_law_1111 (fun H locs hW => ?_)
  refine lv_goto S.1 S.2.1 dL_law_1116 (tgt := 1731) rfl ?_
  exact W.widen (Nat.add_le_add_left (by decide) _) (Nat.add_le_add_left (by decide) _) (kk _ _ _ (lv_sub hl [2, 3, 4, 5, 6] rfl) ⟨Γ2, N2, F2, o1, hG2, hC2, hR2, hW⟩)
set_option maxHeartbeats 4000000 in
theorem lc_17 (S : CallFix p m c cL_law 7 s args wsL_law RL) (hfl : l.stackTraces = false) (hTh : xTh E s) (hNc : xNc s) (hX : va_X b L xs s s.heap) (hbl : b < s.heap.size) (hbA : ¬ xA E b) (hL : L ≤ 2560) {i : Nat} (hi : i + 5 ≤ L) (hV : xLv E s H locs) (hl : lv_has ls 7 (xLs E b i)) (hc : cells + 3 ≤ room_1.cells ∧ slots + 18 ≤ room_1.slots)
    (kk : ∀ (H1 : Heap) (locs1 : List Loc) (ls1 : Array Slot), lv_has ls1 7 (xLs E b i) → xLv E s H1 locs1 → W p l e room_1 s m args below meth c H1 locs1 (cells + 3) (slots + 18) Q (F0 m 1731 ls1 [])) : W p l e room_1 s m args below meth c H locs cells slots Q (F0 m 1119 ls []) := by
  obtain ⟨Γ, n, f, o, hG, hC, hR, hW⟩ := hV
  refine lv_aload_n S.1 S.2.1 dL_law_1119 rfl (lv_at hl 3 rfl) ?_
  refine lw_arg (i := i) (j := 1) S hX hbl hbA hW.2.2.2 (lv_at hl 4 rfl) (lv_at hl 0 rfl) hL (by omega) dL_law_1120 dL_law_1121 dL_law_1123 rfl dL_law_1124 dL_law_1125 ?_
  refine lw_arg (i := i) (j := 2) S hX hbl hbA hW.2.2.2 (lv_at hl 4 rfl) (lv_at hl 0 rfl) hL (by omega) dL_law_1126 dL_law_1127 dL_law_1129 rfl dL_law_1130 dL_law_1131 ?_
  refine lw_bool S dL_law_1132 dL_law_1135 dL_law_1136 dL_law_1139 ?_
  refine lw_arg (i := i) (j := 3) S hX hbl hbA hW.2.2.2 (lv_at hl 4 rfl) (lv_at hl 0 rfl) hL (by omega) dL_law_1140 dL_law_1141 dL_law_1143 rfl dL_law_1144 dL_law_1145 ?_
  refine lv_aload_n S.1 S.2.1 dL_law_1146 rfl (lv_at hl 1 rfl) ?_
  refine x_LS (rest := []) S (c_L_hopTo l E n f o hfl Γ hG hC (xs (i + 1)) (decide (xs (i + 2) ≠ 0)) (xs (i + 3))) (vx_cwSW 5 S.2.2.2.2 gL_law_L_hopTo rfl rfl rfl (by decide +kernel) ⟨Nat.le_of_ble_eq_true rfl, Nat.le_of_ble_eq_true rfl⟩) hW hTh hNc rfl rfl hl.1 (Nat.le_of_ble_eq_true rfl) dL_law_1147 ⟨Nat.le_trans (Nat.add_le_add_left (by decide) _) hc.1, Nat.le_trans (Nat.add_le_add_left (by decide) _) hc.2⟩ (fun r1 σ1 H locs hq hW => ?_)
  obtain ⟨rfl, N, F, o1, rfl, hF1, hp⟩ := hq
  refine lv_istore S.1 S.2.1 dL_law_1150 hl (Nat.le_of_ble_eq_true rfl) rfl (fun ls hl => ?_)
  refine lv_aload_n S.1 S.2.1 dL_law_1152 rfl (lv_at hl 3 rfl) ?_
  refine lw_arg (i := i) (j := 1) S hX hbl hbA hW.2.2.2 (lv_at hl 5 rfl) (lv_at hl 1 rfl) hL (by omega) dL_law_1153 dL_law_1154 dL_law_1156 rfl dL_law_1157 dL_law_1158 ?_
  refine lw_arg (i := i) (j := 2) S hX hbl hbA hW.2.2.2 (lv_at hl 5 rfl) (lv_at hl 1 rfl) hL (by omega) dL_law_1159 dL_law_1160 dL_law_1162 rfl dL_law_1163 dL_law_1164 ?_
  refine lw_bool S dL_law_1165 dL_law_1168 dL_law_1169 dL_law_1172 ?_
  refine lw_arg (i := i) (j := 3) S hX hbl hbA hW.2.2.2 (lv_at hl 5 rfl) (lv_at hl 1 rfl) hL (by omega) dL_law_1173 dL_law_1174 dL_law_1176 rfl dL_law_1177 dL_law_1178 ?_
  refine x_Vi (rest := []) S (c_X4_hopTo l E N F o1 Γ hG (hR.fr hF1) (xs (i + 1)) (decide (xs (i + 2) ≠ 0)) (xs (i + 3))) (cwV 3 S.2.2.2.2 gL_law_X4_hopTo rfl rfl rfl (by decide +kernel) ⟨Nat.le_of_ble_eq_true rfl, Nat.le_of_ble_eq_true rfl⟩) hW 40 (xw_40 E _) rfl rfl rfl hl.1 (Nat.le_of_ble_eq_true rfl) dL_law_1179 ⟨Nat.le_trans (Nat.add_le_add_left (by decide) _) hc.1, Nat.le_trans (Nat.add_le_add_left (by decide) _) hc.2⟩ (fun r2 σ2 H locs hq hW => ?_)
  refine lv_istore S.1 S.2.1 dL_law_1182 hl (Nat.le_of_ble_eq_true rfl) rfl (fun ls hl => ?_)
  obtain ⟨Γ2, N2, F2, rfl, hG2, hC2, hR2, h10, hv⟩ := xjoin hp hq (fun v w hv hw => hv.trans hw.symm) hG (fun _ => hG)
  refine lw_tailI (P := 1184) S ⟨Nat.le_of_ble_eq_true rfl, Nat.le_of_ble_eq_true rfl⟩ hW hl.1 (lv_at hl 4 rfl) (lv_at hl 3 rfl) (lv_at hl 1 rfl) (lv_at hl 0 rfl) h10 (ocb_Hop _ _ _ _) (fun z => (hv z).2) ⟨Nat.le_trans (Nat.add_le_add_left (by decide) _) hc.1, Nat.le_trans (Nat.add_le_add_left (by decide) _) hc.2⟩ (cwV 0 S.2.2.2.2 gL_law_X4_thrown rfl rfl rfl (by decide +kernel) ⟨Nat.le_of_ble_eq_true rfl, Nat.le_of_ble_eq_true rfl⟩) dL_law_1184 dL_law_1185 dL_law_1188 dL_law_1190 dL_law_1195 dL_law_1197 dL_law_1200 dL_law_1201 dL_law_1202 dL_law_1203 dL_law_1205 dL_law_1206 dL_law_1207 (fun H locs hW => ?_)
  refine lv_goto S.1 S.2.1 dL_law_1212 (tgt := 1731) rfl ?_
  exact W.widen (Nat.add_le_add_left (by decide) _) (Nat.add_le_add_left (by decide) _) (kk _ _ _ (lv_sub hl [2, 3, 4, 5, 6] rfl) ⟨Γ2, N2, F2, o1, hG2, hC2, hR2, hW⟩)
set_option maxHeartbeats 4000000 in
theorem lc_18 (S : CallFix p m c cL_law 7 s args wsL_law RL) (hfl : l.stackTraces = false) (hTh : xTh E s) (hNc : xNc s) (hX : va_X b L xs s s.heap) (hbl : b < s.heap.size) (hbA : ¬ xA E b) (hL : L ≤ 2560) {i : Nat} (hi : i + 5 ≤ L) (hV : xLv E s H locs) (hl : lv_has ls 7 (xLs E b i)) (hc : cells + 3 ≤ room_1.cells ∧ slots + 18 ≤ room_1.slots)
    (kk : ∀ (H1 : Heap) (locs1 : List Loc) (ls1 : Array Slot), lv_has ls1 7 (xLs E b i) → xLv E s H1 locs1 → W p l e room_1 s m args below meth c H1 locs1 (cells + 3) (slots + 18) Q (F0 m 1731 ls1 [])) : W p l e room_1 s m args below meth c H locs cells slots Q (F0 m 1215 ls []) := by
  obtain ⟨Γ, n, f, o, hG, hC, hR, hW⟩ := hV
  refine lv_aload_n S.1 S.2.1 dL_law_1215 rfl (lv_at hl 3 rfl) ?_
  refine lw_arg (i := i) (j := 1) S hX hbl hbA hW.2.2.2 (lv_at hl 4 rfl) (lv_at hl 0 rfl) hL (by omega) dL_law_1216 dL_law_1217 dL_law_1219 rfl dL_law_1220 dL_law_1221 ?_
  refine lw_arg (i := i) (j := 2) S hX hbl hbA hW.2.2.2 (lv_at hl 4 rfl) (lv_at hl 0 rfl) hL (by omega) dL_law_1222 dL_law_1223 dL_law_1225 rfl dL_law_1226 dL_law_1227 ?_
  refine lw_bool S dL_law_1228 dL_law_1231 dL_law_1232 dL_law_1235 ?_
  refine lv_aload_n S.1 S.2.1 dL_law_1236 rfl (lv_at hl 1 rfl) ?_
  refine x_LS (rest := []) S (c_L_lengthOf l E n f o hfl Γ hG hC (xs (i + 1)) (decide (xs (i + 2) ≠ 0))) (vx_cwSW 4 S.2.2.2.2 gL_law_L_lengthOf rfl rfl rfl (by decide +kernel) ⟨Nat.le_of_ble_eq_true rfl, Nat.le_of_ble_eq_true rfl⟩) hW hTh hNc rfl rfl hl.1 (Nat.le_of_ble_eq_true rfl) dL_law_1237 ⟨Nat.le_trans (Nat.add_le_add_left (by decide) _) hc.1, Nat.le_trans (Nat.add_le_add_left (by decide) _) hc.2⟩ (fun r1 σ1 H locs hq hW => ?_)
  obtain ⟨rfl, N, F, o1, rfl, hF1, hp⟩ := hq
  refine lv_istore S.1 S.2.1 dL_law_1240 hl (Nat.le_of_ble_eq_true rfl) rfl (fun ls hl => ?_)
  refine lv_aload_n S.1 S.2.1 dL_law_1242 rfl (lv_at hl 3 rfl) ?_
  refine lw_arg (i := i) (j := 1) S hX hbl hbA hW.2.2.2 (lv_at hl 5 rfl) (lv_at hl 1 rfl) hL (by omega) dL_law_1243 dL_law_1244 dL_law_1246 rfl dL_law_1247 dL_law_1248 ?_
  refine lw_arg (i := i) (j := 2) S hX hbl hbA hW.2.2.2 (lv_at hl 5 rfl) (lv_at hl 1 rfl) hL (by omega) dL_law_1249 dL_law_1250 dL_law_1252 rfl dL_law_1253 dL_law_1254 ?_
  refine lw_bool S dL_law_1255 dL_law_1258 dL_law_1259 dL_law_1262 ?_
  refine x_Vi (rest := []) S (c_X4_lengthOf l E N F o1 Γ hG (hR.fr hF1) (xs (i + 1)) (decide (xs (i + 2) ≠ 0))) (cwV 2 S.2.2.2.2 gL_law_X4_lengthOf rfl rfl rfl (by decide +kernel) ⟨Nat.le_of_ble_eq_true rfl, Nat.le_of_ble_eq_true rfl⟩) hW 40 (xw_40 E _) rfl rfl rfl hl.1 (Nat.le_of_ble_eq_true rfl) dL_law_1263 ⟨Nat.le_trans (Nat.add_le_add_left (by decide) _) hc.1, Nat.le_trans (Nat.add_le_add_left (by decide) _) hc.2⟩ (fun r2 σ2 H locs hq hW => ?_)
  refine lv_istore S.1 S.2.1 dL_law_1266 hl (Nat.le_of_ble_eq_true rfl) rfl (fun ls hl => ?_)
  obtain ⟨Γ2, N2, F2, rfl, hG2, hC2, hR2, h10, hv⟩ := xjoin hp hq (fun v w hv hw => by obtain ⟨K1, h1, e1⟩ := hv; obtain ⟨K2, h2, e2⟩ := hw; rw [e1, e2, h1.uniq h2]) hG (fun _ => hG)
  refine lw_tailI (P := 1268) S ⟨Nat.le_of_ble_eq_true rfl, Nat.le_of_ble_eq_true rfl⟩ hW hl.1 (lv_at hl 4 rfl) (lv_at hl 3 rfl) (lv_at hl 1 rfl) (lv_at hl 0 rfl) h10 (ocb_Port _ _) (fun z => (hv z).2) ⟨Nat.le_trans (Nat.add_le_add_left (by decide) _) hc.1, Nat.le_trans (Nat.add_le_add_left (by decide) _) hc.2⟩ (cwV 0 S.2.2.2.2 gL_law_X4_thrown rfl rfl rfl (by decide +kernel) ⟨Nat.le_of_ble_eq_true rfl, Nat.le_of_ble_eq_true rfl⟩) dL_law_1268 dL_law_1269 dL_law_1272 dL_law_1274 dL_law_1279 dL_law_1281 dL_law_1284 dL_law_1285 dL_law_1286 dL_law_1287 dL_law_1289 dL_law_1290 dL_law_1291 (fun H locs hW => ?_)
  refine lv_goto S.1 S.2.1 dL_law_1296 (tgt := 1731) rfl ?_
  exact W.widen (Nat.add_le_add_left (by decide) _) (Nat.add_le_add_left (by decide) _) (kk _ _ _ (lv_sub hl [2, 3, 4, 5, 6] rfl) ⟨Γ2, N2, F2, o1, hG2, hC2, hR2, hW⟩)
set_option maxHeartbeats 4000000 in
theorem lc_19 (S : CallFix p m c cL_law 7 s args wsL_law RL) (hfl : l.stackTraces = false) (hTh : xTh E s) (hNc : xNc s) (hX : va_X b L xs s s.heap) (hbl : b < s.heap.size) (hbA : ¬ xA E b) (hL : L ≤ 2560) {i : Nat} (hi : i + 5 ≤ L) (hV : xLv E s H locs) (hl : lv_has ls 7 (xLs E b i)) (hc : cells + 3 ≤ room_1.cells ∧ slots + 18 ≤ room_1.slots)
    (kk : ∀ (H1 : Heap) (locs1 : List Loc) (ls1 : Array Slot), lv_has ls1 7 (xLs E b i) → xLv E s H1 locs1 → W p l e room_1 s m args below meth c H1 locs1 (cells + 3) (slots + 18) Q (F0 m 1731 ls1 [])) : W p l e room_1 s m args below meth c H locs cells slots Q (F0 m 1299 ls []) := by
  obtain ⟨Γ, n, f, o, hG, hC, hR, hW⟩ := hV
  refine lv_aload_n S.1 S.2.1 dL_law_1299 rfl (lv_at hl 3 rfl) ?_
  refine lw_arg (i := i) (j := 1) S hX hbl hbA hW.2.2.2 (lv_at hl 4 rfl) (lv_at hl 0 rfl) hL (by omega) dL_law_1300 dL_law_1301 dL_law_1303 rfl dL_law_1304 dL_law_1305 ?_
  refine lv_aload_n S.1 S.2.1 dL_law_1306 rfl (lv_at hl 1 rfl) ?_
  refine x_LS (rest := []) S (c_L_isRing l E n f o hfl Γ hG hC (xs (i + 1))) (vx_cwSW 3 S.2.2.2.2 gL_law_L_isRing rfl rfl rfl (by decide +kernel) ⟨Nat.le_of_ble_eq_true rfl, Nat.le_of_ble_eq_true rfl⟩) hW hTh hNc rfl rfl hl.1 (Nat.le_of_ble_eq_true rfl) dL_law_1307 ⟨Nat.le_trans (Nat.add_le_add_left (by decide) _) hc.1, Nat.le_trans (Nat.add_le_add_left (by decide) _) hc.2⟩ (fun r1 σ1 H locs hq hW => ?_)
  obtain ⟨rfl, N, F, o1, rfl, hF1, hp⟩ := hq
  refine lv_istore S.1 S.2.1 dL_law_1310 hl (Nat.le_of_ble_eq_true rfl) rfl (fun ls hl => ?_)
  refine lv_aload_n S.1 S.2.1 dL_law_1312 rfl (lv_at hl 3 rfl) ?_
  refine lw_arg (i := i) (j := 1) S hX hbl hbA hW.2.2.2 (lv_at hl 5 rfl) (lv_at hl 1 rfl) hL (by omega) dL_law_1313 dL_law_1314 dL_law_1316 rfl dL_law_1317 dL_law_1318 ?_
  refine x_Vi (rest := []) S (c_X4_isRing l E N F o1 Γ hG (hR.fr hF1) (xs (i + 1))) (cwV 1 S.2.2.2.2 gL_law_X4_isRing rfl rfl rfl (by decide +kernel) ⟨Nat.le_of_ble_eq_true rfl, Nat.le_of_ble_eq_true rfl⟩) hW 40 (xw_40 E _) rfl rfl rfl hl.1 (Nat.le_of_ble_eq_true rfl) dL_law_1319 ⟨Nat.le_trans (Nat.add_le_add_left (by decide) _) hc.1, Nat.le_trans (Nat.add_le_add_left (by decide) _) hc.2⟩ (fun r2 σ2 H locs hq hW => ?_)
  refine lv_istore S.1 S.2.1 dL_law_1322 hl (Nat.le_of_ble_eq_true rfl) rfl (fun ls hl => ?_)
  obtain ⟨Γ2, N2, F2, rfl, hG2, hC2, hR2, h10, hv⟩ := xjoin hp hq (fun v w hv hw => hv.trans hw.symm) hG (fun _ => hG)
  refine lw_tailZ (P := 1324) S ⟨Nat.le_of_ble_eq_true rfl, Nat.le_of_ble_eq_true rfl⟩ hW hl.1 (lv_at hl 4 rfl) (lv_at hl 3 rfl) (lv_at hl 1 rfl) (lv_at hl 0 rfl) h10 (ocb_Port _ _) (fun z => ⟨xif01 (hv z).1, (hv z).2⟩) ⟨Nat.le_trans (Nat.add_le_add_left (by decide) _) hc.1, Nat.le_trans (Nat.add_le_add_left (by decide) _) hc.2⟩ (cwV 0 S.2.2.2.2 gL_law_X4_thrown rfl rfl rfl (by decide +kernel) ⟨Nat.le_of_ble_eq_true rfl, Nat.le_of_ble_eq_true rfl⟩) dL_law_1324 dL_law_1325 dL_law_1328 dL_law_1330 dL_law_1335 dL_law_1337 dL_law_1340 dL_law_1341 dL_law_1342 dL_law_1343 dL_law_1345 dL_law_1348 dL_law_1349 dL_law_1352 dL_law_1353 dL_law_1354 (fun H locs hW => ?_)
  refine lv_goto S.1 S.2.1 dL_law_1359 (tgt := 1731) rfl ?_
  exact W.widen (Nat.add_le_add_left (by decide) _) (Nat.add_le_add_left (by decide) _) (kk _ _ _ (lv_sub hl [2, 3, 4, 5, 6] rfl) ⟨Γ2, N2, F2, o1, hG2, hC2, hR2, hW⟩)
set_option maxHeartbeats 4000000 in
theorem lc_20 (S : CallFix p m c cL_law 7 s args wsL_law RL) (hfl : l.stackTraces = false) (hTh : xTh E s) (hNc : xNc s) (hX : va_X b L xs s s.heap) (hbl : b < s.heap.size) (hbA : ¬ xA E b) (hL : L ≤ 2560) {i : Nat} (hi : i + 5 ≤ L) (hV : xLv E s H locs) (hl : lv_has ls 7 (xLs E b i)) (hc : cells + 3 ≤ room_1.cells ∧ slots + 18 ≤ room_1.slots)
    (kk : ∀ (H1 : Heap) (locs1 : List Loc) (ls1 : Array Slot), lv_has ls1 7 (xLs E b i) → xLv E s H1 locs1 → W p l e room_1 s m args below meth c H1 locs1 (cells + 3) (slots + 18) Q (F0 m 1731 ls1 [])) : W p l e room_1 s m args below meth c H locs cells slots Q (F0 m 1362 ls []) := by
  obtain ⟨Γ, n, f, o, hG, hC, hR, hW⟩ := hV
  refine lv_aload_n S.1 S.2.1 dL_law_1362 rfl (lv_at hl 3 rfl) ?_
  refine lw_arg (i := i) (j := 1) S hX hbl hbA hW.2.2.2 (lv_at hl 4 rfl) (lv_at hl 0 rfl) hL (by omega) dL_law_1363 dL_law_1364 dL_law_1366 rfl dL_law_1367 dL_law_1368 ?_
  refine lw_arg (i := i) (j := 2) S hX hbl hbA hW.2.2.2 (lv_at hl 4 rfl) (lv_at hl 0 rfl) hL (by omega) dL_law_1369 dL_law_1370 dL_law_1372 rfl dL_law_1373 dL_law_1374 ?_
  refine lv_aload_n S.1 S.2.1 dL_law_1375 rfl (lv_at hl 1 rfl) ?_
  refine x_LS (rest := []) S (c_L_areJoined l E n f o hfl Γ hG hC (xs (i + 1)) (xs (i + 2))) (vx_cwSW 4 S.2.2.2.2 gL_law_L_areJoined rfl rfl rfl (by decide +kernel) ⟨Nat.le_of_ble_eq_true rfl, Nat.le_of_ble_eq_true rfl⟩) hW hTh hNc rfl rfl hl.1 (Nat.le_of_ble_eq_true rfl) dL_law_1376 ⟨Nat.le_trans (Nat.add_le_add_left (by decide) _) hc.1, Nat.le_trans (Nat.add_le_add_left (by decide) _) hc.2⟩ (fun r1 σ1 H locs hq hW => ?_)
  obtain ⟨rfl, N, F, o1, rfl, hF1, hp⟩ := hq
  refine lv_istore S.1 S.2.1 dL_law_1379 hl (Nat.le_of_ble_eq_true rfl) rfl (fun ls hl => ?_)
  refine lv_aload_n S.1 S.2.1 dL_law_1381 rfl (lv_at hl 3 rfl) ?_
  refine lw_arg (i := i) (j := 1) S hX hbl hbA hW.2.2.2 (lv_at hl 5 rfl) (lv_at hl 1 rfl) hL (by omega) dL_law_1382 dL_law_1383 dL_law_1385 rfl dL_law_1386 dL_law_1387 ?_
  refine lw_arg (i := i) (j := 2) S hX hbl hbA hW.2.2.2 (lv_at hl 5 rfl) (lv_at hl 1 rfl) hL (by omega) dL_law_1388 dL_law_1389 dL_law_1391 rfl dL_law_1392 dL_law_1393 ?_
  refine x_Vi (rest := []) S (c_X4_areJoined l E N F o1 Γ hG (hR.fr hF1) (xs (i + 1)) (xs (i + 2))) (cwV 2 S.2.2.2.2 gL_law_X4_areJoined rfl rfl rfl (by decide +kernel) ⟨Nat.le_of_ble_eq_true rfl, Nat.le_of_ble_eq_true rfl⟩) hW 40 (xw_40 E _) rfl rfl rfl hl.1 (Nat.le_of_ble_eq_true rfl) dL_law_1394 ⟨Nat.le_trans (Nat.add_le_add_left (by decide) _) hc.1, Nat.le_trans (Nat.add_le_add_left (by decide) _) hc.2⟩ (fun r2 σ2 H locs hq hW => ?_)
  refine lv_istore S.1 S.2.1 dL_law_1397 hl (Nat.le_of_ble_eq_true rfl) rfl (fun ls hl => ?_)
  obtain ⟨Γ2, N2, F2, rfl, hG2, hC2, hR2, h10, hv⟩ := xjoin hp hq (fun v w hv hw => hv.trans hw.symm) hG (fun _ => hG)
  refine lw_tailZ (P := 1399) S ⟨Nat.le_of_ble_eq_true rfl, Nat.le_of_ble_eq_true rfl⟩ hW hl.1 (lv_at hl 4 rfl) (lv_at hl 3 rfl) (lv_at hl 1 rfl) (lv_at hl 0 rfl) h10 (ocb_2 _ _ _) (fun z => ⟨xif01 (hv z).1, (hv z).2⟩) ⟨Nat.le_trans (Nat.add_le_add_left (by decide) _) hc.1, Nat.le_trans (Nat.add_le_add_left (by decide) _) hc.2⟩ (cwV 0 S.2.2.2.2 gL_law_X4_thrown rfl rfl rfl (by decide +kernel) ⟨Nat.le_of_ble_eq_true rfl, Nat.le_of_ble_eq_true rfl⟩) dL_law_1399 dL_law_1400 dL_law_1403 dL_law_1405 dL_law_1410 dL_law_1412 dL_law_1415 dL_law_1416 dL_law_1417 dL_law_1418 dL_law_1420 dL_law_1423 dL_law_1424 dL_law_1427 dL_law_1428 dL_law_1429 (fun H locs hW => ?_)
  refine lv_goto S.1 S.2.1 dL_law_1434 (tgt := 1731) rfl ?_
  exact W.widen (Nat.add_le_add_left (by decide) _) (Nat.add_le_add_left (by decide) _) (kk _ _ _ (lv_sub hl [2, 3, 4, 5, 6] rfl) ⟨Γ2, N2, F2, o1, hG2, hC2, hR2, hW⟩)
set_option maxHeartbeats 4000000 in
theorem lc_21 (S : CallFix p m c cL_law 7 s args wsL_law RL) (hfl : l.stackTraces = false) (hTh : xTh E s) (hNc : xNc s) (hX : va_X b L xs s s.heap) (hbl : b < s.heap.size) (hbA : ¬ xA E b) (hL : L ≤ 2560) {i : Nat} (hi : i + 5 ≤ L) (hV : xLv E s H locs) (hl : lv_has ls 7 (xLs E b i)) (hc : cells + 3 ≤ room_1.cells ∧ slots + 18 ≤ room_1.slots)
    (kk : ∀ (H1 : Heap) (locs1 : List Loc) (ls1 : Array Slot), lv_has ls1 7 (xLs E b i) → xLv E s H1 locs1 → W p l e room_1 s m args below meth c H1 locs1 (cells + 3) (slots + 18) Q (F0 m 1731 ls1 [])) : W p l e room_1 s m args below meth c H locs cells slots Q (F0 m 1437 ls []) := by
  obtain ⟨Γ, n, f, o, hG, hC, hR, hW⟩ := hV
  refine lv_aload_n S.1 S.2.1 dL_law_1437 rfl (lv_at hl 3 rfl) ?_
  refine lw_arg (i := i) (j := 1) S hX hbl hbA hW.2.2.2 (lv_at hl 4 rfl) (lv_at hl 0 rfl) hL (by omega) dL_law_1438 dL_law_1439 dL_law_1441 rfl dL_law_1442 dL_law_1443 ?_
  refine lw_arg (i := i) (j := 2) S hX hbl hbA hW.2.2.2 (lv_at hl 4 rfl) (lv_at hl 0 rfl) hL (by omega) dL_law_1444 dL_law_1445 dL_law_1447 rfl dL_law_1448 dL_law_1449 ?_
  refine lv_aload_n S.1 S.2.1 dL_law_1450 rfl (lv_at hl 1 rfl) ?_
  refine x_LS (rest := []) S (c_L_areJoinedBySearch l E n f o hfl Γ hG hC (xs (i + 1)) (xs (i + 2))) (vx_cwSW 4 S.2.2.2.2 gL_law_L_areJoinedBySearch rfl rfl rfl (by decide +kernel) ⟨Nat.le_of_ble_eq_true rfl, Nat.le_of_ble_eq_true rfl⟩) hW hTh hNc rfl rfl hl.1 (Nat.le_of_ble_eq_true rfl) dL_law_1451 ⟨Nat.le_trans (Nat.add_le_add_left (by decide) _) hc.1, Nat.le_trans (Nat.add_le_add_left (by decide) _) hc.2⟩ (fun r1 σ1 H locs hq hW => ?_)
  obtain ⟨rfl, N, F, o1, rfl, hF1, hp⟩ := hq
  refine lv_istore S.1 S.2.1 dL_law_1454 hl (Nat.le_of_ble_eq_true rfl) rfl (fun ls hl => ?_)
  refine lv_aload_n S.1 S.2.1 dL_law_1456 rfl (lv_at hl 3 rfl) ?_
  refine lw_arg (i := i) (j := 1) S hX hbl hbA hW.2.2.2 (lv_at hl 5 rfl) (lv_at hl 1 rfl) hL (by omega) dL_law_1457 dL_law_1458 dL_law_1460 rfl dL_law_1461 dL_law_1462 ?_
  refine lw_arg (i := i) (j := 2) S hX hbl hbA hW.2.2.2 (lv_at hl 5 rfl) (lv_at hl 1 rfl) hL (by omega) dL_law_1463 dL_law_1464 dL_law_1466 rfl dL_law_1467 dL_law_1468 ?_
  refine x_Vi (rest := []) S (c_X4_areJoinedBySearch l E N F o1 Γ hG (hR.fr hF1) (xs (i + 1)) (xs (i + 2))) (cwV 2 S.2.2.2.2 gL_law_X4_areJoinedBySearch rfl rfl rfl (by decide +kernel) ⟨Nat.le_of_ble_eq_true rfl, Nat.le_of_ble_eq_true rfl⟩) hW 40 (xw_40 E _) rfl rfl rfl hl.1 (Nat.le_of_ble_eq_true rfl) dL_law_1469 ⟨Nat.le_trans (Nat.add_le_add_left (by decide) _) hc.1, Nat.le_trans (Nat.add_le_add_left (by decide) _) hc.2⟩ (fun r2 σ2 H locs hq hW => ?_)
  refine lv_istore S.1 S.2.1 dL_law_1472 hl (Nat.le_of_ble_eq_true rfl) rfl (fun ls hl => ?_)
  obtain ⟨Γ2, N2, F2, rfl, hG2, hC2, hR2, h10, hv⟩ := xjoin hp hq (fun v w hv hw => hv.trans hw.symm) hG (fun _ => hG)
  refine lw_tailZ (P := 1474) S ⟨Nat.le_of_ble_eq_true rfl, Nat.le_of_ble_eq_true rfl⟩ hW hl.1 (lv_at hl 4 rfl) (lv_at hl 3 rfl) (lv_at hl 1 rfl) (lv_at hl 0 rfl) h10 (ocb_2 _ _ _) (fun z => ⟨xif01 (hv z).1, (hv z).2⟩) ⟨Nat.le_trans (Nat.add_le_add_left (by decide) _) hc.1, Nat.le_trans (Nat.add_le_add_left (by decide) _) hc.2⟩ (cwV 0 S.2.2.2.2 gL_law_X4_thrown rfl rfl rfl (by decide +kernel) ⟨Nat.le_of_ble_eq_true rfl, Nat.le_of_ble_eq_true rfl⟩) dL_law_1474 dL_law_1475 dL_law_1478 dL_law_1480 dL_law_1485 dL_law_1487 dL_law_1490 dL_law_1491 dL_law_1492 dL_law_1493 dL_law_1495 dL_law_1498 dL_law_1499 dL_law_1502 dL_law_1503 dL_law_1504 (fun H locs hW => ?_)
  refine lv_goto S.1 S.2.1 dL_law_1509 (tgt := 1731) rfl ?_
  exact W.widen (Nat.add_le_add_left (by decide) _) (Nat.add_le_add_left (by decide) _) (kk _ _ _ (lv_sub hl [2, 3, 4, 5, 6] rfl) ⟨Γ2, N2, F2, o1, hG2, hC2, hR2, hW⟩)
set_option maxHeartbeats 4000000 in
theorem lc_22 (S : CallFix p m c cL_law 7 s args wsL_law RL) (hfl : l.stackTraces = false) (hTh : xTh E s) (hNc : xNc s) (hX : va_X b L xs s s.heap) (hbl : b < s.heap.size) (hbA : ¬ xA E b) (hL : L ≤ 2560) {i : Nat} (hi : i + 5 ≤ L) (hV : xLv E s H locs) (hl : lv_has ls 7 (xLs E b i)) (hc : cells + 3 ≤ room_1.cells ∧ slots + 18 ≤ room_1.slots)
    (kk : ∀ (H1 : Heap) (locs1 : List Loc) (ls1 : Array Slot), lv_has ls1 7 (xLs E b i) → xLv E s H1 locs1 → W p l e room_1 s m args below meth c H1 locs1 (cells + 3) (slots + 18) Q (F0 m 1731 ls1 [])) : W p l e room_1 s m args below meth c H locs cells slots Q (F0 m 1512 ls []) := by
  obtain ⟨Γ, n, f, o, hG, hC, hR, hW⟩ := hV
  refine lv_aload_n S.1 S.2.1 dL_law_1512 rfl (lv_at hl 3 rfl) ?_
  refine x_Vi (rest := []) S (c_X3_lines l E n f o Γ hG hC) (cwV 0 S.2.2.2.2 gL_law_X3_lines rfl rfl rfl (by decide +kernel) ⟨Nat.le_of_ble_eq_true rfl, Nat.le_of_ble_eq_true rfl⟩) hW 0 (xw_0 E _) rfl rfl rfl hl.1 (Nat.le_of_ble_eq_true rfl) dL_law_1513 ⟨Nat.le_trans (Nat.le_add_right _ _) hc.1, Nat.le_trans (Nat.le_add_right _ _) hc.2⟩ (fun r1 σ1 H locs hq hW => ?_)
  obtain ⟨hr1, N, F, rfl, hC1, hF1⟩ := hq
  refine lv_aload_n S.1 S.2.1 dL_law_1516 rfl (lv_at hl 2 rfl) ?_
  refine x_Vi (rest := [.int r1]) S (c_X4_lines l E N F o Γ hG (hR.fr hF1)) (cwV 0 S.2.2.2.2 gL_law_X4_lines rfl rfl rfl (by decide +kernel) ⟨Nat.le_of_ble_eq_true rfl, Nat.le_of_ble_eq_true rfl⟩) hW 40 (xw_40 E _) rfl rfl rfl hl.1 (Nat.le_of_ble_eq_true rfl) dL_law_1517 ⟨Nat.le_trans (Nat.le_add_right _ _) hc.1, Nat.le_trans (Nat.le_add_right _ _) hc.2⟩ (fun r2 σ2 H locs hq hW => ?_)
  obtain ⟨hr2, N2, F2, rfl, hR2, hF2, -⟩ := hq
  exact lv_icmp_eq S.1 S.2.1 dL_law_1520 (tgt := 1731) rfl (fun _ => W.widen (Nat.le_add_right _ _) (Nat.le_add_right _ _) (kk _ _ _ hl ⟨_, N2, F2, o, hG, hC1.fr hF2, hR2, hW⟩)) (fun h => absurd (by rw [hr1, hr2]) h)
set_option maxHeartbeats 4000000 in
theorem lc_23 (S : CallFix p m c cL_law 7 s args wsL_law RL) (hfl : l.stackTraces = false) (hTh : xTh E s) (hNc : xNc s) (hX : va_X b L xs s s.heap) (hbl : b < s.heap.size) (hbA : ¬ xA E b) (hL : L ≤ 2560) {i : Nat} (hi : i + 5 ≤ L) (hV : xLv E s H locs) (hl : lv_has ls 7 (xLs E b i)) (hc : cells + 3 ≤ room_1.cells ∧ slots + 18 ≤ room_1.slots)
    (kk : ∀ (H1 : Heap) (locs1 : List Loc) (ls1 : Array Slot), lv_has ls1 7 (xLs E b i) → xLv E s H1 locs1 → W p l e room_1 s m args below meth c H1 locs1 (cells + 3) (slots + 18) Q (F0 m 1731 ls1 [])) : W p l e room_1 s m args below meth c H locs cells slots Q (F0 m 1525 ls []) := by
  obtain ⟨Γ, n, f, o, hG, hC, hR, hW⟩ := hV
  refine lv_aload_n S.1 S.2.1 dL_law_1525 rfl (lv_at hl 3 rfl) ?_
  refine lw_arg (i := i) (j := 1) S hX hbl hbA hW.2.2.2 (lv_at hl 4 rfl) (lv_at hl 0 rfl) hL (by omega) dL_law_1526 dL_law_1527 dL_law_1529 rfl dL_law_1530 dL_law_1531 ?_
  refine lv_aload_n S.1 S.2.1 dL_law_1532 rfl (lv_at hl 1 rfl) ?_
  refine x_LS (rest := []) S (c_L_freePort l E n f o hfl Γ hG hC (xs (i + 1))) (vx_cwSW 3 S.2.2.2.2 gL_law_L_freePort rfl rfl rfl (by decide +kernel) ⟨Nat.le_of_ble_eq_true rfl, Nat.le_of_ble_eq_true rfl⟩) hW hTh hNc rfl rfl hl.1 (Nat.le_of_ble_eq_true rfl) dL_law_1533 ⟨Nat.le_trans (Nat.add_le_add_left (by decide) _) hc.1, Nat.le_trans (Nat.add_le_add_left (by decide) _) hc.2⟩ (fun r1 σ1 H locs hq hW => ?_)
  obtain ⟨rfl, N, F, o1, rfl, hF1, hp⟩ := hq
  refine lv_istore S.1 S.2.1 dL_law_1536 hl (Nat.le_of_ble_eq_true rfl) rfl (fun ls hl => ?_)
  refine lv_aload_n S.1 S.2.1 dL_law_1538 rfl (lv_at hl 3 rfl) ?_
  refine lw_arg (i := i) (j := 1) S hX hbl hbA hW.2.2.2 (lv_at hl 5 rfl) (lv_at hl 1 rfl) hL (by omega) dL_law_1539 dL_law_1540 dL_law_1542 rfl dL_law_1543 dL_law_1544 ?_
  refine x_Vi (rest := []) S (c_X4_freePort l E N F o1 Γ hG (hR.fr hF1) (xs (i + 1))) (cwV 1 S.2.2.2.2 gL_law_X4_freePort rfl rfl rfl (by decide +kernel) ⟨Nat.le_of_ble_eq_true rfl, Nat.le_of_ble_eq_true rfl⟩) hW 40 (xw_40 E _) rfl rfl rfl hl.1 (Nat.le_of_ble_eq_true rfl) dL_law_1545 ⟨Nat.le_trans (Nat.add_le_add_left (by decide) _) hc.1, Nat.le_trans (Nat.add_le_add_left (by decide) _) hc.2⟩ (fun r2 σ2 H locs hq hW => ?_)
  refine lv_istore S.1 S.2.1 dL_law_1548 hl (Nat.le_of_ble_eq_true rfl) rfl (fun ls hl => ?_)
  obtain ⟨Γ2, N2, F2, rfl, hG2, hC2, hR2, h10, hv⟩ := xjoin hp hq (fun v w hv hw => xFF.uniq hv hw) hG (fun _ => hG)
  refine lw_tailI (P := 1550) S ⟨Nat.le_of_ble_eq_true rfl, Nat.le_of_ble_eq_true rfl⟩ hW hl.1 (lv_at hl 4 rfl) (lv_at hl 3 rfl) (lv_at hl 1 rfl) (lv_at hl 0 rfl) h10 (ocb_Panel _ _) (fun z => (hv z).2) ⟨Nat.le_trans (Nat.add_le_add_left (by decide) _) hc.1, Nat.le_trans (Nat.add_le_add_left (by decide) _) hc.2⟩ (cwV 0 S.2.2.2.2 gL_law_X4_thrown rfl rfl rfl (by decide +kernel) ⟨Nat.le_of_ble_eq_true rfl, Nat.le_of_ble_eq_true rfl⟩) dL_law_1550 dL_law_1551 dL_law_1554 dL_law_1556 dL_law_1561 dL_law_1563 dL_law_1566 dL_law_1567 dL_law_1568 dL_law_1569 dL_law_1571 dL_law_1572 dL_law_1573 (fun H locs hW => ?_)
  refine lv_goto S.1 S.2.1 dL_law_1578 (tgt := 1731) rfl ?_
  exact W.widen (Nat.add_le_add_left (by decide) _) (Nat.add_le_add_left (by decide) _) (kk _ _ _ (lv_sub hl [2, 3, 4, 5, 6] rfl) ⟨Γ2, N2, F2, o1, hG2, hC2, hR2, hW⟩)
set_option maxHeartbeats 4000000 in
theorem lc_24 (S : CallFix p m c cL_law 7 s args wsL_law RL) (hfl : l.stackTraces = false) (hTh : xTh E s) (hNc : xNc s) (hX : va_X b L xs s s.heap) (hbl : b < s.heap.size) (hbA : ¬ xA E b) (hL : L ≤ 2560) {i : Nat} (hi : i + 5 ≤ L) (hV : xLv E s H locs) (hl : lv_has ls 7 (xLs E b i)) (hc : cells + 3 ≤ room_1.cells ∧ slots + 18 ≤ room_1.slots)
    (kk : ∀ (H1 : Heap) (locs1 : List Loc) (ls1 : Array Slot), lv_has ls1 7 (xLs E b i) → xLv E s H1 locs1 → W p l e room_1 s m args below meth c H1 locs1 (cells + 3) (slots + 18) Q (F0 m 1731 ls1 [])) : W p l e room_1 s m args below meth c H locs cells slots Q (F0 m 1581 ls []) := by
  obtain ⟨Γ, n, f, o, hG, hC, hR, hW⟩ := hV
  refine lv_aload_n S.1 S.2.1 dL_law_1581 rfl (lv_at hl 3 rfl) ?_
  refine lw_arg (i := i) (j := 1) S hX hbl hbA hW.2.2.2 (lv_at hl 4 rfl) (lv_at hl 0 rfl) hL (by omega) dL_law_1582 dL_law_1583 dL_law_1585 rfl dL_law_1586 dL_law_1587 ?_
  refine lw_arg (i := i) (j := 2) S hX hbl hbA hW.2.2.2 (lv_at hl 4 rfl) (lv_at hl 0 rfl) hL (by omega) dL_law_1588 dL_law_1589 dL_law_1591 rfl dL_law_1592 dL_law_1593 ?_
  refine lv_aload_n S.1 S.2.1 dL_law_1594 rfl (lv_at hl 1 rfl) ?_
  refine x_LS (rest := []) S (c_L_freeStrand l E n f o hfl Γ hG hC (xs (i + 1)) (xs (i + 2))) (vx_cwSW 4 S.2.2.2.2 gL_law_L_freeStrand rfl rfl rfl (by decide +kernel) ⟨Nat.le_of_ble_eq_true rfl, Nat.le_of_ble_eq_true rfl⟩) hW hTh hNc rfl rfl hl.1 (Nat.le_of_ble_eq_true rfl) dL_law_1595 ⟨Nat.le_trans (Nat.add_le_add_left (by decide) _) hc.1, Nat.le_trans (Nat.add_le_add_left (by decide) _) hc.2⟩ (fun r1 σ1 H locs hq hW => ?_)
  obtain ⟨rfl, N, F, o1, rfl, hF1, hp⟩ := hq
  refine lv_istore S.1 S.2.1 dL_law_1598 hl (Nat.le_of_ble_eq_true rfl) rfl (fun ls hl => ?_)
  refine lv_aload_n S.1 S.2.1 dL_law_1600 rfl (lv_at hl 3 rfl) ?_
  refine lw_arg (i := i) (j := 1) S hX hbl hbA hW.2.2.2 (lv_at hl 5 rfl) (lv_at hl 1 rfl) hL (by omega) dL_law_1601 dL_law_1602 dL_law_1604 rfl dL_law_1605 dL_law_1606 ?_
  refine lw_arg (i := i) (j := 2) S hX hbl hbA hW.2.2.2 (lv_at hl 5 rfl) (lv_at hl 1 rfl) hL (by omega) dL_law_1607 dL_law_1608 dL_law_1610 rfl dL_law_1611 dL_law_1612 ?_
  refine x_Vi (rest := []) S (c_X4_freeStrand l E N F o1 Γ hG (hR.fr hF1) (xs (i + 1)) (xs (i + 2))) (cwV 2 S.2.2.2.2 gL_law_X4_freeStrand rfl rfl rfl (by decide +kernel) ⟨Nat.le_of_ble_eq_true rfl, Nat.le_of_ble_eq_true rfl⟩) hW 40 (xw_40 E _) rfl rfl rfl hl.1 (Nat.le_of_ble_eq_true rfl) dL_law_1613 ⟨Nat.le_trans (Nat.add_le_add_left (by decide) _) hc.1, Nat.le_trans (Nat.add_le_add_left (by decide) _) hc.2⟩ (fun r2 σ2 H locs hq hW => ?_)
  refine lv_istore S.1 S.2.1 dL_law_1616 hl (Nat.le_of_ble_eq_true rfl) rfl (fun ls hl => ?_)
  obtain ⟨Γ2, N2, F2, rfl, hG2, hC2, hR2, h10, hv⟩ := xjoin hp hq (fun v w hv hw => xFF.uniq hv hw) hG (fun _ => hG)
  refine lw_tailI (P := 1618) S ⟨Nat.le_of_ble_eq_true rfl, Nat.le_of_ble_eq_true rfl⟩ hW hl.1 (lv_at hl 4 rfl) (lv_at hl 3 rfl) (lv_at hl 1 rfl) (lv_at hl 0 rfl) h10 (ocb_2p _ _ _) (fun z => (hv z).2) ⟨Nat.le_trans (Nat.add_le_add_left (by decide) _) hc.1, Nat.le_trans (Nat.add_le_add_left (by decide) _) hc.2⟩ (cwV 0 S.2.2.2.2 gL_law_X4_thrown rfl rfl rfl (by decide +kernel) ⟨Nat.le_of_ble_eq_true rfl, Nat.le_of_ble_eq_true rfl⟩) dL_law_1618 dL_law_1619 dL_law_1622 dL_law_1624 dL_law_1629 dL_law_1631 dL_law_1634 dL_law_1635 dL_law_1636 dL_law_1637 dL_law_1639 dL_law_1640 dL_law_1641 (fun H locs hW => ?_)
  refine lv_goto S.1 S.2.1 dL_law_1646 (tgt := 1731) rfl ?_
  exact W.widen (Nat.add_le_add_left (by decide) _) (Nat.add_le_add_left (by decide) _) (kk _ _ _ (lv_sub hl [2, 3, 4, 5, 6] rfl) ⟨Γ2, N2, F2, o1, hG2, hC2, hR2, hW⟩)
set_option maxHeartbeats 4000000 in
theorem lc_25 (S : CallFix p m c cL_law 7 s args wsL_law RL) (hfl : l.stackTraces = false) (hTh : xTh E s) (hNc : xNc s) (hX : va_X b L xs s s.heap) (hbl : b < s.heap.size) (hbA : ¬ xA E b) (hL : L ≤ 2560) {i : Nat} (hi : i + 5 ≤ L) (hV : xLv E s H locs) (hl : lv_has ls 7 (xLs E b i)) (hc : cells + 3 ≤ room_1.cells ∧ slots + 18 ≤ room_1.slots)
    (kk : ∀ (H1 : Heap) (locs1 : List Loc) (ls1 : Array Slot), lv_has ls1 7 (xLs E b i) → xLv E s H1 locs1 → W p l e room_1 s m args below meth c H1 locs1 (cells + 3) (slots + 18) Q (F0 m 1731 ls1 [])) : W p l e room_1 s m args below meth c H locs cells slots Q (F0 m 1649 ls []) := by
  obtain ⟨Γ, n, f, o, hG, hC, hR, hW⟩ := hV
  refine lv_aload_n S.1 S.2.1 dL_law_1649 rfl (lv_at hl 3 rfl) ?_
  refine lw_arg (i := i) (j := 1) S hX hbl hbA hW.2.2.2 (lv_at hl 4 rfl) (lv_at hl 0 rfl) hL (by omega) dL_law_1650 dL_law_1651 dL_law_1653 rfl dL_law_1654 dL_law_1655 ?_
  refine lv_aload_n S.1 S.2.1 dL_law_1656 rfl (lv_at hl 1 rfl) ?_
  refine x_LS (rest := []) S (c_L_used l E n f o hfl Γ hG hC (xs (i + 1))) (vx_cwSW 3 S.2.2.2.2 gL_law_L_used rfl rfl rfl (by decide +kernel) ⟨Nat.le_of_ble_eq_true rfl, Nat.le_of_ble_eq_true rfl⟩) hW hTh hNc rfl rfl hl.1 (Nat.le_of_ble_eq_true rfl) dL_law_1657 ⟨Nat.le_trans (Nat.add_le_add_left (by decide) _) hc.1, Nat.le_trans (Nat.add_le_add_left (by decide) _) hc.2⟩ (fun r1 σ1 H locs hq hW => ?_)
  obtain ⟨rfl, N, F, o1, rfl, hF1, hp⟩ := hq
  refine lv_istore S.1 S.2.1 dL_law_1660 hl (Nat.le_of_ble_eq_true rfl) rfl (fun ls hl => ?_)
  refine lv_aload_n S.1 S.2.1 dL_law_1662 rfl (lv_at hl 3 rfl) ?_
  refine lw_arg (i := i) (j := 1) S hX hbl hbA hW.2.2.2 (lv_at hl 5 rfl) (lv_at hl 1 rfl) hL (by omega) dL_law_1663 dL_law_1664 dL_law_1666 rfl dL_law_1667 dL_law_1668 ?_
  refine x_Vi (rest := []) S (c_X4_used l E N F o1 Γ hG (hR.fr hF1) (xs (i + 1))) (cwV 1 S.2.2.2.2 gL_law_X4_used rfl rfl rfl (by decide +kernel) ⟨Nat.le_of_ble_eq_true rfl, Nat.le_of_ble_eq_true rfl⟩) hW 40 (xw_40 E _) rfl rfl rfl hl.1 (Nat.le_of_ble_eq_true rfl) dL_law_1669 ⟨Nat.le_trans (Nat.add_le_add_left (by decide) _) hc.1, Nat.le_trans (Nat.add_le_add_left (by decide) _) hc.2⟩ (fun r2 σ2 H locs hq hW => ?_)
  refine lv_istore S.1 S.2.1 dL_law_1672 hl (Nat.le_of_ble_eq_true rfl) rfl (fun ls hl => ?_)
  obtain ⟨Γ2, N2, F2, rfl, hG2, hC2, hR2, h10, hv⟩ := xjoin hp hq (fun v w hv hw => hv.trans hw.symm) hG (fun _ => hG)
  refine lw_tailI (P := 1674) S ⟨Nat.le_of_ble_eq_true rfl, Nat.le_of_ble_eq_true rfl⟩ hW hl.1 (lv_at hl 4 rfl) (lv_at hl 3 rfl) (lv_at hl 1 rfl) (lv_at hl 0 rfl) h10 (ocb_Trk _ _) (fun z => (hv z).2) ⟨Nat.le_trans (Nat.add_le_add_left (by decide) _) hc.1, Nat.le_trans (Nat.add_le_add_left (by decide) _) hc.2⟩ (cwV 0 S.2.2.2.2 gL_law_X4_thrown rfl rfl rfl (by decide +kernel) ⟨Nat.le_of_ble_eq_true rfl, Nat.le_of_ble_eq_true rfl⟩) dL_law_1674 dL_law_1675 dL_law_1678 dL_law_1680 dL_law_1685 dL_law_1687 dL_law_1690 dL_law_1691 dL_law_1692 dL_law_1693 dL_law_1695 dL_law_1696 dL_law_1697 (fun H locs hW => ?_)
  refine lv_goto S.1 S.2.1 dL_law_1702 (tgt := 1731) rfl ?_
  exact W.widen (Nat.add_le_add_left (by decide) _) (Nat.add_le_add_left (by decide) _) (kk _ _ _ (lv_sub hl [2, 3, 4, 5, 6] rfl) ⟨Γ2, N2, F2, o1, hG2, hC2, hR2, hW⟩)
set_option maxHeartbeats 4000000 in
theorem lc_26 (S : CallFix p m c cL_law 7 s args wsL_law RL) (hfl : l.stackTraces = false) (hTh : xTh E s) (hNc : xNc s) (hX : va_X b L xs s s.heap) (hbl : b < s.heap.size) (hbA : ¬ xA E b) (hL : L ≤ 2560) {i : Nat} (hi : i + 5 ≤ L) (hV : xLv E s H locs) (hl : lv_has ls 7 (xLs E b i)) (hc : cells + 3 ≤ room_1.cells ∧ slots + 18 ≤ room_1.slots)
    (kk : ∀ (H1 : Heap) (locs1 : List Loc) (ls1 : Array Slot), lv_has ls1 7 (xLs E b i) → xLv E s H1 locs1 → W p l e room_1 s m args below meth c H1 locs1 (cells + 3) (slots + 18) Q (F0 m 1731 ls1 [])) : W p l e room_1 s m args below meth c H locs cells slots Q (F0 m 1705 ls []) := by
  obtain ⟨Γ, n, f, o, hG, hC, hR, hW⟩ := hV
  refine lv_aload_n S.1 S.2.1 dL_law_1705 rfl (lv_at hl 3 rfl) ?_
  refine x_Vi (rest := []) S (c_X3_canCarryOut l E n f o Γ hG hC) (cwV 0 S.2.2.2.2 gL_law_X3_canCarryOut rfl rfl rfl (by decide +kernel) ⟨Nat.le_of_ble_eq_true rfl, Nat.le_of_ble_eq_true rfl⟩) hW 0 (xw_0 E _) rfl rfl rfl hl.1 (Nat.le_of_ble_eq_true rfl) dL_law_1706 ⟨Nat.le_trans (Nat.le_add_right _ _) hc.1, Nat.le_trans (Nat.le_add_right _ _) hc.2⟩ (fun r1 σ1 H locs hq hW => ?_)
  obtain ⟨hr1, N, F, rfl, hC1, hF1⟩ := hq
  refine lv_aload_n S.1 S.2.1 dL_law_1709 rfl (lv_at hl 2 rfl) ?_
  refine x_Vi (rest := [.int r1]) S (c_X4_canCarryOut l E N F o Γ hG (hR.fr hF1)) (cwV 0 S.2.2.2.2 gL_law_X4_canCarryOut rfl rfl rfl (by decide +kernel) ⟨Nat.le_of_ble_eq_true rfl, Nat.le_of_ble_eq_true rfl⟩) hW 40 (xw_40 E _) rfl rfl rfl hl.1 (Nat.le_of_ble_eq_true rfl) dL_law_1710 ⟨Nat.le_trans (Nat.le_add_right _ _) hc.1, Nat.le_trans (Nat.le_add_right _ _) hc.2⟩ (fun r2 σ2 H locs hq hW => ?_)
  obtain ⟨hr2, N2, F2, rfl, hR2, hF2, -⟩ := hq
  exact lv_icmp_eq S.1 S.2.1 dL_law_1713 (tgt := 1731) rfl (fun _ => W.widen (Nat.le_add_right _ _) (Nat.le_add_right _ _) (kk _ _ _ hl ⟨_, N2, F2, o, hG, hC1.fr hF2, hR2, hW⟩)) (fun h => absurd (by rw [hr1, hr2]) h)
set_option maxHeartbeats 4000000 in
theorem lc_27 (S : CallFix p m c cL_law 7 s args wsL_law RL) (hfl : l.stackTraces = false) (hTh : xTh E s) (hNc : xNc s) (hX : va_X b L xs s s.heap) (hbl : b < s.heap.size) (hbA : ¬ xA E b) (hL : L ≤ 2560) {i : Nat} (hi : i + 5 ≤ L) (hV : xLv E s H locs) (hl : lv_has ls 7 (xLs E b i)) (hc : cells + 3 ≤ room_1.cells ∧ slots + 18 ≤ room_1.slots)
    (kk : ∀ (H1 : Heap) (locs1 : List Loc) (ls1 : Array Slot), lv_has ls1 7 (xLs E b i) → xLv E s H1 locs1 → W p l e room_1 s m args below meth c H1 locs1 (cells + 3) (slots + 18) Q (F0 m 1731 ls1 [])) : W p l e room_1 s m args below meth c H locs cells slots Q (F0 m 1718 ls []) := by
  obtain ⟨Γ, n, f, o, hG, hC, hR, hW⟩ := hV
  refine lv_aload_n S.1 S.2.1 dL_law_1718 rfl (lv_at hl 3 rfl) ?_
  refine x_Vi (rest := []) S (c_X3_cableLength l E n f o Γ hG hC) (cwV 0 S.2.2.2.2 gL_law_X3_cableLength rfl rfl rfl (by decide +kernel) ⟨Nat.le_of_ble_eq_true rfl, Nat.le_of_ble_eq_true rfl⟩) hW 0 (xw_0 E _) rfl rfl rfl hl.1 (Nat.le_of_ble_eq_true rfl) dL_law_1719 ⟨Nat.le_trans (Nat.le_add_right _ _) hc.1, Nat.le_trans (Nat.le_add_right _ _) hc.2⟩ (fun r1 σ1 H locs hq hW => ?_)
  obtain ⟨hr1, N, F, rfl, hC1, hF1⟩ := hq
  refine lv_aload_n S.1 S.2.1 dL_law_1722 rfl (lv_at hl 2 rfl) ?_
  refine x_Vi (rest := [.int r1]) S (c_X4_cableLength l E N F o Γ hG (hR.fr hF1)) (cwV 0 S.2.2.2.2 gL_law_X4_cableLength rfl rfl rfl (by decide +kernel) ⟨Nat.le_of_ble_eq_true rfl, Nat.le_of_ble_eq_true rfl⟩) hW 40 (xw_40 E _) rfl rfl rfl hl.1 (Nat.le_of_ble_eq_true rfl) dL_law_1723 ⟨Nat.le_trans (Nat.le_add_right _ _) hc.1, Nat.le_trans (Nat.le_add_right _ _) hc.2⟩ (fun r2 σ2 H locs hq hW => ?_)
  obtain ⟨hr2, N2, F2, rfl, hR2, hF2, -⟩ := hq
  exact lv_icmp_eq S.1 S.2.1 dL_law_1726 (tgt := 1731) rfl (fun _ => W.widen (Nat.le_add_right _ _) (Nat.le_add_right _ _) (kk _ _ _ hl ⟨_, N2, F2, o, hG, hC1.fr hF2, hR2, hW⟩)) (fun h => absurd (by rw [hr1, hr2]) h)
end XLC
