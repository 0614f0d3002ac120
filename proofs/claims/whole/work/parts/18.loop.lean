/-! the law: its loop -/
theorem x_L5 {L i : Nat} (hL : L ≤ 2560) (hi : i ≤ L) : Int32.ofNat L - 5 < nI i ↔ L < i + 5 := by
  have h1 : (Int32.ofNat L).toInt = (L : Int) := Int32.toInt_ofNat_of_lt (by omega)
  have h2 : (nI i).toInt = (i : Int) := by unfold nI; exact Int32.toInt_ofNat_of_lt (by omega)
  have h3 : (Int32.ofNat L - 5).toInt = (L : Int) - 5 := by
    rw [Int32.toInt_sub, h1, show (5 : Int32).toInt = 5 from rfl]
    unfold Int.bmod
    dsimp only
    split <;> omega
  rw [Int32.lt_iff_toInt_lt, h2, h3]
  omega
theorem x_31 (x : Int32) : ∃ k, k < 32 ∧ x &&& 31 = nI k := by
  have h1 : (x &&& 31).toBitVec.toNat ≤ 31 := by
    rw [show (x &&& 31).toBitVec = x.toBitVec &&& (31 : Int32).toBitVec from rfl, BitVec.toNat_and]
    exact Nat.and_le_right
  refine ⟨(x &&& 31).toBitVec.toNat, by omega, ?_⟩
  apply Int32.toBitVec_inj.mp
  apply BitVec.eq_of_toNat_eq
  show _ = (BitVec.ofNat 32 _).toNat
  rw [BitVec.toNat_ofNat, Nat.mod_eq_of_lt (by omega)]
section XLL
variable {p : Program} {l : Launch} {e : Env} {s : State} {m : MethodId} {args : Array Value} {below : List Frame} {meth : Method} {c : Code} {Q : State → Prop}
variable {E : xE} {b L : Nat} {xs : Nat → Int32}
set_option maxHeartbeats 4000000 in
theorem lw_loop (S : CallFix p m c cL_law 7 s args wsL_law RL) (hfl : l.stackTraces = false) (hTh : xTh E s) (hNc : xNc s) (hX : va_X b L xs s s.heap) (hbl : b < s.heap.size) (hbA : ¬ xA E b) (hL : L ≤ 2560)
    (kend : ∀ (H1 : Heap) (locs1 : List Loc) (ls1 : Array Slot), va_S (xA E) s.heap H1 locs1 → W p l e room_1 s m args below meth c H1 locs1 601024 7293034 Q (F0 m 1737 ls1 [])) :
    ∀ (d i : Nat) (H : Heap) (locs : List Loc) (cells slots : Nat) (ls : Array Slot), i ≤ L → L < i + 5 * d + 5 → xLv E s H locs → lv_has ls 7 (xLs E b i) → cells + 3 * d ≤ 601024 → slots + 18 * d ≤ 7293034 → W p l e room_1 s m args below meth c H locs cells slots Q (F0 m 23 ls []) := by
  intro d
  induction d with
  | zero =>
    intro i H locs cells slots ls hi hd hV hl hc hs
    obtain ⟨Γ, n, f, o, hG, hC, hR, hW⟩ := hV
    refine lv_iload S.1 S.2.1 dL_law_23 (lv_at hl 0 rfl) ?_
    refine lv_aload_n S.1 S.2.1 dL_law_25 rfl (lv_at hl 4 rfl) ?_
    refine va_slen S.1 S.2.1 hX hbl hbA hW.2.2.2 dL_law_26 ?_
    refine lv_iconst (v := 5) S.1 S.2.1 dL_law_27 (by decide) ?_
    refine lv_isub S.1 S.2.1 dL_law_28 ?_
    exact lv_icmp_gt S.1 S.2.1 dL_law_29 (tgt := 1737) rfl (fun _ => W.widen (by omega) (by omega) (kend _ _ _ hW.2.2.2)) (fun h => absurd ((x_L5 hL hi).mpr (by omega)) h)
  | succ d ih =>
    intro i H locs cells slots ls hi hd hV hl hc hs
    obtain ⟨Γ, n, f, o, hG, hC, hR, hW⟩ := hV
    refine lv_iload S.1 S.2.1 dL_law_23 (lv_at hl 0 rfl) ?_
    refine lv_aload_n S.1 S.2.1 dL_law_25 rfl (lv_at hl 4 rfl) ?_
    refine va_slen S.1 S.2.1 hX hbl hbA hW.2.2.2 dL_law_26 ?_
    refine lv_iconst (v := 5) S.1 S.2.1 dL_law_27 (by decide) ?_
    refine lv_isub S.1 S.2.1 dL_law_28 ?_
    refine lv_icmp_gt S.1 S.2.1 dL_law_29 (tgt := 1737) rfl (fun _ => W.widen (by omega) (by omega) (kend _ _ _ hW.2.2.2)) (fun h => ?_)
    have h5 : i + 5 ≤ L := by
      have : ¬ L < i + 5 := fun z => h ((x_L5 hL hi).mpr z)
      omega
    refine lv_aload_n S.1 S.2.1 dL_law_32 rfl (lv_at hl 4 rfl) ?_
    refine lv_iload S.1 S.2.1 dL_law_33 (lv_at hl 0 rfl) ?_
    refine va_sld S.1 S.2.1 hX hbl hbA hW.2.2.2 (vp_in_nI (show i < L by omega) (by omega)) dL_law_35 ?_
    refine lv_bipush (v := 31) S.1 S.2.1 dL_law_36 (by decide) ?_
    refine lv_iand S.1 S.2.1 dL_law_38 ?_
    have hV : xLv E s H locs := ⟨Γ, n, f, o, hG, hC, hR, hW⟩
    have hcr : cells + 3 ≤ room_1.cells ∧ slots + 18 ≤ room_1.slots := ⟨by show _ ≤ 601024; omega, by show _ ≤ 7293034; omega⟩
    have kk : ∀ (H1 : Heap) (locs1 : List Loc) (ls1 : Array Slot), lv_has ls1 7 (xLs E b i) → xLv E s H1 locs1 → W p l e room_1 s m args below meth c H1 locs1 (cells + 3) (slots + 18) Q (F0 m 1731 ls1 []) := by
      intro H1 locs1 ls1 hl1 hV1
      refine lv_iinc S.1 S.2.1 dL_law_1731 hl1 (k := 0) rfl (v := nI (i + 5)) (Int32.ofNat_add i 5).symm (Nat.le_of_ble_eq_true rfl) (show _ = xLs E b (i + 5) from rfl) (fun ls hl => ?_)
      refine lv_goto S.1 S.2.1 dL_law_1734 (tgt := 23) rfl ?_
      exact ih (i + 5) H1 locs1 (cells + 3) (slots + 18) ls h5 (by omega) hV1 hl (by omega) (by omega)
    obtain ⟨k, hk, ek⟩ := x_31 (xs (nI i).toNatClampNeg)
    rw [ek]
    have hk : k = 0 ∨ k = 1 ∨ k = 2 ∨ k = 3 ∨ k = 4 ∨ k = 5 ∨ k = 6 ∨ k = 7 ∨ k = 8 ∨ k = 9 ∨ k = 10 ∨ k = 11 ∨ k = 12 ∨ k = 13 ∨ k = 14 ∨ k = 15 ∨ k = 16 ∨ k = 17 ∨ k = 18 ∨ k = 19 ∨ k = 20 ∨ k = 21 ∨ k = 22 ∨ k = 23 ∨ k = 24 ∨ k = 25 ∨ k = 26 ∨ k = 27 ∨ 28 ≤ k := by omega
    rcases hk with rfl | rfl | rfl | rfl | rfl | rfl | rfl | rfl | rfl | rfl | rfl | rfl | rfl | rfl | rfl | rfl | rfl | rfl | rfl | rfl | rfl | rfl | rfl | rfl | rfl | rfl | rfl | rfl | hk
    · exact lv_tableIn S.1 S.2.1 dL_law_39 (off := 125) (tgt := 164) (by decide) (by decide) (by decide +kernel) rfl (lc_0 S hfl hTh hNc hX hbl hbA hL h5 hV hl hcr kk)
    · exact lv_tableIn S.1 S.2.1 dL_law_39 (off := 193) (tgt := 232) (by decide) (by decide) (by decide +kernel) rfl (lc_1 S hfl hTh hNc hX hbl hbA hL h5 hV hl hcr kk)
    · exact lv_tableIn S.1 S.2.1 dL_law_39 (off := 285) (tgt := 324) (by decide) (by decide) (by decide +kernel) rfl (lc_2 S hfl hTh hNc hX hbl hbA hL h5 hV hl hcr kk)
    · exact lv_tableIn S.1 S.2.1 dL_law_39 (off := 388) (tgt := 427) (by decide) (by decide) (by decide +kernel) rfl (lc_3 S hfl hTh hNc hX hbl hbA hL h5 hV hl hcr kk)
    · exact lv_tableIn S.1 S.2.1 dL_law_39 (off := 468) (tgt := 507) (by decide) (by decide) (by decide +kernel) rfl (lc_4 S hfl hTh hNc hX hbl hbA hL h5 hV hl hcr kk)
    · exact lv_tableIn S.1 S.2.1 dL_law_39 (off := 524) (tgt := 563) (by decide) (by decide) (by decide +kernel) rfl (lc_5 S hfl hTh hNc hX hbl hbA hL h5 hV hl hcr kk)
    · exact lv_tableIn S.1 S.2.1 dL_law_39 (off := 592) (tgt := 631) (by decide) (by decide) (by decide +kernel) rfl (lc_6 S hfl hTh hNc hX hbl hbA hL h5 hV hl hcr kk)
    · exact lv_tableIn S.1 S.2.1 dL_law_39 (off := 605) (tgt := 644) (by decide) (by decide) (by decide +kernel) rfl (lc_7 S hfl hTh hNc hX hbl hbA hL h5 hV hl hcr kk)
    · exact lv_tableIn S.1 S.2.1 dL_law_39 (off := 649) (tgt := 688) (by decide) (by decide) (by decide +kernel) rfl (lc_8 S hfl hTh hNc hX hbl hbA hL h5 hV hl hcr kk)
    · exact lv_tableIn S.1 S.2.1 dL_law_39 (off := 662) (tgt := 701) (by decide) (by decide) (by decide +kernel) rfl (lc_9 S hfl hTh hNc hX hbl hbA hL h5 hV hl hcr kk)
    · exact lv_tableIn S.1 S.2.1 dL_law_39 (off := 675) (tgt := 714) (by decide) (by decide) (by decide +kernel) rfl (lc_10 S hfl hTh hNc hX hbl hbA hL h5 hV hl hcr kk)
    · exact lv_tableIn S.1 S.2.1 dL_law_39 (off := 688) (tgt := 727) (by decide) (by decide) (by decide +kernel) rfl (lc_11 S hfl hTh hNc hX hbl hbA hL h5 hV hl hcr kk)
    · exact lv_tableIn S.1 S.2.1 dL_law_39 (off := 744) (tgt := 783) (by decide) (by decide) (by decide +kernel) rfl (lc_12 S hfl hTh hNc hX hbl hbA hL h5 hV hl hcr kk)
    · exact lv_tableIn S.1 S.2.1 dL_law_39 (off := 800) (tgt := 839) (by decide) (by decide) (by decide +kernel) rfl (lc_13 S hfl hTh hNc hX hbl hbA hL h5 hV hl hcr kk)
    · exact lv_tableIn S.1 S.2.1 dL_law_39 (off := 856) (tgt := 895) (by decide) (by decide) (by decide +kernel) rfl (lc_14 S hfl hTh hNc hX hbl hbA hL h5 hV hl hcr kk)
    · exact lv_tableIn S.1 S.2.1 dL_law_39 (off := 912) (tgt := 951) (by decide) (by decide) (by decide +kernel) rfl (lc_15 S hfl hTh hNc hX hbl hbA hL h5 hV hl hcr kk)
    · exact lv_tableIn S.1 S.2.1 dL_law_39 (off := 996) (tgt := 1035) (by decide) (by decide) (by decide +kernel) rfl (lc_16 S hfl hTh hNc hX hbl hbA hL h5 hV hl hcr kk)
    · exact lv_tableIn S.1 S.2.1 dL_law_39 (off := 1080) (tgt := 1119) (by decide) (by decide) (by decide +kernel) rfl (lc_17 S hfl hTh hNc hX hbl hbA hL h5 hV hl hcr kk)
    · exact lv_tableIn S.1 S.2.1 dL_law_39 (off := 1176) (tgt := 1215) (by decide) (by decide) (by decide +kernel) rfl (lc_18 S hfl hTh hNc hX hbl hbA hL h5 hV hl hcr kk)
    · exact lv_tableIn S.1 S.2.1 dL_law_39 (off := 1260) (tgt := 1299) (by decide) (by decide) (by decide +kernel) rfl (lc_19 S hfl hTh hNc hX hbl hbA hL h5 hV hl hcr kk)
    · exact lv_tableIn S.1 S.2.1 dL_law_39 (off := 1323) (tgt := 1362) (by decide) (by decide) (by decide +kernel) rfl (lc_20 S hfl hTh hNc hX hbl hbA hL h5 hV hl hcr kk)
    · exact lv_tableIn S.1 S.2.1 dL_law_39 (off := 1398) (tgt := 1437) (by decide) (by decide) (by decide +kernel) rfl (lc_21 S hfl hTh hNc hX hbl hbA hL h5 hV hl hcr kk)
    · exact lv_tableIn S.1 S.2.1 dL_law_39 (off := 1473) (tgt := 1512) (by decide) (by decide) (by decide +kernel) rfl (lc_22 S hfl hTh hNc hX hbl hbA hL h5 hV hl hcr kk)
    · exact lv_tableIn S.1 S.2.1 dL_law_39 (off := 1486) (tgt := 1525) (by decide) (by decide) (by decide +kernel) rfl (lc_23 S hfl hTh hNc hX hbl hbA hL h5 hV hl hcr kk)
    · exact lv_tableIn S.1 S.2.1 dL_law_39 (off := 1542) (tgt := 1581) (by decide) (by decide) (by decide +kernel) rfl (lc_24 S hfl hTh hNc hX hbl hbA hL h5 hV hl hcr kk)
    · exact lv_tableIn S.1 S.2.1 dL_law_39 (off := 1610) (tgt := 1649) (by decide) (by decide) (by decide +kernel) rfl (lc_25 S hfl hTh hNc hX hbl hbA hL h5 hV hl hcr kk)
    · exact lv_tableIn S.1 S.2.1 dL_law_39 (off := 1666) (tgt := 1705) (by decide) (by decide) (by decide +kernel) rfl (lc_26 S hfl hTh hNc hX hbl hbA hL h5 hV hl hcr kk)
    · exact lv_tableIn S.1 S.2.1 dL_law_39 (off := 1679) (tgt := 1718) (by decide) (by decide) (by decide +kernel) rfl (lc_27 S hfl hTh hNc hX hbl hbA hL h5 hV hl hcr kk)
    · refine lv_tableOut S.1 S.2.1 dL_law_39 (tgt := 1731) (Or.inr ?_) rfl (W.widen (Nat.le_add_right _ _) (Nat.le_add_right _ _) (kk _ _ _ hl hV))
      rw [show (nI k).toInt = (k : Int) from by unfold nI; exact Int32.toInt_ofNat_of_lt (by omega)]
      omega
end XLL
/-- the empty book -/
def xG0 : xG := (fun _ => 0, fun _ _ => 0, fun k => if k = 1 ∨ k = 3 then fun _ => -1 else fun _ => 0)
theorem xG0_cb (q : Nat) : gCb xG0 q = -1 := rfl
theorem xG0_st (q : Nat) : gSt xG0 q = -1 := rfl
theorem xG0_bk (q : Nat) : gBk xG0 q = 0 := rfl
theorem xG0_cl (q : Nat) : gCl xG0 q = 0 := rfl
def xf0 (g : Nat → Nat → Int32) : Nat → Nat → Int32 := fun k => if k < 20 then g k else fun _ => 0
theorem xG0_C {g : Nat → Nat → Int32} (h : xIniB g) : xRepC xG0 (fun _ => 0) (xf0 g) := by
  obtain ⟨h0, h1, h2, h3, h4, h5, h6, h7, h8, h9, h10, h11, h12, h13, h14, h15, h16, h17, h18⟩ := h
  exact ⟨rfl, rfl, rfl, rfl, fun k hk => absurd hk (Nat.not_lt_zero k), fun k hk => absurd hk (Nat.not_lt_zero k), fun k hk => absurd hk (Nat.not_lt_zero k), fun k hk => absurd hk (Nat.not_lt_zero k), h4, h5, h6, fun k hk => absurd hk (Nat.not_lt_zero k), fun k hk => absurd hk (Nat.not_lt_zero k), fun k hk => absurd hk (Nat.not_lt_zero k), fun k hk => absurd hk (Nat.not_lt_zero k), fun k hk => absurd hk (Nat.not_lt_zero k), fun k hk => absurd hk (Nat.not_lt_zero k), h17⟩
theorem xG0_R (g : Nat → Nat → Int32) : xRepR xG0 (fun _ => 0) (xf0 g) :=
  ⟨rfl, rfl, rfl, rfl, fun k hk => absurd hk (Nat.not_lt_zero k), fun k _ => rfl, fun k hk => absurd hk (Nat.not_lt_zero k), fun k hk => absurd hk (Nat.not_lt_zero k), fun k hk => absurd hk (Nat.not_lt_zero k), fun k hk => absurd hk (Nat.not_lt_zero k), fun _ _ => rfl, fun k hk => absurd hk (Nat.not_lt_zero k), fun k hk => absurd hk (Nat.not_lt_zero k), fun k hk => absurd hk (Nat.not_lt_zero k), fun k hk => absurd hk (Nat.not_lt_zero k), fun k hk => absurd hk (Nat.not_lt_zero k), fun k hk => absurd hk (Nat.not_lt_zero k)⟩
theorem xG0_good : xGood xG0 := ⟨Nat.zero_le _, Nat.zero_le _, Nat.zero_le _, rfl, rfl, fun k hk => absurd hk (Nat.not_lt_zero k), fun k hk => absurd hk (Nat.not_lt_zero k), fun k hk => absurd hk (Nat.not_lt_zero k), fun k hk => absurd hk (Nat.not_lt_zero k), fun k hk => absurd hk (Nat.not_lt_zero k), fun k r hk => absurd hk (Nat.not_lt_zero k), fun _ => Or.inl rfl, fun _ _ => rfl, fun _ _ => rfl, fun k r hk => absurd hk (Nat.not_lt_zero k), fun _ _ => ⟨rfl, rfl⟩, fun k hk => absurd hk (Nat.not_lt_zero k), fun k hk => absurd hk (Nat.not_lt_zero k), fun k hk => absurd hk (Nat.not_lt_zero k), fun k hk => absurd hk (Nat.not_lt_zero k)⟩
