/-! the law's calls that catch: a number, -99999 for an exception -/
abbrev rmL_addPanel : Room := { frames := 7, cells := 1, slots := 6, locals := 106 }
set_option maxHeartbeats 4000000 in
theorem c_L_addPanel (l : Launch) (E : xE) (hfl : l.stackTraces = false) (Γ : xG) (hG : xGd Γ) (a : Int32) (a2 : Int32) : gL l yL_addPanel wsL_addPanel rmL_addPanel E [.ref (E.2.2.2 0), .int a, .int a2] Γ 1 (fun r Γ' => (r, Γ') = fPanel Γ a a2) := by
  refine g_startX RL (by decide) rfl rfl (Nat.le_of_ble_eq_true rfl) ?_
  intro p e s m args below meth c ls S hr hlk htab hTh hNc hW hl
  have hx := S.1
  have hb := S.2.1
  have hl : lv_has ls 4 [(0, .ref (E.2.2.2 0)), (1, .int a), (2, .int a2)] := hl
  have wq : Cond.constant RL 16 (-99999) ∈ wsL_addPanel := by decide +kernel
  have wk14 : Cond.classLink RL 14 "java/lang/IllegalArgumentException" ∈ wsL_addPanel := by decide +kernel
  have wk17 : Cond.classLink RL 17 "java/lang/IllegalStateException" ∈ wsL_addPanel := by decide +kernel
  refine lv_aload_n hx hb dL_addPanel_0 rfl (lv_at hl 0 rfl) ?_
  refine lv_iload_n hx hb dL_addPanel_1 rfl (lv_at hl 1 rfl) ?_
  refine lv_iload_n hx hb dL_addPanel_2 rfl (lv_at hl 2 rfl) ?_
  refine y_Vc (K := 1) (rm := rmX3_addPanel) (As := [.int a, .int a2]) (rest := []) S (fun N F hR => c_X3_addPanel l E N F xo0 hfl Γ hG.1 hR a a2) (cwV 2 S.2.2.2.2 gL_addPanel_X3_addPanel rfl rfl rfl (by decide +kernel) ⟨Nat.le_of_ble_eq_true rfl, Nat.le_of_ble_eq_true rfl⟩) hW hTh rfl rfl hl.1 (Nat.le_of_ble_eq_true rfl) dL_addPanel_3 ⟨Nat.le_of_ble_eq_true rfl, Nat.le_of_ble_eq_true rfl⟩ (fun X ce q9 H1 locs1 hX hW hce hcv hcl => ?_) (fun r5 H locs hk hV hW => ?_)
  · rcases hX with ⟨hk, rfl⟩ | ⟨hk, rfl⟩
    · refine x_catch S hTh [] ⟨0, 6, 7, 14⟩ [⟨0, 6, 11, 17⟩] (htab.trans rfl) (fun z hz => by cases hz) (by decide) (by decide) wk14 (Or.inr (Or.inl rfl)) hce hcv hcl ?_
      refine lv_astore_n hx hb dL_addPanel_7 rfl hl (Nat.le_of_ble_eq_true rfl) rfl (fun ls hl => ?_)
      refine lv_ldc (own := RL) hx hb S.2.2.2.1 (S.2.2.2.2 _ wq) dL_addPanel_8 ?_
      exact g_ri S hr hlk hW (Nat.le_of_ble_eq_true rfl) (Nat.le_of_ble_eq_true rfl) dL_addPanel_10 (fOp_n (by rw [hk]; decide)).symm
    · refine x_catch S hTh [⟨0, 6, 7, 14⟩] ⟨0, 6, 11, 17⟩ [] (htab.trans rfl) (fun z hz => by
          simp only [List.mem_cons, List.not_mem_nil, or_false] at hz
          subst hz
          exact Or.inr ⟨(show (14 : Nat) ≠ 0 by decide), _, S.2.2.2.2 _ wk14, hNc.2.2⟩) (by decide) (by decide) wk17 (Or.inr (Or.inr rfl)) hce hcv hcl ?_
      refine lv_astore_n hx hb dL_addPanel_11 rfl hl (Nat.le_of_ble_eq_true rfl) rfl (fun ls hl => ?_)
      refine lv_ldc (own := RL) hx hb S.2.2.2.1 (S.2.2.2.2 _ wq) dL_addPanel_12 ?_
      exact g_ri S hr hlk hW (Nat.le_of_ble_eq_true rfl) (Nat.le_of_ble_eq_true rfl) dL_addPanel_14 (fOp_n (by rw [hk]; decide)).symm
  · exact g_ri S hr hlk hW (Nat.le_of_ble_eq_true rfl) (Nat.le_of_ble_eq_true rfl) dL_addPanel_6 (by rw [hV]; exact (fOp_0 hk).symm)
abbrev rmL_addTrunk : Room := { frames := 8, cells := 3, slots := 18, locals := 129 }
set_option maxHeartbeats 4000000 in
theorem c_L_addTrunk (l : Launch) (E : xE) (hfl : l.stackTraces = false) (Γ : xG) (hG : xGd Γ) (a : Int32) (a2 : Int32) (a3 : Int32) (a4 : Int32) : gL l yL_addTrunk wsL_addTrunk rmL_addTrunk E [.ref (E.2.2.2 0), .int a, .int a2, .int a3, .int a4] Γ 3 (fun r Γ' => (r, Γ') = fTrunk Γ a a2 a3 a4) := by
  refine g_startX RL (by decide) rfl rfl (Nat.le_of_ble_eq_true rfl) ?_
  intro p e s m args below meth c ls S hr hlk htab hTh hNc hW hl
  have hx := S.1
  have hb := S.2.1
  have hl : lv_has ls 6 [(0, .ref (E.2.2.2 0)), (1, .int a), (2, .int a2), (3, .int a3), (4, .int a4)] := hl
  have wq : Cond.constant RL 16 (-99999) ∈ wsL_addTrunk := by decide +kernel
  have wk14 : Cond.classLink RL 14 "java/lang/IllegalArgumentException" ∈ wsL_addTrunk := by decide +kernel
  have wk17 : Cond.classLink RL 17 "java/lang/IllegalStateException" ∈ wsL_addTrunk := by decide +kernel
  have wk23 : Cond.classLink RL 23 "java/lang/IndexOutOfBoundsException" ∈ wsL_addTrunk := by decide +kernel
  refine lv_aload_n hx hb dL_addTrunk_0 rfl (lv_at hl 0 rfl) ?_
  refine lv_iload_n hx hb dL_addTrunk_1 rfl (lv_at hl 1 rfl) ?_
  refine lv_iload_n hx hb dL_addTrunk_2 rfl (lv_at hl 2 rfl) ?_
  refine lv_iload_n hx hb dL_addTrunk_3 rfl (lv_at hl 3 rfl) ?_
  refine lv_iload hx hb dL_addTrunk_4 (lv_at hl 4 rfl) ?_
  refine y_Vc (K := 3) (rm := rmX3_addTrunk) (As := [.int a, .int a2, .int a3, .int a4]) (rest := []) S (fun N F hR => c_X3_addTrunk l E N F xo0 hfl Γ hG.1 hR a a2 a3 a4) (cwV 4 S.2.2.2.2 gL_addTrunk_X3_addTrunk rfl rfl rfl (by decide +kernel) ⟨Nat.le_of_ble_eq_true rfl, Nat.le_of_ble_eq_true rfl⟩) hW hTh rfl rfl hl.1 (Nat.le_of_ble_eq_true rfl) dL_addTrunk_6 ⟨Nat.le_of_ble_eq_true rfl, Nat.le_of_ble_eq_true rfl⟩ (fun X ce q9 H1 locs1 hX hW hce hcv hcl => ?_) (fun r5 H locs hk hV hW => ?_)
  · rcases hX with ⟨hk, rfl⟩ | ⟨hk, rfl⟩ | ⟨hk, rfl⟩
    · refine x_catch S hTh [] ⟨0, 9, 10, 23⟩ [⟨0, 9, 15, 14⟩, ⟨0, 9, 20, 17⟩] (htab.trans rfl) (fun z hz => by cases hz) (by decide) (by decide) wk23 (Or.inl rfl) hce hcv hcl ?_
      refine lv_astore hx hb dL_addTrunk_10 hl (Nat.le_of_ble_eq_true rfl) rfl (fun ls hl => ?_)
      refine lv_ldc (own := RL) hx hb S.2.2.2.1 (S.2.2.2.2 _ wq) dL_addTrunk_12 ?_
      exact g_ri S hr hlk hW (Nat.le_of_ble_eq_true rfl) (Nat.le_of_ble_eq_true rfl) dL_addTrunk_14 (fOp_n (by rw [hk]; decide)).symm
    · refine x_catch S hTh [⟨0, 9, 10, 23⟩] ⟨0, 9, 15, 14⟩ [⟨0, 9, 20, 17⟩] (htab.trans rfl) (fun z hz => by
          simp only [List.mem_cons, List.not_mem_nil, or_false] at hz
          subst hz
          exact Or.inr ⟨(show (23 : Nat) ≠ 0 by decide), _, S.2.2.2.2 _ wk23, hNc.1⟩) (by decide) (by decide) wk14 (Or.inr (Or.inl rfl)) hce hcv hcl ?_
      refine lv_astore hx hb dL_addTrunk_15 hl (Nat.le_of_ble_eq_true rfl) rfl (fun ls hl => ?_)
      refine lv_ldc (own := RL) hx hb S.2.2.2.1 (S.2.2.2.2 _ wq) dL_addTrunk_17 ?_
      exact g_ri S hr hlk hW (Nat.le_of_ble_eq_true rfl) (Nat.le_of_ble_eq_true rfl) dL_addTrunk_19 (fOp_n (by rw [hk]; decide)).symm
    · refine x_catch S hTh [⟨0, 9, 10, 23⟩, ⟨0, 9, 15, 14⟩] ⟨0, 9, 20, 17⟩ [] (htab.trans rfl) (fun z hz => by
          simp only [List.mem_cons, List.not_mem_nil, or_false] at hz
          rcases hz with rfl | rfl
          · exact Or.inr ⟨(show (23 : Nat) ≠ 0 by decide), _, S.2.2.2.2 _ wk23, hNc.2.1⟩
          · exact Or.inr ⟨(show (14 : Nat) ≠ 0 by decide), _, S.2.2.2.2 _ wk14, hNc.2.2⟩) (by decide) (by decide) wk17 (Or.inr (Or.inr rfl)) hce hcv hcl ?_
      refine lv_astore hx hb dL_addTrunk_20 hl (Nat.le_of_ble_eq_true rfl) rfl (fun ls hl => ?_)
      refine lv_ldc (own := RL) hx hb S.2.2.2.1 (S.2.2.2.2 _ wq) dL_addTrunk_22 ?_
      exact g_ri S hr hlk hW (Nat.le_of_ble_eq_true rfl) (Nat.le_of_ble_eq_true rfl) dL_addTrunk_24 (fOp_n (by rw [hk]; decide)).symm
  · exact g_ri S hr hlk hW (Nat.le_of_ble_eq_true rfl) (Nat.le_of_ble_eq_true rfl) dL_addTrunk_9 (by rw [hV]; exact (fOp_0 hk).symm)
abbrev rmL_does : Room := { frames := 8, cells := 3, slots := 18, locals := 128 }
set_option maxHeartbeats 4000000 in
theorem c_L_does0 (l : Launch) (E : xE) (hfl : l.stackTraces = false) (Γ : xG) (hG : xGd Γ) (a : Int32) (a2 : Int32) (a3 : Int32) : gL l yL_does wsL_does rmL_does E [.ref (E.2.2.2 0), .int 0, .int a, .int a2, .int a3] Γ 3 (fun r Γ' => (r, Γ') = fBrk Γ a a2 (decide (a3 = 1))) := by
  refine g_startX RL (by decide) rfl rfl (Nat.le_of_ble_eq_true rfl) ?_
  intro p e s m args below meth c ls S hr hlk htab hTh hNc hW hl
  have hx := S.1
  have hb := S.2.1
  have hl : lv_has ls 6 [(0, .ref (E.2.2.2 0)), (1, .int 0), (2, .int a), (3, .int a2), (4, .int a3)] := hl
  have wq : Cond.constant RL 16 (-99999) ∈ wsL_does := by decide +kernel
  have wk14 : Cond.classLink RL 14 "java/lang/IllegalArgumentException" ∈ wsL_does := by decide +kernel
  have wk17 : Cond.classLink RL 17 "java/lang/IllegalStateException" ∈ wsL_does := by decide +kernel
  have wk23 : Cond.classLink RL 23 "java/lang/IndexOutOfBoundsException" ∈ wsL_does := by decide +kernel
  refine lv_iload_n hx hb dL_does_0 rfl (lv_at hl 1 rfl) ?_
  refine lv_if_ne (tgt := 32) hx hb dL_does_1 (by decide) (fun h => absurd h (by decide)) (fun _ => ?_)
  refine lv_aload_n hx hb dL_does_4 rfl (lv_at hl 0 rfl) ?_
  refine lv_iload_n hx hb dL_does_5 rfl (lv_at hl 2 rfl) ?_
  refine lv_iload_n hx hb dL_does_6 rfl (lv_at hl 3 rfl) ?_
  refine lv_iload hx hb dL_does_7 (lv_at hl 4 rfl) ?_
  refine lv_iconst (v := 1) hx hb dL_does_9 (by decide) ?_
  refine lv_icmp_ne (tgt := 17) hx hb dL_does_10 (by decide) (fun h => ?_) (fun h => ?_)
  · rw [show (decide (a3 = 1)) = false from decide_eq_false h]
    refine lv_iconst (v := 0) hx hb dL_does_17 (by decide) ?_
    refine y_Vc (K := 2) (rm := rmX3_setBroken) (As := [.int a, .int a2, .int (bz false)]) (rest := []) S (fun N F hR => c_X3_setBroken l E N F xo0 hfl Γ hG.1 hR a a2 false) (cwV 3 S.2.2.2.2 gL_does_X3_setBroken rfl rfl rfl (by decide +kernel) ⟨Nat.le_of_ble_eq_true rfl, Nat.le_of_ble_eq_true rfl⟩) hW hTh rfl rfl hl.1 (Nat.le_of_ble_eq_true rfl) dL_does_18 ⟨Nat.le_of_ble_eq_true rfl, Nat.le_of_ble_eq_true rfl⟩ (fun X ce q9 H1 locs1 hX hW hce hcv hcl => ?_) (fun r5 H locs hk hV hW => ?_)
    · obtain ⟨hk, rfl⟩ := hX
      refine x_catch S hTh [] ⟨0, 79, 80, 23⟩ [⟨0, 79, 85, 14⟩, ⟨0, 79, 90, 17⟩] (htab.trans rfl) (fun z hz => by cases hz) (by decide) (by decide) wk23 (Or.inl rfl) hce hcv hcl ?_
      refine lv_astore hx hb dL_does_80 hl (Nat.le_of_ble_eq_true rfl) rfl (fun ls hl => ?_)
      refine lv_ldc (own := RL) hx hb S.2.2.2.1 (S.2.2.2.2 _ wq) dL_does_82 ?_
      exact g_ri S hr hlk hW (Nat.le_of_ble_eq_true rfl) (Nat.le_of_ble_eq_true rfl) dL_does_84 (fOp_n (by rw [hk]; decide)).symm
    · rcases hG.1.b01 (gTa Γ (xNa a) + xNa a2) with e0 | e0
      · rw [e0] at hV; subst hV
        refine lv_if_eq (tgt := 28) hx hb dL_does_21 (by decide) (fun _ => ?_) (fun h => absurd rfl h)
        refine lv_iconst (v := 0) hx hb dL_does_28 (by decide) ?_
        refine lv_goto (tgt := 79) hx hb dL_does_29 (by decide) ?_
        exact g_ri S hr hlk hW (Nat.le_of_ble_eq_true rfl) (Nat.le_of_ble_eq_true rfl) dL_does_79 (by show _ = fOp _ _ _ _; rw [fOp_0 hk, e0])
      · rw [e0] at hV; subst hV
        refine lv_if_eq (tgt := 28) hx hb dL_does_21 (by decide) (fun h => absurd h (by decide)) (fun _ => ?_)
        refine lv_iconst (v := 1) hx hb dL_does_24 (by decide) ?_
        refine lv_goto (tgt := 79) hx hb dL_does_25 (by decide) ?_
        exact g_ri S hr hlk hW (Nat.le_of_ble_eq_true rfl) (Nat.le_of_ble_eq_true rfl) dL_does_79 (by show _ = fOp _ _ _ _; rw [fOp_0 hk, e0])
  · rw [show (decide (a3 = 1)) = true from decide_eq_true h]
    refine lv_iconst (v := 1) hx hb dL_does_13 (by decide) ?_
    refine lv_goto (tgt := 18) hx hb dL_does_14 (by decide) ?_
    refine y_Vc (K := 2) (rm := rmX3_setBroken) (As := [.int a, .int a2, .int (bz true)]) (rest := []) S (fun N F hR => c_X3_setBroken l E N F xo0 hfl Γ hG.1 hR a a2 true) (cwV 3 S.2.2.2.2 gL_does_X3_setBroken rfl rfl rfl (by decide +kernel) ⟨Nat.le_of_ble_eq_true rfl, Nat.le_of_ble_eq_true rfl⟩) hW hTh rfl rfl hl.1 (Nat.le_of_ble_eq_true rfl) dL_does_18 ⟨Nat.le_of_ble_eq_true rfl, Nat.le_of_ble_eq_true rfl⟩ (fun X ce q9 H1 locs1 hX hW hce hcv hcl => ?_) (fun r5 H locs hk hV hW => ?_)
    · obtain ⟨hk, rfl⟩ := hX
      refine x_catch S hTh [] ⟨0, 79, 80, 23⟩ [⟨0, 79, 85, 14⟩, ⟨0, 79, 90, 17⟩] (htab.trans rfl) (fun z hz => by cases hz) (by decide) (by decide) wk23 (Or.inl rfl) hce hcv hcl ?_
      refine lv_astore hx hb dL_does_80 hl (Nat.le_of_ble_eq_true rfl) rfl (fun ls hl => ?_)
      refine lv_ldc (own := RL) hx hb S.2.2.2.1 (S.2.2.2.2 _ wq) dL_does_82 ?_
      exact g_ri S hr hlk hW (Nat.le_of_ble_eq_true rfl) (Nat.le_of_ble_eq_true rfl) dL_does_84 (fOp_n (by rw [hk]; decide)).symm
    · rcases hG.1.b01 (gTa Γ (xNa a) + xNa a2) with e0 | e0
      · rw [e0] at hV; subst hV
        refine lv_if_eq (tgt := 28) hx hb dL_does_21 (by decide) (fun _ => ?_) (fun h => absurd rfl h)
        refine lv_iconst (v := 0) hx hb dL_does_28 (by decide) ?_
        refine lv_goto (tgt := 79) hx hb dL_does_29 (by decide) ?_
        exact g_ri S hr hlk hW (Nat.le_of_ble_eq_true rfl) (Nat.le_of_ble_eq_true rfl) dL_does_79 (by show _ = fOp _ _ _ _; rw [fOp_0 hk, e0])
      · rw [e0] at hV; subst hV
        refine lv_if_eq (tgt := 28) hx hb dL_does_21 (by decide) (fun h => absurd h (by decide)) (fun _ => ?_)
        refine lv_iconst (v := 1) hx hb dL_does_24 (by decide) ?_
        refine lv_goto (tgt := 79) hx hb dL_does_25 (by decide) ?_
        exact g_ri S hr hlk hW (Nat.le_of_ble_eq_true rfl) (Nat.le_of_ble_eq_true rfl) dL_does_79 (by show _ = fOp _ _ _ _; rw [fOp_0 hk, e0])
set_option maxHeartbeats 4000000 in
theorem c_L_does1 (l : Launch) (E : xE) (hfl : l.stackTraces = false) (Γ : xG) (hG : xGd Γ) (a : Int32) (a2 : Int32) (a3 : Int32) : gL l yL_does wsL_does rmL_does E [.ref (E.2.2.2 0), .int 1, .int a, .int a2, .int a3] Γ 3 (fun r Γ' => (r, Γ') = fPlug Γ a a2 a3) := by
  refine g_startX RL (by decide) rfl rfl (Nat.le_of_ble_eq_true rfl) ?_
  intro p e s m args below meth c ls S hr hlk htab hTh hNc hW hl
  have hx := S.1
  have hb := S.2.1
  have hl : lv_has ls 6 [(0, .ref (E.2.2.2 0)), (1, .int 1), (2, .int a), (3, .int a2), (4, .int a3)] := hl
  have wq : Cond.constant RL 16 (-99999) ∈ wsL_does := by decide +kernel
  have wk14 : Cond.classLink RL 14 "java/lang/IllegalArgumentException" ∈ wsL_does := by decide +kernel
  have wk17 : Cond.classLink RL 17 "java/lang/IllegalStateException" ∈ wsL_does := by decide +kernel
  have wk23 : Cond.classLink RL 23 "java/lang/IndexOutOfBoundsException" ∈ wsL_does := by decide +kernel
  refine lv_iload_n hx hb dL_does_0 rfl (lv_at hl 1 rfl) ?_
  refine lv_if_ne (tgt := 32) hx hb dL_does_1 (by decide) (fun _ => ?_) (fun h => absurd h (by decide))
  refine lv_iload_n hx hb dL_does_32 rfl (lv_at hl 1 rfl) ?_
  refine lv_iconst (v := 1) hx hb dL_does_33 (by decide) ?_
  refine lv_icmp_ne (tgt := 48) hx hb dL_does_34 (by decide) (fun h => absurd rfl h) (fun _ => ?_)
  refine lv_aload_n hx hb dL_does_37 rfl (lv_at hl 0 rfl) ?_
  refine lv_iload_n hx hb dL_does_38 rfl (lv_at hl 2 rfl) ?_
  refine lv_iload_n hx hb dL_does_39 rfl (lv_at hl 3 rfl) ?_
  refine lv_iload hx hb dL_does_40 (lv_at hl 4 rfl) ?_
  refine y_Vc (K := 3) (rm := rmX3_plug) (As := [.int a, .int a2, .int a3]) (rest := []) S (fun N F hR => c_X3_plug l E N F xo0 hfl Γ hG.1 hR a a2 a3) (cwV 3 S.2.2.2.2 gL_does_X3_plug rfl rfl rfl (by decide +kernel) ⟨Nat.le_of_ble_eq_true rfl, Nat.le_of_ble_eq_true rfl⟩) hW hTh rfl rfl hl.1 (Nat.le_of_ble_eq_true rfl) dL_does_42 ⟨Nat.le_of_ble_eq_true rfl, Nat.le_of_ble_eq_true rfl⟩ (fun X ce q9 H1 locs1 hX hW hce hcv hcl => ?_) (fun r5 H locs hk hV hW => ?_)
  · rcases hX with ⟨hk, rfl⟩ | ⟨hk, rfl⟩ | ⟨hk, rfl⟩
    · refine x_catch S hTh [] ⟨0, 79, 80, 23⟩ [⟨0, 79, 85, 14⟩, ⟨0, 79, 90, 17⟩] (htab.trans rfl) (fun z hz => by cases hz) (by decide) (by decide) wk23 (Or.inl rfl) hce hcv hcl ?_
      refine lv_astore hx hb dL_does_80 hl (Nat.le_of_ble_eq_true rfl) rfl (fun ls hl => ?_)
      refine lv_ldc (own := RL) hx hb S.2.2.2.1 (S.2.2.2.2 _ wq) dL_does_82 ?_
      exact g_ri S hr hlk hW (Nat.le_of_ble_eq_true rfl) (Nat.le_of_ble_eq_true rfl) dL_does_84 (fOp_n (by rw [hk]; decide)).symm
    · refine x_catch S hTh [⟨0, 79, 80, 23⟩] ⟨0, 79, 85, 14⟩ [⟨0, 79, 90, 17⟩] (htab.trans rfl) (fun z hz => by
          simp only [List.mem_cons, List.not_mem_nil, or_false] at hz
          subst hz
          exact Or.inr ⟨(show (23 : Nat) ≠ 0 by decide), _, S.2.2.2.2 _ wk23, hNc.1⟩) (by decide) (by decide) wk14 (Or.inr (Or.inl rfl)) hce hcv hcl ?_
      refine lv_astore hx hb dL_does_85 hl (Nat.le_of_ble_eq_true rfl) rfl (fun ls hl => ?_)
      refine lv_ldc (own := RL) hx hb S.2.2.2.1 (S.2.2.2.2 _ wq) dL_does_87 ?_
      exact g_ri S hr hlk hW (Nat.le_of_ble_eq_true rfl) (Nat.le_of_ble_eq_true rfl) dL_does_89 (fOp_n (by rw [hk]; decide)).symm
    · refine x_catch S hTh [⟨0, 79, 80, 23⟩, ⟨0, 79, 85, 14⟩] ⟨0, 79, 90, 17⟩ [] (htab.trans rfl) (fun z hz => by
          simp only [List.mem_cons, List.not_mem_nil, or_false] at hz
          rcases hz with rfl | rfl
          · exact Or.inr ⟨(show (23 : Nat) ≠ 0 by decide), _, S.2.2.2.2 _ wk23, hNc.2.1⟩
          · exact Or.inr ⟨(show (14 : Nat) ≠ 0 by decide), _, S.2.2.2.2 _ wk14, hNc.2.2⟩) (by decide) (by decide) wk17 (Or.inr (Or.inr rfl)) hce hcv hcl ?_
      refine lv_astore hx hb dL_does_90 hl (Nat.le_of_ble_eq_true rfl) rfl (fun ls hl => ?_)
      refine lv_ldc (own := RL) hx hb S.2.2.2.1 (S.2.2.2.2 _ wq) dL_does_92 ?_
      exact g_ri S hr hlk hW (Nat.le_of_ble_eq_true rfl) (Nat.le_of_ble_eq_true rfl) dL_does_94 (fOp_n (by rw [hk]; decide)).symm
  · refine lv_goto (tgt := 79) hx hb dL_does_45 (by decide) ?_
    exact g_ri S hr hlk hW (Nat.le_of_ble_eq_true rfl) (Nat.le_of_ble_eq_true rfl) dL_does_79 (by rw [hV]; exact (fOp_0 hk).symm)
set_option maxHeartbeats 4000000 in
theorem c_L_does2 (l : Launch) (E : xE) (hfl : l.stackTraces = false) (Γ : xG) (hG : xGd Γ) (a : Int32) (a2 : Int32) (a3 : Int32) : gL l yL_does wsL_does rmL_does E [.ref (E.2.2.2 0), .int 2, .int a, .int a2, .int a3] Γ 3 (fun r Γ' => (r, Γ') = fPull Γ a) := by
  refine g_startX RL (by decide) rfl rfl (Nat.le_of_ble_eq_true rfl) ?_
  intro p e s m args below meth c ls S hr hlk htab hTh hNc hW hl
  have hx := S.1
  have hb := S.2.1
  have hl : lv_has ls 6 [(0, .ref (E.2.2.2 0)), (1, .int 2), (2, .int a), (3, .int a2), (4, .int a3)] := hl
  have wq : Cond.constant RL 16 (-99999) ∈ wsL_does := by decide +kernel
  have wk14 : Cond.classLink RL 14 "java/lang/IllegalArgumentException" ∈ wsL_does := by decide +kernel
  have wk17 : Cond.classLink RL 17 "java/lang/IllegalStateException" ∈ wsL_does := by decide +kernel
  have wk23 : Cond.classLink RL 23 "java/lang/IndexOutOfBoundsException" ∈ wsL_does := by decide +kernel
  refine lv_iload_n hx hb dL_does_0 rfl (lv_at hl 1 rfl) ?_
  refine lv_if_ne (tgt := 32) hx hb dL_does_1 (by decide) (fun _ => ?_) (fun h => absurd h (by decide))
  refine lv_iload_n hx hb dL_does_32 rfl (lv_at hl 1 rfl) ?_
  refine lv_iconst (v := 1) hx hb dL_does_33 (by decide) ?_
  refine lv_icmp_ne (tgt := 48) hx hb dL_does_34 (by decide) (fun _ => ?_) (fun h => absurd h (by decide))
  refine lv_iload_n hx hb dL_does_48 rfl (lv_at hl 1 rfl) ?_
  refine lv_iconst (v := 2) hx hb dL_does_49 (by decide) ?_
  refine lv_icmp_ne (tgt := 61) hx hb dL_does_50 (by decide) (fun h => absurd rfl h) (fun _ => ?_)
  refine lv_aload_n hx hb dL_does_53 rfl (lv_at hl 0 rfl) ?_
  refine lv_iload_n hx hb dL_does_54 rfl (lv_at hl 2 rfl) ?_
  refine y_Vc (K := 2) (rm := rmX3_pull) (As := [.int a]) (rest := []) S (fun N F hR => c_X3_pull l E N F xo0 hfl Γ hG.1 hR a) (cwV 1 S.2.2.2.2 gL_does_X3_pull rfl rfl rfl (by decide +kernel) ⟨Nat.le_of_ble_eq_true rfl, Nat.le_of_ble_eq_true rfl⟩) hW hTh rfl rfl hl.1 (Nat.le_of_ble_eq_true rfl) dL_does_55 ⟨Nat.le_of_ble_eq_true rfl, Nat.le_of_ble_eq_true rfl⟩ (fun X ce q9 H1 locs1 hX hW hce hcv hcl => ?_) (fun r5 H locs hk hV hW => ?_)
  · rcases hX with ⟨hk, rfl⟩ | ⟨hk, rfl⟩
    · refine x_catch S hTh [] ⟨0, 79, 80, 23⟩ [⟨0, 79, 85, 14⟩, ⟨0, 79, 90, 17⟩] (htab.trans rfl) (fun z hz => by cases hz) (by decide) (by decide) wk23 (Or.inl rfl) hce hcv hcl ?_
      refine lv_astore hx hb dL_does_80 hl (Nat.le_of_ble_eq_true rfl) rfl (fun ls hl => ?_)
      refine lv_ldc (own := RL) hx hb S.2.2.2.1 (S.2.2.2.2 _ wq) dL_does_82 ?_
      exact g_ri S hr hlk hW (Nat.le_of_ble_eq_true rfl) (Nat.le_of_ble_eq_true rfl) dL_does_84 (fOp_n (by rw [hk]; decide)).symm
    · refine x_catch S hTh [⟨0, 79, 80, 23⟩, ⟨0, 79, 85, 14⟩] ⟨0, 79, 90, 17⟩ [] (htab.trans rfl) (fun z hz => by
          simp only [List.mem_cons, List.not_mem_nil, or_false] at hz
          rcases hz with rfl | rfl
          · exact Or.inr ⟨(show (23 : Nat) ≠ 0 by decide), _, S.2.2.2.2 _ wk23, hNc.2.1⟩
          · exact Or.inr ⟨(show (14 : Nat) ≠ 0 by decide), _, S.2.2.2.2 _ wk14, hNc.2.2⟩) (by decide) (by decide) wk17 (Or.inr (Or.inr rfl)) hce hcv hcl ?_
      refine lv_astore hx hb dL_does_90 hl (Nat.le_of_ble_eq_true rfl) rfl (fun ls hl => ?_)
      refine lv_ldc (own := RL) hx hb S.2.2.2.1 (S.2.2.2.2 _ wq) dL_does_92 ?_
      exact g_ri S hr hlk hW (Nat.le_of_ble_eq_true rfl) (Nat.le_of_ble_eq_true rfl) dL_does_94 (fOp_n (by rw [hk]; decide)).symm
  · refine lv_goto (tgt := 79) hx hb dL_does_58 (by decide) ?_
    exact g_ri S hr hlk hW (Nat.le_of_ble_eq_true rfl) (Nat.le_of_ble_eq_true rfl) dL_does_79 (by rw [hV]; exact (fOp_0 hk).symm)
set_option maxHeartbeats 4000000 in
theorem c_L_does3 (l : Launch) (E : xE) (hfl : l.stackTraces = false) (Γ : xG) (hG : xGd Γ) (a : Int32) (a2 : Int32) (a3 : Int32) : gL l yL_does wsL_does rmL_does E [.ref (E.2.2.2 0), .int 3, .int a, .int a2, .int a3] Γ 3 (fun r Γ' => (r, Γ') = fMove Γ a a2) := by
  refine g_startX RL (by decide) rfl rfl (Nat.le_of_ble_eq_true rfl) ?_
  intro p e s m args below meth c ls S hr hlk htab hTh hNc hW hl
  have hx := S.1
  have hb := S.2.1
  have hl : lv_has ls 6 [(0, .ref (E.2.2.2 0)), (1, .int 3), (2, .int a), (3, .int a2), (4, .int a3)] := hl
  have wq : Cond.constant RL 16 (-99999) ∈ wsL_does := by decide +kernel
  have wk14 : Cond.classLink RL 14 "java/lang/IllegalArgumentException" ∈ wsL_does := by decide +kernel
  have wk17 : Cond.classLink RL 17 "java/lang/IllegalStateException" ∈ wsL_does := by decide +kernel
  have wk23 : Cond.classLink RL 23 "java/lang/IndexOutOfBoundsException" ∈ wsL_does := by decide +kernel
  refine lv_iload_n hx hb dL_does_0 rfl (lv_at hl 1 rfl) ?_
  refine lv_if_ne (tgt := 32) hx hb dL_does_1 (by decide) (fun _ => ?_) (fun h => absurd h (by decide))
  refine lv_iload_n hx hb dL_does_32 rfl (lv_at hl 1 rfl) ?_
  refine lv_iconst (v := 1) hx hb dL_does_33 (by decide) ?_
  refine lv_icmp_ne (tgt := 48) hx hb dL_does_34 (by decide) (fun _ => ?_) (fun h => absurd h (by decide))
  refine lv_iload_n hx hb dL_does_48 rfl (lv_at hl 1 rfl) ?_
  refine lv_iconst (v := 2) hx hb dL_does_49 (by decide) ?_
  refine lv_icmp_ne (tgt := 61) hx hb dL_does_50 (by decide) (fun _ => ?_) (fun h => absurd h (by decide))
  refine lv_iload_n hx hb dL_does_61 rfl (lv_at hl 1 rfl) ?_
  refine lv_iconst (v := 3) hx hb dL_does_62 (by decide) ?_
  refine lv_icmp_ne (tgt := 75) hx hb dL_does_63 (by decide) (fun h => absurd rfl h) (fun _ => ?_)
  refine lv_aload_n hx hb dL_does_66 rfl (lv_at hl 0 rfl) ?_
  refine lv_iload_n hx hb dL_does_67 rfl (lv_at hl 2 rfl) ?_
  refine lv_iload_n hx hb dL_does_68 rfl (lv_at hl 3 rfl) ?_
  refine y_Vc (K := 3) (rm := rmX3_addMove) (As := [.int a, .int a2]) (rest := []) S (fun N F hR => c_X3_addMove l E N F xo0 hfl Γ hG.1 hR a a2) (cwV 2 S.2.2.2.2 gL_does_X3_addMove rfl rfl rfl (by decide +kernel) ⟨Nat.le_of_ble_eq_true rfl, Nat.le_of_ble_eq_true rfl⟩) hW hTh rfl rfl hl.1 (Nat.le_of_ble_eq_true rfl) dL_does_69 ⟨Nat.le_of_ble_eq_true rfl, Nat.le_of_ble_eq_true rfl⟩ (fun X ce q9 H1 locs1 hX hW hce hcv hcl => ?_) (fun r5 H locs hk hV hW => ?_)
  · rcases hX with ⟨hk, rfl⟩ | ⟨hk, rfl⟩ | ⟨hk, rfl⟩
    · refine x_catch S hTh [] ⟨0, 79, 80, 23⟩ [⟨0, 79, 85, 14⟩, ⟨0, 79, 90, 17⟩] (htab.trans rfl) (fun z hz => by cases hz) (by decide) (by decide) wk23 (Or.inl rfl) hce hcv hcl ?_
      refine lv_astore hx hb dL_does_80 hl (Nat.le_of_ble_eq_true rfl) rfl (fun ls hl => ?_)
      refine lv_ldc (own := RL) hx hb S.2.2.2.1 (S.2.2.2.2 _ wq) dL_does_82 ?_
      exact g_ri S hr hlk hW (Nat.le_of_ble_eq_true rfl) (Nat.le_of_ble_eq_true rfl) dL_does_84 (fOp_n (by rw [hk]; decide)).symm
    · refine x_catch S hTh [⟨0, 79, 80, 23⟩] ⟨0, 79, 85, 14⟩ [⟨0, 79, 90, 17⟩] (htab.trans rfl) (fun z hz => by
          simp only [List.mem_cons, List.not_mem_nil, or_false] at hz
          subst hz
          exact Or.inr ⟨(show (23 : Nat) ≠ 0 by decide), _, S.2.2.2.2 _ wk23, hNc.1⟩) (by decide) (by decide) wk14 (Or.inr (Or.inl rfl)) hce hcv hcl ?_
      refine lv_astore hx hb dL_does_85 hl (Nat.le_of_ble_eq_true rfl) rfl (fun ls hl => ?_)
      refine lv_ldc (own := RL) hx hb S.2.2.2.1 (S.2.2.2.2 _ wq) dL_does_87 ?_
      exact g_ri S hr hlk hW (Nat.le_of_ble_eq_true rfl) (Nat.le_of_ble_eq_true rfl) dL_does_89 (fOp_n (by rw [hk]; decide)).symm
    · refine x_catch S hTh [⟨0, 79, 80, 23⟩, ⟨0, 79, 85, 14⟩] ⟨0, 79, 90, 17⟩ [] (htab.trans rfl) (fun z hz => by
          simp only [List.mem_cons, List.not_mem_nil, or_false] at hz
          rcases hz with rfl | rfl
          · exact Or.inr ⟨(show (23 : Nat) ≠ 0 by decide), _, S.2.2.2.2 _ wk23, hNc.2.1⟩
          · exact Or.inr ⟨(show (14 : Nat) ≠ 0 by decide), _, S.2.2.2.2 _ wk14, hNc.2.2⟩) (by decide) (by decide) wk17 (Or.inr (Or.inr rfl)) hce hcv hcl ?_
      refine lv_astore hx hb dL_does_90 hl (Nat.le_of_ble_eq_true rfl) rfl (fun ls hl => ?_)
      refine lv_ldc (own := RL) hx hb S.2.2.2.1 (S.2.2.2.2 _ wq) dL_does_92 ?_
      exact g_ri S hr hlk hW (Nat.le_of_ble_eq_true rfl) (Nat.le_of_ble_eq_true rfl) dL_does_94 (fOp_n (by rw [hk]; decide)).symm
  · refine lv_goto (tgt := 79) hx hb dL_does_72 (by decide) ?_
    exact g_ri S hr hlk hW (Nat.le_of_ble_eq_true rfl) (Nat.le_of_ble_eq_true rfl) dL_does_79 (by rw [hV]; exact (fOp_0 hk).symm)
set_option maxHeartbeats 4000000 in
theorem c_L_does4 (l : Launch) (E : xE) (hfl : l.stackTraces = false) (Γ : xG) (hG : xGd Γ) (a : Int32) (a2 : Int32) (a3 : Int32) : gL l yL_does wsL_does rmL_does E [.ref (E.2.2.2 0), .int 4, .int a, .int a2, .int a3] Γ 3 (fun r Γ' => (r, Γ') = fCarry Γ) := by
  refine g_startX RL (by decide) rfl rfl (Nat.le_of_ble_eq_true rfl) ?_
  intro p e s m args below meth c ls S hr hlk htab hTh hNc hW hl
  have hx := S.1
  have hb := S.2.1
  have hl : lv_has ls 6 [(0, .ref (E.2.2.2 0)), (1, .int 4), (2, .int a), (3, .int a2), (4, .int a3)] := hl
  have wq : Cond.constant RL 16 (-99999) ∈ wsL_does := by decide +kernel
  have wk14 : Cond.classLink RL 14 "java/lang/IllegalArgumentException" ∈ wsL_does := by decide +kernel
  have wk17 : Cond.classLink RL 17 "java/lang/IllegalStateException" ∈ wsL_does := by decide +kernel
  have wk23 : Cond.classLink RL 23 "java/lang/IndexOutOfBoundsException" ∈ wsL_does := by decide +kernel
  refine lv_iload_n hx hb dL_does_0 rfl (lv_at hl 1 rfl) ?_
  refine lv_if_ne (tgt := 32) hx hb dL_does_1 (by decide) (fun _ => ?_) (fun h => absurd h (by decide))
  refine lv_iload_n hx hb dL_does_32 rfl (lv_at hl 1 rfl) ?_
  refine lv_iconst (v := 1) hx hb dL_does_33 (by decide) ?_
  refine lv_icmp_ne (tgt := 48) hx hb dL_does_34 (by decide) (fun _ => ?_) (fun h => absurd h (by decide))
  refine lv_iload_n hx hb dL_does_48 rfl (lv_at hl 1 rfl) ?_
  refine lv_iconst (v := 2) hx hb dL_does_49 (by decide) ?_
  refine lv_icmp_ne (tgt := 61) hx hb dL_does_50 (by decide) (fun _ => ?_) (fun h => absurd h (by decide))
  refine lv_iload_n hx hb dL_does_61 rfl (lv_at hl 1 rfl) ?_
  refine lv_iconst (v := 3) hx hb dL_does_62 (by decide) ?_
  refine lv_icmp_ne (tgt := 75) hx hb dL_does_63 (by decide) (fun _ => ?_) (fun h => absurd h (by decide))
  refine lv_aload_n hx hb dL_does_75 rfl (lv_at hl 0 rfl) ?_
  refine y_Vc (K := 1) (rm := rmX3_carryOut) (As := []) (rest := []) S (fun N F hR => c_X3_carryOut l E N F xo0 hfl Γ hG.1 hR ) (cwV 0 S.2.2.2.2 gL_does_X3_carryOut rfl rfl rfl (by decide +kernel) ⟨Nat.le_of_ble_eq_true rfl, Nat.le_of_ble_eq_true rfl⟩) hW hTh rfl rfl hl.1 (Nat.le_of_ble_eq_true rfl) dL_does_76 ⟨Nat.le_of_ble_eq_true rfl, Nat.le_of_ble_eq_true rfl⟩ (fun X ce q9 H1 locs1 hX hW hce hcv hcl => ?_) (fun r5 H locs hk hV hW => ?_)
  · obtain ⟨hk, rfl⟩ := hX
    refine x_catch S hTh [⟨0, 79, 80, 23⟩, ⟨0, 79, 85, 14⟩] ⟨0, 79, 90, 17⟩ [] (htab.trans rfl) (fun z hz => by
        simp only [List.mem_cons, List.not_mem_nil, or_false] at hz
        rcases hz with rfl | rfl
        · exact Or.inr ⟨(show (23 : Nat) ≠ 0 by decide), _, S.2.2.2.2 _ wk23, hNc.2.1⟩
        · exact Or.inr ⟨(show (14 : Nat) ≠ 0 by decide), _, S.2.2.2.2 _ wk14, hNc.2.2⟩) (by decide) (by decide) wk17 (Or.inr (Or.inr rfl)) hce hcv hcl ?_
    refine lv_astore hx hb dL_does_90 hl (Nat.le_of_ble_eq_true rfl) rfl (fun ls hl => ?_)
    refine lv_ldc (own := RL) hx hb S.2.2.2.1 (S.2.2.2.2 _ wq) dL_does_92 ?_
    exact g_ri S hr hlk hW (Nat.le_of_ble_eq_true rfl) (Nat.le_of_ble_eq_true rfl) dL_does_94 (fOp_n (by rw [hk]; decide)).symm
  · exact g_ri S hr hlk hW (Nat.le_of_ble_eq_true rfl) (Nat.le_of_ble_eq_true rfl) dL_does_79 (by rw [hV]; exact (fOp_0 hk).symm)
abbrev rmL_freePort : Room := { frames := 8, cells := 1, slots := 6, locals := 127 }
set_option maxHeartbeats 4000000 in
theorem c_L_freePort (l : Launch) (E : xE) (hfl : l.stackTraces = false) (Γ : xG) (hG : xGd Γ) (a : Int32) : gL l yL_freePort wsL_freePort rmL_freePort E [.ref (E.2.2.2 0), .int a] Γ 1 (fun r Γ' => ((ocPanel Γ a = 0 ∧ xFF (fun q => gCb Γ q = -1 ∧ gSt Γ q = -1) (gFs Γ (xNa a)) (gFs Γ (xNa a + 1) - gFs Γ (xNa a)) r) ∨ r = -99999) ∧ Γ' = Γ) := by
  refine g_startX RL (by decide) rfl rfl (Nat.le_of_ble_eq_true rfl) ?_
  intro p e s m args below meth c ls S hr hlk htab hTh hNc hW hl
  have hx := S.1
  have hb := S.2.1
  have hl : lv_has ls 3 [(0, .ref (E.2.2.2 0)), (1, .int a)] := hl
  have wq : Cond.constant RL 16 (-99999) ∈ wsL_freePort := by decide +kernel
  have wk23 : Cond.classLink RL 23 "java/lang/IndexOutOfBoundsException" ∈ wsL_freePort := by decide +kernel
  refine lv_aload_n hx hb dL_freePort_0 rfl (lv_at hl 0 rfl) ?_
  refine lv_iload_n hx hb dL_freePort_1 rfl (lv_at hl 1 rfl) ?_
  refine y_Vc (K := 1) (rm := rmX3_freePort) (As := [.int a]) (rest := []) S (fun N F hR => c_X3_freePort l E N F xo0 hfl Γ hG.1 hR a) (cwV 1 S.2.2.2.2 gL_freePort_X3_freePort rfl rfl rfl (by decide +kernel) ⟨Nat.le_of_ble_eq_true rfl, Nat.le_of_ble_eq_true rfl⟩) hW hTh rfl rfl hl.1 (Nat.le_of_ble_eq_true rfl) dL_freePort_2 ⟨Nat.le_of_ble_eq_true rfl, Nat.le_of_ble_eq_true rfl⟩ (fun X ce q9 H1 locs1 hX hW hce hcv hcl => ?_) (fun r5 H locs hk hV hW => ?_)
  · obtain ⟨hk, rfl⟩ := hX
    refine x_catch S hTh [] ⟨0, 5, 6, 23⟩ [] (htab.trans rfl) (fun z hz => by cases hz) (by decide) (by decide) wk23 (Or.inl rfl) hce hcv hcl ?_
    refine lv_astore_n hx hb dL_freePort_6 rfl hl (Nat.le_of_ble_eq_true rfl) rfl (fun ls hl => ?_)
    refine lv_ldc (own := RL) hx hb S.2.2.2.1 (S.2.2.2.2 _ wq) dL_freePort_7 ?_
    exact g_ri S hr hlk hW (Nat.le_of_ble_eq_true rfl) (Nat.le_of_ble_eq_true rfl) dL_freePort_9 ⟨Or.inr rfl, rfl⟩
  · exact g_ri S hr hlk hW (Nat.le_of_ble_eq_true rfl) (Nat.le_of_ble_eq_true rfl) dL_freePort_5 ⟨Or.inl ⟨hk, hV⟩, rfl⟩
