/-! the law's numbers, and what its calls do, as functions -/
theorem x_and (v : Int32) : ∃ k, k < 2 ^ 31 ∧ v &&& 2147483647 = nI k := by
  have h1 : (v &&& 2147483647).toBitVec.toNat ≤ 2147483647 := by
    rw [show (v &&& 2147483647).toBitVec = v.toBitVec &&& (2147483647 : Int32).toBitVec from rfl, BitVec.toNat_and]
    exact Nat.and_le_right
  refine ⟨(v &&& 2147483647).toBitVec.toNat, by omega, ?_⟩
  apply Int32.toBitVec_inj.mp
  apply BitVec.eq_of_toNat_eq
  show _ = (BitVec.ofNat 32 _).toNat
  rw [BitVec.toNat_ofNat, Nat.mod_eq_of_lt (by omega)]
def xlo (v : Int32) (m : Nat) : Nat := (v &&& 2147483647).toNatClampNeg % m
theorem xlo_lt (v : Int32) {m : Nat} (h : 0 < m) : xlo v m < m := Nat.mod_lt _ h
theorem x_rem {a m : Nat} (ha : a < 2 ^ 31) (hm2 : m < 2 ^ 31) : nI a - nI a / nI m * nI m = nI (a % m) := by
  have e : nI a / nI m = nI (a / m) := (Int32.ofNat_div ha hm2).symm
  have hd := Nat.div_add_mod a m
  have hc : a / m * m = m * (a / m) := Nat.mul_comm _ _
  rw [e, pk_mul, pk_sub (by omega)]
  congr 1
  omega
theorem x_lo {v : Int32} {m : Nat} (hm2 : m < 2 ^ 31) : (v &&& 2147483647) - (v &&& 2147483647) / nI m * nI m = nI (xlo v m) := by
  obtain ⟨k, hk, e⟩ := x_and v
  unfold xlo
  rw [e, x_rem hk hm2, nI_clamp hk]
/-! each call: good, and no smaller -/
theorem fOp_no {c : Nat} {r : Int32} {Γ Γ' : xG} (h : gNo Γ ≤ gNo Γ') : gNo Γ ≤ gNo (fOp c r Γ Γ').2 := by
  by_cases e : c = 0
  · rw [fOp_0 e]; exact h
  · rw [fOp_n e]; exact Nat.le_refl _
def fGo (Γ : xG) (x : Int32 × xG) : Prop := fOk Γ x ∧ gNo Γ ≤ gNo x.2
theorem fPanel_go {Γ : xG} (h : xGd Γ) (a b : Int32) : fGo Γ (fPanel Γ a b) := ⟨fOp_ok h (fun e => gd_panel h e) (fun _ => nI_n9 (by have := h.1.no; omega)), fOp_no (Nat.le_add_right _ _)⟩
theorem fTrunk_go {Γ : xG} (h : xGd Γ) (a b s t : Int32) : fGo Γ (fTrunk Γ a b s t) := ⟨fOp_ok h (fun e => gd_trunk h e) (fun _ => nI_n9 (by have := h.1.nt; omega)), fOp_no (Nat.le_refl _)⟩
theorem fBrk_go {Γ : xG} (h : xGd Γ) (a b : Int32) (v : Bool) : fGo Γ (fBrk Γ a b v) := by
  refine ⟨fOp_ok h (fun e => gd_brk h e) (fun _ => ?_), fOp_no (Nat.le_refl _)⟩
  rcases h.1.b01 (gTa Γ (xNa a) + xNa b) with e | e
  · rw [e]; decide
  · rw [e]; decide
theorem fPlug_go {Γ : xG} (h : xGd Γ) (a b t : Int32) : fGo Γ (fPlug Γ a b t) := by
  refine ⟨fOp_ok h (fun e => gd_plug h e) (fun e => ?_), fOp_no (Nat.le_refl _)⟩
  obtain ⟨h1, -⟩ := xif_0 (k := 0) e
  obtain ⟨⟨p, i1, rfl⟩, ⟨q, i2, rfl⟩⟩ := Classical.byContradiction h1
  have hno := h.1.no
  rw [xNa_n (by omega), xNa_n (by omega)]
  obtain ⟨k, k1, k2, k3⟩ := xlen_b h.1 (h.1.pn p i1).1 (h.1.pn q i2).1
  rw [k3]
  exact nI_n9 (by omega)
theorem fPull_go {Γ : xG} (h : xGd Γ) (a : Int32) : fGo Γ (fPull Γ a) := by
  refine ⟨fOp_ok h (fun e => gd_pull h e) (fun e => ?_), fOp_no (Nat.le_refl _)⟩
  obtain ⟨h1, e2⟩ := xif_0 (k := 0) e
  obtain ⟨h2, -⟩ := xif_0 (k := 1) e2
  obtain ⟨p, i1, rfl⟩ := Classical.byContradiction h1
  have hno := h.1.no
  rw [xNa_n (by omega)] at h2 ⊢
  rcases h.1.cb p i1 with c | ⟨z, j1, -, j3, -⟩
  · exact absurd c h2
  · rw [j3]; exact nI_n9 (by omega)
theorem fMove_go {Γ : xG} (h : xGd Γ) (a b : Int32) : fGo Γ (fMove Γ a b) := ⟨fOp_ok h (fun e => gd_move h e) (fun _ => nI_n9 (by have := h.1.nm; omega)), fOp_no (Nat.le_refl _)⟩
theorem fCarry_go {Γ : xG} (h : xGd Γ) : fGo Γ (fCarry Γ) := ⟨fOp_ok h (fun e => gd_carry h e) (fun _ => nI_n9 (by have := h.1.nm; omega)), fOp_no (Nat.le_refl _)⟩
theorem fDrop_go {Γ : xG} (h : xGd Γ) : fGo Γ (nI (gNm Γ), gDrop Γ) := ⟨⟨gd_drop h, fun e => absurd e (nI_n9 (by have := h.1.nm; omega))⟩, Nat.le_refl _⟩
/-! what happens by a cell -/
noncomputable def fActO (Γ : xG) (v : Int32) : Int32 × xG :=
  if xlo v 24 < 2 then fPanel Γ (nI (xlo (v >>> (5 &&& 31)) 13)) (nI (xlo (v >>> (8 &&& 31)) 16 + 0))
  else if xlo v 24 < 5 then fTrunk Γ (nI (xlo (v >>> (4 &&& 31)) 150)) (nI (xlo (v >>> (9 &&& 31)) 150)) (nI (xlo (v >>> (13 &&& 31)) 15 + 0)) (nI (xlo (v >>> (5 &&& 31)) 600 + 0))
  else if xlo v 24 < 8 then fBrk Γ (nI (xlo (v >>> (4 &&& 31)) 10)) (nI (xlo (v >>> (8 &&& 31)) 4)) (decide ((v >>> (12 &&& 31)) &&& 1 = 1))
  else if xlo v 24 < 15 then fPlug Γ (nI (xlo (v >>> (4 &&& 31)) 150)) (nI (xlo (v >>> (9 &&& 31)) 150)) (nI (xlo (v >>> (13 &&& 31)) 12 + 0))
  else if xlo v 24 = 15 then fPull Γ (nI (xlo (v >>> (4 &&& 31)) 150))
  else if xlo v 24 < 20 then fMove Γ (nI (xlo (v >>> (4 &&& 31)) 150)) (nI (xlo (v >>> (9 &&& 31)) 150))
  else if xlo v 24 = 20 then (nI (gNm Γ), gDrop Γ)
  else fCarry Γ
noncomputable def fActE (Γ : xG) (v : Int32) : Int32 × xG :=
  if xlo v 24 < 2 then fPanel Γ (nI (xlo (v >>> (5 &&& 31)) 10)) (nI (xlo (v >>> (8 &&& 31)) 12 + 1))
  else if xlo v 24 < 5 then fTrunk Γ (nI (xlo (v >>> (4 &&& 31)) (gNo Γ + 1))) (nI (xlo (v >>> (9 &&& 31)) (gNo Γ + 1))) (nI (xlo (v >>> (13 &&& 31)) 4 + 1)) (nI (xlo (v >>> (5 &&& 31)) 90 + 1))
  else if xlo v 24 < 8 then fBrk Γ (nI (xlo (v >>> (4 &&& 31)) 10)) (nI (xlo (v >>> (8 &&& 31)) 4)) (decide ((v >>> (12 &&& 31)) &&& 1 = 1))
  else if xlo v 24 < 15 then fPlug Γ (nI (xlo (v >>> (4 &&& 31)) (gNo Γ + 1))) (nI (xlo (v >>> (9 &&& 31)) (gNo Γ + 1))) (nI (xlo (v >>> (13 &&& 31)) 9 + 1))
  else if xlo v 24 = 15 then fPull Γ (nI (xlo (v >>> (4 &&& 31)) (gNo Γ + 1)))
  else if xlo v 24 < 20 then fMove Γ (nI (xlo (v >>> (4 &&& 31)) (gNo Γ + 1))) (nI (xlo (v >>> (9 &&& 31)) (gNo Γ + 1)))
  else if xlo v 24 = 20 then (nI (gNm Γ), gDrop Γ)
  else fCarry Γ
noncomputable def fAct (Γ : xG) (v : Int32) : Int32 × xG := if xlo (v >>> (24 &&& 31)) 8 = 0 then fActO Γ v else fActE Γ v
theorem fAct_go {Γ : xG} (h : xGd Γ) (v : Int32) : fGo Γ (fAct Γ v) := by
  unfold fAct
  split
  · unfold fActO
    split
    · exact fPanel_go h _ _
    · split
      · exact fTrunk_go h _ _ _ _
      · split
        · exact fBrk_go h _ _ _
        · split
          · exact fPlug_go h _ _ _
          · split
            · exact fPull_go h _
            · split
              · exact fMove_go h _ _
              · split
                · exact fDrop_go h
                · exact fCarry_go h
  · unfold fActE
    split
    · exact fPanel_go h _ _
    · split
      · exact fTrunk_go h _ _ _ _
      · split
        · exact fBrk_go h _ _ _
        · split
          · exact fPlug_go h _ _ _
          · split
            · exact fPull_go h _
            · split
              · exact fMove_go h _ _
              · split
                · exact fDrop_go h
                · exact fCarry_go h
/-! one move, in a plan without others -/
theorem fMove_a {Γ : xG} {a : Nat} (ha : a < gNo Γ) : fMove (gDrop Γ) (nI a) (nI a) = (-99999, gDrop Γ) := by
  refine fOp_n ?_
  unfold ocMove
  rw [xif_f (not_not_intro ⟨xPn ha, xPn ha⟩), xif_t rfl]
  decide
theorem fMove_b {Γ : xG} {a b : Nat} (h : xGood Γ) (ha : a < gNo Γ) (hb : b < gNo Γ) (hne : a ≠ b) : fMove (gDrop Γ) (nI a) (nI b) = (1, gMove (gDrop Γ) a b) := by
  have hno := h.no
  have e : ocMove (gDrop Γ) (nI a) (nI b) = 0 := by
    unfold ocMove
    rw [xif_f (not_not_intro ⟨xPn ha, xPn hb⟩), xif_f (fun z => hne (nI_inj (by omega) (by omega) z)), show gNm (gDrop Γ) = 0 from rfl, xif_f (show ¬ (0 : Nat) = 12 by decide)]
  unfold fMove
  rw [fOp_0 e, xNa_n (by omega), xNa_n (by omega)]
  rfl
theorem gCanE {Γ : xG} : gPos (gDrop Γ) := fun i hi => absurd hi (Nat.not_lt_zero i)
theorem fCarry_e {Γ : xG} : fCarry (gDrop Γ) = (0, gCarry (gDrop Γ)) := fOp_0 (xif_t gCanE)
theorem gMv1_x {Γ : xG} {a b : Nat} : gMx (gMove (gDrop Γ) a b) 0 = a := show xu (gMx (gDrop Γ)) 0 a 0 = a from xu_s _ _ _
theorem gMv1_y {Γ : xG} {a b : Nat} : gMy (gMove (gDrop Γ) a b) 0 = b := show xu (gMy (gDrop Γ)) 0 b 0 = b from xu_s _ _ _
theorem gCanM {Γ : xG} {a b : Nat} (hne : a ≠ b) : gPos (gMove (gDrop Γ) a b) ↔ (gCb Γ a ≠ -1 ∧ gCb Γ b = -1) := by
  constructor
  · intro h
    have h0 := h 0 (show (0 : Nat) < 1 by decide)
    have ea : gMx (gMove (gDrop Γ) a b) 0 = a := gMv1_x
    have eb : gMy (gMove (gDrop Γ) a b) 0 = b := gMv1_y
    rw [ea, eb] at h0
    refine ⟨h0.1, Classical.byContradiction fun c => h0.2.2 ⟨c, ?_⟩⟩
    rintro ⟨q, hq, e⟩
    have hq : q < 1 := hq
    obtain rfl : q = 0 := by omega
    rw [ea] at e
    exact hne e
  · rintro ⟨h1, h2⟩ i hi
    have hi : i < 1 := hi
    obtain rfl : i = 0 := by omega
    have ea : gMx (gMove (gDrop Γ) a b) 0 = a := gMv1_x
    have eb : gMy (gMove (gDrop Γ) a b) 0 = b := gMv1_y
    rw [ea, eb]
    exact ⟨h1, fun ⟨q, hq, _⟩ => absurd hq (Nat.not_lt_zero q), fun c => c.1 h2⟩
theorem fCarry_y {Γ : xG} {a b : Nat} (hne : a ≠ b) (h : gCb Γ a ≠ -1 ∧ gCb Γ b = -1) : fCarry (gMove (gDrop Γ) a b) = (1, gCarry (gMove (gDrop Γ) a b)) := fOp_0 (xif_t ((gCanM hne).mpr h))
theorem fCarry_n {Γ : xG} {a b : Nat} (hne : a ≠ b) (h : ¬ (gCb Γ a ≠ -1 ∧ gCb Γ b = -1)) : fCarry (gMove (gDrop Γ) a b) = (-99999, gMove (gDrop Γ) a b) := fOp_n (by unfold ocCarry; rw [xif_f (fun z => h ((gCanM hne).mp z))]; decide)
/-- behind it the port b has what a had -/
theorem gOne {Γ : xG} {a b v : Nat} (h : xGood Γ) (ha : a < gNo Γ) (hb : b < gNo Γ) (hv : v < gNo Γ) (hne : a ≠ b) (ea : gCb Γ a = nI v) (eb : gCb Γ b = -1) : gCb (gCarry (gMove (gDrop Γ) a b)) b = nI v ∧ gCb (gCarry (gMove (gDrop Γ) a b)) a = -1 ∧ gCl (gCarry (gMove (gDrop Γ) a b)) b = gCl Γ a ∧ xcnt (fun q => nI q < gCb (gCarry (gMove (gDrop Γ) a b)) q) (gNo Γ) = xcnt (fun q => nI q < gCb Γ q) (gNo Γ) := by
  have hno := h.no
  have i1 := h.cb.inv (by omega) ha (by omega) ea
  have hvb : v ≠ b := fun e => by rw [← e, i1.2.2] at eb; exact nI_m1 (by omega) eb
  have hp := (gCanM (Γ := Γ) hne).mpr ⟨by rw [ea]; exact nI_m1 (by omega), eb⟩
  have hg : xGood (gMove (gDrop Γ) a b) := good_move (good_drop h) ha hb hne (show ¬ (0 : Nat) = 12 by decide)
  have hgc := good_carry hg hp
  have mva : gMv (gMove (gDrop Γ) a b) a = b := by
    have := hp.at (i := 0) (show (0 : Nat) < 1 by decide)
    rw [show gMx (gMove (gDrop Γ) a b) 0 = a from gMv1_x, show gMy (gMove (gDrop Γ) a b) 0 = b from gMv1_y] at this
    exact this
  have mvo : ∀ q, q ≠ a → gMv (gMove (gDrop Γ) a b) q = q := fun q hq => gMv_no (fun i hi e => by
    have hi : i < 1 := hi
    obtain rfl : i = 0 := by omega
    rw [show gMx (gMove (gDrop Γ) a b) 0 = a from gMv1_x] at e
    exact hq e.symm)
  have at1 := gNC_at hp (q := a) (by show gCb Γ a ≠ -1; rw [ea]; exact nI_m1 (by omega))
  rw [mva, show gCb (gMove (gDrop Γ) a b) a = gCb Γ a from rfl, ea, xNa_n (by omega), mvo v (fun e => i1.2.1 e)] at at1
  have src : ∀ w, gNC (gMove (gDrop Γ) a b) w ≠ -1 → w ≠ a ∧ (w = b ∨ gCb Γ w ≠ -1) := by
    intro w hw
    obtain ⟨q, hq, hc, e⟩ := gNC_src hg hp hw
    by_cases hqa : q = a
    · rw [hqa, mva] at e
      exact ⟨fun z => hne (z.symm.trans e.symm), Or.inl e.symm⟩
    · rw [mvo q hqa] at e
      subst e
      exact ⟨hqa, Or.inr hc⟩
  have na : gNC (gMove (gDrop Γ) a b) a = -1 := Classical.byContradiction fun z => (src a z).1 rfl
  refine ⟨at1.1, na, at1.2, ?_⟩
  have c1 := xmatch2 (no := gNo Γ) (by omega) h.cb
  have c2 := xmatch2 (no := gNo Γ) (C := gNC (gMove (gDrop Γ) a b)) (by omega) hgc.cb
  have c3 : xcnt (fun q => gNC (gMove (gDrop Γ) a b) q ≠ -1) (gNo Γ) = xcnt (fun q => gCb Γ q ≠ -1) (gNo Γ) := by
    refine xcnt_mv ha hb (by rw [ea]; exact nI_m1 (by omega)) (fun z => z eb) (fun q hq => ⟨fun z => ?_, fun z => ?_⟩)
    · obtain ⟨z1, z2⟩ := src q z
      rcases z2 with z2 | z2
      · exact Or.inl z2
      · exact Or.inr ⟨z2, z1⟩
    · rcases z with z | ⟨z1, z2⟩
      · rw [z, at1.1]; exact nI_m1 (by omega)
      · have at2 := gNC_at hp (q := q) z1
        rw [mvo q z2] at at2
        rw [at2.1]
        obtain ⟨r, hr, -, er, -⟩ := (h.cb q hq).resolve_left z1
        have : gMv (gMove (gDrop Γ) a b) r < gNo Γ := gMv_lt hg hr
        rw [show gCb (gMove (gDrop Γ) a b) q = gCb Γ q from rfl, er, xNa_n (by omega)]
        exact nI_m1 (by omega)
  show xcnt (fun q => nI q < gNC (gMove (gDrop Γ) a b) q) (gNo Γ) = _
  omega
theorem x_nz {m : Nat} (h0 : 0 < m) (h1 : m < 2 ^ 31) : ¬ nI m = 0 := by
  intro e
  have := nI_inj (a := m) (b := 0) h1 (by decide) e
  omega
