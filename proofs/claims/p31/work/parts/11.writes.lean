/-! the methods of the class that change it -/
noncomputable def ocAddPanel (Γ : xG) (a b : Int32) : Nat := xif (¬ (0 ≤ a ∧ a ≤ 9) ∨ ¬ (1 ≤ b ∧ b ≤ 12)) 1 (xif (gNp Γ = 12) 2 0)
noncomputable def ocTrunk (Γ : xG) (a b s t : Int32) : Nat := xif (¬ (xP (gNo Γ) a ∧ xP (gNo Γ) b)) 1 (xif (¬ (1 ≤ s ∧ s ≤ 12) ∨ ¬ (1 ≤ t ∧ t ≤ 500) ∨ (gPn Γ (xNa a) = gPn Γ (xNa b) ∨ (gFs Γ (gPn Γ (xNa a) + 1) < xNa a + xNa s ∨ gFs Γ (gPn Γ (xNa b) + 1) < xNa b + xNa s))) 2 (xif (gNt Γ = 10 ∨ ∃ j, j < xNa s ∧ (gSt Γ (xNa a + j) ≠ -1 ∨ gSt Γ (xNa b + j) ≠ -1)) 3 0))
noncomputable def ocBrk (Γ : xG) (a b : Int32) : Nat := xif (xP (gNt Γ) a ∧ xP (gTc Γ (xNa a)) b) 0 1
noncomputable def ocPlug (Γ : xG) (a b c : Int32) : Nat := xif (¬ (xP (gNo Γ) a ∧ xP (gNo Γ) b)) 1 (xif (¬ (1 ≤ c ∧ c ≤ 9) ∨ a = b) 2 (xif (gCb Γ (xNa a) ≠ -1 ∨ gCb Γ (xNa b) ≠ -1) 3 0))
noncomputable def ocPull (Γ : xG) (a : Int32) : Nat := xif (¬ xP (gNo Γ) a) 1 (xif (gCb Γ (xNa a) = -1) 2 0)
noncomputable def ocMove (Γ : xG) (a b : Int32) : Nat := xif (¬ (xP (gNo Γ) a ∧ xP (gNo Γ) b)) 1 (xif (a = b) 2 (xif (gNm Γ = 12) 3 0))
/-- the plan is possible -/
def gPos (Γ : xG) : Prop := ∀ i, i < gNm Γ → gCb Γ (gMx Γ i) ≠ -1 ∧ (¬ ∃ q, q < i ∧ (gMx Γ q = gMx Γ i ∨ gMy Γ q = gMy Γ i)) ∧ ¬ (gCb Γ (gMy Γ i) ≠ -1 ∧ ¬ ∃ q, q < gNm Γ ∧ gMx Γ q = gMy Γ i)
noncomputable def ocCarry (Γ : xG) : Nat := xif (gPos Γ) 0 1
def xX2 (k : Nat) (X : String) : Prop := (k = 1 ∧ X = xIA) ∨ (k = 2 ∧ X = xIS)
def xX3 (k : Nat) (X : String) : Prop := (k = 1 ∧ X = xIO) ∨ (k = 2 ∧ X = xIA) ∨ (k = 3 ∧ X = xIS)
def xXp (k : Nat) (X : String) : Prop := (k = 1 ∧ X = xIO) ∨ (k = 2 ∧ X = xIS)
def xX1s (k : Nat) (X : String) : Prop := k = 1 ∧ X = xIS
def gPanel (Γ : xG) (a : Int32) (k : Nat) : xG := (xu (xu Γ.1 0 (gNp Γ + 1)) 1 (gNo Γ + k), xu (xu Γ.2.1 0 (xu (gFs Γ) (gNp Γ + 1) (gNo Γ + k))) 1 (fun q => if gNo Γ ≤ q then gNp Γ else gPn Γ q), xu Γ.2.2 0 (upd (gRk Γ) (gNp Γ) a))
/-- strands i of a and b are joined, for i below k -/
def xjs (g : Nat → Int32) (a b k : Nat) (q : Nat) : Int32 := if a ≤ q ∧ q < a + k then nI (b + (q - a)) else if b ≤ q ∧ q < b + k then nI (a + (q - b)) else g q
def xjt (g : Nat → Int32) (a b k : Nat) (t : Int32) (q : Nat) : Int32 := if (a ≤ q ∧ q < a + k) ∨ (b ≤ q ∧ q < b + k) then t else g q
def gTrunk (Γ : xG) (a b k : Nat) (t : Int32) : xG := (xu Γ.1 2 (gNt Γ + 1), xu (xu (xu Γ.2.1 2 (xu (gTa Γ) (gNt Γ) a)) 3 (xu (gTb Γ) (gNt Γ) b)) 4 (xu (gTc Γ) (gNt Γ) k), xu (xu (xu Γ.2.2 3 (xjs (gSt Γ) a b k)) 4 (xjt (gTk Γ) a b k (nI (gNt Γ)))) 6 (upd (gTl Γ) (gNt Γ) t))
def gBrk (Γ : xG) (a b : Nat) (v : Int32) : xG := (Γ.1, Γ.2.1, xu Γ.2.2 5 (upd (upd (gBk Γ) a v) b v))
def gPlug (Γ : xG) (a b : Nat) (t : Int32) : xG := (Γ.1, Γ.2.1, xu (xu Γ.2.2 1 (upd (upd (gCb Γ) a (nI b)) b (nI a))) 2 (upd (upd (gCl Γ) a t) b t))
def gPull (Γ : xG) (a b : Nat) : xG := (Γ.1, Γ.2.1, xu (xu Γ.2.2 1 (upd (upd (gCb Γ) a (-1)) b (-1))) 2 (upd (upd (gCl Γ) a 0) b 0))
def gMove (Γ : xG) (a b : Nat) : xG := (xu Γ.1 3 (gNm Γ + 1), xu (xu Γ.2.1 5 (xu (gMx Γ) (gNm Γ) a)) 6 (xu (gMy Γ) (gNm Γ) b), Γ.2.2)
def gDrop (Γ : xG) : xG := (xu Γ.1 3 0, Γ.2)
/-- the first i below m with g i = v -/
def gfi (g : Nat → Nat) (v : Nat) : Nat → Option Nat
  | 0 => none
  | k + 1 => match gfi g v k with
    | some i => some i
    | none => if g k = v then some k else none
theorem gfi_some {g : Nat → Nat} {v : Nat} : ∀ {m i : Nat}, gfi g v m = some i → i < m ∧ g i = v := by
  intro m
  induction m with
  | zero => intro i h; cases h
  | succ m ih =>
    intro i h
    rw [gfi] at h
    cases hg : gfi g v m with
    | some j =>
      rw [hg] at h
      cases h
      obtain ⟨a, b⟩ := ih hg
      exact ⟨by omega, b⟩
    | none =>
      rw [hg] at h
      by_cases e : g m = v
      · simp only [if_pos e] at h
        cases h
        exact ⟨by omega, e⟩
      · simp only [if_neg e] at h
        cases h
theorem gfi_none {g : Nat → Nat} {v : Nat} : ∀ {m : Nat}, gfi g v m = none → ∀ i, i < m → g i ≠ v := by
  intro m
  induction m with
  | zero => intro _ i hi; exact absurd hi (Nat.not_lt_zero i)
  | succ m ih =>
    intro h i hi
    rw [gfi] at h
    cases hg : gfi g v m with
    | some j => rw [hg] at h; cases h
    | none =>
      rw [hg] at h
      by_cases e : g m = v
      · simp only [if_pos e] at h; cases h
      · by_cases e2 : i = m
        · rw [e2]; exact e
        · exact ih hg i (by omega)
/-- where an end at q is put by the plan -/
def gMv (Γ : xG) (q : Nat) : Nat := match gfi (gMx Γ) q (gNm Γ) with
  | some i => gMy Γ i
  | none => q
def gZe (Γ : xG) (i : Nat) : Nat := gMv Γ (xNa (gCb Γ (gMx Γ i)))
/-- the cables and colours when the plan is carried out -/
def gNC (Γ : xG) (w : Nat) : Int32 := match gfi (gMy Γ) w (gNm Γ) with
  | some i => nI (gZe Γ i)
  | none => match gfi (gMx Γ) w (gNm Γ) with
    | some _ => -1
    | none => if gCb Γ w = -1 then -1 else nI (gMv Γ (xNa (gCb Γ w)))
def gNK (Γ : xG) (w : Nat) : Int32 := match gfi (gMy Γ) w (gNm Γ) with
  | some i => gCl Γ (gMx Γ i)
  | none => match gfi (gMx Γ) w (gNm Γ) with
    | some _ => 0
    | none => gCl Γ w
def gCarry (Γ : xG) : xG := (xu Γ.1 3 0, Γ.2.1, xu (xu Γ.2.2 1 (gNC Γ)) 2 (gNK Γ))
theorem gPos.ix {Γ : xG} (h : gPos Γ) {i j : Nat} (hi : i < gNm Γ) (hj : j < gNm Γ) (e : gMx Γ i = gMx Γ j) : i = j := by
  rcases Nat.lt_trichotomy i j with a | a | a
  · exact absurd ⟨i, a, Or.inl e⟩ (h j hj).2.1
  · exact a
  · exact absurd ⟨j, a, Or.inl e.symm⟩ (h i hi).2.1
theorem gPos.iy {Γ : xG} (h : gPos Γ) {i j : Nat} (hi : i < gNm Γ) (hj : j < gNm Γ) (e : gMy Γ i = gMy Γ j) : i = j := by
  rcases Nat.lt_trichotomy i j with a | a | a
  · exact absurd ⟨i, a, Or.inr e⟩ (h j hj).2.1
  · exact a
  · exact absurd ⟨j, a, Or.inr e.symm⟩ (h i hi).2.1
theorem gPos.at {Γ : xG} (h : gPos Γ) {i : Nat} (hi : i < gNm Γ) : gMv Γ (gMx Γ i) = gMy Γ i := by
  unfold gMv
  cases hg : gfi (gMx Γ) (gMx Γ i) (gNm Γ) with
  | some j =>
    obtain ⟨a, b⟩ := gfi_some hg
    show gMy Γ j = _
    rw [h.ix a hi b]
  | none => exact absurd rfl (gfi_none hg i hi)
theorem gMv_no {Γ : xG} {q : Nat} (h : ∀ i, i < gNm Γ → gMx Γ i ≠ q) : gMv Γ q = q := by
  unfold gMv
  cases hg : gfi (gMx Γ) q (gNm Γ) with
  | some j => obtain ⟨a, b⟩ := gfi_some hg; exact absurd b (h j a)
  | none => rfl
theorem gMv_lt {Γ : xG} (hG : xGood Γ) {q : Nat} (hq : q < gNo Γ) : gMv Γ q < gNo Γ := by
  unfold gMv
  cases hg : gfi (gMx Γ) q (gNm Γ) with
  | some j => exact (hG.mm j (gfi_some hg).1).2.1
  | none => exact hq
/-- the end at q, with a cable, comes to gMv q, its cable and its colour with it -/
theorem gNC_at {Γ : xG} (h : gPos Γ) {q : Nat} (hc : gCb Γ q ≠ -1) : gNC Γ (gMv Γ q) = nI (gMv Γ (xNa (gCb Γ q))) ∧ gNK Γ (gMv Γ q) = gCl Γ q := by
  by_cases hm : ∃ i, i < gNm Γ ∧ gMx Γ i = q
  · obtain ⟨i, hi, rfl⟩ := hm
    rw [h.at hi]
    unfold gNC gNK
    cases hg : gfi (gMy Γ) (gMy Γ i) (gNm Γ) with
    | some j =>
      obtain ⟨a, b⟩ := gfi_some hg
      have : j = i := h.iy a hi b
      subst this
      exact ⟨rfl, rfl⟩
    | none => exact absurd rfl (gfi_none hg i hi)
  · have hno : ∀ i, i < gNm Γ → gMx Γ i ≠ q := fun i hi e => hm ⟨i, hi, e⟩
    rw [gMv_no hno]
    unfold gNC gNK
    cases hg : gfi (gMy Γ) q (gNm Γ) with
    | some j =>
      obtain ⟨a, b⟩ := gfi_some hg
      exact absurd ⟨by rw [b]; exact hc, fun ⟨k, hk, e⟩ => hno k hk (e.trans b)⟩ (h j a).2.2
    | none =>
      cases hg2 : gfi (gMx Γ) q (gNm Γ) with
      | some j => obtain ⟨a, b⟩ := gfi_some hg2; exact absurd b (hno j a)
      | none => exact ⟨if_neg hc, rfl⟩
theorem xin112 {v : Int32} (h : 1 ≤ v ∧ v ≤ 12) : ∃ k, 1 ≤ k ∧ k ≤ 12 ∧ v = nI k := by
  obtain ⟨j, hj, rfl⟩ := nI_of (x := v) (fun q => absurd q (Int32.not_lt.mpr (Int32.le_trans (by decide) h.1)))
  exact ⟨j, (nI_leI (a := 1) (by decide) hj).mp h.1, (nI_leI (b := 12) hj (by decide)).mp h.2, rfl⟩
theorem xad1 {g : Nat → Int32} {b i : Nat} {v : Int32} (h : ∀ q, q < i → g (b + q) = v) : ∀ q, q < i + 1 → upd g (b + i) v (b + q) = v := by
  intro q hq
  by_cases e : q = i
  · rw [e, upd_s]
  · rw [upd_n (by omega)]; exact h q (by omega)
theorem upd_cc {g g' : Nat → Int32} {k m : Nat} {v : Int32} (h : ∀ q, q < m → g q = g' q) : ∀ q, q < m → upd g k v q = upd g' k v q := by
  intro q hq
  by_cases e : q = k
  · rw [e, upd_s, upd_s]
  · rw [upd_n e, upd_n e]; exact h q hq
theorem upd_cS {g g' : Nat → Int32} {m : Nat} {v : Int32} (h : ∀ q, q < m → g q = g' q) : ∀ q, q < m + 1 → upd g m v q = upd g' m v q := by
  intro q hq
  by_cases e : q = m
  · rw [e, upd_s, upd_s]
  · rw [upd_n e, upd_n e]; exact h q (by omega)
theorem upd_nS {g : Nat → Int32} {g' : Nat → Nat} {m v : Nat} (h : ∀ q, q < m → g q = nI (g' q)) : ∀ q, q < m + 1 → upd g m (nI v) q = nI (xu g' m v q) := by
  intro q hq
  by_cases e : q = m
  · rw [e, upd_s, xu_s]
  · rw [upd_n e, xu_n e]; exact h q (by omega)
theorem rep_plug {Γ : xG} {n : Nat → Int32} {f : Nat → Nat → Int32} {a b : Nat} {t : Int32} (h : xRepC Γ n f) : xRepC (gPlug Γ a b t) n (xu (xu f 4 (upd (upd (f 4) a (nI b)) b (nI a))) 5 (upd (upd (f 5) a t) b t)) :=
  ⟨h.np, h.no, h.nt, h.nm, h.rk, h.fs, h.pc, h.pn, upd_cc (upd_cc h.cb), upd_cc (upd_cc h.cl), h.st, h.tk, h.ta, h.tc, h.tl_, h.mx, h.my, h.bk⟩
theorem rep_pull {Γ : xG} {n : Nat → Int32} {f : Nat → Nat → Int32} {a b : Nat} (h : xRepC Γ n f) : xRepC (gPull Γ a b) n (xu (xu (xu (xu f 4 (upd (f 4) a (-1))) 5 (upd (f 5) a 0)) 4 (upd (upd (f 4) a (-1)) b (-1))) 5 (upd (upd (f 5) a 0) b 0)) :=
  ⟨h.np, h.no, h.nt, h.nm, h.rk, h.fs, h.pc, h.pn, upd_cc (upd_cc h.cb), upd_cc (upd_cc h.cl), h.st, h.tk, h.ta, h.tc, h.tl_, h.mx, h.my, h.bk⟩
theorem rep_brk {Γ : xG} {n : Nat → Int32} {f : Nat → Nat → Int32} {a b : Nat} {v : Int32} (h : xRepC Γ n f) : xRepC (gBrk Γ a b v) n (xu f 17 (upd (upd (f 17) a v) b v)) :=
  ⟨h.np, h.no, h.nt, h.nm, h.rk, h.fs, h.pc, h.pn, h.cb, h.cl, h.st, h.tk, h.ta, h.tc, h.tl_, h.mx, h.my, upd_cc (upd_cc h.bk)⟩
theorem rep_move {Γ : xG} {n : Nat → Int32} {f : Nat → Nat → Int32} {a b : Nat} (h : xRepC Γ n f) : xRepC (gMove Γ a b) (xu n 3 (nI (gNm Γ + 1))) (xu (xu f 13 (upd (f 13) (gNm Γ) (nI a))) 14 (upd (f 14) (gNm Γ) (nI b))) :=
  ⟨h.np, h.no, h.nt, rfl, h.rk, h.fs, h.pc, h.pn, h.cb, h.cl, h.st, h.tk, h.ta, h.tc, h.tl_, upd_nS h.mx, upd_nS h.my, h.bk⟩
theorem rep_drop {Γ : xG} {n : Nat → Int32} {f : Nat → Nat → Int32} (h : xRepC Γ n f) : xRepC (gDrop Γ) (xu n 3 0) f :=
  ⟨h.np, h.no, h.nt, rfl, h.rk, h.fs, h.pc, h.pn, h.cb, h.cl, h.st, h.tk, h.ta, h.tc, h.tl_, fun i hi => absurd hi (Nat.not_lt_zero i), fun i hi => absurd hi (Nat.not_lt_zero i), h.bk⟩
theorem rep_panel {Γ : xG} {n : Nat → Int32} {f : Nat → Nat → Int32} {F : Nat → Nat → Int32} {a : Int32} {k : Nat} (hG : xGood Γ) (h : xRepC Γ n f) (hF : ∀ q, q ≠ 3 → F q = (xu (xu (xu f 0 (upd (f 0) (gNp Γ) a)) 1 (upd (f 1) (gNp Γ) (nI (gNo Γ)))) 2 (upd (f 2) (gNp Γ) (nI k))) q) (h3 : ∀ q, q < gNo Γ → F 3 q = f 3 q) (h3i : ∀ q, q < k → F 3 (gNo Γ + q) = nI (gNp Γ)) :
    xRepC (gPanel Γ a k) (xu (xu n 0 (nI (gNp Γ + 1))) 1 (nI (gNo Γ + k))) F := by
  have e0 : F 0 = upd (f 0) (gNp Γ) a := hF 0 (by decide)
  have e1 : F 1 = upd (f 1) (gNp Γ) (nI (gNo Γ)) := hF 1 (by decide)
  have e2 : F 2 = upd (f 2) (gNp Γ) (nI k) := hF 2 (by decide)
  have hn := hG.fn
  refine ⟨rfl, rfl, h.nt, h.nm, ?_, ?_, ?_, ?_, ?_, ?_, ?_, ?_, ?_, ?_, ?_, ?_, ?_, ?_⟩
  · rw [e0]; exact upd_cS h.rk
  · intro j hj
    show F 1 j = nI (xu (gFs Γ) (gNp Γ + 1) (gNo Γ + k) j)
    have hj : j < gNp Γ + 1 := hj
    rw [e1, xu_n (by omega)]
    by_cases e : j = gNp Γ
    · rw [e, upd_s, hn]
    · rw [upd_n e]; exact h.fs j (by omega)
  · intro j hj
    show F 2 j = nI (xu (gFs Γ) (gNp Γ + 1) (gNo Γ + k) (j + 1) - xu (gFs Γ) (gNp Γ + 1) (gNo Γ + k) j)
    have hj : j < gNp Γ + 1 := hj
    rw [e2, xu_n (show j ≠ gNp Γ + 1 by omega)]
    by_cases e : j = gNp Γ
    · rw [e, upd_s, xu_s, hn]; congr 1; omega
    · rw [upd_n e, xu_n (by omega)]; exact h.pc j (by omega)
  · intro q hq
    show F 3 q = nI (if gNo Γ ≤ q then gNp Γ else gPn Γ q)
    have hq : q < gNo Γ + k := hq
    by_cases e : gNo Γ ≤ q
    · rw [if_pos e]
      have := h3i (q - gNo Γ) (by omega)
      rw [show gNo Γ + (q - gNo Γ) = q by omega] at this
      exact this
    · rw [if_neg e, h3 q (by omega)]; exact h.pn q (by omega)
  · rw [show F 4 = f 4 from hF 4 (by decide)]; exact h.cb
  · rw [show F 5 = f 5 from hF 5 (by decide)]; exact h.cl
  · rw [show F 6 = f 6 from hF 6 (by decide)]; exact h.st
  · intro q hq hs
    rw [show F 7 = f 7 from hF 7 (by decide)]
    by_cases e : gNo Γ ≤ q
    · exact absurd (hG.out q e).2 hs
    · exact h.tk q (by omega) hs
  · rw [show F 8 = f 8 from hF 8 (by decide)]; exact h.ta
  · rw [show F 9 = f 9 from hF 9 (by decide)]; exact h.tc
  · rw [show F 10 = f 10 from hF 10 (by decide)]; exact h.tl_
  · rw [show F 13 = f 13 from hF 13 (by decide)]; exact h.mx
  · rw [show F 14 = f 14 from hF 14 (by decide)]; exact h.my
  · rw [show F 17 = f 17 from hF 17 (by decide)]; exact h.bk
theorem xjs_0 (g : Nat → Int32) (a b : Nat) : ∀ q, g q = xjs g a b 0 q := fun q => by unfold xjs; rw [if_neg (by omega), if_neg (by omega)]
theorem xjt_0 (g : Nat → Int32) (a b : Nat) (t : Int32) : ∀ q, g q = xjt g a b 0 t q := fun q => by unfold xjt; rw [if_neg (by omega)]
theorem xjs_s {g G : Nat → Int32} {a b i k : Nat} (hd : a + k ≤ b ∨ b + k ≤ a) (hi : i < k) (h : ∀ q, G q = xjs g a b i q) : ∀ q, upd (upd G (a + i) (nI (b + i))) (b + i) (nI (a + i)) q = xjs g a b (i + 1) q := by
  intro q
  unfold xjs
  by_cases e1 : q = b + i
  · rw [e1, upd_s, if_neg (by omega), if_pos (by omega)]; congr 1; omega
  · rw [upd_n e1]
    by_cases e2 : q = a + i
    · rw [e2, upd_s, if_pos (by omega)]; congr 1; omega
    · rw [upd_n e2, h q]
      unfold xjs
      by_cases c1 : a ≤ q ∧ q < a + i
      · rw [if_pos c1, if_pos (by omega)]
      · rw [if_neg c1, if_neg (show ¬ (a ≤ q ∧ q < a + (i + 1)) by omega)]
        by_cases c2 : b ≤ q ∧ q < b + i
        · rw [if_pos c2, if_pos (by omega)]
        · rw [if_neg c2, if_neg (show ¬ (b ≤ q ∧ q < b + (i + 1)) by omega)]
theorem xjt_s {g G : Nat → Int32} {a b i : Nat} {t : Int32} (h : ∀ q, G q = xjt g a b i t q) : ∀ q, upd (upd G (a + i) t) (b + i) t q = xjt g a b (i + 1) t q := by
  intro q
  unfold xjt
  by_cases e1 : q = b + i
  · rw [e1, upd_s, if_pos (by omega)]
  · rw [upd_n e1]
    by_cases e2 : q = a + i
    · rw [e2, upd_s, if_pos (by omega)]
    · rw [upd_n e2, h q]
      unfold xjt
      by_cases c1 : (a ≤ q ∧ q < a + i) ∨ (b ≤ q ∧ q < b + i)
      · rw [if_pos c1, if_pos (by omega)]
      · rw [if_neg c1, if_neg (by omega)]
theorem xdisj {Γ : xG} (hG : xGood Γ) {a b k : Nat} (ha : a < gNo Γ) (hb : b < gNo Γ) (hne : gPn Γ a ≠ gPn Γ b) (h1 : a + k ≤ gFs Γ (gPn Γ a + 1)) (h2 : b + k ≤ gFs Γ (gPn Γ b + 1)) : a + k ≤ b ∨ b + k ≤ a := by
  obtain ⟨a1, a2, a3⟩ := hG.pn a ha
  obtain ⟨b1, b2, b3⟩ := hG.pn b hb
  rcases Nat.lt_or_ge (gPn Γ a) (gPn Γ b) with e | e
  · have := hG.fle (gPn Γ b - (gPn Γ a + 1)) (gPn Γ a + 1) (by omega)
    rw [show gPn Γ a + 1 + (gPn Γ b - (gPn Γ a + 1)) = gPn Γ b by omega] at this
    omega
  · have := hG.fle (gPn Γ a - (gPn Γ b + 1)) (gPn Γ b + 1) (by omega)
    rw [show gPn Γ b + 1 + (gPn Γ a - (gPn Γ b + 1)) = gPn Γ a by omega] at this
    omega
theorem rep_trunk {Γ : xG} {n : Nat → Int32} {f : Nat → Nat → Int32} {F : Nat → Nat → Int32} {a b k : Nat} {t : Int32} (hG : xGood Γ) (h : xRepC Γ n f) (ha : a + k ≤ gNo Γ) (hb : b + k ≤ gNo Γ) (hF : ∀ q, q ≠ 6 → q ≠ 7 → F q = (xu (xu (xu f 8 (upd (f 8) (gNt Γ) (nI a))) 9 (upd (f 9) (gNt Γ) (nI k))) 10 (upd (f 10) (gNt Γ) t)) q) (h6 : ∀ q, F 6 q = xjs (f 6) a b k q) (h7 : ∀ q, F 7 q = xjt (f 7) a b k (nI (gNt Γ)) q) : xRepC (gTrunk Γ a b k t) (xu n 2 (nI (gNt Γ + 1))) F := by
  have hno := hG.no
  refine ⟨h.np, h.no, rfl, h.nm, ?_, ?_, ?_, ?_, ?_, ?_, ?_, ?_, ?_, ?_, ?_, ?_, ?_, ?_⟩
  · rw [show F 0 = f 0 from hF 0 (by decide) (by decide)]; exact h.rk
  · rw [show F 1 = f 1 from hF 1 (by decide) (by decide)]; exact h.fs
  · rw [show F 2 = f 2 from hF 2 (by decide) (by decide)]; exact h.pc
  · rw [show F 3 = f 3 from hF 3 (by decide) (by decide)]; exact h.pn
  · rw [show F 4 = f 4 from hF 4 (by decide) (by decide)]; exact h.cb
  · rw [show F 5 = f 5 from hF 5 (by decide) (by decide)]; exact h.cl
  · intro q hq
    rw [h6 q]
    show xjs (f 6) a b k q = xjs (gSt Γ) a b k q
    unfold xjs
    rw [h.st q hq]
  · intro q hq hs
    have hq : q < gNo Γ := hq
    rw [h7 q]
    show xjt (f 7) a b k (nI (gNt Γ)) q = xjt (gTk Γ) a b k (nI (gNt Γ)) q
    have hs : xjs (gSt Γ) a b k q ≠ -1 := hs
    unfold xjt
    by_cases c1 : (a ≤ q ∧ q < a + k) ∨ (b ≤ q ∧ q < b + k)
    · rw [if_pos c1, if_pos c1]
    · rw [if_neg c1, if_neg c1]
      unfold xjs at hs
      rw [if_neg (fun e => c1 (Or.inl e)), if_neg (fun e => c1 (Or.inr e))] at hs
      exact h.tk q hq hs
  · rw [show F 8 = upd (f 8) (gNt Γ) (nI a) from hF 8 (by decide) (by decide)]; exact upd_nS h.ta
  · rw [show F 9 = upd (f 9) (gNt Γ) (nI k) from hF 9 (by decide) (by decide)]; exact upd_nS h.tc
  · rw [show F 10 = upd (f 10) (gNt Γ) t from hF 10 (by decide) (by decide)]; exact upd_cS h.tl_
  · rw [show F 13 = f 13 from hF 13 (by decide) (by decide)]; exact h.mx
  · rw [show F 14 = f 14 from hF 14 (by decide) (by decide)]; exact h.my
  · rw [show F 17 = f 17 from hF 17 (by decide) (by decide)]; exact h.bk
theorem pos_iff {Γ : xG} {n : Nat → Int32} {f : Nat → Nat → Int32} (hG : xGood Γ) (h : xRepC Γ n f) : (∀ i, i < gNm Γ → xpos (f 4) (f 13) (f 14) (gMx Γ) (gMy Γ) (gNm Γ) i) ↔ gPos Γ := by
  have hno := hG.no
  have step : ∀ i, i < gNm Γ → (xpos (f 4) (f 13) (f 14) (gMx Γ) (gMy Γ) (gNm Γ) i ↔ (gCb Γ (gMx Γ i) ≠ -1 ∧ (¬ ∃ q, q < i ∧ (gMx Γ q = gMx Γ i ∨ gMy Γ q = gMy Γ i)) ∧ ¬ (gCb Γ (gMy Γ i) ≠ -1 ∧ ¬ ∃ q, q < gNm Γ ∧ gMx Γ q = gMy Γ i))) := by
    intro i hi
    obtain ⟨m1, m2, -⟩ := hG.mm i hi
    unfold xpos
    rw [h.cb _ (by omega), h.cb _ (by omega)]
    have ex : ∀ q, q < gNm Γ → ∀ z, z < gNo Γ → (f 13 q = nI z ↔ gMx Γ q = z) := by
      intro q hq z hz
      have := (hG.mm q hq).1
      rw [h.mx q hq]
      exact nI_eq (by omega) (by omega)
    have ey : ∀ q, q < gNm Γ → ∀ z, z < gNo Γ → (f 14 q = nI z ↔ gMy Γ q = z) := by
      intro q hq z hz
      have := (hG.mm q hq).2.1
      rw [h.my q hq]
      exact nI_eq (by omega) (by omega)
    constructor
    · rintro ⟨a1, a2, a3⟩
      refine ⟨a1, ?_, ?_⟩
      · rintro ⟨q, hq, e⟩
        refine a2 ⟨q, hq, ?_⟩
        rcases e with e | e
        · left; rw [h.mx i hi]; exact (ex q (by omega) _ m1).mpr e
        · right; rw [h.my i hi]; exact (ey q (by omega) _ m2).mpr e
      · rintro ⟨b1, b2⟩
        exact a3 ⟨b1, fun ⟨q, hq, e⟩ => b2 ⟨q, hq, (ex q hq _ m2).mp e⟩⟩
    · rintro ⟨a1, a2, a3⟩
      refine ⟨a1, ?_, ?_⟩
      · rintro ⟨q, hq, e⟩
        refine a2 ⟨q, hq, ?_⟩
        rcases e with e | e
        · left; rw [h.mx i hi] at e; exact (ex q (by omega) _ m1).mp e
        · right; rw [h.my i hi] at e; exact (ey q (by omega) _ m2).mp e
      · rintro ⟨b1, b2⟩
        exact a3 ⟨b1, fun ⟨q, hq, e⟩ => b2 ⟨q, hq, (ex q hq _ m2).mpr e⟩⟩
  constructor
  · intro hh i hi; exact (step i hi).mp (hh i hi)
  · intro hh i hi; exact (step i hi).mpr (hh i hi)
/-- the other end of the cable at the i-th move -/
theorem car_o {Γ : xG} (hG : xGood Γ) (hP : gPos Γ) {i : Nat} (hi : i < gNm Γ) : ∃ v, v < gNo Γ ∧ gCb Γ (gMx Γ i) = nI v ∧ gCb Γ v = nI (gMx Γ i) := by
  obtain ⟨m1, -, -⟩ := hG.mm i hi
  obtain ⟨v, h1, -, h3, h4⟩ := (hG.cb _ m1).resolve_left (hP i hi).1
  exact ⟨v, h1, h3, h4⟩
theorem car_z {Γ : xG} {n : Nat → Int32} {f : Nat → Nat → Int32} {G : Nat → Nat → Int32} (hG : xGood Γ) (h : xRepC Γ n f) (hP : gPos Γ) (g15 : ∀ q, q < gNm Γ → G 15 q = f 4 (gMx Γ q) ∧ G 16 q = f 5 (gMx Γ q)) : ∀ i, i < gNm Γ → ∀ r, xmv (f 13) (f 14) (gNm Γ) (G 15 i) r → r = nI (gZe Γ i) ∧ gZe Γ i < 144 := by
  intro i hi r hr
  have hno := hG.no
  obtain ⟨m1, -, -⟩ := hG.mm i hi
  obtain ⟨v, h1, h3, h4⟩ := car_o hG hP hi
  have hz : gZe Γ i = gMv Γ v := by unfold gZe; rw [h3, xNa_n (by omega)]
  have hlt := gMv_lt hG h1
  rw [hz]
  refine ⟨?_, by omega⟩
  rw [(g15 i hi).1, h.cb _ (by omega), h3] at hr
  rcases hr with ⟨j, a1, a2, -, rfl⟩ | ⟨a1, rfl⟩
  · have := (hG.mm j a1).1
    rw [h.mx j a1] at a2
    have e : gMx Γ j = v := nI_inj (by omega) (by omega) a2
    rw [h.my j a1, ← e, hP.at a1]
  · rw [gMv_no (fun j hj e => a1 j hj (by rw [h.mx j hj, e]))]
theorem car_c {Γ : xG} {n : Nat → Int32} {f : Nat → Nat → Int32} {G : Nat → Nat → Int32} (hG : xGood Γ) (h : xRepC Γ n f) (hP : gPos Γ) (g15 : ∀ q, q < gNm Γ → G 15 q = f 4 (gMx Γ q) ∧ G 16 q = f 5 (gMx Γ q)) : ∀ q, q < gNm Γ → (gNC Γ (gMy Γ q) = nI (gZe Γ q) ∧ gNC Γ (gZe Γ q) = nI (gMy Γ q)) ∧ gNK Γ (gMy Γ q) = G 16 q ∧ gNK Γ (gZe Γ q) = G 16 q := by
  intro i hi
  have hno := hG.no
  obtain ⟨m1, -, -⟩ := hG.mm i hi
  obtain ⟨v, h1, h3, h4⟩ := car_o hG hP hi
  have hz : gZe Γ i = gMv Γ v := by unfold gZe; rw [h3, xNa_n (by omega)]
  obtain ⟨a1, a2⟩ := gNC_at hP (hP i hi).1
  obtain ⟨b1, b2⟩ := gNC_at hP (q := v) (by rw [h4]; exact nI_m1 (by omega))
  rw [hP.at hi] at a1 a2
  rw [h3, xNa_n (by omega)] at a1
  rw [h4, xNa_n (by omega), hP.at hi] at b1
  rw [hz, (g15 i hi).2, h.cl _ (by omega)]
  exact ⟨⟨a1, b1⟩, a2, by rw [b2]; exact (hG.cs _ _ m1 h1 h3).symm⟩
theorem rep_carry {Γ : xG} {n : Nat → Int32} {f : Nat → Nat → Int32} {G G2 : Nat → Nat → Int32} (hG : xGood Γ) (h : xRepC Γ n f) (hP : gPos Γ) (hG1 : ∀ q, q ≠ 15 → q ≠ 16 → q ≠ 4 → q ≠ 5 → G q = f q) (hG2 : ∀ q, q ≠ 4 → q ≠ 5 → G2 q = G q)
    (g4 : ∀ q, q < gNm Γ → G 4 (gMx Γ q) = -1 ∧ G 5 (gMx Γ q) = 0) (g5 : ∀ z, (∀ q, q < gNm Γ → gMx Γ q ≠ z) → G 4 z = f 4 z ∧ G 5 z = f 5 z)
    (k4 : ∀ q, q < gNm Γ → (G2 4 (gMy Γ q) = gNC Γ (gMy Γ q) ∧ G2 4 (gZe Γ q) = gNC Γ (gZe Γ q)) ∧ G2 5 (gMy Γ q) = gNK Γ (gMy Γ q) ∧ G2 5 (gZe Γ q) = gNK Γ (gZe Γ q)) (k5 : ∀ w, (∀ q, q < gNm Γ → gMy Γ q ≠ w ∧ gZe Γ q ≠ w) → G2 4 w = G 4 w ∧ G2 5 w = G 5 w) : xRepC (gCarry Γ) (xu n 3 0) G2 := by
  have hno := hG.no
  have key : ∀ w, w < 144 → G2 4 w = gNC Γ w ∧ G2 5 w = gNK Γ w := by
    intro w hw
    by_cases hit : ∃ q, q < gNm Γ ∧ (gMy Γ q = w ∨ gZe Γ q = w)
    · obtain ⟨q, hq, e⟩ := hit
      obtain ⟨⟨a1, a2⟩, a3, a4⟩ := k4 q hq
      rcases e with rfl | rfl
      · exact ⟨a1, a3⟩
      · exact ⟨a2, a4⟩
    · have hny : ∀ q, q < gNm Γ → gMy Γ q ≠ w := fun q hq e => hit ⟨q, hq, Or.inl e⟩
      have hnz : ∀ q, q < gNm Γ → gZe Γ q ≠ w := fun q hq e => hit ⟨q, hq, Or.inr e⟩
      obtain ⟨c1, c2⟩ := k5 w (fun q hq => ⟨hny q hq, hnz q hq⟩)
      rw [c1, c2]
      unfold gNC gNK
      cases hg : gfi (gMy Γ) w (gNm Γ) with
      | some j => obtain ⟨a, b⟩ := gfi_some hg; exact absurd b (hny j a)
      | none =>
        cases hg2 : gfi (gMx Γ) w (gNm Γ) with
        | some j =>
          obtain ⟨a, rfl⟩ := gfi_some hg2
          exact g4 j a
        | none =>
          obtain ⟨d1, d2⟩ := g5 w (gfi_none hg2)
          rw [d1, d2, h.cb w hw, h.cl w hw]
          refine ⟨?_, rfl⟩
          show gCb Γ w = if gCb Γ w = -1 then -1 else nI (gMv Γ (xNa (gCb Γ w)))
          by_cases e : gCb Γ w = -1
          · rw [if_pos e, e]
          · rw [if_neg e]
            have hwn : w < gNo Γ := Nat.lt_of_not_le (fun q => e (hG.out w q).1)
            obtain ⟨v, v1, -, v3, v4⟩ := (hG.cb w hwn).resolve_left e
            rw [v3, xNa_n (by omega), gMv_no]
            intro q hq eq
            refine hnz q hq ?_
            unfold gZe
            rw [eq, v4, xNa_n (by omega)]
            exact gMv_no (gfi_none hg2)
  have e : ∀ q, q ≠ 15 → q ≠ 16 → q ≠ 4 → q ≠ 5 → G2 q = f q := fun q a b c d => (hG2 q c d).trans (hG1 q a b c d)
  refine ⟨h.np, h.no, h.nt, rfl, ?_, ?_, ?_, ?_, fun q hq => (key q hq).1, fun q hq => (key q hq).2, ?_, ?_, ?_, ?_, ?_, fun i hi => absurd hi (Nat.not_lt_zero i), fun i hi => absurd hi (Nat.not_lt_zero i), ?_⟩
  · rw [e 0 (by decide) (by decide) (by decide) (by decide)]; exact h.rk
  · rw [e 1 (by decide) (by decide) (by decide) (by decide)]; exact h.fs
  · rw [e 2 (by decide) (by decide) (by decide) (by decide)]; exact h.pc
  · rw [e 3 (by decide) (by decide) (by decide) (by decide)]; exact h.pn
  · rw [e 6 (by decide) (by decide) (by decide) (by decide)]; exact h.st
  · rw [e 7 (by decide) (by decide) (by decide) (by decide)]; exact h.tk
  · rw [e 8 (by decide) (by decide) (by decide) (by decide)]; exact h.ta
  · rw [e 9 (by decide) (by decide) (by decide) (by decide)]; exact h.tc
  · rw [e 10 (by decide) (by decide) (by decide) (by decide)]; exact h.tl_
  · rw [e 17 (by decide) (by decide) (by decide) (by decide)]; exact h.bk

abbrev rmX3_addPanel : Room := { frames := 6, cells := 1, slots := 6, locals := 82 }
set_option maxHeartbeats 4000000 in
set_option maxRecDepth 100000 in
theorem c_X3_addPanel (l : Launch) (E : xE) (n : Nat → Int32) (f : Nat → Nat → Int32) (o : Nat → Int64) (hfl : l.stackTraces = false) (Γ : xG) (hG : xGood Γ) (hR : xRepC Γ n f) (a a2 : Int32) : xXi l yX3_addPanel wsX3_addPanel rmX3_addPanel E [.ref (E.2.2.2 0), .int a, .int a2] (n, f, o) 1 (fun r σ' => ocAddPanel Γ a a2 = 0 ∧ r = nI (gNo Γ) ∧ xOKC (gPanel Γ a (xNa a2)) n f o σ') (fun X σ' => xX2 (ocAddPanel Γ a a2) X ∧ xOKC Γ n f o σ') := by
  refine x_startXi RX3 (by decide) rfl rfl (Nat.le_of_ble_eq_true rfl) ?_
  intro p e s m args below meth c ls S hr hlk htab hTh hW hl
  have hx := S.1
  have hb := S.2.1
  have hl : lv_has ls 5 [(0, .ref (E.2.2.2 0)), (1, .int a), (2, .int a2)] := hl
  have hinX3 : ∀ w ∈ wsX30, w ∈ wsX3_addPanel := by decide +kernel
  have w14 : Cond.fieldLink RX3 14 "CableBook" "rackOf" "LCableBook$Row;" ∈ wsX3_addPanel := by decide +kernel
  have w18 : Cond.fieldLink RX3 18 "CableBook" "firstPortOf" "LCableBook$Row;" ∈ wsX3_addPanel := by decide +kernel
  have w21 : Cond.fieldLink RX3 21 "CableBook" "portCountOf" "LCableBook$Row;" ∈ wsX3_addPanel := by decide +kernel
  have w24 : Cond.fieldLink RX3 24 "CableBook" "panelAt" "LCableBook$Row;" ∈ wsX3_addPanel := by decide +kernel
  have w73 : Cond.fieldLink RX3 73 "CableBook" "panelCount" "I" ∈ wsX3_addPanel := by decide +kernel
  have w77 : Cond.fieldLink RX3 77 "CableBook" "portCount" "I" ∈ wsX3_addPanel := by decide +kernel
  have w87 : Cond.classLink RX3 87 "java/lang/IllegalArgumentException" ∈ wsX3_addPanel := by decide +kernel
  have w94 : Cond.classLink RX3 94 "java/lang/IllegalStateException" ∈ wsX3_addPanel := by decide +kernel
  have wiIA : Cond.initialized "java/lang/IllegalArgumentException" ∈ wsX3_addPanel := by decide +kernel
  have wiIS : Cond.initialized "java/lang/IllegalStateException" ∈ wsX3_addPanel := by decide +kernel
  have hno := hG.no
  have hnp := hG.np
  have hnt := hG.nt
  have hnm := hG.nm
  refine lv_iload_n hx hb dX3_addPanel_0 rfl (lv_at hl 1 rfl) ?_
  refine lv_iconst (v := 0) hx hb dX3_addPanel_1 (by decide) ?_
  refine lv_bipush (v := 9) hx hb dX3_addPanel_2 (by decide) ?_
  refine x_Si (rest := []) S (c_X3_isWithin l E n f o a 0 9) (cwS 3 S.2.2.2.2 gX3_addPanel_X3_isWithin rfl rfl rfl (by decide +kernel) ⟨Nat.le_of_ble_eq_true rfl, Nat.le_of_ble_eq_true rfl⟩) hW rfl rfl hl.1 (Nat.le_of_ble_eq_true rfl) dX3_addPanel_4 ⟨Nat.le_of_ble_eq_true rfl, Nat.le_of_ble_eq_true rfl⟩ (fun r4 σ4 H locs hq1 hW => ?_)
  rcases hq1 with ⟨rfl, h4, rfl⟩ | ⟨rfl, h4, rfl⟩
  · refine lv_if_eq (tgt := 20) hx hb dX3_addPanel_7 (by decide) (fun c7 => ?_) (fun c7 => ?_)
    rotate_left
    · exact absurd c7 (by decide)
    exact x_throw (cls := xIA) (text := "rack or ports out of range") S hfl hTh hW htab hlk (by decide +kernel) w87 wiIA (by decide +kernel) (fun w hw => List.mem_cons_of_mem _ (List.mem_append_left _ (List.mem_append_right _ hw))) xng_IA xgd_IA hl.1 dX3_addPanel_20 dX3_addPanel_23 dX3_addPanel_24 dX3_addPanel_26 dX3_addPanel_29 ⟨⟨Nat.le_of_ble_eq_true rfl, Nat.le_of_ble_eq_true rfl⟩, Nat.le_of_ble_eq_true rfl, Nat.le_of_ble_eq_true rfl⟩ (Nat.le_of_ble_eq_true rfl) (Nat.le_of_ble_eq_true rfl) (⟨Or.inl ⟨xif_t (by first | exact Or.inl h4 | exact Or.inr h14), rfl⟩, hR.same⟩)
  · refine lv_if_eq (tgt := 20) hx hb dX3_addPanel_7 (by decide) (fun c7 => ?_) (fun c7 => ?_)
    · exact absurd c7 (by decide)
    refine lv_iload_n hx hb dX3_addPanel_10 rfl (lv_at hl 2 rfl) ?_
    refine lv_iconst (v := 1) hx hb dX3_addPanel_11 (by decide) ?_
    refine lv_bipush (v := 12) hx hb dX3_addPanel_12 (by decide) ?_
    refine x_Si (rest := []) S (c_X3_isWithin l E n f o a2 1 12) (cwS 3 S.2.2.2.2 gX3_addPanel_X3_isWithin rfl rfl rfl (by decide +kernel) ⟨Nat.le_of_ble_eq_true rfl, Nat.le_of_ble_eq_true rfl⟩) hW rfl rfl hl.1 (Nat.le_of_ble_eq_true rfl) dX3_addPanel_14 ⟨Nat.le_of_ble_eq_true rfl, Nat.le_of_ble_eq_true rfl⟩ (fun r14 σ14 H locs hq2 hW => ?_)
    rcases hq2 with ⟨rfl, h14, rfl⟩ | ⟨rfl, h14, rfl⟩
    · refine lv_if_ne (tgt := 30) hx hb dX3_addPanel_17 (by decide) (fun c17 => ?_) (fun c17 => ?_)
      · exact absurd c17 (by decide)
      exact x_throw (cls := xIA) (text := "rack or ports out of range") S hfl hTh hW htab hlk (by decide +kernel) w87 wiIA (by decide +kernel) (fun w hw => List.mem_cons_of_mem _ (List.mem_append_left _ (List.mem_append_right _ hw))) xng_IA xgd_IA hl.1 dX3_addPanel_20 dX3_addPanel_23 dX3_addPanel_24 dX3_addPanel_26 dX3_addPanel_29 ⟨⟨Nat.le_of_ble_eq_true rfl, Nat.le_of_ble_eq_true rfl⟩, Nat.le_of_ble_eq_true rfl, Nat.le_of_ble_eq_true rfl⟩ (Nat.le_of_ble_eq_true rfl) (Nat.le_of_ble_eq_true rfl) (⟨Or.inl ⟨xif_t (by first | exact Or.inl h4 | exact Or.inr h14), rfl⟩, hR.same⟩)
    · refine lv_if_ne (tgt := 30) hx hb dX3_addPanel_17 (by decide) (fun c17 => ?_) (fun c17 => ?_)
      rotate_left
      · exact absurd c17 (by decide)
      obtain ⟨c9, hc1, hc2, rfl⟩ := xin112 h14
      refine lv_aload_n hx hb dX3_addPanel_30 rfl (lv_at hl 0 rfl) ?_
      refine x_get (v := .int (n 0)) S hW hinX3 0 (xw_0 E _) rfl 0 (by decide) w73 rfl dX3_addPanel_31 ?_
      refine x_topN (gNp Γ) (hR.np) ?_
      refine lv_bipush (v := 12) hx hb dX3_addPanel_34 (by decide) ?_
      refine x_icmp_lt (a := gNp Γ) (b := 12) (tgt := 49) hx hb dX3_addPanel_36 (by decide) (by omega) (by omega) (fun c36 => ?_) (fun c36 => ?_)
      · have hb9 : gNo Γ + c9 ≤ 144 := by have := hG.mono (gNp Γ) (Nat.le_refl _); have := hG.fn; omega
        refine lv_aload_n hx hb dX3_addPanel_49 rfl (lv_at hl 0 rfl) ?_
        refine x_get (v := .int (n 1)) S hW hinX3 0 (xw_0 E _) rfl 4 (by decide) w77 rfl dX3_addPanel_50 ?_
        refine x_topN (gNo Γ) (hR.no) ?_
        refine lv_istore_n (lv' := [(3, .int (nI (gNo Γ))), (0, .ref (E.2.2.2 0)), (1, .int a), (2, .int (nI c9))]) hx hb dX3_addPanel_53 rfl hl (by decide) rfl (fun ls hl => ?_)
        refine lv_aload_n hx hb dX3_addPanel_54 rfl (lv_at hl 1 rfl) ?_
        refine x_get (v := .ref (E.2.2.2 1)) S hW hinX3 0 (xw_0 E _) rfl 1 (by decide) w14 rfl dX3_addPanel_55 ?_
        refine lv_aload_n hx hb dX3_addPanel_58 rfl (lv_at hl 1 rfl) ?_
        refine x_get (v := .int (n 0)) S hW hinX3 0 (xw_0 E _) rfl 0 (by decide) w73 rfl dX3_addPanel_59 ?_
        refine x_topN (gNp Γ) (hR.np) ?_
        refine lv_iload_n hx hb dX3_addPanel_62 rfl (lv_at hl 2 rfl) ?_
        refine x_Vv (rest := []) S (c_X2_put l E n f o (i := 0) (by decide) (k := gNp Γ) (show _ < 12 from by omega) a) (cwV 2 S.2.2.2.2 gX3_addPanel_X2_put rfl rfl rfl (by decide +kernel) ⟨Nat.le_of_ble_eq_true rfl, Nat.le_of_ble_eq_true rfl⟩) hW 1 (xw_1 E _) rfl rfl rfl hl.1 (Nat.le_of_ble_eq_true rfl) dX3_addPanel_63 ⟨Nat.le_of_ble_eq_true rfl, Nat.le_of_ble_eq_true rfl⟩ (fun σ63 H locs hq3 hW => ?_)
        obtain rfl := hq3
        refine lv_aload_n hx hb dX3_addPanel_66 rfl (lv_at hl 1 rfl) ?_
        refine x_get (v := .ref (E.2.2.2 3)) S hW hinX3 0 (xw_0 E _) rfl 2 (by decide) w18 rfl dX3_addPanel_67 ?_
        refine lv_aload_n hx hb dX3_addPanel_70 rfl (lv_at hl 1 rfl) ?_
        refine x_get (v := .int (n 0)) S hW hinX3 0 (xw_0 E _) rfl 0 (by decide) w73 rfl dX3_addPanel_71 ?_
        refine x_topN (gNp Γ) (hR.np) ?_
        refine lv_iload_n hx hb dX3_addPanel_74 rfl (lv_at hl 0 rfl) ?_
        refine x_Vv (rest := []) S (c_X2_put l E n (xu f 0 (upd (f 0) (gNp Γ) a)) o (i := 1) (by decide) (k := gNp Γ) (show _ < 12 from by omega) (nI (gNo Γ))) (cwV 2 S.2.2.2.2 gX3_addPanel_X2_put rfl rfl rfl (by decide +kernel) ⟨Nat.le_of_ble_eq_true rfl, Nat.le_of_ble_eq_true rfl⟩) hW 3 (xw_3 E _) rfl rfl rfl hl.1 (Nat.le_of_ble_eq_true rfl) dX3_addPanel_75 ⟨Nat.le_of_ble_eq_true rfl, Nat.le_of_ble_eq_true rfl⟩ (fun σ75 H locs hq4 hW => ?_)
        obtain rfl := hq4
        refine lv_aload_n hx hb dX3_addPanel_78 rfl (lv_at hl 1 rfl) ?_
        refine x_get (v := .ref (E.2.2.2 5)) S hW hinX3 0 (xw_0 E _) rfl 3 (by decide) w21 rfl dX3_addPanel_79 ?_
        refine lv_aload_n hx hb dX3_addPanel_82 rfl (lv_at hl 1 rfl) ?_
        refine x_get (v := .int (n 0)) S hW hinX3 0 (xw_0 E _) rfl 0 (by decide) w73 rfl dX3_addPanel_83 ?_
        refine x_topN (gNp Γ) (hR.np) ?_
        refine lv_iload_n hx hb dX3_addPanel_86 rfl (lv_at hl 3 rfl) ?_
        refine x_Vv (rest := []) S (c_X2_put l E n (xu (xu f 0 (upd (f 0) (gNp Γ) a)) 1 (upd (f 1) (gNp Γ) (nI (gNo Γ)))) o (i := 2) (by decide) (k := gNp Γ) (show _ < 12 from by omega) (nI c9)) (cwV 2 S.2.2.2.2 gX3_addPanel_X2_put rfl rfl rfl (by decide +kernel) ⟨Nat.le_of_ble_eq_true rfl, Nat.le_of_ble_eq_true rfl⟩) hW 5 (xw_5 E _) rfl rfl rfl hl.1 (Nat.le_of_ble_eq_true rfl) dX3_addPanel_87 ⟨Nat.le_of_ble_eq_true rfl, Nat.le_of_ble_eq_true rfl⟩ (fun σ87 H locs hq5 hW => ?_)
        obtain rfl := hq5
        refine lv_iconst (v := 0) hx hb dX3_addPanel_90 (by decide) ?_
        refine lv_istore (lv' := [(4, .int 0), (3, .int (nI (gNo Γ))), (0, .ref (E.2.2.2 0)), (1, .int a), (2, .int (nI c9))]) hx hb dX3_addPanel_91 hl (by decide) rfl (fun ls hl => ?_)
        have L93 : ∀ (fu93 : Nat) (i : Nat) (F : Nat → Nat → Int32) (hμ : c9 + 1 - i < fu93) (hi : i ≤ c9) (hF : ∀ q, q ≠ 3 → F q = (xu (xu (xu f 0 (upd (f 0) (gNp Γ) a)) 1 (upd (f 1) (gNp Γ) (nI (gNo Γ)))) 2 (upd (f 2) (gNp Γ) (nI c9))) q) (h3 : ∀ q, q < gNo Γ → F 3 q = f 3 q) (h3i : ∀ q, q < i → F 3 (gNo Γ + q) = nI (gNp Γ)) (H : Heap) (locs : List Loc) (ls : Array Slot), xSt E (n, F, o) s s.heap H locs → lv_has ls 5 [(0, .ref (E.2.2.2 0)), (1, .int a), (2, .int (nI c9)), (3, .int (nI (gNo Γ))), (4, .int (nI i))] → W p l e rmX3_addPanel s m args below meth c H locs 0 0 (vx_MQ below (va_Qi (fun r σ' => ocAddPanel Γ a (nI c9) = 0 ∧ r = nI (gNo Γ) ∧ xOKC (gPanel Γ a (xNa (nI c9))) n f o σ') (xWd E) (xA E)) (xPx E (fun X σ' => xX2 (ocAddPanel Γ a (nI c9)) X ∧ xOKC Γ n f o σ')) args s 1 (6 * 1) (xA E)) (F0 m 93 ls []) := by
          intro fu93
          induction fu93 with
          | zero => intro i F hμ; exact absurd hμ (Nat.not_lt_zero _)
          | succ fu93 L93 =>
            intro i F hμ hi hF h3 h3i H locs ls hW hl
            refine lv_iload hx hb dX3_addPanel_93 (lv_at hl 4 rfl) ?_
            refine lv_iload_n hx hb dX3_addPanel_95 rfl (lv_at hl 2 rfl) ?_
            refine x_icmp_ge (a := i) (b := c9) (tgt := 120) hx hb dX3_addPanel_96 (by decide) (by omega) (by omega) (fun c96 => ?_) (fun c96 => ?_)
            · refine lv_aload_n hx hb dX3_addPanel_120 rfl (lv_at hl 0 rfl) ?_
              refine lv_dup hx hb dX3_addPanel_121 rfl ?_
              refine x_get (v := .int (n 0)) S hW hinX3 0 (xw_0 E _) rfl 0 (by decide) w73 rfl dX3_addPanel_122 ?_
              refine x_topN (gNp Γ) (hR.np) ?_
              refine lv_iconst (v := 1) hx hb dX3_addPanel_125 (by decide) ?_
              refine x_iadd (a := gNp Γ) (b := 1) hx hb dX3_addPanel_126 ?_
              refine x_put (σ' := ((xu n 0 (nI ((gNp Γ) + 1))), F, o)) S hW hinX3 tyX3 tyX3_ok nmX3 0 (xw_0 E _) rfl 0 (by decide) w73 rfl (by decide +kernel) (Nat.le_of_ble_eq_true rfl) (xw_N0 E _ _ _ _) dX3_addPanel_127 (fun H locs hW => ?_)
              refine lv_aload_n hx hb dX3_addPanel_130 rfl (lv_at hl 0 rfl) ?_
              refine lv_dup hx hb dX3_addPanel_131 rfl ?_
              refine x_get (v := .int (n 1)) S hW hinX3 0 (xw_0 E _) rfl 4 (by decide) w77 rfl dX3_addPanel_132 ?_
              refine x_topN (gNo Γ) (hR.no) ?_
              refine lv_iload_n hx hb dX3_addPanel_135 rfl (lv_at hl 2 rfl) ?_
              refine x_iadd (a := gNo Γ) (b := c9) hx hb dX3_addPanel_136 ?_
              refine x_put (σ' := ((xu (xu n 0 (nI ((gNp Γ) + 1))) 1 (nI ((gNo Γ) + c9))), F, o)) S hW hinX3 tyX3 tyX3_ok nmX3 0 (xw_0 E _) rfl 4 (by decide) w77 rfl (by decide +kernel) (Nat.le_of_ble_eq_true rfl) (xw_N1 E _ _ _ _) dX3_addPanel_137 (fun H locs hW => ?_)
              refine lv_iload_n hx hb dX3_addPanel_140 rfl (lv_at hl 3 rfl) ?_
              exact x_Xreti S hr hlk hW (Nat.le_of_ble_eq_true rfl) (Nat.le_of_ble_eq_true rfl) dX3_addPanel_141 (⟨by rw [ocAddPanel, xif_f (not_or.mpr ⟨not_not_intro h4, not_not_intro h14⟩), xif_f (by omega)], rfl, by rw [xNa_n (by omega)]; exact ⟨_, F, rfl, rep_panel hG hR hF h3 (fun q hq => h3i q (by omega)), fun q hq => by rw [xu_n (by omega), xu_n (by omega)], fun q hq => by rw [hF q (by omega), xu_n (by omega), xu_n (by omega), xu_n (by omega)]⟩⟩)
            · refine lv_aload_n hx hb dX3_addPanel_99 rfl (lv_at hl 0 rfl) ?_
              refine x_get (v := .ref (E.2.2.2 7)) S hW hinX3 0 (xw_0 E _) rfl 5 (by decide) w24 rfl dX3_addPanel_100 ?_
              refine lv_iload_n hx hb dX3_addPanel_103 rfl (lv_at hl 3 rfl) ?_
              refine lv_iload hx hb dX3_addPanel_104 (lv_at hl 4 rfl) ?_
              refine x_iadd (a := gNo Γ) (b := i) hx hb dX3_addPanel_106 ?_
              refine lv_aload_n hx hb dX3_addPanel_107 rfl (lv_at hl 0 rfl) ?_
              refine x_get (v := .int (n 0)) S hW hinX3 0 (xw_0 E _) rfl 0 (by decide) w73 rfl dX3_addPanel_108 ?_
              refine x_topN (gNp Γ) (hR.np) ?_
              refine x_Vv (rest := []) S (c_X2_put l E n F o (i := 3) (by decide) (k := (gNo Γ) + i) (show _ < 144 from by omega) (nI (gNp Γ))) (cwV 2 S.2.2.2.2 gX3_addPanel_X2_put rfl rfl rfl (by decide +kernel) ⟨Nat.le_of_ble_eq_true rfl, Nat.le_of_ble_eq_true rfl⟩) hW 7 (xw_7 E _) rfl rfl rfl hl.1 (Nat.le_of_ble_eq_true rfl) dX3_addPanel_111 ⟨Nat.le_of_ble_eq_true rfl, Nat.le_of_ble_eq_true rfl⟩ (fun σ111 H locs hq6 hW => ?_)
              obtain rfl := hq6
              refine lv_iinc (v := (nI (i + 1))) (lv' := [(4, .int (nI (i + 1))), (0, .ref (E.2.2.2 0)), (1, .int a), (2, .int (nI c9)), (3, .int (nI (gNo Γ)))]) hx hb dX3_addPanel_114 hl (k := 4) rfl (x_inc _) (by decide) rfl (fun ls hl => ?_)
              refine lv_goto (tgt := 93) hx hb dX3_addPanel_117 (by decide) ?_
              exact L93  (i + 1) ((xu F 3 (upd (F 3) ((gNo Γ) + i) (nI (gNp Γ))))) (by omega) (by omega) (xu_keep hF) (fun q hq => (upd_n (by omega)).trans (h3 q hq)) (xad1 h3i) _ _ _ hW (lv_sub hl [1, 2, 3, 4, 0] rfl)
        exact L93 _ (0) ((xu (xu (xu f 0 (upd (f 0) (gNp Γ) a)) 1 (upd (f 1) (gNp Γ) (nI (gNo Γ)))) 2 (upd (f 2) (gNp Γ) (nI c9)))) (Nat.lt_succ_self _) (by omega) (fun _ _ => rfl) (fun _ _ => rfl) (fun q hq => absurd hq (Nat.not_lt_zero q)) _ _ _ hW (lv_sub hl [2, 3, 4, 1, 0] rfl)
      · exact x_throw (cls := xIS) (text := "no room for another panel") S hfl hTh hW htab hlk (by decide +kernel) w94 wiIS (by decide +kernel) (fun w hw => List.mem_cons_of_mem _ (List.mem_append_right _ hw)) xng_IS xgd_IS hl.1 dX3_addPanel_39 dX3_addPanel_42 dX3_addPanel_43 dX3_addPanel_45 dX3_addPanel_48 ⟨⟨Nat.le_of_ble_eq_true rfl, Nat.le_of_ble_eq_true rfl⟩, Nat.le_of_ble_eq_true rfl, Nat.le_of_ble_eq_true rfl⟩ (Nat.le_of_ble_eq_true rfl) (Nat.le_of_ble_eq_true rfl) (⟨Or.inr ⟨by rw [ocAddPanel, xif_f (not_or.mpr ⟨not_not_intro h4, not_not_intro h14⟩), xif_t (by omega)], rfl⟩, hR.same⟩)

abbrev rmX3_addTrunk : Room := { frames := 7, cells := 3, slots := 18, locals := 103 }
set_option maxHeartbeats 4000000 in
set_option maxRecDepth 100000 in
theorem c_X3_addTrunk (l : Launch) (E : xE) (n : Nat → Int32) (f : Nat → Nat → Int32) (o : Nat → Int64) (hfl : l.stackTraces = false) (Γ : xG) (hG : xGood Γ) (hR : xRepC Γ n f) (a a2 a3 a4 : Int32) : xXi l yX3_addTrunk wsX3_addTrunk rmX3_addTrunk E [.ref (E.2.2.2 0), .int a, .int a2, .int a3, .int a4] (n, f, o) 3 (fun r σ' => ocTrunk Γ a a2 a3 a4 = 0 ∧ r = nI (gNt Γ) ∧ xOKC (gTrunk Γ (xNa a) (xNa a2) (xNa a3) a4) n f o σ') (fun X σ' => xX3 (ocTrunk Γ a a2 a3 a4) X ∧ xOKC Γ n f o σ') := by
  refine x_startXi RX3 (by decide) rfl rfl (Nat.le_of_ble_eq_true rfl) ?_
  intro p e s m args below meth c ls S hr hlk htab hTh hW hl
  have hx := S.1
  have hb := S.2.1
  have hl : lv_has ls 7 [(0, .ref (E.2.2.2 0)), (1, .int a), (2, .int a2), (3, .int a3), (4, .int a4)] := hl
  have hinX3 : ∀ w ∈ wsX30, w ∈ wsX3_addTrunk := by decide +kernel
  have w24 : Cond.fieldLink RX3 24 "CableBook" "panelAt" "LCableBook$Row;" ∈ wsX3_addTrunk := by decide +kernel
  have w48 : Cond.fieldLink RX3 48 "CableBook" "trunkStart" "LCableBook$Row;" ∈ wsX3_addTrunk := by decide +kernel
  have w51 : Cond.fieldLink RX3 51 "CableBook" "strandCountOf" "LCableBook$Row;" ∈ wsX3_addTrunk := by decide +kernel
  have w54 : Cond.fieldLink RX3 54 "CableBook" "trunkLength" "LCableBook$Row;" ∈ wsX3_addTrunk := by decide +kernel
  have w80 : Cond.fieldLink RX3 80 "CableBook" "trunkCount" "I" ∈ wsX3_addTrunk := by decide +kernel
  have w87 : Cond.classLink RX3 87 "java/lang/IllegalArgumentException" ∈ wsX3_addTrunk := by decide +kernel
  have w94 : Cond.classLink RX3 94 "java/lang/IllegalStateException" ∈ wsX3_addTrunk := by decide +kernel
  have wiIA : Cond.initialized "java/lang/IllegalArgumentException" ∈ wsX3_addTrunk := by decide +kernel
  have wiIS : Cond.initialized "java/lang/IllegalStateException" ∈ wsX3_addTrunk := by decide +kernel
  have hno := hG.no
  have hnp := hG.np
  have hnt := hG.nt
  have hnm := hG.nm
  refine lv_aload_n hx hb dX3_addTrunk_0 rfl (lv_at hl 0 rfl) ?_
  refine lv_iload_n hx hb dX3_addTrunk_1 rfl (lv_at hl 1 rfl) ?_
  refine x_XVv (rest := []) S (c_X3_checkPort l E n f o hfl hR.no (by omega) a) (cwV 1 S.2.2.2.2 gX3_addTrunk_X3_checkPort rfl rfl rfl (by decide +kernel) ⟨Nat.le_of_ble_eq_true rfl, Nat.le_of_ble_eq_true rfl⟩) hW hTh htab hlk (fun X σ9 h => ⟨Or.inl ⟨xif_t (fun q => h.2.1 q.1), h.1⟩, by rw [h.2.2]; exact hR.same⟩) (Nat.le_of_ble_eq_true rfl) (Nat.le_of_ble_eq_true rfl) 0 (xw_0 E _) rfl rfl rfl hl.1 (Nat.le_of_ble_eq_true rfl) dX3_addTrunk_2 ⟨Nat.le_of_ble_eq_true rfl, Nat.le_of_ble_eq_true rfl⟩ (fun σ2 H locs hq1 hW => ?_)
  obtain ⟨⟨p2, hp2, rfl⟩, rfl⟩ := hq1
  refine lv_aload_n hx hb dX3_addTrunk_5 rfl (lv_at hl 0 rfl) ?_
  refine lv_iload_n hx hb dX3_addTrunk_6 rfl (lv_at hl 2 rfl) ?_
  refine x_XVv (rest := []) S (c_X3_checkPort l E n f o hfl hR.no (by omega) a2) (cwV 1 S.2.2.2.2 gX3_addTrunk_X3_checkPort rfl rfl rfl (by decide +kernel) ⟨Nat.le_of_ble_eq_true rfl, Nat.le_of_ble_eq_true rfl⟩) hW hTh htab hlk (fun X σ9 h => ⟨Or.inl ⟨xif_t (fun q => h.2.1 q.2), h.1⟩, by rw [h.2.2]; exact hR.same⟩) (Nat.le_of_ble_eq_true rfl) (Nat.le_of_ble_eq_true rfl) 0 (xw_0 E _) rfl rfl rfl hl.1 (Nat.le_of_ble_eq_true rfl) dX3_addTrunk_7 ⟨Nat.le_of_ble_eq_true rfl, Nat.le_of_ble_eq_true rfl⟩ (fun σ7 H locs hq2 hW => ?_)
  obtain ⟨⟨p7, hp7, rfl⟩, rfl⟩ := hq2
  refine lv_iload_n hx hb dX3_addTrunk_10 rfl (lv_at hl 3 rfl) ?_
  refine lv_iconst (v := 1) hx hb dX3_addTrunk_11 (by decide) ?_
  refine lv_bipush (v := 12) hx hb dX3_addTrunk_12 (by decide) ?_
  refine x_Si (rest := []) S (c_X3_isWithin l E n f o a3 1 12) (cwS 3 S.2.2.2.2 gX3_addTrunk_X3_isWithin rfl rfl rfl (by decide +kernel) ⟨Nat.le_of_ble_eq_true rfl, Nat.le_of_ble_eq_true rfl⟩) hW rfl rfl hl.1 (Nat.le_of_ble_eq_true rfl) dX3_addTrunk_14 ⟨Nat.le_of_ble_eq_true rfl, Nat.le_of_ble_eq_true rfl⟩ (fun r14 σ14 H locs hq3 hW => ?_)
  rcases hq3 with ⟨rfl, h14, rfl⟩ | ⟨rfl, h14, rfl⟩
  · refine lv_if_eq (tgt := 32) hx hb dX3_addTrunk_17 (by decide) (fun c17 => ?_) (fun c17 => ?_)
    rotate_left
    · exact absurd c17 (by decide)
    exact x_throw (cls := xIA) (text := "strands or length out of range") S hfl hTh hW htab hlk (by decide +kernel) w87 wiIA (by decide +kernel) (fun w hw => List.mem_cons_of_mem _ (List.mem_append_left _ (List.mem_append_left _ (List.mem_append_right _ hw)))) xng_IA xgd_IA hl.1 dX3_addTrunk_32 dX3_addTrunk_35 dX3_addTrunk_36 dX3_addTrunk_38 dX3_addTrunk_41 ⟨⟨Nat.le_of_ble_eq_true rfl, Nat.le_of_ble_eq_true rfl⟩, Nat.le_of_ble_eq_true rfl, Nat.le_of_ble_eq_true rfl⟩ (Nat.le_of_ble_eq_true rfl) (Nat.le_of_ble_eq_true rfl) (⟨Or.inr (Or.inl ⟨by rw [ocTrunk, xif_f (not_not_intro ⟨xPn hp2, xPn hp7⟩), xif_t (by first | exact Or.inl h14 | exact Or.inr (Or.inl h26))], rfl⟩), hR.same⟩)
  · refine lv_if_eq (tgt := 32) hx hb dX3_addTrunk_17 (by decide) (fun c17 => ?_) (fun c17 => ?_)
    · exact absurd c17 (by decide)
    refine lv_iload hx hb dX3_addTrunk_20 (lv_at hl 4 rfl) ?_
    refine lv_iconst (v := 1) hx hb dX3_addTrunk_22 (by decide) ?_
    refine lv_sipush (v := 500) hx hb dX3_addTrunk_23 (by decide) ?_
    refine x_Si (rest := []) S (c_X3_isWithin l E n f o a4 1 500) (cwS 3 S.2.2.2.2 gX3_addTrunk_X3_isWithin rfl rfl rfl (by decide +kernel) ⟨Nat.le_of_ble_eq_true rfl, Nat.le_of_ble_eq_true rfl⟩) hW rfl rfl hl.1 (Nat.le_of_ble_eq_true rfl) dX3_addTrunk_26 ⟨Nat.le_of_ble_eq_true rfl, Nat.le_of_ble_eq_true rfl⟩ (fun r26 σ26 H locs hq4 hW => ?_)
    rcases hq4 with ⟨rfl, h26, rfl⟩ | ⟨rfl, h26, rfl⟩
    · refine lv_if_ne (tgt := 42) hx hb dX3_addTrunk_29 (by decide) (fun c29 => ?_) (fun c29 => ?_)
      · exact absurd c29 (by decide)
      exact x_throw (cls := xIA) (text := "strands or length out of range") S hfl hTh hW htab hlk (by decide +kernel) w87 wiIA (by decide +kernel) (fun w hw => List.mem_cons_of_mem _ (List.mem_append_left _ (List.mem_append_left _ (List.mem_append_right _ hw)))) xng_IA xgd_IA hl.1 dX3_addTrunk_32 dX3_addTrunk_35 dX3_addTrunk_36 dX3_addTrunk_38 dX3_addTrunk_41 ⟨⟨Nat.le_of_ble_eq_true rfl, Nat.le_of_ble_eq_true rfl⟩, Nat.le_of_ble_eq_true rfl, Nat.le_of_ble_eq_true rfl⟩ (Nat.le_of_ble_eq_true rfl) (Nat.le_of_ble_eq_true rfl) (⟨Or.inr (Or.inl ⟨by rw [ocTrunk, xif_f (not_not_intro ⟨xPn hp2, xPn hp7⟩), xif_t (by first | exact Or.inl h14 | exact Or.inr (Or.inl h26))], rfl⟩), hR.same⟩)
    · refine lv_if_ne (tgt := 42) hx hb dX3_addTrunk_29 (by decide) (fun c29 => ?_) (fun c29 => ?_)
      rotate_left
      · exact absurd c29 (by decide)
      obtain ⟨c9, hc1, hc2, rfl⟩ := xin112 h14
      have a1 := hG.pn p2 hp2
      have a2 := hG.fno (k := gPn Γ p2 + 1) (by omega)
      have b1 := hG.pn p7 hp7
      have b2 := hG.fno (k := gPn Γ p7 + 1) (by omega)
      refine lv_aload_n hx hb dX3_addTrunk_42 rfl (lv_at hl 0 rfl) ?_
      refine x_get (v := .ref (E.2.2.2 7)) S hW hinX3 0 (xw_0 E _) rfl 5 (by decide) w24 rfl dX3_addTrunk_43 ?_
      refine lv_iload_n hx hb dX3_addTrunk_46 rfl (lv_at hl 1 rfl) ?_
      refine x_Vi (rest := []) S (c_X2_at l E n f o (i := 3) (by decide) (k := p2) (show _ < 144 from by omega)) (cwV 1 S.2.2.2.2 gX3_addTrunk_X2_at rfl rfl rfl (by decide +kernel) ⟨Nat.le_of_ble_eq_true rfl, Nat.le_of_ble_eq_true rfl⟩) hW 7 (xw_7 E _) rfl rfl rfl hl.1 (Nat.le_of_ble_eq_true rfl) dX3_addTrunk_47 ⟨Nat.le_of_ble_eq_true rfl, Nat.le_of_ble_eq_true rfl⟩ (fun r47 σ47 H locs hq5 hW => ?_)
      obtain ⟨rfl, rfl⟩ := hq5
      refine x_topN (gPn Γ p2) (hR.pn p2 hp2) ?_
      refine lv_aload_n hx hb dX3_addTrunk_50 rfl (lv_at hl 0 rfl) ?_
      refine x_get (v := .ref (E.2.2.2 7)) S hW hinX3 0 (xw_0 E _) rfl 5 (by decide) w24 rfl dX3_addTrunk_51 ?_
      refine lv_iload_n hx hb dX3_addTrunk_54 rfl (lv_at hl 2 rfl) ?_
      refine x_Vi (rest := [.int (nI (gPn Γ p2))]) S (c_X2_at l E n f o (i := 3) (by decide) (k := p7) (show _ < 144 from by omega)) (cwV 1 S.2.2.2.2 gX3_addTrunk_X2_at rfl rfl rfl (by decide +kernel) ⟨Nat.le_of_ble_eq_true rfl, Nat.le_of_ble_eq_true rfl⟩) hW 7 (xw_7 E _) rfl rfl rfl hl.1 (Nat.le_of_ble_eq_true rfl) dX3_addTrunk_55 ⟨Nat.le_of_ble_eq_true rfl, Nat.le_of_ble_eq_true rfl⟩ (fun r55 σ55 H locs hq6 hW => ?_)
      obtain ⟨rfl, rfl⟩ := hq6
      refine x_topN (gPn Γ p7) (hR.pn p7 hp7) ?_
      refine x_icmp_ne (a := gPn Γ p2) (b := gPn Γ p7) (tgt := 71) hx hb dX3_addTrunk_58 (by decide) (by omega) (by omega) (fun c58 => ?_) (fun c58 => ?_)
      · refine lv_aload_n hx hb dX3_addTrunk_71 rfl (lv_at hl 0 rfl) ?_
        refine lv_iload_n hx hb dX3_addTrunk_72 rfl (lv_at hl 1 rfl) ?_
        refine x_Vi (rest := []) S (c_X3_portsFrom l E n f o (p1 := p2) (by omega) (k := gPn Γ p2) (a0 := gFs Γ (gPn Γ p2)) (c0 := gFs Γ (gPn Γ p2 + 1) - gFs Γ (gPn Γ p2)) (by have := (hG.pn p2 hp2).1; omega) (hR.pn p2 hp2) (hR.fs _ (hG.pn p2 hp2).1) (hR.pc _ (hG.pn p2 hp2).1) (by have := (hG.pn p2 hp2).2; omega) (by have := (hG.pn p2 hp2); have := hG.fno (k := gPn Γ p2 + 1) (by omega); omega)) (cwV 1 S.2.2.2.2 gX3_addTrunk_X3_portsFrom rfl rfl rfl (by decide +kernel) ⟨Nat.le_of_ble_eq_true rfl, Nat.le_of_ble_eq_true rfl⟩) hW 0 (xw_0 E _) rfl rfl rfl hl.1 (Nat.le_of_ble_eq_true rfl) dX3_addTrunk_73 ⟨Nat.le_of_ble_eq_true rfl, Nat.le_of_ble_eq_true rfl⟩ (fun r73 σ73 H locs hq7 hW => ?_)
        obtain ⟨rfl, rfl⟩ := hq7
        refine lv_iload_n hx hb dX3_addTrunk_76 rfl (lv_at hl 3 rfl) ?_
        refine x_icmp_lt (a := gFs Γ (gPn Γ p2) + (gFs Γ (gPn Γ p2 + 1) - gFs Γ (gPn Γ p2)) - p2) (b := c9) (tgt := 89) hx hb dX3_addTrunk_77 (by decide) (by omega) (by omega) (fun c77 => ?_) (fun c77 => ?_)
        · exact x_throw (cls := xIA) (text := "not so many ports from there on") S hfl hTh hW htab hlk (by decide +kernel) w87 wiIA (by decide +kernel) (fun w hw => List.mem_cons_of_mem _ (List.mem_append_left _ (List.mem_append_left _ (List.mem_append_right _ hw)))) xng_IA xgd_IA hl.1 dX3_addTrunk_89 dX3_addTrunk_92 dX3_addTrunk_93 dX3_addTrunk_95 dX3_addTrunk_98 ⟨⟨Nat.le_of_ble_eq_true rfl, Nat.le_of_ble_eq_true rfl⟩, Nat.le_of_ble_eq_true rfl, Nat.le_of_ble_eq_true rfl⟩ (Nat.le_of_ble_eq_true rfl) (Nat.le_of_ble_eq_true rfl) (⟨Or.inr (Or.inl ⟨by rw [ocTrunk, xif_f (not_not_intro ⟨xPn hp2, xPn hp7⟩), xNa_n (by omega), xNa_n (by omega), xNa_n (by omega), xif_t (Or.inr (Or.inr (Or.inr (by omega))))], rfl⟩), hR.same⟩)
        · refine lv_aload_n hx hb dX3_addTrunk_80 rfl (lv_at hl 0 rfl) ?_
          refine lv_iload_n hx hb dX3_addTrunk_81 rfl (lv_at hl 2 rfl) ?_
          refine x_Vi (rest := []) S (c_X3_portsFrom l E n f o (p1 := p7) (by omega) (k := gPn Γ p7) (a0 := gFs Γ (gPn Γ p7)) (c0 := gFs Γ (gPn Γ p7 + 1) - gFs Γ (gPn Γ p7)) (by have := (hG.pn p7 hp7).1; omega) (hR.pn p7 hp7) (hR.fs _ (hG.pn p7 hp7).1) (hR.pc _ (hG.pn p7 hp7).1) (by have := (hG.pn p7 hp7).2; omega) (by have := (hG.pn p7 hp7); have := hG.fno (k := gPn Γ p7 + 1) (by omega); omega)) (cwV 1 S.2.2.2.2 gX3_addTrunk_X3_portsFrom rfl rfl rfl (by decide +kernel) ⟨Nat.le_of_ble_eq_true rfl, Nat.le_of_ble_eq_true rfl⟩) hW 0 (xw_0 E _) rfl rfl rfl hl.1 (Nat.le_of_ble_eq_true rfl) dX3_addTrunk_82 ⟨Nat.le_of_ble_eq_true rfl, Nat.le_of_ble_eq_true rfl⟩ (fun r82 σ82 H locs hq8 hW => ?_)
          obtain ⟨rfl, rfl⟩ := hq8
          refine lv_iload_n hx hb dX3_addTrunk_85 rfl (lv_at hl 3 rfl) ?_
          refine x_icmp_ge (a := gFs Γ (gPn Γ p7) + (gFs Γ (gPn Γ p7 + 1) - gFs Γ (gPn Γ p7)) - p7) (b := c9) (tgt := 99) hx hb dX3_addTrunk_86 (by decide) (by omega) (by omega) (fun c86 => ?_) (fun c86 => ?_)
          · refine lv_aload_n hx hb dX3_addTrunk_99 rfl (lv_at hl 0 rfl) ?_
            refine x_get (v := .int (n 2)) S hW hinX3 0 (xw_0 E _) rfl 11 (by decide) w80 rfl dX3_addTrunk_100 ?_
            refine x_topN (gNt Γ) (hR.nt) ?_
            refine lv_bipush (v := 10) hx hb dX3_addTrunk_103 (by decide) ?_
            refine x_icmp_lt (a := gNt Γ) (b := 10) (tgt := 118) hx hb dX3_addTrunk_105 (by decide) (by omega) (by omega) (fun c105 => ?_) (fun c105 => ?_)
            · refine lv_aload_n hx hb dX3_addTrunk_118 rfl (lv_at hl 0 rfl) ?_
              refine lv_iload_n hx hb dX3_addTrunk_119 rfl (lv_at hl 1 rfl) ?_
              refine lv_iload_n hx hb dX3_addTrunk_120 rfl (lv_at hl 3 rfl) ?_
              refine x_Vi (rest := []) S (c_X3_anyStrand l E n f o (p1 := p2) (c0 := c9) (by omega)) (cwV 2 S.2.2.2.2 gX3_addTrunk_X3_anyStrand rfl rfl rfl (by decide +kernel) ⟨Nat.le_of_ble_eq_true rfl, Nat.le_of_ble_eq_true rfl⟩) hW 0 (xw_0 E _) rfl rfl rfl hl.1 (Nat.le_of_ble_eq_true rfl) dX3_addTrunk_121 ⟨Nat.le_of_ble_eq_true rfl, Nat.le_of_ble_eq_true rfl⟩ (fun r121 σ121 H locs hq9 hW => ?_)
              rcases hq9 with ⟨rfl, h121, rfl⟩ | ⟨rfl, h121, rfl⟩
              · refine lv_if_ne (tgt := 136) hx hb dX3_addTrunk_124 (by decide) (fun c124 => ?_) (fun c124 => ?_)
                · exact absurd c124 (by decide)
                refine lv_aload_n hx hb dX3_addTrunk_127 rfl (lv_at hl 0 rfl) ?_
                refine lv_iload_n hx hb dX3_addTrunk_128 rfl (lv_at hl 2 rfl) ?_
                refine lv_iload_n hx hb dX3_addTrunk_129 rfl (lv_at hl 3 rfl) ?_
                refine x_Vi (rest := []) S (c_X3_anyStrand l E n f o (p1 := p7) (c0 := c9) (by omega)) (cwV 2 S.2.2.2.2 gX3_addTrunk_X3_anyStrand rfl rfl rfl (by decide +kernel) ⟨Nat.le_of_ble_eq_true rfl, Nat.le_of_ble_eq_true rfl⟩) hW 0 (xw_0 E _) rfl rfl rfl hl.1 (Nat.le_of_ble_eq_true rfl) dX3_addTrunk_130 ⟨Nat.le_of_ble_eq_true rfl, Nat.le_of_ble_eq_true rfl⟩ (fun r130 σ130 H locs hq10 hW => ?_)
                rcases hq10 with ⟨rfl, h130, rfl⟩ | ⟨rfl, h130, rfl⟩
                · refine lv_if_eq (tgt := 146) hx hb dX3_addTrunk_133 (by decide) (fun c133 => ?_) (fun c133 => ?_)
                  rotate_left
                  · exact absurd c133 (by decide)
                  have hdj : p2 + c9 ≤ p7 ∨ p7 + c9 ≤ p2 := xdisj hG hp2 hp7 (fun e => c58 e) (by omega) (by omega)
                  refine lv_aload_n hx hb dX3_addTrunk_146 rfl (lv_at hl 0 rfl) ?_
                  refine x_get (v := .int (n 2)) S hW hinX3 0 (xw_0 E _) rfl 11 (by decide) w80 rfl dX3_addTrunk_147 ?_
                  refine x_topN (gNt Γ) (hR.nt) ?_
                  refine lv_istore (lv' := [(5, .int (nI (gNt Γ))), (0, .ref (E.2.2.2 0)), (1, .int (nI p2)), (2, .int (nI p7)), (3, .int (nI c9)), (4, .int a4)]) hx hb dX3_addTrunk_150 hl (by decide) rfl (fun ls hl => ?_)
                  refine lv_aload_n hx hb dX3_addTrunk_152 rfl (lv_at hl 1 rfl) ?_
                  refine x_get (v := .ref (E.2.2.2 17)) S hW hinX3 0 (xw_0 E _) rfl 12 (by decide) w48 rfl dX3_addTrunk_153 ?_
                  refine lv_iload hx hb dX3_addTrunk_156 (lv_at hl 0 rfl) ?_
                  refine lv_iload_n hx hb dX3_addTrunk_158 rfl (lv_at hl 2 rfl) ?_
                  refine x_Vv (rest := []) S (c_X2_put l E n f o (i := 8) (by decide) (k := gNt Γ) (show _ < 10 from by omega) (nI p2)) (cwV 2 S.2.2.2.2 gX3_addTrunk_X2_put rfl rfl rfl (by decide +kernel) ⟨Nat.le_of_ble_eq_true rfl, Nat.le_of_ble_eq_true rfl⟩) hW 17 (xw_17 E _) rfl rfl rfl hl.1 (Nat.le_of_ble_eq_true rfl) dX3_addTrunk_159 ⟨Nat.le_of_ble_eq_true rfl, Nat.le_of_ble_eq_true rfl⟩ (fun σ159 H locs hq11 hW => ?_)
                  obtain rfl := hq11
                  refine lv_aload_n hx hb dX3_addTrunk_162 rfl (lv_at hl 1 rfl) ?_
                  refine x_get (v := .ref (E.2.2.2 19)) S hW hinX3 0 (xw_0 E _) rfl 13 (by decide) w51 rfl dX3_addTrunk_163 ?_
                  refine lv_iload hx hb dX3_addTrunk_166 (lv_at hl 0 rfl) ?_
                  refine lv_iload_n hx hb dX3_addTrunk_168 rfl (lv_at hl 4 rfl) ?_
                  refine x_Vv (rest := []) S (c_X2_put l E n (xu f 8 (upd (f 8) (gNt Γ) (nI p2))) o (i := 9) (by decide) (k := gNt Γ) (show _ < 10 from by omega) (nI c9)) (cwV 2 S.2.2.2.2 gX3_addTrunk_X2_put rfl rfl rfl (by decide +kernel) ⟨Nat.le_of_ble_eq_true rfl, Nat.le_of_ble_eq_true rfl⟩) hW 19 (xw_19 E _) rfl rfl rfl hl.1 (Nat.le_of_ble_eq_true rfl) dX3_addTrunk_169 ⟨Nat.le_of_ble_eq_true rfl, Nat.le_of_ble_eq_true rfl⟩ (fun σ169 H locs hq12 hW => ?_)
                  obtain rfl := hq12
                  refine lv_aload_n hx hb dX3_addTrunk_172 rfl (lv_at hl 1 rfl) ?_
                  refine x_get (v := .ref (E.2.2.2 21)) S hW hinX3 0 (xw_0 E _) rfl 14 (by decide) w54 rfl dX3_addTrunk_173 ?_
                  refine lv_iload hx hb dX3_addTrunk_176 (lv_at hl 0 rfl) ?_
                  refine lv_iload hx hb dX3_addTrunk_178 (lv_at hl 5 rfl) ?_
                  refine x_Vv (rest := []) S (c_X2_put l E n (xu (xu f 8 (upd (f 8) (gNt Γ) (nI p2))) 9 (upd (f 9) (gNt Γ) (nI c9))) o (i := 10) (by decide) (k := gNt Γ) (show _ < 10 from by omega) a4) (cwV 2 S.2.2.2.2 gX3_addTrunk_X2_put rfl rfl rfl (by decide +kernel) ⟨Nat.le_of_ble_eq_true rfl, Nat.le_of_ble_eq_true rfl⟩) hW 21 (xw_21 E _) rfl rfl rfl hl.1 (Nat.le_of_ble_eq_true rfl) dX3_addTrunk_180 ⟨Nat.le_of_ble_eq_true rfl, Nat.le_of_ble_eq_true rfl⟩ (fun σ180 H locs hq13 hW => ?_)
                  obtain rfl := hq13
                  refine lv_iconst (v := 0) hx hb dX3_addTrunk_183 (by decide) ?_
                  refine lv_istore (lv' := [(6, .int 0), (5, .int (nI (gNt Γ))), (0, .ref (E.2.2.2 0)), (1, .int (nI p2)), (2, .int (nI p7)), (3, .int (nI c9)), (4, .int a4)]) hx hb dX3_addTrunk_184 hl (by decide) rfl (fun ls hl => ?_)
                  have L186 : ∀ (fu186 : Nat) (i : Nat) (F : Nat → Nat → Int32) (hμ : c9 + 1 - i < fu186) (hi : i ≤ c9) (hF : ∀ q, q ≠ 6 → q ≠ 7 → F q = (xu (xu (xu f 8 (upd (f 8) (gNt Γ) (nI p2))) 9 (upd (f 9) (gNt Γ) (nI c9))) 10 (upd (f 10) (gNt Γ) a4)) q) (h6 : ∀ q, F 6 q = xjs (f 6) p2 p7 i q) (h7 : ∀ q, F 7 q = xjt (f 7) p2 p7 i (nI (gNt Γ)) q) (H : Heap) (locs : List Loc) (ls : Array Slot), xSt E (n, F, o) s s.heap H locs → lv_has ls 7 [(0, .ref (E.2.2.2 0)), (1, .int (nI p2)), (2, .int (nI p7)), (3, .int (nI c9)), (5, .int (nI (gNt Γ))), (6, .int (nI i))] → W p l e rmX3_addTrunk s m args below meth c H locs 2 12 (vx_MQ below (va_Qi (fun r σ' => ocTrunk Γ (nI p2) (nI p7) (nI c9) a4 = 0 ∧ r = nI (gNt Γ) ∧ xOKC (gTrunk Γ (xNa (nI p2)) (xNa (nI p7)) (xNa (nI c9)) a4) n f o σ') (xWd E) (xA E)) (xPx E (fun X σ' => xX3 (ocTrunk Γ (nI p2) (nI p7) (nI c9) a4) X ∧ xOKC Γ n f o σ')) args s 3 (6 * 3) (xA E)) (F0 m 186 ls []) := by
                    intro fu186
                    induction fu186 with
                    | zero => intro i F hμ; exact absurd hμ (Nat.not_lt_zero _)
                    | succ fu186 L186 =>
                      intro i F hμ hi hF h6 h7 H locs ls hW hl
                      refine lv_iload hx hb dX3_addTrunk_186 (lv_at hl 5 rfl) ?_
                      refine lv_iload_n hx hb dX3_addTrunk_188 rfl (lv_at hl 3 rfl) ?_
                      refine x_icmp_ge (a := i) (b := c9) (tgt := 212) hx hb dX3_addTrunk_189 (by decide) (by omega) (by omega) (fun c189 => ?_) (fun c189 => ?_)
                      · refine lv_aload_n hx hb dX3_addTrunk_212 rfl (lv_at hl 0 rfl) ?_
                        refine lv_dup hx hb dX3_addTrunk_213 rfl ?_
                        refine x_get (v := .int (n 2)) S hW hinX3 0 (xw_0 E _) rfl 11 (by decide) w80 rfl dX3_addTrunk_214 ?_
                        refine x_topN (gNt Γ) (hR.nt) ?_
                        refine lv_iconst (v := 1) hx hb dX3_addTrunk_217 (by decide) ?_
                        refine x_iadd (a := gNt Γ) (b := 1) hx hb dX3_addTrunk_218 ?_
                        refine x_put (σ' := ((xu n 2 (nI ((gNt Γ) + 1))), F, o)) S hW hinX3 tyX3 tyX3_ok nmX3 0 (xw_0 E _) rfl 11 (by decide) w80 rfl (by decide +kernel) (Nat.le_of_ble_eq_true rfl) (xw_N2 E _ _ _ _) dX3_addTrunk_219 (fun H locs hW => ?_)
                        refine lv_iload hx hb dX3_addTrunk_222 (lv_at hl 4 rfl) ?_
                        exact x_Xreti S hr hlk hW (Nat.le_of_ble_eq_true rfl) (Nat.le_of_ble_eq_true rfl) dX3_addTrunk_224 (⟨by rw [ocTrunk, xif_f (not_not_intro ⟨xPn hp2, xPn hp7⟩), xif_f (not_or.mpr ⟨not_not_intro h14, not_or.mpr ⟨not_not_intro h26, fun h => by rw [xNa_n (by omega), xNa_n (by omega), xNa_n (by omega)] at h; omega⟩⟩), xif_f (not_or.mpr ⟨by omega, fun h => by rw [xNa_n (by omega), xNa_n (by omega), xNa_n (by omega)] at h; obtain ⟨j, hj, e⟩ := h; rcases e with e | e; exact h121 ⟨j, hj, by rw [hR.st _ (by omega)]; exact e⟩; exact h130 ⟨j, hj, by rw [hR.st _ (by omega)]; exact e⟩⟩)], rfl, by rw [xNa_n (by omega), xNa_n (by omega), xNa_n (by omega)]; exact ⟨_, F, rfl, rep_trunk hG hR (by omega) (by omega) hF (by rw [show c9 = i by omega]; exact h6) (by rw [show c9 = i by omega]; exact h7), fun q hq => xu_n (by omega), fun q hq => by rw [hF q (by omega) (by omega), xu_n (by omega), xu_n (by omega), xu_n (by omega)]⟩⟩)
                      · refine lv_aload_n hx hb dX3_addTrunk_192 rfl (lv_at hl 0 rfl) ?_
                        refine lv_iload_n hx hb dX3_addTrunk_193 rfl (lv_at hl 1 rfl) ?_
                        refine lv_iload hx hb dX3_addTrunk_194 (lv_at hl 5 rfl) ?_
                        refine x_iadd (a := p2) (b := i) hx hb dX3_addTrunk_196 ?_
                        refine lv_iload_n hx hb dX3_addTrunk_197 rfl (lv_at hl 2 rfl) ?_
                        refine lv_iload hx hb dX3_addTrunk_198 (lv_at hl 5 rfl) ?_
                        refine x_iadd (a := p7) (b := i) hx hb dX3_addTrunk_200 ?_
                        refine lv_iload hx hb dX3_addTrunk_201 (lv_at hl 4 rfl) ?_
                        refine x_Vv (rest := []) S (c_X3_joinByStrand l E n F o (p1 := (p2 + i)) (by omega) (p2 := (p7 + i)) (by omega) (nI (gNt Γ))) (cwV 3 S.2.2.2.2 gX3_addTrunk_X3_joinByStrand rfl rfl rfl (by decide +kernel) ⟨Nat.le_of_ble_eq_true rfl, Nat.le_of_ble_eq_true rfl⟩) hW 0 (xw_0 E _) rfl rfl rfl hl.1 (Nat.le_of_ble_eq_true rfl) dX3_addTrunk_203 ⟨Nat.le_of_ble_eq_true rfl, Nat.le_of_ble_eq_true rfl⟩ (fun σ203 H locs hq14 hW => ?_)
                        obtain rfl := hq14
                        refine lv_iinc (v := (nI (i + 1))) (lv' := [(6, .int (nI (i + 1))), (0, .ref (E.2.2.2 0)), (1, .int (nI p2)), (2, .int (nI p7)), (3, .int (nI c9)), (5, .int (nI (gNt Γ)))]) hx hb dX3_addTrunk_206 hl (k := 5) rfl (x_inc _) (by decide) rfl (fun ls hl => ?_)
                        refine lv_goto (tgt := 186) hx hb dX3_addTrunk_209 (by decide) ?_
                        exact L186  (i + 1) ((xu (xu F 6 (upd (upd (F 6) (p2 + i) (nI (p7 + i))) (p7 + i) (nI (p2 + i)))) 7 (upd (upd (F 7) (p2 + i) (nI (gNt Γ))) (p7 + i) (nI (gNt Γ))))) (by omega) (by omega) (fun q h1 h2 => by rw [xu_n h2, xu_n h1]; exact hF q h1 h2) (xjs_s hdj (by omega) h6) (xjt_s h7) _ _ _ hW (lv_sub hl [1, 2, 3, 4, 5, 0] rfl)
                  exact L186 _ (0) ((xu (xu (xu f 8 (upd (f 8) (gNt Γ) (nI p2))) 9 (upd (f 9) (gNt Γ) (nI c9))) 10 (upd (f 10) (gNt Γ) a4))) (Nat.lt_succ_self _) (by omega) (fun _ _ _ => rfl) (xjs_0 _ _ _) (xjt_0 _ _ _ _) _ _ _ hW (lv_sub hl [2, 3, 4, 5, 1, 0] rfl)
                · refine lv_if_eq (tgt := 146) hx hb dX3_addTrunk_133 (by decide) (fun c133 => ?_) (fun c133 => ?_)
                  · exact absurd c133 (by decide)
                  exact x_throw (cls := xIS) (text := "a port has a strand") S hfl hTh hW htab hlk (by decide +kernel) w94 wiIS (by decide +kernel) (fun w hw => List.mem_cons_of_mem _ (List.mem_append_left _ (List.mem_append_right _ hw))) xng_IS xgd_IS hl.1 dX3_addTrunk_136 dX3_addTrunk_139 dX3_addTrunk_140 dX3_addTrunk_142 dX3_addTrunk_145 ⟨⟨Nat.le_of_ble_eq_true rfl, Nat.le_of_ble_eq_true rfl⟩, Nat.le_of_ble_eq_true rfl, Nat.le_of_ble_eq_true rfl⟩ (Nat.le_of_ble_eq_true rfl) (Nat.le_of_ble_eq_true rfl) (⟨Or.inr (Or.inr ⟨by rw [ocTrunk, xif_f (not_not_intro ⟨xPn hp2, xPn hp7⟩), xif_f (not_or.mpr ⟨not_not_intro h14, not_or.mpr ⟨not_not_intro h26, fun h => by rw [xNa_n (by omega), xNa_n (by omega), xNa_n (by omega)] at h; omega⟩⟩), xif_t (Or.inr (by rw [xNa_n (by omega), xNa_n (by omega), xNa_n (by omega)]; first | (obtain ⟨j, hj, e⟩ := h121; exact ⟨j, hj, Or.inl (by rw [← hR.st _ (by omega)]; exact e)⟩) | (obtain ⟨j, hj, e⟩ := h130; exact ⟨j, hj, Or.inr (by rw [← hR.st _ (by omega)]; exact e)⟩)))], rfl⟩), hR.same⟩)
              · refine lv_if_ne (tgt := 136) hx hb dX3_addTrunk_124 (by decide) (fun c124 => ?_) (fun c124 => ?_)
                rotate_left
                · exact absurd c124 (by decide)
                exact x_throw (cls := xIS) (text := "a port has a strand") S hfl hTh hW htab hlk (by decide +kernel) w94 wiIS (by decide +kernel) (fun w hw => List.mem_cons_of_mem _ (List.mem_append_left _ (List.mem_append_right _ hw))) xng_IS xgd_IS hl.1 dX3_addTrunk_136 dX3_addTrunk_139 dX3_addTrunk_140 dX3_addTrunk_142 dX3_addTrunk_145 ⟨⟨Nat.le_of_ble_eq_true rfl, Nat.le_of_ble_eq_true rfl⟩, Nat.le_of_ble_eq_true rfl, Nat.le_of_ble_eq_true rfl⟩ (Nat.le_of_ble_eq_true rfl) (Nat.le_of_ble_eq_true rfl) (⟨Or.inr (Or.inr ⟨by rw [ocTrunk, xif_f (not_not_intro ⟨xPn hp2, xPn hp7⟩), xif_f (not_or.mpr ⟨not_not_intro h14, not_or.mpr ⟨not_not_intro h26, fun h => by rw [xNa_n (by omega), xNa_n (by omega), xNa_n (by omega)] at h; omega⟩⟩), xif_t (Or.inr (by rw [xNa_n (by omega), xNa_n (by omega), xNa_n (by omega)]; first | (obtain ⟨j, hj, e⟩ := h121; exact ⟨j, hj, Or.inl (by rw [← hR.st _ (by omega)]; exact e)⟩) | (obtain ⟨j, hj, e⟩ := h130; exact ⟨j, hj, Or.inr (by rw [← hR.st _ (by omega)]; exact e)⟩)))], rfl⟩), hR.same⟩)
            · exact x_throw (cls := xIS) (text := "no room for another trunk") S hfl hTh hW htab hlk (by decide +kernel) w94 wiIS (by decide +kernel) (fun w hw => List.mem_cons_of_mem _ (List.mem_append_left _ (List.mem_append_right _ hw))) xng_IS xgd_IS hl.1 dX3_addTrunk_108 dX3_addTrunk_111 dX3_addTrunk_112 dX3_addTrunk_114 dX3_addTrunk_117 ⟨⟨Nat.le_of_ble_eq_true rfl, Nat.le_of_ble_eq_true rfl⟩, Nat.le_of_ble_eq_true rfl, Nat.le_of_ble_eq_true rfl⟩ (Nat.le_of_ble_eq_true rfl) (Nat.le_of_ble_eq_true rfl) (⟨Or.inr (Or.inr ⟨by rw [ocTrunk, xif_f (not_not_intro ⟨xPn hp2, xPn hp7⟩), xif_f (not_or.mpr ⟨not_not_intro h14, not_or.mpr ⟨not_not_intro h26, fun h => by rw [xNa_n (by omega), xNa_n (by omega), xNa_n (by omega)] at h; omega⟩⟩), xif_t (Or.inl (by omega))], rfl⟩), hR.same⟩)
          · exact x_throw (cls := xIA) (text := "not so many ports from there on") S hfl hTh hW htab hlk (by decide +kernel) w87 wiIA (by decide +kernel) (fun w hw => List.mem_cons_of_mem _ (List.mem_append_left _ (List.mem_append_left _ (List.mem_append_right _ hw)))) xng_IA xgd_IA hl.1 dX3_addTrunk_89 dX3_addTrunk_92 dX3_addTrunk_93 dX3_addTrunk_95 dX3_addTrunk_98 ⟨⟨Nat.le_of_ble_eq_true rfl, Nat.le_of_ble_eq_true rfl⟩, Nat.le_of_ble_eq_true rfl, Nat.le_of_ble_eq_true rfl⟩ (Nat.le_of_ble_eq_true rfl) (Nat.le_of_ble_eq_true rfl) (⟨Or.inr (Or.inl ⟨by rw [ocTrunk, xif_f (not_not_intro ⟨xPn hp2, xPn hp7⟩), xNa_n (by omega), xNa_n (by omega), xNa_n (by omega), xif_t (Or.inr (Or.inr (Or.inr (by omega))))], rfl⟩), hR.same⟩)
      · exact x_throw (cls := xIA) (text := "both ports are of the same panel") S hfl hTh hW htab hlk (by decide +kernel) w87 wiIA (by decide +kernel) (fun w hw => List.mem_cons_of_mem _ (List.mem_append_left _ (List.mem_append_left _ (List.mem_append_right _ hw)))) xng_IA xgd_IA hl.1 dX3_addTrunk_61 dX3_addTrunk_64 dX3_addTrunk_65 dX3_addTrunk_67 dX3_addTrunk_70 ⟨⟨Nat.le_of_ble_eq_true rfl, Nat.le_of_ble_eq_true rfl⟩, Nat.le_of_ble_eq_true rfl, Nat.le_of_ble_eq_true rfl⟩ (Nat.le_of_ble_eq_true rfl) (Nat.le_of_ble_eq_true rfl) (⟨Or.inr (Or.inl ⟨by rw [ocTrunk, xif_f (not_not_intro ⟨xPn hp2, xPn hp7⟩), xNa_n (by omega), xNa_n (by omega), xif_t (Or.inr (Or.inr (Or.inl c58)))], rfl⟩), hR.same⟩)

abbrev rmX3_setBroken : Room := { frames := 7, cells := 2, slots := 12, locals := 103 }
set_option maxHeartbeats 4000000 in
set_option maxRecDepth 100000 in
theorem c_X3_setBroken (l : Launch) (E : xE) (n : Nat → Int32) (f : Nat → Nat → Int32) (o : Nat → Int64) (hfl : l.stackTraces = false) (Γ : xG) (hG : xGood Γ) (hR : xRepC Γ n f) (a a2 : Int32) (b : Bool) : xXi l yX3_setBroken wsX3_setBroken rmX3_setBroken E [.ref (E.2.2.2 0), .int a, .int a2, .int (bz b)] (n, f, o) 2 (fun r σ' => ocBrk Γ a a2 = 0 ∧ r = gBk Γ (gTa Γ (xNa a) + xNa a2) ∧ xOKC (gBrk Γ (gTa Γ (xNa a) + xNa a2) (gTb Γ (xNa a) + xNa a2) (bz b)) n f o σ') (fun X σ' => xX1o (ocBrk Γ a a2) X ∧ xOKC Γ n f o σ') := by
  refine x_startXi RX3 (by decide) rfl rfl (Nat.le_of_ble_eq_true rfl) ?_
  intro p e s m args below meth c ls S hr hlk htab hTh hW hl
  have hx := S.1
  have hb := S.2.1
  have hl : lv_has ls 6 [(0, .ref (E.2.2.2 0)), (1, .int a), (2, .int a2), (3, .int (bz b))] := hl
  have hinX3 : ∀ w ∈ wsX30, w ∈ wsX3_setBroken := by decide +kernel
  have w133 : Cond.classLink RX3 133 "java/lang/IndexOutOfBoundsException" ∈ wsX3_setBroken := by decide +kernel
  have w33 : Cond.fieldLink RX3 33 "CableBook" "strandTo" "LCableBook$Row;" ∈ wsX3_setBroken := by decide +kernel
  have w44 : Cond.fieldLink RX3 44 "CableBook" "brokenAt" "LCableBook$Marks;" ∈ wsX3_setBroken := by decide +kernel
  have w48 : Cond.fieldLink RX3 48 "CableBook" "trunkStart" "LCableBook$Row;" ∈ wsX3_setBroken := by decide +kernel
  have w51 : Cond.fieldLink RX3 51 "CableBook" "strandCountOf" "LCableBook$Row;" ∈ wsX3_setBroken := by decide +kernel
  have wiIO : Cond.initialized "java/lang/IndexOutOfBoundsException" ∈ wsX3_setBroken := by decide +kernel
  have hno := hG.no
  have hnp := hG.np
  have hnt := hG.nt
  have hnm := hG.nm
  refine lv_aload_n hx hb dX3_setBroken_0 rfl (lv_at hl 0 rfl) ?_
  refine lv_iload_n hx hb dX3_setBroken_1 rfl (lv_at hl 1 rfl) ?_
  refine x_XVv (rest := []) S (c_X3_checkTrunk l E n f o hfl hR.nt (by omega) a) (cwV 1 S.2.2.2.2 gX3_setBroken_X3_checkTrunk rfl rfl rfl (by decide +kernel) ⟨Nat.le_of_ble_eq_true rfl, Nat.le_of_ble_eq_true rfl⟩) hW hTh htab hlk (fun X σ9 h => ⟨⟨xif_f (fun q => h.2.1 q.1), h.1⟩, by rw [h.2.2]; exact hR.same⟩) (Nat.le_of_ble_eq_true rfl) (Nat.le_of_ble_eq_true rfl) 0 (xw_0 E _) rfl rfl rfl hl.1 (Nat.le_of_ble_eq_true rfl) dX3_setBroken_2 ⟨Nat.le_of_ble_eq_true rfl, Nat.le_of_ble_eq_true rfl⟩ (fun σ2 H locs hq1 hW => ?_)
  obtain ⟨⟨p2, hp2, rfl⟩, rfl⟩ := hq1
  refine lv_iload_n hx hb dX3_setBroken_5 rfl (lv_at hl 2 rfl) ?_
  refine lv_iconst (v := 0) hx hb dX3_setBroken_6 (by decide) ?_
  refine lv_aload_n hx hb dX3_setBroken_7 rfl (lv_at hl 0 rfl) ?_
  refine x_get (v := .ref (E.2.2.2 19)) S hW hinX3 0 (xw_0 E _) rfl 13 (by decide) w51 rfl dX3_setBroken_8 ?_
  refine lv_iload_n hx hb dX3_setBroken_11 rfl (lv_at hl 1 rfl) ?_
  refine x_Vi (rest := [.int 0, .int a2]) S (c_X2_at l E n f o (i := 9) (by decide) (k := p2) (show _ < 10 from by omega)) (cwV 1 S.2.2.2.2 gX3_setBroken_X2_at rfl rfl rfl (by decide +kernel) ⟨Nat.le_of_ble_eq_true rfl, Nat.le_of_ble_eq_true rfl⟩) hW 19 (xw_19 E _) rfl rfl rfl hl.1 (Nat.le_of_ble_eq_true rfl) dX3_setBroken_12 ⟨Nat.le_of_ble_eq_true rfl, Nat.le_of_ble_eq_true rfl⟩ (fun r12 σ12 H locs hq2 hW => ?_)
  obtain ⟨rfl, rfl⟩ := hq2
  have ht9 := hG.tt p2 hp2
  have hts := hG.ts p2 hp2
  have hcc : gTc Γ p2 ≤ 1000 := by omega
  refine x_topN (gTc Γ p2) (hR.tc p2 hp2) ?_
  refine lv_iconst (v := 1) hx hb dX3_setBroken_15 (by decide) ?_
  refine lv_isub hx hb dX3_setBroken_16 ?_
  refine x_Si (rest := []) S (c_X3_isWithin l E n f o a2 0 ((nI (gTc Γ p2)) - 1)) (cwS 3 S.2.2.2.2 gX3_setBroken_X3_isWithin rfl rfl rfl (by decide +kernel) ⟨Nat.le_of_ble_eq_true rfl, Nat.le_of_ble_eq_true rfl⟩) hW rfl rfl hl.1 (Nat.le_of_ble_eq_true rfl) dX3_setBroken_17 ⟨Nat.le_of_ble_eq_true rfl, Nat.le_of_ble_eq_true rfl⟩ (fun r17 σ17 H locs hq3 hW => ?_)
  rcases hq3 with ⟨rfl, h17, rfl⟩ | ⟨rfl, h17, rfl⟩
  · refine lv_if_ne (tgt := 33) hx hb dX3_setBroken_20 (by decide) (fun c20 => ?_) (fun c20 => ?_)
    · exact absurd c20 (by decide)
    exact x_throw (cls := xIO) (text := "no such strand") S hfl hTh hW htab hlk (by decide +kernel) w133 wiIO (by decide +kernel) (fun w hw => List.mem_cons_of_mem _ (List.mem_append_right _ hw)) xng_IO xgd_IO hl.1 dX3_setBroken_23 dX3_setBroken_26 dX3_setBroken_27 dX3_setBroken_29 dX3_setBroken_32 ⟨⟨Nat.le_of_ble_eq_true rfl, Nat.le_of_ble_eq_true rfl⟩, Nat.le_of_ble_eq_true rfl, Nat.le_of_ble_eq_true rfl⟩ (Nat.le_of_ble_eq_true rfl) (Nat.le_of_ble_eq_true rfl) (⟨⟨xif_f (fun q => h17 ((xP_iff hcc).mpr (by have := q.2; rw [xNa_n (by omega)] at this; exact this))), rfl⟩, hR.same⟩)
  · refine lv_if_ne (tgt := 33) hx hb dX3_setBroken_20 (by decide) (fun c20 => ?_) (fun c20 => ?_)
    rotate_left
    · exact absurd c20 (by decide)
    obtain ⟨s9, hs9, rfl⟩ := (xP_iff hcc).mp h17
    have ht8 := hts s9 hs9
    refine lv_aload_n hx hb dX3_setBroken_33 rfl (lv_at hl 0 rfl) ?_
    refine x_get (v := .ref (E.2.2.2 17)) S hW hinX3 0 (xw_0 E _) rfl 12 (by decide) w48 rfl dX3_setBroken_34 ?_
    refine lv_iload_n hx hb dX3_setBroken_37 rfl (lv_at hl 1 rfl) ?_
    refine x_Vi (rest := []) S (c_X2_at l E n f o (i := 8) (by decide) (k := p2) (show _ < 10 from by omega)) (cwV 1 S.2.2.2.2 gX3_setBroken_X2_at rfl rfl rfl (by decide +kernel) ⟨Nat.le_of_ble_eq_true rfl, Nat.le_of_ble_eq_true rfl⟩) hW 17 (xw_17 E _) rfl rfl rfl hl.1 (Nat.le_of_ble_eq_true rfl) dX3_setBroken_38 ⟨Nat.le_of_ble_eq_true rfl, Nat.le_of_ble_eq_true rfl⟩ (fun r38 σ38 H locs hq4 hW => ?_)
    obtain ⟨rfl, rfl⟩ := hq4
    refine x_topN (gTa Γ p2) (hR.ta p2 hp2) ?_
    refine lv_iload_n hx hb dX3_setBroken_41 rfl (lv_at hl 2 rfl) ?_
    refine x_iadd (a := gTa Γ p2) (b := s9) hx hb dX3_setBroken_42 ?_
    refine lv_istore (lv' := [(4, .int (nI ((gTa Γ p2) + s9))), (0, .ref (E.2.2.2 0)), (1, .int (nI p2)), (2, .int (nI s9)), (3, .int (bz b))]) hx hb dX3_setBroken_43 hl (by decide) rfl (fun ls hl => ?_)
    refine lv_aload_n hx hb dX3_setBroken_45 rfl (lv_at hl 1 rfl) ?_
    refine x_get (v := .ref (E.2.2.2 35)) S hW hinX3 0 (xw_0 E _) rfl 10 (by decide) w44 rfl dX3_setBroken_46 ?_
    refine lv_iload hx hb dX3_setBroken_49 (lv_at hl 0 rfl) ?_
    refine x_Vi (rest := []) S (c_X0_has l E n f o (i := 0) (by decide) (k := (gTa Γ p2) + s9) (by omega)) (cwV 1 S.2.2.2.2 gX3_setBroken_X0_has rfl rfl rfl (by decide +kernel) ⟨Nat.le_of_ble_eq_true rfl, Nat.le_of_ble_eq_true rfl⟩) hW 35 (xw_35 E _) rfl rfl rfl hl.1 (Nat.le_of_ble_eq_true rfl) dX3_setBroken_51 ⟨Nat.le_of_ble_eq_true rfl, Nat.le_of_ble_eq_true rfl⟩ (fun r51 σ51 H locs hq5 hW => ?_)
    rcases hq5 with ⟨rfl, h51, rfl⟩ | ⟨rfl, h51, rfl⟩
    · replace h51 : (f 17) ((gTa Γ p2) + s9) = 0 := Classical.not_not.mp h51
      refine lv_istore (lv' := [(5, .int 0), (4, .int (nI ((gTa Γ p2) + s9))), (0, .ref (E.2.2.2 0)), (1, .int (nI p2)), (2, .int (nI s9)), (3, .int (bz b))]) hx hb dX3_setBroken_54 hl (by decide) rfl (fun ls hl => ?_)
      refine lv_aload_n hx hb dX3_setBroken_56 rfl (lv_at hl 2 rfl) ?_
      refine x_get (v := .ref (E.2.2.2 35)) S hW hinX3 0 (xw_0 E _) rfl 10 (by decide) w44 rfl dX3_setBroken_57 ?_
      refine lv_iload hx hb dX3_setBroken_60 (lv_at hl 1 rfl) ?_
      refine lv_iload_n hx hb dX3_setBroken_62 rfl (lv_at hl 5 rfl) ?_
      refine x_Vv (rest := []) S (c_X0_set l E n f o (i := 0) (by decide) (k := (gTa Γ p2) + s9) (by omega) (v := (bz b)) (bz_01 b)) (cwV 2 S.2.2.2.2 gX3_setBroken_X0_set rfl rfl rfl (by decide +kernel) ⟨Nat.le_of_ble_eq_true rfl, Nat.le_of_ble_eq_true rfl⟩) hW 35 (xw_35 E _) rfl rfl rfl hl.1 (Nat.le_of_ble_eq_true rfl) dX3_setBroken_63 ⟨Nat.le_of_ble_eq_true rfl, Nat.le_of_ble_eq_true rfl⟩ (fun σ63 H locs hq6 hW => ?_)
      obtain rfl := hq6
      refine lv_aload_n hx hb dX3_setBroken_66 rfl (lv_at hl 2 rfl) ?_
      refine x_get (v := .ref (E.2.2.2 35)) S hW hinX3 0 (xw_0 E _) rfl 10 (by decide) w44 rfl dX3_setBroken_67 ?_
      refine lv_aload_n hx hb dX3_setBroken_70 rfl (lv_at hl 2 rfl) ?_
      refine x_get (v := .ref (E.2.2.2 13)) S hW hinX3 0 (xw_0 E _) rfl 8 (by decide) w33 rfl dX3_setBroken_71 ?_
      refine lv_iload hx hb dX3_setBroken_74 (lv_at hl 1 rfl) ?_
      refine x_Vi (rest := [.ref (E.2.2.2 35)]) S (c_X2_at l E n (xu f 17 (upd (f 17) ((gTa Γ p2) + s9) (bz b))) o (i := 6) (by decide) (k := (gTa Γ p2) + s9) (show _ < 144 from by omega)) (cwV 1 S.2.2.2.2 gX3_setBroken_X2_at rfl rfl rfl (by decide +kernel) ⟨Nat.le_of_ble_eq_true rfl, Nat.le_of_ble_eq_true rfl⟩) hW 13 (xw_13 E _) rfl rfl rfl hl.1 (Nat.le_of_ble_eq_true rfl) dX3_setBroken_76 ⟨Nat.le_of_ble_eq_true rfl, Nat.le_of_ble_eq_true rfl⟩ (fun r76 σ76 H locs hq7 hW => ?_)
      obtain ⟨rfl, rfl⟩ := hq7
      refine x_topN (gTb Γ p2 + s9) ((hR.st _ (by omega)).trans ht8.2.2) ?_
      refine lv_iload_n hx hb dX3_setBroken_79 rfl (lv_at hl 5 rfl) ?_
      refine x_Vv (rest := []) S (c_X0_set l E n (xu f 17 (upd (f 17) ((gTa Γ p2) + s9) (bz b))) o (i := 0) (by decide) (k := gTb Γ p2 + s9) (by omega) (v := (bz b)) (bz_01 b)) (cwV 2 S.2.2.2.2 gX3_setBroken_X0_set rfl rfl rfl (by decide +kernel) ⟨Nat.le_of_ble_eq_true rfl, Nat.le_of_ble_eq_true rfl⟩) hW 35 (xw_35 E _) rfl rfl rfl hl.1 (Nat.le_of_ble_eq_true rfl) dX3_setBroken_80 ⟨Nat.le_of_ble_eq_true rfl, Nat.le_of_ble_eq_true rfl⟩ (fun σ80 H locs hq8 hW => ?_)
      obtain rfl := hq8
      have hW : xSt E (n, (xu f 17 (upd (upd (f 17) ((gTa Γ p2) + s9) (bz b)) (gTb Γ p2 + s9) (bz b))), o) s s.heap H locs := by have h9 := hW; rw [show ((n, (xu f 17 (upd (upd (f 17) ((gTa Γ p2) + s9) (bz b)) (gTb Γ p2 + s9) (bz b))), o) : xS) = (n, (xu (xu f 17 (upd (f 17) ((gTa Γ p2) + s9) (bz b))) 17 (upd (upd (f 17) ((gTa Γ p2) + s9) (bz b)) (gTb Γ p2 + s9) (bz b))), o) from by rw [xu_xu]]; exact h9
      refine lv_iload hx hb dX3_setBroken_83 (lv_at hl 0 rfl) ?_
      exact x_Xretz S hr hlk hW (Nat.le_of_ble_eq_true rfl) (Nat.le_of_ble_eq_true rfl) dX3_setBroken_85 (Or.inl rfl) (⟨xif_t ⟨xPn hp2, by rw [xNa_n (by omega)]; exact xPn hs9⟩, by rw [xNa_n (by omega), xNa_n (by omega)]; exact h51.symm.trans (hR.bk _ (by omega)), by rw [xNa_n (by omega), xNa_n (by omega)]; exact ⟨n, _, rfl, rep_brk hR, fun _ _ => rfl, fun q hq => xu_n (by omega)⟩⟩)
    · replace h51 : (f 17) ((gTa Γ p2) + s9) ≠ 0 := h51
      refine lv_istore (lv' := [(5, .int 1), (4, .int (nI ((gTa Γ p2) + s9))), (0, .ref (E.2.2.2 0)), (1, .int (nI p2)), (2, .int (nI s9)), (3, .int (bz b))]) hx hb dX3_setBroken_54 hl (by decide) rfl (fun ls hl => ?_)
      refine lv_aload_n hx hb dX3_setBroken_56 rfl (lv_at hl 2 rfl) ?_
      refine x_get (v := .ref (E.2.2.2 35)) S hW hinX3 0 (xw_0 E _) rfl 10 (by decide) w44 rfl dX3_setBroken_57 ?_
      refine lv_iload hx hb dX3_setBroken_60 (lv_at hl 1 rfl) ?_
      refine lv_iload_n hx hb dX3_setBroken_62 rfl (lv_at hl 5 rfl) ?_
      refine x_Vv (rest := []) S (c_X0_set l E n f o (i := 0) (by decide) (k := (gTa Γ p2) + s9) (by omega) (v := (bz b)) (bz_01 b)) (cwV 2 S.2.2.2.2 gX3_setBroken_X0_set rfl rfl rfl (by decide +kernel) ⟨Nat.le_of_ble_eq_true rfl, Nat.le_of_ble_eq_true rfl⟩) hW 35 (xw_35 E _) rfl rfl rfl hl.1 (Nat.le_of_ble_eq_true rfl) dX3_setBroken_63 ⟨Nat.le_of_ble_eq_true rfl, Nat.le_of_ble_eq_true rfl⟩ (fun σ63 H locs hq9 hW => ?_)
      obtain rfl := hq9
      refine lv_aload_n hx hb dX3_setBroken_66 rfl (lv_at hl 2 rfl) ?_
      refine x_get (v := .ref (E.2.2.2 35)) S hW hinX3 0 (xw_0 E _) rfl 10 (by decide) w44 rfl dX3_setBroken_67 ?_
      refine lv_aload_n hx hb dX3_setBroken_70 rfl (lv_at hl 2 rfl) ?_
      refine x_get (v := .ref (E.2.2.2 13)) S hW hinX3 0 (xw_0 E _) rfl 8 (by decide) w33 rfl dX3_setBroken_71 ?_
      refine lv_iload hx hb dX3_setBroken_74 (lv_at hl 1 rfl) ?_
      refine x_Vi (rest := [.ref (E.2.2.2 35)]) S (c_X2_at l E n (xu f 17 (upd (f 17) ((gTa Γ p2) + s9) (bz b))) o (i := 6) (by decide) (k := (gTa Γ p2) + s9) (show _ < 144 from by omega)) (cwV 1 S.2.2.2.2 gX3_setBroken_X2_at rfl rfl rfl (by decide +kernel) ⟨Nat.le_of_ble_eq_true rfl, Nat.le_of_ble_eq_true rfl⟩) hW 13 (xw_13 E _) rfl rfl rfl hl.1 (Nat.le_of_ble_eq_true rfl) dX3_setBroken_76 ⟨Nat.le_of_ble_eq_true rfl, Nat.le_of_ble_eq_true rfl⟩ (fun r76 σ76 H locs hq10 hW => ?_)
      obtain ⟨rfl, rfl⟩ := hq10
      refine x_topN (gTb Γ p2 + s9) ((hR.st _ (by omega)).trans ht8.2.2) ?_
      refine lv_iload_n hx hb dX3_setBroken_79 rfl (lv_at hl 5 rfl) ?_
      refine x_Vv (rest := []) S (c_X0_set l E n (xu f 17 (upd (f 17) ((gTa Γ p2) + s9) (bz b))) o (i := 0) (by decide) (k := gTb Γ p2 + s9) (by omega) (v := (bz b)) (bz_01 b)) (cwV 2 S.2.2.2.2 gX3_setBroken_X0_set rfl rfl rfl (by decide +kernel) ⟨Nat.le_of_ble_eq_true rfl, Nat.le_of_ble_eq_true rfl⟩) hW 35 (xw_35 E _) rfl rfl rfl hl.1 (Nat.le_of_ble_eq_true rfl) dX3_setBroken_80 ⟨Nat.le_of_ble_eq_true rfl, Nat.le_of_ble_eq_true rfl⟩ (fun σ80 H locs hq11 hW => ?_)
      obtain rfl := hq11
      have hW : xSt E (n, (xu f 17 (upd (upd (f 17) ((gTa Γ p2) + s9) (bz b)) (gTb Γ p2 + s9) (bz b))), o) s s.heap H locs := by have h9 := hW; rw [show ((n, (xu f 17 (upd (upd (f 17) ((gTa Γ p2) + s9) (bz b)) (gTb Γ p2 + s9) (bz b))), o) : xS) = (n, (xu (xu f 17 (upd (f 17) ((gTa Γ p2) + s9) (bz b))) 17 (upd (upd (f 17) ((gTa Γ p2) + s9) (bz b)) (gTb Γ p2 + s9) (bz b))), o) from by rw [xu_xu]]; exact h9
      refine lv_iload hx hb dX3_setBroken_83 (lv_at hl 0 rfl) ?_
      exact x_Xretz S hr hlk hW (Nat.le_of_ble_eq_true rfl) (Nat.le_of_ble_eq_true rfl) dX3_setBroken_85 (Or.inr rfl) (⟨xif_t ⟨xPn hp2, by rw [xNa_n (by omega)]; exact xPn hs9⟩, by rw [xNa_n (by omega), xNa_n (by omega)]; exact ((hG.b01 _).resolve_left (fun e => h51 ((hR.bk (gTa Γ p2 + s9) (by omega)).trans e))).symm, by rw [xNa_n (by omega), xNa_n (by omega)]; exact ⟨n, _, rfl, rep_brk hR, fun _ _ => rfl, fun q hq => xu_n (by omega)⟩⟩)

abbrev rmX3_plug : Room := { frames := 7, cells := 3, slots := 18, locals := 103 }
set_option maxHeartbeats 4000000 in
set_option maxRecDepth 100000 in
theorem c_X3_plug (l : Launch) (E : xE) (n : Nat → Int32) (f : Nat → Nat → Int32) (o : Nat → Int64) (hfl : l.stackTraces = false) (Γ : xG) (hG : xGood Γ) (hR : xRepC Γ n f) (a a2 a3 : Int32) : xXi l yX3_plug wsX3_plug rmX3_plug E [.ref (E.2.2.2 0), .int a, .int a2, .int a3] (n, f, o) 3 (fun r σ' => ocPlug Γ a a2 a3 = 0 ∧ r = xlen (gRk Γ) (gPn Γ (xNa a)) (gPn Γ (xNa a2)) ∧ xOKC (gPlug Γ (xNa a) (xNa a2) a3) n f o σ') (fun X σ' => xX3 (ocPlug Γ a a2 a3) X ∧ xOKC Γ n f o σ') := by
  refine x_startXi RX3 (by decide) rfl rfl (Nat.le_of_ble_eq_true rfl) ?_
  intro p e s m args below meth c ls S hr hlk htab hTh hW hl
  have hx := S.1
  have hb := S.2.1
  have hl : lv_has ls 4 [(0, .ref (E.2.2.2 0)), (1, .int a), (2, .int a2), (3, .int a3)] := hl
  have w87 : Cond.classLink RX3 87 "java/lang/IllegalArgumentException" ∈ wsX3_plug := by decide +kernel
  have w94 : Cond.classLink RX3 94 "java/lang/IllegalStateException" ∈ wsX3_plug := by decide +kernel
  have wiIA : Cond.initialized "java/lang/IllegalArgumentException" ∈ wsX3_plug := by decide +kernel
  have wiIS : Cond.initialized "java/lang/IllegalStateException" ∈ wsX3_plug := by decide +kernel
  have hno := hG.no
  have hnp := hG.np
  have hnt := hG.nt
  have hnm := hG.nm
  refine lv_aload_n hx hb dX3_plug_0 rfl (lv_at hl 0 rfl) ?_
  refine lv_iload_n hx hb dX3_plug_1 rfl (lv_at hl 1 rfl) ?_
  refine x_XVv (rest := []) S (c_X3_checkPort l E n f o hfl hR.no (by omega) a) (cwV 1 S.2.2.2.2 gX3_plug_X3_checkPort rfl rfl rfl (by decide +kernel) ⟨Nat.le_of_ble_eq_true rfl, Nat.le_of_ble_eq_true rfl⟩) hW hTh htab hlk (fun X σ9 h => ⟨Or.inl ⟨xif_t (fun q => h.2.1 q.1), h.1⟩, by rw [h.2.2]; exact hR.same⟩) (Nat.le_of_ble_eq_true rfl) (Nat.le_of_ble_eq_true rfl) 0 (xw_0 E _) rfl rfl rfl hl.1 (Nat.le_of_ble_eq_true rfl) dX3_plug_2 ⟨Nat.le_of_ble_eq_true rfl, Nat.le_of_ble_eq_true rfl⟩ (fun σ2 H locs hq1 hW => ?_)
  obtain ⟨⟨p2, hp2, rfl⟩, rfl⟩ := hq1
  refine lv_aload_n hx hb dX3_plug_5 rfl (lv_at hl 0 rfl) ?_
  refine lv_iload_n hx hb dX3_plug_6 rfl (lv_at hl 2 rfl) ?_
  refine x_XVv (rest := []) S (c_X3_checkPort l E n f o hfl hR.no (by omega) a2) (cwV 1 S.2.2.2.2 gX3_plug_X3_checkPort rfl rfl rfl (by decide +kernel) ⟨Nat.le_of_ble_eq_true rfl, Nat.le_of_ble_eq_true rfl⟩) hW hTh htab hlk (fun X σ9 h => ⟨Or.inl ⟨xif_t (fun q => h.2.1 q.2), h.1⟩, by rw [h.2.2]; exact hR.same⟩) (Nat.le_of_ble_eq_true rfl) (Nat.le_of_ble_eq_true rfl) 0 (xw_0 E _) rfl rfl rfl hl.1 (Nat.le_of_ble_eq_true rfl) dX3_plug_7 ⟨Nat.le_of_ble_eq_true rfl, Nat.le_of_ble_eq_true rfl⟩ (fun σ7 H locs hq2 hW => ?_)
  obtain ⟨⟨p7, hp7, rfl⟩, rfl⟩ := hq2
  refine lv_iload_n hx hb dX3_plug_10 rfl (lv_at hl 3 rfl) ?_
  refine lv_iconst (v := 1) hx hb dX3_plug_11 (by decide) ?_
  refine lv_bipush (v := 9) hx hb dX3_plug_12 (by decide) ?_
  refine x_Si (rest := []) S (c_X3_isWithin l E n f o a3 1 9) (cwS 3 S.2.2.2.2 gX3_plug_X3_isWithin rfl rfl rfl (by decide +kernel) ⟨Nat.le_of_ble_eq_true rfl, Nat.le_of_ble_eq_true rfl⟩) hW rfl rfl hl.1 (Nat.le_of_ble_eq_true rfl) dX3_plug_14 ⟨Nat.le_of_ble_eq_true rfl, Nat.le_of_ble_eq_true rfl⟩ (fun r14 σ14 H locs hq3 hW => ?_)
  rcases hq3 with ⟨rfl, h14, rfl⟩ | ⟨rfl, h14, rfl⟩
  · refine lv_if_eq (tgt := 25) hx hb dX3_plug_17 (by decide) (fun c17 => ?_) (fun c17 => ?_)
    rotate_left
    · exact absurd c17 (by decide)
    exact x_throw (cls := xIA) (text := "colour out of range, or both ports the same") S hfl hTh hW htab hlk (by decide +kernel) w87 wiIA (by decide +kernel) (fun w hw => List.mem_cons_of_mem _ (List.mem_append_left _ (List.mem_append_left _ (List.mem_append_right _ hw)))) xng_IA xgd_IA hl.1 dX3_plug_25 dX3_plug_28 dX3_plug_29 dX3_plug_31 dX3_plug_34 ⟨⟨Nat.le_of_ble_eq_true rfl, Nat.le_of_ble_eq_true rfl⟩, Nat.le_of_ble_eq_true rfl, Nat.le_of_ble_eq_true rfl⟩ (Nat.le_of_ble_eq_true rfl) (Nat.le_of_ble_eq_true rfl) (⟨Or.inr (Or.inl ⟨by rw [ocPlug, xif_f (not_not_intro ⟨xPn hp2, xPn hp7⟩), xif_t (by first | exact Or.inl h14 | exact Or.inr (by rw [c22]))], rfl⟩), hR.same⟩)
  · refine lv_if_eq (tgt := 25) hx hb dX3_plug_17 (by decide) (fun c17 => ?_) (fun c17 => ?_)
    · exact absurd c17 (by decide)
    refine lv_iload_n hx hb dX3_plug_20 rfl (lv_at hl 1 rfl) ?_
    refine lv_iload_n hx hb dX3_plug_21 rfl (lv_at hl 2 rfl) ?_
    refine x_icmp_ne (a := p2) (b := p7) (tgt := 35) hx hb dX3_plug_22 (by decide) (by omega) (by omega) (fun c22 => ?_) (fun c22 => ?_)
    · refine lv_aload_n hx hb dX3_plug_35 rfl (lv_at hl 0 rfl) ?_
      refine lv_iload_n hx hb dX3_plug_36 rfl (lv_at hl 1 rfl) ?_
      refine x_Vi (rest := []) S (c_X3_hasCable l E n f o (p1 := p2) (by omega)) (cwV 1 S.2.2.2.2 gX3_plug_X3_hasCable rfl rfl rfl (by decide +kernel) ⟨Nat.le_of_ble_eq_true rfl, Nat.le_of_ble_eq_true rfl⟩) hW 0 (xw_0 E _) rfl rfl rfl hl.1 (Nat.le_of_ble_eq_true rfl) dX3_plug_37 ⟨Nat.le_of_ble_eq_true rfl, Nat.le_of_ble_eq_true rfl⟩ (fun r37 σ37 H locs hq4 hW => ?_)
      rcases hq4 with ⟨rfl, h37, rfl⟩ | ⟨rfl, h37, rfl⟩
      · rw [hR.cb _ (by omega)] at h37
        refine lv_if_ne (tgt := 51) hx hb dX3_plug_40 (by decide) (fun c40 => ?_) (fun c40 => ?_)
        · exact absurd c40 (by decide)
        refine lv_aload_n hx hb dX3_plug_43 rfl (lv_at hl 0 rfl) ?_
        refine lv_iload_n hx hb dX3_plug_44 rfl (lv_at hl 2 rfl) ?_
        refine x_Vi (rest := []) S (c_X3_hasCable l E n f o (p1 := p7) (by omega)) (cwV 1 S.2.2.2.2 gX3_plug_X3_hasCable rfl rfl rfl (by decide +kernel) ⟨Nat.le_of_ble_eq_true rfl, Nat.le_of_ble_eq_true rfl⟩) hW 0 (xw_0 E _) rfl rfl rfl hl.1 (Nat.le_of_ble_eq_true rfl) dX3_plug_45 ⟨Nat.le_of_ble_eq_true rfl, Nat.le_of_ble_eq_true rfl⟩ (fun r45 σ45 H locs hq5 hW => ?_)
        rcases hq5 with ⟨rfl, h45, rfl⟩ | ⟨rfl, h45, rfl⟩
        · rw [hR.cb _ (by omega)] at h45
          refine lv_if_eq (tgt := 61) hx hb dX3_plug_48 (by decide) (fun c48 => ?_) (fun c48 => ?_)
          rotate_left
          · exact absurd c48 (by decide)
          refine lv_aload_n hx hb dX3_plug_61 rfl (lv_at hl 0 rfl) ?_
          refine lv_iload_n hx hb dX3_plug_62 rfl (lv_at hl 1 rfl) ?_
          refine lv_iload_n hx hb dX3_plug_63 rfl (lv_at hl 2 rfl) ?_
          refine lv_iload_n hx hb dX3_plug_64 rfl (lv_at hl 3 rfl) ?_
          refine x_Vv (rest := []) S (c_X3_joinByCable l E n f o (p1 := p2) (by omega) (p2 := p7) (by omega) a3) (cwV 3 S.2.2.2.2 gX3_plug_X3_joinByCable rfl rfl rfl (by decide +kernel) ⟨Nat.le_of_ble_eq_true rfl, Nat.le_of_ble_eq_true rfl⟩) hW 0 (xw_0 E _) rfl rfl rfl hl.1 (Nat.le_of_ble_eq_true rfl) dX3_plug_65 ⟨Nat.le_of_ble_eq_true rfl, Nat.le_of_ble_eq_true rfl⟩ (fun σ65 H locs hq6 hW => ?_)
          obtain rfl := hq6
          refine lv_aload_n hx hb dX3_plug_68 rfl (lv_at hl 0 rfl) ?_
          refine lv_iload_n hx hb dX3_plug_69 rfl (lv_at hl 1 rfl) ?_
          refine lv_iload_n hx hb dX3_plug_70 rfl (lv_at hl 2 rfl) ?_
          refine x_Vi (rest := []) S (c_X3_lengthBetween l E n (xu (xu f 4 (upd (upd (f 4) p2 (nI p7)) p7 (nI p2))) 5 (upd (upd (f 5) p2 a3) p7 a3)) o (p1 := p2) (by omega) (p2 := p7) (by omega) (by have := (hG.pn p2 hp2).1; omega) (by have := (hG.pn p7 hp7).1; omega) (hR.pn p2 hp2) (hR.pn p7 hp7)) (cwV 2 S.2.2.2.2 gX3_plug_X3_lengthBetween rfl rfl rfl (by decide +kernel) ⟨Nat.le_of_ble_eq_true rfl, Nat.le_of_ble_eq_true rfl⟩) hW 0 (xw_0 E _) rfl rfl rfl hl.1 (Nat.le_of_ble_eq_true rfl) dX3_plug_71 ⟨Nat.le_of_ble_eq_true rfl, Nat.le_of_ble_eq_true rfl⟩ (fun r71 σ71 H locs hq7 hW => ?_)
          obtain ⟨e71, rfl⟩ := hq7
          have e71 : r71 = xlen (gRk Γ) (gPn Γ p2) (gPn Γ p7) := e71.trans (xlen_c (hR.rk _ (hG.pn p2 hp2).1) (hR.rk _ (hG.pn p7 hp7).1))
          subst e71
          exact x_Xreti S hr hlk hW (Nat.le_of_ble_eq_true rfl) (Nat.le_of_ble_eq_true rfl) dX3_plug_74 (⟨by rw [ocPlug, xif_f (not_not_intro ⟨xPn hp2, xPn hp7⟩), xif_f (not_or.mpr ⟨not_not_intro h14, fun e => c22 (nI_inj (by omega) (by omega) e)⟩), xNa_n (by omega), xNa_n (by omega), xif_f (not_or.mpr ⟨h37, h45⟩)], by rw [xNa_n (by omega), xNa_n (by omega)], by rw [xNa_n (by omega), xNa_n (by omega)]; exact ⟨n, _, rfl, rep_plug hR, fun _ _ => rfl, fun q hq => by rw [xu_n (by omega), xu_n (by omega)]⟩⟩)
        · rw [hR.cb _ (by omega)] at h45
          refine lv_if_eq (tgt := 61) hx hb dX3_plug_48 (by decide) (fun c48 => ?_) (fun c48 => ?_)
          · exact absurd c48 (by decide)
          exact x_throw (cls := xIS) (text := "a port has a cable") S hfl hTh hW htab hlk (by decide +kernel) w94 wiIS (by decide +kernel) (fun w hw => List.mem_cons_of_mem _ (List.mem_append_left _ (List.mem_append_right _ hw))) xng_IS xgd_IS hl.1 dX3_plug_51 dX3_plug_54 dX3_plug_55 dX3_plug_57 dX3_plug_60 ⟨⟨Nat.le_of_ble_eq_true rfl, Nat.le_of_ble_eq_true rfl⟩, Nat.le_of_ble_eq_true rfl, Nat.le_of_ble_eq_true rfl⟩ (Nat.le_of_ble_eq_true rfl) (Nat.le_of_ble_eq_true rfl) (⟨Or.inr (Or.inr ⟨by rw [ocPlug, xif_f (not_not_intro ⟨xPn hp2, xPn hp7⟩), xif_f (not_or.mpr ⟨not_not_intro h14, fun e => c22 (nI_inj (by omega) (by omega) e)⟩), xNa_n (by omega), xNa_n (by omega), xif_t (by first | exact Or.inl h37 | exact Or.inr h45)], rfl⟩), hR.same⟩)
      · rw [hR.cb _ (by omega)] at h37
        refine lv_if_ne (tgt := 51) hx hb dX3_plug_40 (by decide) (fun c40 => ?_) (fun c40 => ?_)
        rotate_left
        · exact absurd c40 (by decide)
        exact x_throw (cls := xIS) (text := "a port has a cable") S hfl hTh hW htab hlk (by decide +kernel) w94 wiIS (by decide +kernel) (fun w hw => List.mem_cons_of_mem _ (List.mem_append_left _ (List.mem_append_right _ hw))) xng_IS xgd_IS hl.1 dX3_plug_51 dX3_plug_54 dX3_plug_55 dX3_plug_57 dX3_plug_60 ⟨⟨Nat.le_of_ble_eq_true rfl, Nat.le_of_ble_eq_true rfl⟩, Nat.le_of_ble_eq_true rfl, Nat.le_of_ble_eq_true rfl⟩ (Nat.le_of_ble_eq_true rfl) (Nat.le_of_ble_eq_true rfl) (⟨Or.inr (Or.inr ⟨by rw [ocPlug, xif_f (not_not_intro ⟨xPn hp2, xPn hp7⟩), xif_f (not_or.mpr ⟨not_not_intro h14, fun e => c22 (nI_inj (by omega) (by omega) e)⟩), xNa_n (by omega), xNa_n (by omega), xif_t (by first | exact Or.inl h37 | exact Or.inr h45)], rfl⟩), hR.same⟩)
    · exact x_throw (cls := xIA) (text := "colour out of range, or both ports the same") S hfl hTh hW htab hlk (by decide +kernel) w87 wiIA (by decide +kernel) (fun w hw => List.mem_cons_of_mem _ (List.mem_append_left _ (List.mem_append_left _ (List.mem_append_right _ hw)))) xng_IA xgd_IA hl.1 dX3_plug_25 dX3_plug_28 dX3_plug_29 dX3_plug_31 dX3_plug_34 ⟨⟨Nat.le_of_ble_eq_true rfl, Nat.le_of_ble_eq_true rfl⟩, Nat.le_of_ble_eq_true rfl, Nat.le_of_ble_eq_true rfl⟩ (Nat.le_of_ble_eq_true rfl) (Nat.le_of_ble_eq_true rfl) (⟨Or.inr (Or.inl ⟨by rw [ocPlug, xif_f (not_not_intro ⟨xPn hp2, xPn hp7⟩), xif_t (by first | exact Or.inl h14 | exact Or.inr (by rw [c22]))], rfl⟩), hR.same⟩)

abbrev rmX3_pull : Room := { frames := 7, cells := 2, slots := 12, locals := 103 }
set_option maxHeartbeats 4000000 in
set_option maxRecDepth 100000 in
theorem c_X3_pull (l : Launch) (E : xE) (n : Nat → Int32) (f : Nat → Nat → Int32) (o : Nat → Int64) (hfl : l.stackTraces = false) (Γ : xG) (hG : xGood Γ) (hR : xRepC Γ n f) (a : Int32) : xXi l yX3_pull wsX3_pull rmX3_pull E [.ref (E.2.2.2 0), .int a] (n, f, o) 2 (fun r σ' => ocPull Γ a = 0 ∧ r = gCb Γ (xNa a) ∧ xOKC (gPull Γ (xNa a) (xNa (gCb Γ (xNa a)))) n f o σ') (fun X σ' => xXp (ocPull Γ a) X ∧ xOKC Γ n f o σ') := by
  refine x_startXi RX3 (by decide) rfl rfl (Nat.le_of_ble_eq_true rfl) ?_
  intro p e s m args below meth c ls S hr hlk htab hTh hW hl
  have hx := S.1
  have hb := S.2.1
  have hl : lv_has ls 3 [(0, .ref (E.2.2.2 0)), (1, .int a)] := hl
  have hinX3 : ∀ w ∈ wsX30, w ∈ wsX3_pull := by decide +kernel
  have w27 : Cond.fieldLink RX3 27 "CableBook" "cableTo" "LCableBook$Row;" ∈ wsX3_pull := by decide +kernel
  have w94 : Cond.classLink RX3 94 "java/lang/IllegalStateException" ∈ wsX3_pull := by decide +kernel
  have wiIS : Cond.initialized "java/lang/IllegalStateException" ∈ wsX3_pull := by decide +kernel
  have hno := hG.no
  have hnp := hG.np
  have hnt := hG.nt
  have hnm := hG.nm
  refine lv_aload_n hx hb dX3_pull_0 rfl (lv_at hl 0 rfl) ?_
  refine lv_iload_n hx hb dX3_pull_1 rfl (lv_at hl 1 rfl) ?_
  refine x_XVv (rest := []) S (c_X3_checkPort l E n f o hfl hR.no (by omega) a) (cwV 1 S.2.2.2.2 gX3_pull_X3_checkPort rfl rfl rfl (by decide +kernel) ⟨Nat.le_of_ble_eq_true rfl, Nat.le_of_ble_eq_true rfl⟩) hW hTh htab hlk (fun X σ9 h => ⟨Or.inl ⟨xif_t h.2.1, h.1⟩, by rw [h.2.2]; exact hR.same⟩) (Nat.le_of_ble_eq_true rfl) (Nat.le_of_ble_eq_true rfl) 0 (xw_0 E _) rfl rfl rfl hl.1 (Nat.le_of_ble_eq_true rfl) dX3_pull_2 ⟨Nat.le_of_ble_eq_true rfl, Nat.le_of_ble_eq_true rfl⟩ (fun σ2 H locs hq1 hW => ?_)
  obtain ⟨⟨p2, hp2, rfl⟩, rfl⟩ := hq1
  refine lv_aload_n hx hb dX3_pull_5 rfl (lv_at hl 0 rfl) ?_
  refine lv_iload_n hx hb dX3_pull_6 rfl (lv_at hl 1 rfl) ?_
  refine x_Vi (rest := []) S (c_X3_hasCable l E n f o (p1 := p2) (by omega)) (cwV 1 S.2.2.2.2 gX3_pull_X3_hasCable rfl rfl rfl (by decide +kernel) ⟨Nat.le_of_ble_eq_true rfl, Nat.le_of_ble_eq_true rfl⟩) hW 0 (xw_0 E _) rfl rfl rfl hl.1 (Nat.le_of_ble_eq_true rfl) dX3_pull_7 ⟨Nat.le_of_ble_eq_true rfl, Nat.le_of_ble_eq_true rfl⟩ (fun r7 σ7 H locs hq2 hW => ?_)
  rcases hq2 with ⟨rfl, h7, rfl⟩ | ⟨rfl, h7, rfl⟩
  · rw [hR.cb _ (by omega)] at h7
    refine lv_if_ne (tgt := 23) hx hb dX3_pull_10 (by decide) (fun c10 => ?_) (fun c10 => ?_)
    · exact absurd c10 (by decide)
    exact x_throw (cls := xIS) (text := "the port has no cable") S hfl hTh hW htab hlk (by decide +kernel) w94 wiIS (by decide +kernel) (fun w hw => List.mem_cons_of_mem _ (List.mem_append_left _ (List.mem_append_right _ hw))) xng_IS xgd_IS hl.1 dX3_pull_13 dX3_pull_16 dX3_pull_17 dX3_pull_19 dX3_pull_22 ⟨⟨Nat.le_of_ble_eq_true rfl, Nat.le_of_ble_eq_true rfl⟩, Nat.le_of_ble_eq_true rfl, Nat.le_of_ble_eq_true rfl⟩ (Nat.le_of_ble_eq_true rfl) (Nat.le_of_ble_eq_true rfl) (⟨Or.inr ⟨by rw [ocPull, xif_f (not_not_intro (xPn hp2)), xNa_n (by omega), xif_t (Classical.not_not.mp h7)], rfl⟩, hR.same⟩)
  · rw [hR.cb _ (by omega)] at h7
    refine lv_if_ne (tgt := 23) hx hb dX3_pull_10 (by decide) (fun c10 => ?_) (fun c10 => ?_)
    rotate_left
    · exact absurd c10 (by decide)
    obtain ⟨z, hz, hne, ez, ez2⟩ := (hG.cb p2 hp2).resolve_left h7
    refine lv_aload_n hx hb dX3_pull_23 rfl (lv_at hl 0 rfl) ?_
    refine x_get (v := .ref (E.2.2.2 9)) S hW hinX3 0 (xw_0 E _) rfl 6 (by decide) w27 rfl dX3_pull_24 ?_
    refine lv_iload_n hx hb dX3_pull_27 rfl (lv_at hl 1 rfl) ?_
    refine x_Vi (rest := []) S (c_X2_at l E n f o (i := 4) (by decide) (k := p2) (show _ < 144 from by omega)) (cwV 1 S.2.2.2.2 gX3_pull_X2_at rfl rfl rfl (by decide +kernel) ⟨Nat.le_of_ble_eq_true rfl, Nat.le_of_ble_eq_true rfl⟩) hW 9 (xw_9 E _) rfl rfl rfl hl.1 (Nat.le_of_ble_eq_true rfl) dX3_pull_28 ⟨Nat.le_of_ble_eq_true rfl, Nat.le_of_ble_eq_true rfl⟩ (fun r28 σ28 H locs hq3 hW => ?_)
    obtain ⟨rfl, rfl⟩ := hq3
    refine x_topN (z) ((hR.cb _ (by omega)).trans ez) ?_
    refine lv_istore_n (lv' := [(2, .int (nI z)), (0, .ref (E.2.2.2 0)), (1, .int (nI p2))]) hx hb dX3_pull_31 rfl hl (by decide) rfl (fun ls hl => ?_)
    refine lv_aload_n hx hb dX3_pull_32 rfl (lv_at hl 1 rfl) ?_
    refine lv_iload_n hx hb dX3_pull_33 rfl (lv_at hl 2 rfl) ?_
    refine x_Vv (rest := []) S (c_X3_clearCable l E n f o (p1 := p2) (by omega)) (cwV 1 S.2.2.2.2 gX3_pull_X3_clearCable rfl rfl rfl (by decide +kernel) ⟨Nat.le_of_ble_eq_true rfl, Nat.le_of_ble_eq_true rfl⟩) hW 0 (xw_0 E _) rfl rfl rfl hl.1 (Nat.le_of_ble_eq_true rfl) dX3_pull_34 ⟨Nat.le_of_ble_eq_true rfl, Nat.le_of_ble_eq_true rfl⟩ (fun σ34 H locs hq4 hW => ?_)
    obtain rfl := hq4
    refine lv_aload_n hx hb dX3_pull_37 rfl (lv_at hl 1 rfl) ?_
    refine lv_iload_n hx hb dX3_pull_38 rfl (lv_at hl 0 rfl) ?_
    refine x_Vv (rest := []) S (c_X3_clearCable l E n (xu (xu f 4 (upd (f 4) p2 (-1))) 5 (upd (f 5) p2 0)) o (p1 := z) (by omega)) (cwV 1 S.2.2.2.2 gX3_pull_X3_clearCable rfl rfl rfl (by decide +kernel) ⟨Nat.le_of_ble_eq_true rfl, Nat.le_of_ble_eq_true rfl⟩) hW 0 (xw_0 E _) rfl rfl rfl hl.1 (Nat.le_of_ble_eq_true rfl) dX3_pull_39 ⟨Nat.le_of_ble_eq_true rfl, Nat.le_of_ble_eq_true rfl⟩ (fun σ39 H locs hq5 hW => ?_)
    obtain rfl := hq5
    refine lv_iload_n hx hb dX3_pull_42 rfl (lv_at hl 0 rfl) ?_
    exact x_Xreti S hr hlk hW (Nat.le_of_ble_eq_true rfl) (Nat.le_of_ble_eq_true rfl) dX3_pull_43 (⟨by rw [ocPull, xif_f (not_not_intro (xPn hp2)), xNa_n (by omega), xif_f h7], by rw [xNa_n (by omega), ez], by rw [xNa_n (by omega), ez, xNa_n (by omega)]; exact ⟨n, _, rfl, rep_pull hR, fun _ _ => rfl, fun q hq => by rw [xu_n (by omega), xu_n (by omega), xu_n (by omega), xu_n (by omega)]⟩⟩)

abbrev rmX3_addMove : Room := { frames := 7, cells := 3, slots := 18, locals := 103 }
set_option maxHeartbeats 4000000 in
set_option maxRecDepth 100000 in
theorem c_X3_addMove (l : Launch) (E : xE) (n : Nat → Int32) (f : Nat → Nat → Int32) (o : Nat → Int64) (hfl : l.stackTraces = false) (Γ : xG) (hG : xGood Γ) (hR : xRepC Γ n f) (a a2 : Int32) : xXi l yX3_addMove wsX3_addMove rmX3_addMove E [.ref (E.2.2.2 0), .int a, .int a2] (n, f, o) 3 (fun r σ' => ocMove Γ a a2 = 0 ∧ r = nI (gNm Γ + 1) ∧ xOKC (gMove Γ (xNa a) (xNa a2)) n f o σ') (fun X σ' => xX3 (ocMove Γ a a2) X ∧ xOKC Γ n f o σ') := by
  refine x_startXi RX3 (by decide) rfl rfl (Nat.le_of_ble_eq_true rfl) ?_
  intro p e s m args below meth c ls S hr hlk htab hTh hW hl
  have hx := S.1
  have hb := S.2.1
  have hl : lv_has ls 3 [(0, .ref (E.2.2.2 0)), (1, .int a), (2, .int a2)] := hl
  have hinX3 : ∀ w ∈ wsX30, w ∈ wsX3_addMove := by decide +kernel
  have w60 : Cond.fieldLink RX3 60 "CableBook" "plan" "LCableBook$Plan;" ∈ wsX3_addMove := by decide +kernel
  have w87 : Cond.classLink RX3 87 "java/lang/IllegalArgumentException" ∈ wsX3_addMove := by decide +kernel
  have w94 : Cond.classLink RX3 94 "java/lang/IllegalStateException" ∈ wsX3_addMove := by decide +kernel
  have wiIA : Cond.initialized "java/lang/IllegalArgumentException" ∈ wsX3_addMove := by decide +kernel
  have wiIS : Cond.initialized "java/lang/IllegalStateException" ∈ wsX3_addMove := by decide +kernel
  have hno := hG.no
  have hnp := hG.np
  have hnt := hG.nt
  have hnm := hG.nm
  refine lv_aload_n hx hb dX3_addMove_0 rfl (lv_at hl 0 rfl) ?_
  refine lv_iload_n hx hb dX3_addMove_1 rfl (lv_at hl 1 rfl) ?_
  refine x_XVv (rest := []) S (c_X3_checkPort l E n f o hfl hR.no (by omega) a) (cwV 1 S.2.2.2.2 gX3_addMove_X3_checkPort rfl rfl rfl (by decide +kernel) ⟨Nat.le_of_ble_eq_true rfl, Nat.le_of_ble_eq_true rfl⟩) hW hTh htab hlk (fun X σ9 h => ⟨Or.inl ⟨xif_t (fun q => h.2.1 q.1), h.1⟩, by rw [h.2.2]; exact hR.same⟩) (Nat.le_of_ble_eq_true rfl) (Nat.le_of_ble_eq_true rfl) 0 (xw_0 E _) rfl rfl rfl hl.1 (Nat.le_of_ble_eq_true rfl) dX3_addMove_2 ⟨Nat.le_of_ble_eq_true rfl, Nat.le_of_ble_eq_true rfl⟩ (fun σ2 H locs hq1 hW => ?_)
  obtain ⟨⟨p2, hp2, rfl⟩, rfl⟩ := hq1
  refine lv_aload_n hx hb dX3_addMove_5 rfl (lv_at hl 0 rfl) ?_
  refine lv_iload_n hx hb dX3_addMove_6 rfl (lv_at hl 2 rfl) ?_
  refine x_XVv (rest := []) S (c_X3_checkPort l E n f o hfl hR.no (by omega) a2) (cwV 1 S.2.2.2.2 gX3_addMove_X3_checkPort rfl rfl rfl (by decide +kernel) ⟨Nat.le_of_ble_eq_true rfl, Nat.le_of_ble_eq_true rfl⟩) hW hTh htab hlk (fun X σ9 h => ⟨Or.inl ⟨xif_t (fun q => h.2.1 q.2), h.1⟩, by rw [h.2.2]; exact hR.same⟩) (Nat.le_of_ble_eq_true rfl) (Nat.le_of_ble_eq_true rfl) 0 (xw_0 E _) rfl rfl rfl hl.1 (Nat.le_of_ble_eq_true rfl) dX3_addMove_7 ⟨Nat.le_of_ble_eq_true rfl, Nat.le_of_ble_eq_true rfl⟩ (fun σ7 H locs hq2 hW => ?_)
  obtain ⟨⟨p7, hp7, rfl⟩, rfl⟩ := hq2
  refine lv_iload_n hx hb dX3_addMove_10 rfl (lv_at hl 1 rfl) ?_
  refine lv_iload_n hx hb dX3_addMove_11 rfl (lv_at hl 2 rfl) ?_
  refine x_icmp_ne (a := p2) (b := p7) (tgt := 25) hx hb dX3_addMove_12 (by decide) (by omega) (by omega) (fun c12 => ?_) (fun c12 => ?_)
  · refine lv_aload_n hx hb dX3_addMove_25 rfl (lv_at hl 0 rfl) ?_
    refine x_get (v := .ref (E.2.2.2 39)) S hW hinX3 0 (xw_0 E _) rfl 15 (by decide) w60 rfl dX3_addMove_26 ?_
    refine x_Vi (rest := []) S (c_X1_size l E n f o ) (cwV 0 S.2.2.2.2 gX3_addMove_X1_size rfl rfl rfl (by decide +kernel) ⟨Nat.le_of_ble_eq_true rfl, Nat.le_of_ble_eq_true rfl⟩) hW 39 (xw_39 E _) rfl rfl rfl hl.1 (Nat.le_of_ble_eq_true rfl) dX3_addMove_29 ⟨Nat.le_of_ble_eq_true rfl, Nat.le_of_ble_eq_true rfl⟩ (fun r29 σ29 H locs hq3 hW => ?_)
    obtain ⟨rfl, rfl⟩ := hq3
    refine x_topN (gNm Γ) (hR.nm) ?_
    refine lv_bipush (v := 12) hx hb dX3_addMove_32 (by decide) ?_
    refine x_icmp_lt (a := gNm Γ) (b := 12) (tgt := 47) hx hb dX3_addMove_34 (by decide) (by omega) (by omega) (fun c34 => ?_) (fun c34 => ?_)
    · refine lv_aload_n hx hb dX3_addMove_47 rfl (lv_at hl 0 rfl) ?_
      refine x_get (v := .ref (E.2.2.2 39)) S hW hinX3 0 (xw_0 E _) rfl 15 (by decide) w60 rfl dX3_addMove_48 ?_
      refine lv_iload_n hx hb dX3_addMove_51 rfl (lv_at hl 1 rfl) ?_
      refine lv_iload_n hx hb dX3_addMove_52 rfl (lv_at hl 2 rfl) ?_
      refine x_Vv (rest := []) S (c_X1_add l E n f o (nI p2) (nI p7) hR.nm (by omega)) (cwV 2 S.2.2.2.2 gX3_addMove_X1_add rfl rfl rfl (by decide +kernel) ⟨Nat.le_of_ble_eq_true rfl, Nat.le_of_ble_eq_true rfl⟩) hW 39 (xw_39 E _) rfl rfl rfl hl.1 (Nat.le_of_ble_eq_true rfl) dX3_addMove_53 ⟨Nat.le_of_ble_eq_true rfl, Nat.le_of_ble_eq_true rfl⟩ (fun σ53 H locs hq4 hW => ?_)
      obtain rfl := hq4
      refine lv_aload_n hx hb dX3_addMove_56 rfl (lv_at hl 0 rfl) ?_
      refine x_get (v := .ref (E.2.2.2 39)) S hW hinX3 0 (xw_0 E _) rfl 15 (by decide) w60 rfl dX3_addMove_57 ?_
      refine x_Vi (rest := []) S (c_X1_size l E (xu n 3 (nI (gNm Γ + 1))) (xu (xu f 13 (upd (f 13) (gNm Γ) (nI p2))) 14 (upd (f 14) (gNm Γ) (nI p7))) o ) (cwV 0 S.2.2.2.2 gX3_addMove_X1_size rfl rfl rfl (by decide +kernel) ⟨Nat.le_of_ble_eq_true rfl, Nat.le_of_ble_eq_true rfl⟩) hW 39 (xw_39 E _) rfl rfl rfl hl.1 (Nat.le_of_ble_eq_true rfl) dX3_addMove_60 ⟨Nat.le_of_ble_eq_true rfl, Nat.le_of_ble_eq_true rfl⟩ (fun r60 σ60 H locs hq5 hW => ?_)
      obtain ⟨rfl, rfl⟩ := hq5
      exact x_Xreti S hr hlk hW (Nat.le_of_ble_eq_true rfl) (Nat.le_of_ble_eq_true rfl) dX3_addMove_63 (⟨by rw [ocMove, xif_f (not_not_intro ⟨xPn hp2, xPn hp7⟩), xif_f (fun e => c12 (nI_inj (by omega) (by omega) e)), xif_f (by omega)], rfl, by rw [xNa_n (by omega), xNa_n (by omega)]; exact ⟨_, _, rfl, rep_move hR, fun q hq => xu_n (by omega), fun q hq => by rw [xu_n (by omega), xu_n (by omega)]⟩⟩)
    · exact x_throw (cls := xIS) (text := "no room for another move") S hfl hTh hW htab hlk (by decide +kernel) w94 wiIS (by decide +kernel) (fun w hw => List.mem_cons_of_mem _ (List.mem_append_left _ (List.mem_append_right _ hw))) xng_IS xgd_IS hl.1 dX3_addMove_37 dX3_addMove_40 dX3_addMove_41 dX3_addMove_43 dX3_addMove_46 ⟨⟨Nat.le_of_ble_eq_true rfl, Nat.le_of_ble_eq_true rfl⟩, Nat.le_of_ble_eq_true rfl, Nat.le_of_ble_eq_true rfl⟩ (Nat.le_of_ble_eq_true rfl) (Nat.le_of_ble_eq_true rfl) (⟨Or.inr (Or.inr ⟨by rw [ocMove, xif_f (not_not_intro ⟨xPn hp2, xPn hp7⟩), xif_f (fun e => c12 (nI_inj (by omega) (by omega) e)), xif_t (by omega)], rfl⟩), hR.same⟩)
  · exact x_throw (cls := xIA) (text := "both ports are the same") S hfl hTh hW htab hlk (by decide +kernel) w87 wiIA (by decide +kernel) (fun w hw => List.mem_cons_of_mem _ (List.mem_append_left _ (List.mem_append_left _ (List.mem_append_right _ hw)))) xng_IA xgd_IA hl.1 dX3_addMove_15 dX3_addMove_18 dX3_addMove_19 dX3_addMove_21 dX3_addMove_24 ⟨⟨Nat.le_of_ble_eq_true rfl, Nat.le_of_ble_eq_true rfl⟩, Nat.le_of_ble_eq_true rfl, Nat.le_of_ble_eq_true rfl⟩ (Nat.le_of_ble_eq_true rfl) (Nat.le_of_ble_eq_true rfl) (⟨Or.inr (Or.inl ⟨by rw [ocMove, xif_f (not_not_intro ⟨xPn hp2, xPn hp7⟩), xif_t (by rw [c12])], rfl⟩), hR.same⟩)

abbrev rmX3_dropPlan : Room := { frames := 1, cells := 0, slots := 0, locals := 20 }
set_option maxHeartbeats 4000000 in
set_option maxRecDepth 100000 in
theorem c_X3_dropPlan (l : Launch) (E : xE) (n : Nat → Int32) (f : Nat → Nat → Int32) (o : Nat → Int64) (Γ : xG) (hG : xGood Γ) (hR : xRepC Γ n f) : xCi l yX3_dropPlan wsX3_dropPlan rmX3_dropPlan E [.ref (E.2.2.2 0)] (n, f, o) (fun r σ' => r = nI (gNm Γ) ∧ xOKC (gDrop Γ) n f o σ') := by
  refine x_starti RX3 (by decide) rfl rfl (Nat.le_of_ble_eq_true rfl) ?_
  intro p e s m args below meth c ls S hr hlk hW hl
  have hx := S.1
  have hb := S.2.1
  have hl : lv_has ls 2 [(0, .ref (E.2.2.2 0))] := hl
  have hinX3 : ∀ w ∈ wsX30, w ∈ wsX3_dropPlan := by decide +kernel
  have w60 : Cond.fieldLink RX3 60 "CableBook" "plan" "LCableBook$Plan;" ∈ wsX3_dropPlan := by decide +kernel
  have hno := hG.no
  have hnp := hG.np
  have hnt := hG.nt
  have hnm := hG.nm
  refine lv_aload_n hx hb dX3_dropPlan_0 rfl (lv_at hl 0 rfl) ?_
  refine x_get (v := .ref (E.2.2.2 39)) S hW hinX3 0 (xw_0 E _) rfl 15 (by decide) w60 rfl dX3_dropPlan_1 ?_
  refine x_Vi (rest := []) S (c_X1_size l E n f o ) (cwV 0 S.2.2.2.2 gX3_dropPlan_X1_size rfl rfl rfl (by decide +kernel) ⟨Nat.le_of_ble_eq_true rfl, Nat.le_of_ble_eq_true rfl⟩) hW 39 (xw_39 E _) rfl rfl rfl hl.1 (Nat.le_of_ble_eq_true rfl) dX3_dropPlan_4 ⟨Nat.zero_le _, Nat.zero_le _⟩ (fun r4 σ4 H locs hq1 hW => ?_)
  obtain ⟨rfl, rfl⟩ := hq1
  refine x_topN (gNm Γ) (hR.nm) ?_
  refine lv_istore_n (lv' := [(1, .int (nI (gNm Γ))), (0, .ref (E.2.2.2 0))]) hx hb dX3_dropPlan_7 rfl hl (by decide) rfl (fun ls hl => ?_)
  refine lv_aload_n hx hb dX3_dropPlan_8 rfl (lv_at hl 1 rfl) ?_
  refine x_get (v := .ref (E.2.2.2 39)) S hW hinX3 0 (xw_0 E _) rfl 15 (by decide) w60 rfl dX3_dropPlan_9 ?_
  refine x_Vv (rest := []) S (c_X1_clear l E n f o ) (cwV 0 S.2.2.2.2 gX3_dropPlan_X1_clear rfl rfl rfl (by decide +kernel) ⟨Nat.le_of_ble_eq_true rfl, Nat.le_of_ble_eq_true rfl⟩) hW 39 (xw_39 E _) rfl rfl rfl hl.1 (Nat.le_of_ble_eq_true rfl) dX3_dropPlan_12 ⟨Nat.zero_le _, Nat.zero_le _⟩ (fun σ12 H locs hq2 hW => ?_)
  obtain rfl := hq2
  refine lv_iload_n hx hb dX3_dropPlan_15 rfl (lv_at hl 0 rfl) ?_
  exact x_reti S hr hlk hW dX3_dropPlan_16 (⟨rfl, ⟨_, f, rfl, rep_drop hR, fun q hq => xu_n (by omega), fun _ _ => rfl⟩⟩)

abbrev rmX3_canCarryOut : Room := { frames := 5, cells := 0, slots := 0, locals := 107 }
set_option maxHeartbeats 4000000 in
set_option maxRecDepth 100000 in
theorem c_X3_canCarryOut (l : Launch) (E : xE) (n : Nat → Int32) (f : Nat → Nat → Int32) (o : Nat → Int64) (Γ : xG) (hG : xGood Γ) (hR : xRepC Γ n f) : xCi l yX3_canCarryOut wsX3_canCarryOut rmX3_canCarryOut E [.ref (E.2.2.2 0)] (n, f, o) (fun r σ' => r = xif (gPos Γ) 1 0 ∧ xOKC Γ n f o σ') := by
  refine x_starti RX3 (by decide) rfl rfl (Nat.le_of_ble_eq_true rfl) ?_
  intro p e s m args below meth c ls S hr hlk hW hl
  have hx := S.1
  have hb := S.2.1
  have hl : lv_has ls 1 [(0, .ref (E.2.2.2 0))] := hl
  have hno := hG.no
  have hnp := hG.np
  have hnt := hG.nt
  have hnm := hG.nm
  refine lv_aload_n hx hb dX3_canCarryOut_0 rfl (lv_at hl 0 rfl) ?_
  refine x_Vi (rest := []) S (c_X3_planIsPossible l E n f o hR.nm hG.nm (gMx Γ) (gMy Γ) (fun i hi => ⟨hR.mx i hi, by have := hG.mm i hi; omega⟩) (fun i hi => ⟨hR.my i hi, by have := hG.mm i hi; omega⟩)) (cwV 0 S.2.2.2.2 gX3_canCarryOut_X3_planIsPossible rfl rfl rfl (by decide +kernel) ⟨Nat.le_of_ble_eq_true rfl, Nat.le_of_ble_eq_true rfl⟩) hW 0 (xw_0 E _) rfl rfl rfl hl.1 (Nat.le_of_ble_eq_true rfl) dX3_canCarryOut_1 ⟨Nat.zero_le _, Nat.zero_le _⟩ (fun r1 σ1 H locs hq1 hW => ?_)
  rcases hq1 with ⟨rfl, h1, rfl⟩ | ⟨rfl, h1, rfl⟩
  · exact x_retz S hr hlk hW dX3_canCarryOut_4 (Or.inl rfl) (⟨(xif_f (fun h => h1 ((pos_iff hG hR).mpr h))).symm, hR.same⟩)
  · exact x_retz S hr hlk hW dX3_canCarryOut_4 (Or.inr rfl) (⟨(xif_t ((pos_iff hG hR).mp h1)).symm, hR.same⟩)

abbrev rmX3_carryOut : Room := { frames := 6, cells := 1, slots := 6, locals := 107 }
set_option maxHeartbeats 4000000 in
set_option maxRecDepth 100000 in
theorem c_X3_carryOut (l : Launch) (E : xE) (n : Nat → Int32) (f : Nat → Nat → Int32) (o : Nat → Int64) (hfl : l.stackTraces = false) (Γ : xG) (hG : xGood Γ) (hR : xRepC Γ n f) : xXi l yX3_carryOut wsX3_carryOut rmX3_carryOut E [.ref (E.2.2.2 0)] (n, f, o) 1 (fun r σ' => ocCarry Γ = 0 ∧ r = nI (gNm Γ) ∧ xOKC (gCarry Γ) n f o σ') (fun X σ' => xX1s (ocCarry Γ) X ∧ xOKC Γ n f o σ') := by
  refine x_startXi RX3 (by decide) rfl rfl (Nat.le_of_ble_eq_true rfl) ?_
  intro p e s m args below meth c ls S hr hlk htab hTh hW hl
  have hx := S.1
  have hb := S.2.1
  have hl : lv_has ls 2 [(0, .ref (E.2.2.2 0))] := hl
  have hinX3 : ∀ w ∈ wsX30, w ∈ wsX3_carryOut := by decide +kernel
  have w60 : Cond.fieldLink RX3 60 "CableBook" "plan" "LCableBook$Plan;" ∈ wsX3_carryOut := by decide +kernel
  have w94 : Cond.classLink RX3 94 "java/lang/IllegalStateException" ∈ wsX3_carryOut := by decide +kernel
  have wiIS : Cond.initialized "java/lang/IllegalStateException" ∈ wsX3_carryOut := by decide +kernel
  have hno := hG.no
  have hnp := hG.np
  have hnt := hG.nt
  have hnm := hG.nm
  refine lv_aload_n hx hb dX3_carryOut_0 rfl (lv_at hl 0 rfl) ?_
  refine x_Vi (rest := []) S (c_X3_planIsPossible l E n f o hR.nm hG.nm (gMx Γ) (gMy Γ) (fun i hi => ⟨hR.mx i hi, by have := hG.mm i hi; omega⟩) (fun i hi => ⟨hR.my i hi, by have := hG.mm i hi; omega⟩)) (cwV 0 S.2.2.2.2 gX3_carryOut_X3_planIsPossible rfl rfl rfl (by decide +kernel) ⟨Nat.le_of_ble_eq_true rfl, Nat.le_of_ble_eq_true rfl⟩) hW 0 (xw_0 E _) rfl rfl rfl hl.1 (Nat.le_of_ble_eq_true rfl) dX3_carryOut_1 ⟨Nat.le_of_ble_eq_true rfl, Nat.le_of_ble_eq_true rfl⟩ (fun r1 σ1 H locs hq1 hW => ?_)
  rcases hq1 with ⟨rfl, h1, rfl⟩ | ⟨rfl, h1, rfl⟩
  · refine lv_if_ne (tgt := 17) hx hb dX3_carryOut_4 (by decide) (fun c4 => ?_) (fun c4 => ?_)
    · exact absurd c4 (by decide)
    exact x_throw (cls := xIS) (text := "the plan is not possible") S hfl hTh hW htab hlk (by decide +kernel) w94 wiIS (by decide +kernel) (fun w hw => List.mem_cons_of_mem _ (List.mem_append_right _ hw)) xng_IS xgd_IS hl.1 dX3_carryOut_7 dX3_carryOut_10 dX3_carryOut_11 dX3_carryOut_13 dX3_carryOut_16 ⟨⟨Nat.le_of_ble_eq_true rfl, Nat.le_of_ble_eq_true rfl⟩, Nat.le_of_ble_eq_true rfl, Nat.le_of_ble_eq_true rfl⟩ (Nat.le_of_ble_eq_true rfl) (Nat.le_of_ble_eq_true rfl) (⟨⟨xif_f (fun h => h1 ((pos_iff hG hR).mpr h)), rfl⟩, hR.same⟩)
  · refine lv_if_ne (tgt := 17) hx hb dX3_carryOut_4 (by decide) (fun c4 => ?_) (fun c4 => ?_)
    rotate_left
    · exact absurd c4 (by decide)
    refine lv_aload_n hx hb dX3_carryOut_17 rfl (lv_at hl 0 rfl) ?_
    refine x_get (v := .ref (E.2.2.2 39)) S hW hinX3 0 (xw_0 E _) rfl 15 (by decide) w60 rfl dX3_carryOut_18 ?_
    refine x_Vi (rest := []) S (c_X1_size l E n f o ) (cwV 0 S.2.2.2.2 gX3_carryOut_X1_size rfl rfl rfl (by decide +kernel) ⟨Nat.le_of_ble_eq_true rfl, Nat.le_of_ble_eq_true rfl⟩) hW 39 (xw_39 E _) rfl rfl rfl hl.1 (Nat.le_of_ble_eq_true rfl) dX3_carryOut_21 ⟨Nat.le_of_ble_eq_true rfl, Nat.le_of_ble_eq_true rfl⟩ (fun r21 σ21 H locs hq2 hW => ?_)
    obtain ⟨rfl, rfl⟩ := hq2
    refine x_topN (gNm Γ) (hR.nm) ?_
    refine lv_istore_n (lv' := [(1, .int (nI (gNm Γ))), (0, .ref (E.2.2.2 0))]) hx hb dX3_carryOut_24 rfl hl (by decide) rfl (fun ls hl => ?_)
    refine lv_aload_n hx hb dX3_carryOut_25 rfl (lv_at hl 1 rfl) ?_
    refine x_Vv (rest := []) S (c_X3_pullPlannedEnds l E n f o hR.nm hG.nm (gMx Γ) (fun i hi => ⟨hR.mx i hi, by have := hG.mm i hi; omega⟩)) (cwV 0 S.2.2.2.2 gX3_carryOut_X3_pullPlannedEnds rfl rfl rfl (by decide +kernel) ⟨Nat.le_of_ble_eq_true rfl, Nat.le_of_ble_eq_true rfl⟩) hW 0 (xw_0 E _) rfl rfl rfl hl.1 (Nat.le_of_ble_eq_true rfl) dX3_carryOut_26 ⟨Nat.le_of_ble_eq_true rfl, Nat.le_of_ble_eq_true rfl⟩ (fun σ26 H locs hq3 hW => ?_)
    obtain ⟨G, rfl, hG1, g15, g4, g5⟩ := hq3
    have hgp := (pos_iff hG hR).mp h1
    refine lv_aload_n hx hb dX3_carryOut_29 rfl (lv_at hl 1 rfl) ?_
    refine x_Vv (rest := []) S (c_X3_plugPlannedEnds l E n G o hR.nm hG.nm (gMy Γ) (gZe Γ) (fun i hi => ⟨by rw [hG1 14 (by decide) (by decide) (by decide) (by decide)]; exact hR.my i hi, by have := hG.mm i hi; omega⟩) (by rw [hG1 13 (by decide) (by decide) (by decide) (by decide), hG1 14 (by decide) (by decide) (by decide) (by decide)]; exact car_z hG hR hgp g15) (gNC Γ) (gNK Γ) (car_c hG hR hgp g15)) (cwV 0 S.2.2.2.2 gX3_carryOut_X3_plugPlannedEnds rfl rfl rfl (by decide +kernel) ⟨Nat.le_of_ble_eq_true rfl, Nat.le_of_ble_eq_true rfl⟩) hW 0 (xw_0 E _) rfl rfl rfl hl.1 (Nat.le_of_ble_eq_true rfl) dX3_carryOut_30 ⟨Nat.le_of_ble_eq_true rfl, Nat.le_of_ble_eq_true rfl⟩ (fun σ30 H locs hq4 hW => ?_)
    obtain ⟨G2, rfl, hG2, k4, k5⟩ := hq4
    refine lv_aload_n hx hb dX3_carryOut_33 rfl (lv_at hl 1 rfl) ?_
    refine x_get (v := .ref (E.2.2.2 39)) S hW hinX3 0 (xw_0 E _) rfl 15 (by decide) w60 rfl dX3_carryOut_34 ?_
    refine x_Vv (rest := []) S (c_X1_clear l E n G2 o ) (cwV 0 S.2.2.2.2 gX3_carryOut_X1_clear rfl rfl rfl (by decide +kernel) ⟨Nat.le_of_ble_eq_true rfl, Nat.le_of_ble_eq_true rfl⟩) hW 39 (xw_39 E _) rfl rfl rfl hl.1 (Nat.le_of_ble_eq_true rfl) dX3_carryOut_37 ⟨Nat.le_of_ble_eq_true rfl, Nat.le_of_ble_eq_true rfl⟩ (fun σ37 H locs hq5 hW => ?_)
    obtain rfl := hq5
    refine lv_iload_n hx hb dX3_carryOut_40 rfl (lv_at hl 0 rfl) ?_
    exact x_Xreti S hr hlk hW (Nat.le_of_ble_eq_true rfl) (Nat.le_of_ble_eq_true rfl) dX3_carryOut_41 (⟨xif_t hgp, rfl, ⟨_, G2, rfl, rep_carry hG hR hgp hG1 hG2 g4 g5 k4 k5, fun q hq => xu_n (by omega), fun q hq => by rw [hG2 q (by omega) (by omega), hG1 q (by omega) (by omega) (by omega) (by omega)]⟩⟩)
