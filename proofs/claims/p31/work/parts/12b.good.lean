/-! what is always so stays so -/
theorem gPos.inj {Γ : xG} (h : gPos Γ) {q r : Nat} (hq : gCb Γ q ≠ -1) (hr : gCb Γ r ≠ -1) (e : gMv Γ q = gMv Γ r) : q = r := by
  by_cases mq : ∃ i, i < gNm Γ ∧ gMx Γ i = q <;> by_cases mr : ∃ i, i < gNm Γ ∧ gMx Γ i = r
  · obtain ⟨i, hi, rfl⟩ := mq
    obtain ⟨j, hj, rfl⟩ := mr
    rw [h.at hi, h.at hj] at e
    rw [h.iy hi hj e]
  · obtain ⟨i, hi, rfl⟩ := mq
    rw [h.at hi, gMv_no (fun j hj e2 => mr ⟨j, hj, e2⟩)] at e
    exact absurd ⟨by rw [e]; exact hr, fun ⟨j, hj, e2⟩ => mr ⟨j, hj, e2.trans e⟩⟩ (h i hi).2.2
  · obtain ⟨j, hj, rfl⟩ := mr
    rw [h.at hj, gMv_no (fun i hi e2 => mq ⟨i, hi, e2⟩)] at e
    exact absurd ⟨by rw [← e]; exact hq, fun ⟨i, hi, e2⟩ => mq ⟨i, hi, e2.trans e.symm⟩⟩ (h j hj).2.2
  · rw [gMv_no (fun i hi e2 => mq ⟨i, hi, e2⟩), gMv_no (fun i hi e2 => mr ⟨i, hi, e2⟩)] at e
    exact e
theorem good_plug {Γ : xG} {a b : Nat} {t : Int32} (h : xGood Γ) (ha : a < gNo Γ) (hb : b < gNo Γ) (hab : a ≠ b) (ca : gCb Γ a = -1) (cb : gCb Γ b = -1) : xGood (gPlug Γ a b t) := by
  have hno := h.no
  refine ⟨h.np, h.nt, h.nm, h.f0, h.fn, h.fs, h.rk, h.pn, ?_, h.st, h.bs, h.b01, h.bst, ?_, ?_, ?_, h.tt, h.ts, h.tk, h.mm⟩
  · intro p hp
    show upd (upd (gCb Γ) a (nI b)) b (nI a) p = -1 ∨ ∃ q, q < gNo Γ ∧ q ≠ p ∧ upd (upd (gCb Γ) a (nI b)) b (nI a) p = nI q ∧ upd (upd (gCb Γ) a (nI b)) b (nI a) q = nI p
    have hp : p < gNo Γ := hp
    by_cases e1 : p = b
    · subst e1
      exact Or.inr ⟨a, ha, hab, upd_s, by rw [upd_n hab, upd_s]⟩
    · by_cases e2 : p = a
      · subst e2
        exact Or.inr ⟨b, hb, fun e => hab e.symm, by rw [upd_n e1, upd_s], upd_s⟩
      · rw [upd_n e1, upd_n e2]
        rcases h.cb p hp with c | ⟨q, c1, c2, c3, c4⟩
        · exact Or.inl c
        · refine Or.inr ⟨q, c1, c2, c3, ?_⟩
          have n1 : q ≠ b := fun e => by rw [e, cb] at c4; exact nI_m1 (by omega) c4.symm
          have n2 : q ≠ a := fun e => by rw [e, ca] at c4; exact nI_m1 (by omega) c4.symm
          rw [upd_n n1, upd_n n2]; exact c4
  · intro q hq
    have hq : upd (upd (gCb Γ) a (nI b)) b (nI a) q = -1 := hq
    show upd (upd (gCl Γ) a t) b t q = 0
    by_cases e1 : q = b
    · rw [e1, upd_s] at hq; exact absurd hq (nI_m1 (by omega))
    · by_cases e2 : q = a
      · rw [upd_n e1, e2, upd_s] at hq; exact absurd hq (nI_m1 (by omega))
      · rw [upd_n e1, upd_n e2] at hq ⊢; exact h.cl q hq
  · intro q r hq hr e
    have hq : q < gNo Γ := hq
    have hr : r < gNo Γ := hr
    have e : upd (upd (gCb Γ) a (nI b)) b (nI a) q = nI r := e
    show upd (upd (gCl Γ) a t) b t q = upd (upd (gCl Γ) a t) b t r
    have vab : ∀ z, z = a ∨ z = b → upd (upd (gCl Γ) a t) b t z = t := by
      intro z hz
      by_cases z1 : z = b
      · rw [z1, upd_s]
      · rw [upd_n z1]
        rcases hz with rfl | hz
        · exact upd_s
        · exact absurd hz z1
    by_cases e1 : q = b
    · rw [e1, upd_s] at e
      rw [vab q (Or.inr e1), vab r (Or.inl (nI_inj (by omega) (by omega) e).symm)]
    · by_cases e2 : q = a
      · rw [upd_n e1, e2, upd_s] at e
        rw [vab q (Or.inl e2), vab r (Or.inr (nI_inj (by omega) (by omega) e).symm)]
      · rw [upd_n e1, upd_n e2] at e
        have c4 := (h.cb.inv (by omega) hq (by omega) e).2.2
        have n1 : r ≠ b := fun e => by rw [e, cb] at c4; exact nI_m1 (by omega) c4.symm
        have n2 : r ≠ a := fun e => by rw [e, ca] at c4; exact nI_m1 (by omega) c4.symm
        rw [upd_n e1, upd_n e2, upd_n n1, upd_n n2]
        exact h.cs q r hq hr e
  · intro q hq
    have hq : gNo Γ ≤ q := hq
    show upd (upd (gCb Γ) a (nI b)) b (nI a) q = -1 ∧ gSt Γ q = -1
    rw [upd_n (by omega), upd_n (by omega)]
    exact h.out q hq
theorem good_pull {Γ : xG} {a b : Nat} (h : xGood Γ) (ha : a < gNo Γ) (hb : b < gNo Γ) (ca : gCb Γ a = nI b) (cb : gCb Γ b = nI a) : xGood (gPull Γ a b) := by
  have hno := h.no
  refine ⟨h.np, h.nt, h.nm, h.f0, h.fn, h.fs, h.rk, h.pn, ?_, h.st, h.bs, h.b01, h.bst, ?_, ?_, ?_, h.tt, h.ts, h.tk, h.mm⟩
  · intro p hp
    show upd (upd (gCb Γ) a (-1)) b (-1) p = -1 ∨ ∃ q, q < gNo Γ ∧ q ≠ p ∧ upd (upd (gCb Γ) a (-1)) b (-1) p = nI q ∧ upd (upd (gCb Γ) a (-1)) b (-1) q = nI p
    have hp : p < gNo Γ := hp
    by_cases e1 : p = b
    · left; rw [e1, upd_s]
    · by_cases e2 : p = a
      · left; rw [upd_n e1, e2, upd_s]
      · rw [upd_n e1, upd_n e2]
        rcases h.cb p hp with c | ⟨q, c1, c2, c3, c4⟩
        · exact Or.inl c
        · refine Or.inr ⟨q, c1, c2, c3, ?_⟩
          have n1 : q ≠ b := fun e => by rw [e, cb] at c4; exact e2 (nI_inj (by omega) (by omega) c4).symm
          have n2 : q ≠ a := fun e => by rw [e, ca] at c4; exact e1 (nI_inj (by omega) (by omega) c4).symm
          rw [upd_n n1, upd_n n2]; exact c4
  · intro q hq
    have hq : upd (upd (gCb Γ) a (-1)) b (-1) q = -1 := hq
    show upd (upd (gCl Γ) a 0) b 0 q = 0
    by_cases e1 : q = b
    · rw [e1, upd_s]
    · by_cases e2 : q = a
      · rw [upd_n e1, e2, upd_s]
      · rw [upd_n e1, upd_n e2] at hq ⊢; exact h.cl q hq
  · intro q r hq hr e
    have hq : q < gNo Γ := hq
    have hr : r < gNo Γ := hr
    have e : upd (upd (gCb Γ) a (-1)) b (-1) q = nI r := e
    show upd (upd (gCl Γ) a 0) b 0 q = upd (upd (gCl Γ) a 0) b 0 r
    by_cases e1 : q = b
    · rw [e1, upd_s] at e; exact absurd e.symm (nI_m1 (by omega))
    · by_cases e2 : q = a
      · rw [upd_n e1, e2, upd_s] at e; exact absurd e.symm (nI_m1 (by omega))
      · rw [upd_n e1, upd_n e2] at e
        have c4 := (h.cb.inv (by omega) hq (by omega) e).2.2
        have n1 : r ≠ b := fun e => by rw [e, cb] at c4; exact e2 (nI_inj (by omega) (by omega) c4).symm
        have n2 : r ≠ a := fun e => by rw [e, ca] at c4; exact e1 (nI_inj (by omega) (by omega) c4).symm
        rw [upd_n e1, upd_n e2, upd_n n1, upd_n n2]
        exact h.cs q r hq hr e
  · intro q hq
    have hq : gNo Γ ≤ q := hq
    show upd (upd (gCb Γ) a (-1)) b (-1) q = -1 ∧ gSt Γ q = -1
    rw [upd_n (by omega), upd_n (by omega)]
    exact h.out q hq
theorem good_drop {Γ : xG} (h : xGood Γ) : xGood (gDrop Γ) :=
  ⟨h.np, h.nt, Nat.zero_le _, h.f0, h.fn, h.fs, h.rk, h.pn, h.cb, h.st, h.bs, h.b01, h.bst, h.cl, h.cs, h.out, h.tt, h.ts, h.tk, fun i hi => absurd hi (Nat.not_lt_zero i)⟩
theorem good_move {Γ : xG} {a b : Nat} (h : xGood Γ) (ha : a < gNo Γ) (hb : b < gNo Γ) (hab : a ≠ b) (hm : gNm Γ ≠ 12) : xGood (gMove Γ a b) := by
  have h12 := h.nm
  refine ⟨h.np, h.nt, (show gNm Γ + 1 ≤ 12 by omega), h.f0, h.fn, h.fs, h.rk, h.pn, h.cb, h.st, h.bs, h.b01, h.bst, h.cl, h.cs, h.out, h.tt, h.ts, h.tk, ?_⟩
  intro i hi
  show xu (gMx Γ) (gNm Γ) a i < gNo Γ ∧ xu (gMy Γ) (gNm Γ) b i < gNo Γ ∧ xu (gMx Γ) (gNm Γ) a i ≠ xu (gMy Γ) (gNm Γ) b i
  have hi : i < gNm Γ + 1 := hi
  by_cases e : i = gNm Γ
  · rw [e, xu_s, xu_s]; exact ⟨ha, hb, hab⟩
  · rw [xu_n e, xu_n e]; exact h.mm i (by omega)
theorem good_brk {Γ : xG} {a b : Nat} {v : Int32} (h : xGood Γ) (ha : a < gNo Γ) (hb : b < gNo Γ) (e : gSt Γ a = nI b) (hv : v = 0 ∨ v = 1) : xGood (gBrk Γ a b v) := by
  have hno := h.no
  have e' := (h.st.inv (by omega) ha (by omega) e).2.2
  refine ⟨h.np, h.nt, h.nm, h.f0, h.fn, h.fs, h.rk, h.pn, h.cb, h.st, ?_, ?_, ?_, h.cl, h.cs, h.out, h.tt, h.ts, h.tk, h.mm⟩
  · intro q r hq hr er
    have hq : q < gNo Γ := hq
    have hr : r < gNo Γ := hr
    have er : gSt Γ q = nI r := er
    show upd (upd (gBk Γ) a v) b v q = upd (upd (gBk Γ) a v) b v r
    have vab : ∀ z, z = a ∨ z = b → upd (upd (gBk Γ) a v) b v z = v := by
      intro z hz
      by_cases z1 : z = b
      · rw [z1, upd_s]
      · rw [upd_n z1]
        rcases hz with rfl | hz
        · exact upd_s
        · exact absurd hz z1
    by_cases e1 : q = b
    · rw [vab q (Or.inr e1), vab r (Or.inl (nI_inj (by omega) (by omega) (by rw [← er, e1, e'])))]
    · by_cases e2 : q = a
      · rw [vab q (Or.inl e2), vab r (Or.inr (nI_inj (by omega) (by omega) (by rw [← er, e2, e])))]
      · have c4 := (h.st.inv (by omega) hq (by omega) er).2.2
        have n1 : r ≠ b := fun z => by rw [z, e'] at c4; exact e2 (nI_inj (by omega) (by omega) c4).symm
        have n2 : r ≠ a := fun z => by rw [z, e] at c4; exact e1 (nI_inj (by omega) (by omega) c4).symm
        rw [upd_n e1, upd_n e2, upd_n n1, upd_n n2]
        exact h.bs q r hq hr er
  · intro q
    show upd (upd (gBk Γ) a v) b v q = 0 ∨ upd (upd (gBk Γ) a v) b v q = 1
    by_cases e1 : q = b
    · rw [e1, upd_s]; exact hv
    · by_cases e2 : q = a
      · rw [upd_n e1, e2, upd_s]; exact hv
      · rw [upd_n e1, upd_n e2]; exact h.b01 q
  · intro q hq
    have hq : gSt Γ q = -1 := hq
    show upd (upd (gBk Γ) a v) b v q = 0
    have n1 : q ≠ b := fun z => by rw [z, e'] at hq; exact nI_m1 (by omega) hq
    have n2 : q ≠ a := fun z => by rw [z, e] at hq; exact nI_m1 (by omega) hq
    rw [upd_n n1, upd_n n2]; exact h.bst q hq
theorem good_panel {Γ : xG} {a : Int32} {k j : Nat} (h : xGood Γ) (hp : gNp Γ ≠ 12) (h1 : 1 ≤ k) (h2 : k ≤ 12) (ea : a = nI j) (hj : j ≤ 9) : xGood (gPanel Γ a k) := by
  have hno := h.no
  have h12 := h.np
  have hfn := h.fn
  refine ⟨(show gNp Γ + 1 ≤ 12 by omega), h.nt, h.nm, ?_, ?_, ?_, ?_, ?_, ?_, ?_, ?_, h.b01, h.bst, h.cl, ?_, ?_, h.tt, ?_, ?_, ?_⟩
  · show xu (gFs Γ) (gNp Γ + 1) (gNo Γ + k) 0 = 0
    rw [xu_n (by omega)]; exact h.f0
  · show xu (gFs Γ) (gNp Γ + 1) (gNo Γ + k) (gNp Γ + 1) = gNo Γ + k
    exact xu_s _ _ _
  · intro i hi
    show xu (gFs Γ) (gNp Γ + 1) (gNo Γ + k) i < xu (gFs Γ) (gNp Γ + 1) (gNo Γ + k) (i + 1) ∧ xu (gFs Γ) (gNp Γ + 1) (gNo Γ + k) (i + 1) ≤ xu (gFs Γ) (gNp Γ + 1) (gNo Γ + k) i + 12
    have hi : i < gNp Γ + 1 := hi
    rw [xu_n (show i ≠ gNp Γ + 1 by omega)]
    by_cases e : i = gNp Γ
    · rw [e, xu_s, hfn]; omega
    · rw [xu_n (by omega)]; exact h.fs i (by omega)
  · intro i hi
    show ∃ j, j ≤ 9 ∧ upd (gRk Γ) (gNp Γ) a i = nI j
    have hi : i < gNp Γ + 1 := hi
    by_cases e : i = gNp Γ
    · rw [e, upd_s]; exact ⟨j, hj, ea⟩
    · rw [upd_n e]; exact h.rk i (by omega)
  · intro q hq
    have hq : q < gNo Γ + k := hq
    show (if gNo Γ ≤ q then gNp Γ else gPn Γ q) < gNp Γ + 1 ∧ xu (gFs Γ) (gNp Γ + 1) (gNo Γ + k) (if gNo Γ ≤ q then gNp Γ else gPn Γ q) ≤ q ∧ q < xu (gFs Γ) (gNp Γ + 1) (gNo Γ + k) ((if gNo Γ ≤ q then gNp Γ else gPn Γ q) + 1)
    by_cases e : gNo Γ ≤ q
    · rw [if_pos e, xu_s, xu_n (by omega), hfn]; omega
    · rw [if_neg e]
      obtain ⟨c1, c2, c3⟩ := h.pn q (by omega)
      rw [xu_n (by omega), xu_n (by omega)]
      omega
  · intro p hp
    show gCb Γ p = -1 ∨ ∃ q, q < gNo Γ + k ∧ q ≠ p ∧ gCb Γ p = nI q ∧ gCb Γ q = nI p
    rcases Nat.lt_or_ge p (gNo Γ) with c | c
    · rcases h.cb p c with d | ⟨q, d1, d2, d3, d4⟩
      · exact Or.inl d
      · exact Or.inr ⟨q, by omega, d2, d3, d4⟩
    · exact Or.inl (h.out p c).1
  · intro p hp
    show gSt Γ p = -1 ∨ ∃ q, q < gNo Γ + k ∧ q ≠ p ∧ gSt Γ p = nI q ∧ gSt Γ q = nI p
    rcases Nat.lt_or_ge p (gNo Γ) with c | c
    · rcases h.st p c with d | ⟨q, d1, d2, d3, d4⟩
      · exact Or.inl d
      · exact Or.inr ⟨q, by omega, d2, d3, d4⟩
    · exact Or.inl (h.out p c).2
  · intro q r hq hr e
    have hr : r < gNo Γ + k := hr
    have e : gSt Γ q = nI r := e
    rcases Nat.lt_or_ge q (gNo Γ) with c | c
    · exact h.bs q r c (h.st.inv (by omega) c (by omega) e).1 e
    · exact absurd (e.symm.trans (h.out q c).2) (nI_m1 (by omega))
  · intro q r hq hr e
    have hr : r < gNo Γ + k := hr
    have e : gCb Γ q = nI r := e
    rcases Nat.lt_or_ge q (gNo Γ) with c | c
    · exact h.cs q r c (h.cb.inv (by omega) c (by omega) e).1 e
    · exact absurd (e.symm.trans (h.out q c).1) (nI_m1 (by omega))
  · intro q hq
    have hq : gNo Γ + k ≤ q := hq
    exact h.out q (by omega)
  · intro t ht i hi
    obtain ⟨c1, c2, c3⟩ := h.ts t ht i hi
    exact ⟨(show gTa Γ t + i < gNo Γ + k by omega), (show gTb Γ t + i < gNo Γ + k by omega), c3⟩
  · intro q hq hs
    exact h.tk q (Nat.lt_of_not_le (fun c => hs (h.out q c).2)) hs
  · intro i hi
    obtain ⟨c1, c2, c3⟩ := h.mm i hi
    exact ⟨(show gMx Γ i < gNo Γ + k by omega), (show gMy Γ i < gNo Γ + k by omega), c3⟩
theorem good_trunk {Γ : xG} {a b k : Nat} {t : Int32} (h : xGood Γ) (hk1 : 1 ≤ k) (hk2 : k ≤ 12) (ha : a + k ≤ gNo Γ) (hb : b + k ≤ gNo Γ) (hd : a + k ≤ b ∨ b + k ≤ a) (hn : gNt Γ ≠ 10) (hf : ∀ j, j < k → gSt Γ (a + j) = -1 ∧ gSt Γ (b + j) = -1) : xGood (gTrunk Γ a b k t) := by
  have hno := h.no
  have h10 := h.nt
  have fa : ∀ q, a ≤ q ∧ q < a + k → gSt Γ q = -1 := fun q hq => by have := (hf (q - a) (by omega)).1; rw [show a + (q - a) = q by omega] at this; exact this
  have fb : ∀ q, b ≤ q ∧ q < b + k → gSt Γ q = -1 := fun q hq => by have := (hf (q - b) (by omega)).2; rw [show b + (q - b) = q by omega] at this; exact this
  have va : ∀ q, a ≤ q ∧ q < a + k → xjs (gSt Γ) a b k q = nI (b + (q - a)) := fun q hq => if_pos hq
  have vb : ∀ q, b ≤ q ∧ q < b + k → xjs (gSt Γ) a b k q = nI (a + (q - b)) := fun q hq => by unfold xjs; rw [if_neg (by omega), if_pos hq]
  have vn : ∀ q, ¬ (a ≤ q ∧ q < a + k) → ¬ (b ≤ q ∧ q < b + k) → xjs (gSt Γ) a b k q = gSt Γ q := fun q h1 h2 => by unfold xjs; rw [if_neg h1, if_neg h2]
  have hM : xM (gNo Γ) (xjs (gSt Γ) a b k) := by
    intro p hp
    by_cases c1 : a ≤ p ∧ p < a + k
    · refine Or.inr ⟨b + (p - a), by omega, by omega, va p c1, ?_⟩
      rw [vb _ (by omega)]; congr 1; omega
    · by_cases c2 : b ≤ p ∧ p < b + k
      · refine Or.inr ⟨a + (p - b), by omega, by omega, vb p c2, ?_⟩
        rw [va _ (by omega)]; congr 1; omega
      · rw [vn p c1 c2]
        rcases h.st p hp with d | ⟨q, d1, d2, d3, d4⟩
        · exact Or.inl d
        · refine Or.inr ⟨q, d1, d2, d3, ?_⟩
          rw [vn q (fun c => by rw [fa q c] at d4; exact nI_m1 (by omega) d4.symm) (fun c => by rw [fb q c] at d4; exact nI_m1 (by omega) d4.symm)]
          exact d4
  refine ⟨h.np, (show gNt Γ + 1 ≤ 10 by omega), h.nm, h.f0, h.fn, h.fs, h.rk, h.pn, h.cb, hM, ?_, h.b01, ?_, h.cl, h.cs, ?_, ?_, ?_, ?_, h.mm⟩
  · intro q r hq hr e
    have hq : q < gNo Γ := hq
    have hr : r < gNo Γ := hr
    have e : xjs (gSt Γ) a b k q = nI r := e
    show gBk Γ q = gBk Γ r
    by_cases c1 : a ≤ q ∧ q < a + k
    · rw [va q c1] at e
      have := nI_inj (by omega) (by omega) e
      rw [h.bst q (fa q c1), h.bst r (fb r (by omega))]
    · by_cases c2 : b ≤ q ∧ q < b + k
      · rw [vb q c2] at e
        have := nI_inj (by omega) (by omega) e
        rw [h.bst q (fb q c2), h.bst r (fa r (by omega))]
      · rw [vn q c1 c2] at e
        exact h.bs q r hq hr e
  · intro q hq
    have hq : xjs (gSt Γ) a b k q = -1 := hq
    by_cases c1 : a ≤ q ∧ q < a + k
    · exact h.bst q (fa q c1)
    · by_cases c2 : b ≤ q ∧ q < b + k
      · exact h.bst q (fb q c2)
      · rw [vn q c1 c2] at hq; exact h.bst q hq
  · intro q hq
    have hq : gNo Γ ≤ q := hq
    show gCb Γ q = -1 ∧ xjs (gSt Γ) a b k q = -1
    rw [vn q (by omega) (by omega)]
    exact h.out q hq
  · intro z hz
    show 1 ≤ xu (gTc Γ) (gNt Γ) k z ∧ xu (gTc Γ) (gNt Γ) k z ≤ 12
    have hz : z < gNt Γ + 1 := hz
    by_cases e : z = gNt Γ
    · rw [e, xu_s]; exact ⟨hk1, hk2⟩
    · rw [xu_n e]; exact h.tt z (by omega)
  · intro z hz i hi
    show xu (gTa Γ) (gNt Γ) a z + i < gNo Γ ∧ xu (gTb Γ) (gNt Γ) b z + i < gNo Γ ∧ xjs (gSt Γ) a b k (xu (gTa Γ) (gNt Γ) a z + i) = nI (xu (gTb Γ) (gNt Γ) b z + i)
    have hz : z < gNt Γ + 1 := hz
    have hi : i < xu (gTc Γ) (gNt Γ) k z := hi
    by_cases e : z = gNt Γ
    · rw [e, xu_s] at hi
      rw [e, xu_s, xu_s, va _ (by omega)]
      exact ⟨by omega, by omega, by congr 1; omega⟩
    · rw [xu_n e] at hi
      rw [xu_n e, xu_n e]
      obtain ⟨c1, c2, c3⟩ := h.ts z (by omega) i hi
      rw [vn _ (fun c => by rw [fa _ c] at c3; exact nI_m1 (by omega) c3.symm) (fun c => by rw [fb _ c] at c3; exact nI_m1 (by omega) c3.symm)]
      exact ⟨c1, c2, c3⟩
  · intro q hq hs
    have hq : q < gNo Γ := hq
    have hs : xjs (gSt Γ) a b k q ≠ -1 := hs
    show ∃ z, z < gNt Γ + 1 ∧ xjt (gTk Γ) a b k (nI (gNt Γ)) q = nI z
    unfold xjt
    by_cases c : (a ≤ q ∧ q < a + k) ∨ (b ≤ q ∧ q < b + k)
    · rw [if_pos c]; exact ⟨gNt Γ, by omega, rfl⟩
    · rw [if_neg c]
      rw [vn q (fun d => c (Or.inl d)) (fun d => c (Or.inr d))] at hs
      obtain ⟨z, hz, e⟩ := h.tk q hq hs
      exact ⟨z, by omega, e⟩
theorem gNC_src {Γ : xG} (h : xGood Γ) (hp : gPos Γ) {w : Nat} (hw : gNC Γ w ≠ -1) : ∃ q, q < gNo Γ ∧ gCb Γ q ≠ -1 ∧ gMv Γ q = w := by
  unfold gNC at hw
  cases hg : gfi (gMy Γ) w (gNm Γ) with
  | some j =>
    obtain ⟨b1, b2⟩ := gfi_some hg
    exact ⟨_, (h.mm j b1).1, (hp j b1).1, (hp.at b1).trans b2⟩
  | none =>
    rw [hg] at hw
    cases hg2 : gfi (gMx Γ) w (gNm Γ) with
    | some j => rw [hg2] at hw; exact absurd rfl hw
    | none =>
      rw [hg2] at hw
      by_cases hc : gCb Γ w = -1
      · exact absurd (if_pos hc) hw
      · exact ⟨w, Nat.lt_of_not_le (fun c => hc (h.out w c).1), hc, gMv_no (gfi_none hg2)⟩
theorem gNC_no {Γ : xG} (h : xGood Γ) (hp : gPos Γ) {w : Nat} (hw : gNC Γ w = -1) : gNK Γ w = 0 := by
  have hno := h.no
  unfold gNC at hw
  unfold gNK
  cases hg : gfi (gMy Γ) w (gNm Γ) with
  | some j =>
    rw [hg] at hw
    obtain ⟨b1, b2⟩ := gfi_some hg
    obtain ⟨v, v1, v2, v3⟩ := car_o h hp b1
    have hl := gMv_lt h v1
    exact absurd hw (by show ¬ nI (gZe Γ j) = -1; unfold gZe; rw [v2, xNa_n (by omega)]; exact nI_m1 (by omega))
  | none =>
    rw [hg] at hw
    cases hg2 : gfi (gMx Γ) w (gNm Γ) with
    | some j => rfl
    | none =>
      rw [hg2] at hw
      show gCl Γ w = 0
      have hw : (if gCb Γ w = -1 then -1 else nI (gMv Γ (xNa (gCb Γ w)))) = -1 := hw
      by_cases hc : gCb Γ w = -1
      · exact h.cl w hc
      · rw [if_neg hc] at hw
        have hwn : w < gNo Γ := Nat.lt_of_not_le (fun q => hc (h.out w q).1)
        obtain ⟨v, v1, -, v3, -⟩ := (h.cb w hwn).resolve_left hc
        rw [v3, xNa_n (by omega)] at hw
        have hl := gMv_lt h v1
        exact absurd hw (nI_m1 (by omega))
theorem good_carry {Γ : xG} (h : xGood Γ) (hp : gPos Γ) : xGood (gCarry Γ) := by
  have hno := h.no
  have src : ∀ w, gNC Γ w ≠ -1 → ∃ q r, q < gNo Γ ∧ r < gNo Γ ∧ q ≠ r ∧ gCb Γ q = nI r ∧ gCb Γ r = nI q ∧ gMv Γ q = w ∧ gNC Γ w = nI (gMv Γ r) ∧ gNC Γ (gMv Γ r) = nI w ∧ gNK Γ w = gCl Γ q ∧ gNK Γ (gMv Γ r) = gCl Γ r := by
    intro w hw
    obtain ⟨q, hq, hc, rfl⟩ := gNC_src h hp hw
    obtain ⟨r, r1, r2, r3, r4⟩ := (h.cb q hq).resolve_left hc
    obtain ⟨a1, a2⟩ := gNC_at hp hc
    obtain ⟨b1, b2⟩ := gNC_at hp (q := r) (by rw [r4]; exact nI_m1 (by omega))
    rw [r3, xNa_n (by omega)] at a1
    rw [r4, xNa_n (by omega)] at b1
    exact ⟨q, r, hq, r1, fun e => r2 e.symm, r3, r4, rfl, a1, b1, a2, b2⟩
  refine ⟨h.np, h.nt, Nat.zero_le _, h.f0, h.fn, h.fs, h.rk, h.pn, ?_, h.st, h.bs, h.b01, h.bst, ?_, ?_, ?_, h.tt, h.ts, h.tk, fun i hi => absurd hi (Nat.not_lt_zero i)⟩
  · intro w hw
    show gNC Γ w = -1 ∨ ∃ q, q < gNo Γ ∧ q ≠ w ∧ gNC Γ w = nI q ∧ gNC Γ q = nI w
    by_cases c : gNC Γ w = -1
    · exact Or.inl c
    · obtain ⟨q, r, h1, h2, h3, h4, h5, rfl, h7, h8, -⟩ := src w c
      exact Or.inr ⟨gMv Γ r, gMv_lt h h2, fun e => h3 (hp.inj (by rw [h4]; exact nI_m1 (by omega)) (by rw [h5]; exact nI_m1 (by omega)) e.symm), h7, h8⟩
  · intro w hw
    exact gNC_no h hp hw
  · intro w z hw hz e
    have hz : z < gNo Γ := hz
    have e : gNC Γ w = nI z := e
    show gNK Γ w = gNK Γ z
    obtain ⟨q, r, h1, h2, h3, h4, h5, h6, h7, h8, h9, h10⟩ := src w (by rw [e]; exact nI_m1 (by omega))
    have hl := gMv_lt h h2
    have : z = gMv Γ r := nI_inj (by omega) (by omega) (e.symm.trans h7)
    rw [this, h9, h10]
    exact h.cs q r h1 h2 h4
  · intro w hw
    have hw : gNo Γ ≤ w := hw
    show gNC Γ w = -1 ∧ gSt Γ w = -1
    refine ⟨?_, (h.out w hw).2⟩
    apply Classical.byContradiction
    intro c
    obtain ⟨q, q1, -, q3⟩ := gNC_src h hp c
    have := gMv_lt h q1
    omega
