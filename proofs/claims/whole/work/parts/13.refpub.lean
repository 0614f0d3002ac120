/-! the reference's public methods -/
theorem xbad {oc k : Nat} {A : Nat → xS → Prop} {σ : xS} (e : oc = k) (hk : k ≠ 0) (h : A k σ) : oc ≠ 0 ∧ A oc σ := by rw [e]; exact ⟨hk, h⟩
theorem xRepR.okF {Γ : xG} {n : Nat → Int32} {f : Nat → Nat → Int32} {N : Nat → Int32} {F : Nat → Nat → Int32} {o : Nat → Int64} {k : Nat} (h : xRepR Γ n f) (hn : ∀ q, q ≠ 10 → q ≠ 15 → q ≠ 16 → N q = n q) (hk : N 10 = nI k) (hf : ∀ q, q < 33 → F q = f q) : xOKR Γ n f o k (N, F, o) :=
  ⟨N, F, rfl, h.eqv (fun q h1 h2 h3 => hn q (by omega) h2 h3) (fun q _ h2 => hf q h2), ⟨fun q hq => hn q (by omega) (by omega) (by omega), fun q hq => hf q (by omega)⟩, hk⟩
theorem xOKR.mk {Γ : xG} {n N : Nat → Int32} {f F : Nat → Nat → Int32} {o : Nat → Int64} {k : Nat} (h : xRepR Γ N F) (h1 : ∀ q, q < 10 → N q = n q) (h2 : ∀ q, q < 20 → F q = f q) (h3 : N 10 = nI k) : xOKR Γ n f o k (N, F, o) := ⟨N, F, rfl, h, ⟨h1, h2⟩, h3⟩
theorem xRepR.ok {Γ : xG} {n : Nat → Int32} {f : Nat → Nat → Int32} {o : Nat → Int64} (h : xRepR Γ n f) (k : Nat) : xOKR Γ n f o k (xu n 10 (nI k), f, o) := h.okF (fun q h1 _ _ => xu_n h1) rfl (fun _ _ => rfl)
theorem xRepR.goes {Γ : xG} {n : Nat → Int32} {f : Nat → Nat → Int32} {N : Nat → Int32} {F : Nat → Nat → Int32} {o : Nat → Int64} {k : Nat} (h : xRepR Γ n f) (hn : ∀ q, q ≠ 15 → q ≠ 16 → N q = xu n 10 (nI k) q) (hf : ∀ q, q ≠ 35 → F q = f q) : xOKR Γ n f o k (N, F, o) :=
  h.okF (fun q h1 h2 h3 => (hn q h2 h3).trans (xu_n h1)) (hn 10 (by decide) (by decide)) (fun q hq => hf q (by omega))
theorem xRepR.goes2 {Γ : xG} {n : Nat → Int32} {f : Nat → Nat → Int32} {N : Nat → Int32} {F : Nat → Nat → Int32} {o : Nat → Int64} {k : Nat} (h : xRepR Γ n f) (hn : ∀ q, q ≠ 15 → q ≠ 16 → N q = n q) (hf : ∀ q, q ≠ 35 → F q = f q) : xOKR Γ n f o k (xu N 10 (nI k), F, o) :=
  h.okF (fun q h1 h2 h3 => (xu_n h1).trans (hn q h2 h3)) rfl (fun q hq => hf q (by omega))
theorem xRepR.srch {Γ : xG} {n : Nat → Int32} {f : Nat → Nat → Int32} {F : Nat → Nat → Int32} {o : Nat → Int64} {k : Nat} (h : xRepR Γ n f) (hf : ∀ q, q ≠ 36 → F q = f q) : xOKR Γ n f o k (xu n 10 (nI k), F, o) :=
  h.okF (fun q h1 _ _ => xu_n h1) rfl (fun q hq => hf q (by omega))
theorem xRepR.laid {Γ : xG} {n : Nat → Int32} {f : Nat → Nat → Int32} {F : Nat → Nat → Int32} {o : Nat → Int64} {k : Nat} (h : xRepR Γ n f) (hf : ∀ q, q ≠ 33 → q ≠ 34 → F q = f q) : xOKR Γ n f o k (xu n 10 (nI k), F, o) :=
  h.okF (fun q h1 _ _ => xu_n h1) rfl (fun q hq => hf q (by omega) (by omega))
theorem repR_drop {Γ : xG} {n : Nat → Int32} {f : Nat → Nat → Int32} (h : xRepR Γ n f) : xRepR (gDrop Γ) (xu (xu n 10 0) 14 0) f :=
  ⟨h.np, h.no, h.nt, rfl, h.rk, h.fs, h.cb, h.cl, h.st, h.tk, h.bk, h.ta, h.tb, h.tc, h.tl_, fun i hi => absurd hi (Nat.not_lt_zero i), fun i hi => absurd hi (Nat.not_lt_zero i)⟩
theorem repR_pull {Γ : xG} {n : Nat → Int32} {f : Nat → Nat → Int32} {a b : Nat} (h : xRepR Γ n f) : xRepR (gPull Γ a b) (xu n 10 0) (xu f 22 (upd (upd (f 22) a (-1)) b (-1))) := by
  refine ⟨h.np, h.no, h.nt, h.nm, h.rk, h.fs, upd_cc (upd_cc h.cb), ?_, h.st, h.tk, h.bk, h.ta, h.tb, h.tc, h.tl_, h.mx, h.my⟩
  intro q hq hc
  show f 23 q = upd (upd (gCl Γ) a 0) b 0 q
  have hc : upd (upd (gCb Γ) a (-1)) b (-1) q ≠ -1 := hc
  by_cases e1 : q = b
  · rw [e1, upd_s] at hc; exact absurd rfl hc
  · rw [upd_n e1] at hc ⊢
    by_cases e2 : q = a
    · rw [e2, upd_s] at hc; exact absurd rfl hc
    · rw [upd_n e2] at hc ⊢
      exact h.cl q hq hc
theorem repR_plug {Γ : xG} {n : Nat → Int32} {f : Nat → Nat → Int32} {a b : Nat} {t : Int32} (h : xRepR Γ n f) : xRepR (gPlug Γ a b t) (xu n 10 0) (xu (xu f 22 (upd (upd (f 22) a (nI b)) b (nI a))) 23 (upd (upd (f 23) a t) b t)) := by
  refine ⟨h.np, h.no, h.nt, h.nm, h.rk, h.fs, upd_cc (upd_cc h.cb), ?_, h.st, h.tk, h.bk, h.ta, h.tb, h.tc, h.tl_, h.mx, h.my⟩
  intro q hq hc
  show upd (upd (f 23) a t) b t q = upd (upd (gCl Γ) a t) b t q
  have hc : upd (upd (gCb Γ) a (nI b)) b (nI a) q ≠ -1 := hc
  by_cases e1 : q = b
  · rw [e1, upd_s, upd_s]
  · rw [upd_n e1] at hc
    rw [upd_n e1, upd_n e1]
    by_cases e2 : q = a
    · rw [e2, upd_s, upd_s]
    · rw [upd_n e2] at hc
      rw [upd_n e2, upd_n e2]
      exact h.cl q hq hc
theorem repR_move {Γ : xG} {n : Nat → Int32} {f : Nat → Nat → Int32} {a b : Nat} (h : xRepR Γ n f) : xRepR (gMove Γ a b) (xu (xu n 10 0) 14 (nI (gNm Γ + 1))) (xu (xu f 31 (upd (f 31) (gNm Γ) (nI a))) 32 (upd (f 32) (gNm Γ) (nI b))) :=
  ⟨h.np, h.no, h.nt, rfl, h.rk, h.fs, h.cb, h.cl, h.st, h.tk, h.bk, h.ta, h.tb, h.tc, h.tl_, upd_nS h.mx, upd_nS h.my⟩
theorem repR_brk {Γ : xG} {n : Nat → Int32} {f : Nat → Nat → Int32} {a b : Nat} {v : Int32} (h : xRepR Γ n f) : xRepR (gBrk Γ a b v) (xu n 10 0) (xu f 26 (upd (upd (f 26) a v) b v)) :=
  ⟨h.np, h.no, h.nt, h.nm, h.rk, h.fs, h.cb, h.cl, h.st, h.tk, upd_cc (upd_cc h.bk), h.ta, h.tb, h.tc, h.tl_, h.mx, h.my⟩
theorem xap {F : Nat → Nat → Int32} {b z : Nat} (h : ∀ q, b ≤ q → q < z → F 22 q = -1 ∧ F 24 q = -1) : ∀ q, b ≤ q → q < z + 1 → upd (F 22) z (-1) q = -1 ∧ upd (F 24) z (-1) q = -1 := by
  intro q h1 h2
  by_cases e : q = z
  · rw [e, upd_s, upd_s]; exact ⟨rfl, rfl⟩
  · rw [upd_n e, upd_n e]; exact h q h1 (by omega)
theorem repR_panel {Γ : xG} {n : Nat → Int32} {f : Nat → Nat → Int32} {F : Nat → Nat → Int32} {a : Int32} {k : Nat} (hG : xGood Γ) (h : xRepR Γ n f) (hk : gNo Γ + k ≤ 144) (hF : ∀ q, q ≠ 22 → q ≠ 24 → F q = (xu f 20 (upd (f 20) (gNp Γ) a)) q) (h22 : ∀ q, q < gNo Γ → F 22 q = f 22 q ∧ F 24 q = f 24 q) (h24 : ∀ q, gNo Γ ≤ q → q < gNo Γ + k → F 22 q = -1 ∧ F 24 q = -1) :
    xRepR (gPanel Γ a k) (xu (xu (xu n 10 0) 11 (nI (gNp Γ + 1))) 12 (nI (gNo Γ + k))) (xu F 21 (upd (F 21) (gNp Γ + 1) (nI (gNo Γ + k)))) := by
  have e : ∀ q, q ≠ 20 → q ≠ 22 → q ≠ 24 → F q = f q := fun q h0 h1 h2 => (hF q h1 h2).trans (xu_n h0)
  refine ⟨rfl, rfl, h.nt, h.nm, ?_, ?_, ?_, ?_, ?_, ?_, ?_, ?_, ?_, ?_, ?_, ?_, ?_⟩
  · show ∀ j, j < gNp Γ + 1 → F 20 j = upd (gRk Γ) (gNp Γ) a j
    rw [show F 20 = upd (f 20) (gNp Γ) a from hF 20 (by decide) (by decide)]
    exact upd_cS h.rk
  · intro j hj
    show upd (F 21) (gNp Γ + 1) (nI (gNo Γ + k)) j = nI (xu (gFs Γ) (gNp Γ + 1) (gNo Γ + k) j)
    have hj : j ≤ gNp Γ + 1 := hj
    by_cases c : j = gNp Γ + 1
    · rw [c, upd_s, xu_s]
    · rw [upd_n c, xu_n c, e 21 (by decide) (by decide) (by decide)]; exact h.fs j (by omega)
  · intro q hq
    show F 22 q = gCb Γ q
    have hq : q < gNo Γ + k := hq
    rcases Nat.lt_or_ge q (gNo Γ) with c | c
    · rw [(h22 q c).1]; exact h.cb q c
    · rw [(h24 q c hq).1, (hG.out q c).1]
  · intro q hq hc
    show F 23 q = gCl Γ q
    have hc : gCb Γ q ≠ -1 := hc
    rw [e 23 (by decide) (by decide) (by decide)]
    exact h.cl q (Nat.lt_of_not_le (fun c => hc (hG.out q c).1)) hc
  · intro q hq
    show F 24 q = gSt Γ q
    have hq : q < gNo Γ + k := hq
    rcases Nat.lt_or_ge q (gNo Γ) with c | c
    · rw [(h22 q c).2]; exact h.st q c
    · rw [(h24 q c hq).2, (hG.out q c).2]
  · intro q hq hc
    show F 25 q = gTk Γ q
    have hc : gSt Γ q ≠ -1 := hc
    rw [e 25 (by decide) (by decide) (by decide)]
    exact h.tk q (Nat.lt_of_not_le (fun c => hc (hG.out q c).2)) hc
  · show ∀ q, q < 144 → F 26 q = gBk Γ q
    rw [e 26 (by decide) (by decide) (by decide)]; exact h.bk
  · show ∀ t, t < gNt Γ → F 27 t = nI (gTa Γ t)
    rw [e 27 (by decide) (by decide) (by decide)]; exact h.ta
  · show ∀ t, t < gNt Γ → F 28 t = nI (gTb Γ t)
    rw [e 28 (by decide) (by decide) (by decide)]; exact h.tb
  · show ∀ t, t < gNt Γ → F 29 t = nI (gTc Γ t)
    rw [e 29 (by decide) (by decide) (by decide)]; exact h.tc
  · show ∀ t, t < gNt Γ → F 30 t = gTl Γ t
    rw [e 30 (by decide) (by decide) (by decide)]; exact h.tl_
  · show ∀ t, t < gNm Γ → F 31 t = nI (gMx Γ t)
    rw [e 31 (by decide) (by decide) (by decide)]; exact h.mx
  · show ∀ t, t < gNm Γ → F 32 t = nI (gMy Γ t)
    rw [e 32 (by decide) (by decide) (by decide)]; exact h.my
theorem ocTrunk_lt (Γ : xG) (a b s t : Int32) : ocTrunk Γ a b s t < 4 := by
  unfold ocTrunk
  by_cases h1 : ¬ (xP (gNo Γ) a ∧ xP (gNo Γ) b)
  · rw [xif_t h1]; decide
  · rw [xif_f h1]
    by_cases h2 : ¬ (1 ≤ s ∧ s ≤ 12) ∨ ¬ (1 ≤ t ∧ t ≤ 500) ∨ (gPn Γ (xNa a) = gPn Γ (xNa b) ∨ (gFs Γ (gPn Γ (xNa a) + 1) < xNa a + xNa s ∨ gFs Γ (gPn Γ (xNa b) + 1) < xNa b + xNa s))
    · rw [xif_t h2]; decide
    · rw [xif_f h2]
      by_cases h3 : gNt Γ = 10 ∨ ∃ j, j < xNa s ∧ (gSt Γ (xNa a + j) ≠ -1 ∨ gSt Γ (xNa b + j) ≠ -1)
      · rw [xif_t h3]; decide
      · rw [xif_f h3]; decide
theorem xif_0 {P : Prop} {k m : Nat} (h : xif P (k + 1) m = 0) : ¬ P ∧ m = 0 := by
  by_cases hp : P
  · rw [xif_t hp] at h; omega
  · rw [xif_f hp] at h; exact ⟨hp, h⟩
theorem ocTrunk_0 {Γ : xG} {a b s t : Int32} (hG : xGood Γ) (h : ocTrunk Γ a b s t = 0) : ∃ p q k, a = nI p ∧ b = nI q ∧ s = nI k ∧ p < gNo Γ ∧ q < gNo Γ ∧ 1 ≤ k ∧ k ≤ 12 ∧ gPn Γ p ≠ gPn Γ q ∧ p + k ≤ gFs Γ (gPn Γ p + 1) ∧ q + k ≤ gFs Γ (gPn Γ q + 1) ∧ gNt Γ ≠ 10 ∧ (∀ j, j < k → gSt Γ (p + j) = -1 ∧ gSt Γ (q + j) = -1) ∧ (1 ≤ t ∧ t ≤ 500) := by
  · have hno := hG.no
    unfold ocTrunk at h
    obtain ⟨h1, h⟩ := xif_0 h
    obtain ⟨h2, h⟩ := xif_0 h
    obtain ⟨h3, -⟩ := xif_0 h
    obtain ⟨⟨p, hp, rfl⟩, q, hq, rfl⟩ := Classical.not_not.mp h1
    obtain ⟨h21, h22⟩ := not_or.mp h2
    obtain ⟨k, k1, k2, rfl⟩ := xin112 (Classical.not_not.mp h21)
    rw [xNa_n (by omega), xNa_n (by omega), xNa_n (by omega)] at h22 h3
    obtain ⟨h23, h24⟩ := not_or.mp h22
    obtain ⟨h31, h32⟩ := not_or.mp h3
    refine ⟨p, q, k, rfl, rfl, rfl, hp, hq, k1, k2, by omega, by omega, by omega, h31, fun j hj => ⟨?_, ?_⟩, Classical.not_not.mp h23⟩
    · exact Classical.not_not.mp (fun e => h32 ⟨j, hj, Or.inl e⟩)
    · exact Classical.not_not.mp (fun e => h32 ⟨j, hj, Or.inr e⟩)
theorem xbk0 {g g' : Nat → Int32} {k : Nat} (h : ∀ q, q < 144 → g q = g' q) (hk : g' k = 0) : ∀ q, q < 144 → upd g k 0 q = g' q := by
  intro q hq
  by_cases e : q = k
  · rw [e, upd_s, hk]
  · rw [upd_n e]; exact h q hq
theorem repR_trunk {Γ : xG} {n : Nat → Int32} {f : Nat → Nat → Int32} {F : Nat → Nat → Int32} {a b k : Nat} {t : Int32} (hG : xGood Γ) (h : xRepR Γ n f) (ha : a + k ≤ gNo Γ) (hb : b + k ≤ gNo Γ) (hF : ∀ q, q ≠ 24 → q ≠ 25 → q ≠ 26 → F q = f q) (h24 : ∀ q, F 24 q = xjs (f 24) a b k q) (h25 : ∀ q, F 25 q = xjt (f 25) a b k (nI (gNt Γ)) q) (h26 : ∀ q, q < 144 → F 26 q = gBk Γ q) :
    xRepR (gTrunk Γ a b k t) (xu (xu n 10 (nI 0)) 13 (nI (gNt Γ + 1))) (xu (xu (xu (xu F 27 (upd (F 27) (gNt Γ) (nI a))) 28 (upd (F 28) (gNt Γ) (nI b))) 29 (upd (F 29) (gNt Γ) (nI k))) 30 (upd (F 30) (gNt Γ) t)) := by
  refine ⟨h.np, h.no, rfl, h.nm, ?_, ?_, ?_, ?_, ?_, ?_, h26, ?_, ?_, ?_, ?_, ?_, ?_⟩
  · show ∀ j, j < gNp Γ → F 20 j = gRk Γ j
    rw [hF 20 (by decide) (by decide) (by decide)]; exact h.rk
  · show ∀ j, j ≤ gNp Γ → F 21 j = nI (gFs Γ j)
    rw [hF 21 (by decide) (by decide) (by decide)]; exact h.fs
  · show ∀ q, q < gNo Γ → F 22 q = gCb Γ q
    rw [hF 22 (by decide) (by decide) (by decide)]; exact h.cb
  · show ∀ q, q < gNo Γ → gCb Γ q ≠ -1 → F 23 q = gCl Γ q
    rw [hF 23 (by decide) (by decide) (by decide)]; exact h.cl
  · intro q hq
    have hq : q < gNo Γ := hq
    show F 24 q = xjs (gSt Γ) a b k q
    rw [h24 q]
    unfold xjs
    rw [h.st q hq]
  · intro q hq hs
    have hq : q < gNo Γ := hq
    have hs : xjs (gSt Γ) a b k q ≠ -1 := hs
    show F 25 q = xjt (gTk Γ) a b k (nI (gNt Γ)) q
    rw [h25 q]
    unfold xjt
    by_cases c1 : (a ≤ q ∧ q < a + k) ∨ (b ≤ q ∧ q < b + k)
    · rw [if_pos c1, if_pos c1]
    · rw [if_neg c1, if_neg c1]
      unfold xjs at hs
      rw [if_neg (fun e => c1 (Or.inl e)), if_neg (fun e => c1 (Or.inr e))] at hs
      exact h.tk q hq hs
  · show ∀ q, q < gNt Γ + 1 → upd (F 27) (gNt Γ) (nI a) q = nI (xu (gTa Γ) (gNt Γ) a q)
    rw [hF 27 (by decide) (by decide) (by decide)]; exact upd_nS h.ta
  · show ∀ q, q < gNt Γ + 1 → upd (F 28) (gNt Γ) (nI b) q = nI (xu (gTb Γ) (gNt Γ) b q)
    rw [hF 28 (by decide) (by decide) (by decide)]; exact upd_nS h.tb
  · show ∀ q, q < gNt Γ + 1 → upd (F 29) (gNt Γ) (nI k) q = nI (xu (gTc Γ) (gNt Γ) k q)
    rw [hF 29 (by decide) (by decide) (by decide)]; exact upd_nS h.tc
  · show ∀ q, q < gNt Γ + 1 → upd (F 30) (gNt Γ) t q = upd (gTl Γ) (gNt Γ) t q
    rw [hF 30 (by decide) (by decide) (by decide)]; exact upd_cS h.tl_
  · show ∀ q, q < gNm Γ → F 31 q = nI (gMx Γ q)
    rw [hF 31 (by decide) (by decide) (by decide)]; exact h.mx
  · show ∀ q, q < gNm Γ → F 32 q = nI (gMy Γ q)
    rw [hF 32 (by decide) (by decide) (by decide)]; exact h.my
theorem repR_carry {Γ : xG} {n : Nat → Int32} {f : Nat → Nat → Int32} {G : Nat → Nat → Int32} (h : xRepR Γ n f) (hF : ∀ q, q ≠ 22 → q ≠ 23 → q ≠ 33 → q ≠ 34 → G q = f q) (h22 : ∀ z, z < gNo Γ → G 22 z = gNC Γ z) (h23 : ∀ z, z < gNo Γ → G 23 z = gNK Γ z) : xRepR (gCarry Γ) (xu (xu n 10 0) 14 0) G := by
  refine ⟨h.np, h.no, h.nt, rfl, ?_, ?_, h22, fun q hq _ => h23 q hq, ?_, ?_, ?_, ?_, ?_, ?_, ?_, fun i hi => absurd hi (Nat.not_lt_zero i), fun i hi => absurd hi (Nat.not_lt_zero i)⟩
  · rw [hF 20 (by decide) (by decide) (by decide) (by decide)]; exact h.rk
  · rw [hF 21 (by decide) (by decide) (by decide) (by decide)]; exact h.fs
  · rw [hF 24 (by decide) (by decide) (by decide) (by decide)]; exact h.st
  · rw [hF 25 (by decide) (by decide) (by decide) (by decide)]; exact h.tk
  · rw [hF 26 (by decide) (by decide) (by decide) (by decide)]; exact h.bk
  · rw [hF 27 (by decide) (by decide) (by decide) (by decide)]; exact h.ta
  · rw [hF 28 (by decide) (by decide) (by decide) (by decide)]; exact h.tb
  · rw [hF 29 (by decide) (by decide) (by decide) (by decide)]; exact h.tc
  · rw [hF 30 (by decide) (by decide) (by decide) (by decide)]; exact h.tl_

abbrev rmX4_ports : Room := { frames := 0, cells := 0, slots := 0, locals := 0 }
set_option maxHeartbeats 4000000 in
set_option maxRecDepth 100000 in
theorem c_X4_ports (l : Launch) (E : xE) (n : Nat → Int32) (f : Nat → Nat → Int32) (o : Nat → Int64) (Γ : xG) (hG : xGood Γ) (hR : xRepR Γ n f) : xCi l yX4_ports wsX4_ports rmX4_ports E [.ref (E.2.2.2 40)] (n, f, o) (fun r σ' => r = nI (gNo Γ) ∧ xOKR Γ n f o 0 σ') := by
  refine x_starti RX4 (by decide) rfl rfl (Nat.le_of_ble_eq_true rfl) ?_
  intro p e s m args below meth c ls S hr hlk hW hl
  have hx := S.1
  have hb := S.2.1
  have hl : lv_has ls 1 [(0, .ref (E.2.2.2 40))] := hl
  have hinX4 : ∀ w ∈ wsX40, w ∈ wsX4_ports := by decide +kernel
  have w62 : Cond.fieldLink RX4 62 "CableBookModel" "thrown" "I" ∈ wsX4_ports := by decide +kernel
  have w66 : Cond.fieldLink RX4 66 "CableBookModel" "ports" "I" ∈ wsX4_ports := by decide +kernel
  have hno := hG.no
  have hnp := hG.np
  have hnt := hG.nt
  have hnm := hG.nm
  refine lv_aload_n hx hb dX4_ports_0 rfl (lv_at hl 0 rfl) ?_
  refine lv_iconst (v := 0) hx hb dX4_ports_1 (by decide) ?_
  refine x_put (σ' := ((xu n 10 0), f, o)) S hW hinX4 tyX4 tyX4_ok nmX4 40 (xw_40 E _) rfl 0 (by decide) w62 rfl (by decide +kernel) (Nat.le_of_ble_eq_true rfl) (xw_N10 E _ _ _ _) dX4_ports_2 (fun H locs hW => ?_)
  refine lv_aload_n hx hb dX4_ports_5 rfl (lv_at hl 0 rfl) ?_
  refine x_get (v := .int (n 12)) S hW hinX4 40 (xw_40 E _) rfl 2 (by decide) w66 rfl dX4_ports_6 ?_
  refine x_topN (gNo Γ) (hR.no) ?_
  exact x_reti S hr hlk hW dX4_ports_9 (⟨rfl, hR.ok 0⟩)

abbrev rmX4_trunks : Room := { frames := 0, cells := 0, slots := 0, locals := 0 }
set_option maxHeartbeats 4000000 in
set_option maxRecDepth 100000 in
theorem c_X4_trunks (l : Launch) (E : xE) (n : Nat → Int32) (f : Nat → Nat → Int32) (o : Nat → Int64) (Γ : xG) (hG : xGood Γ) (hR : xRepR Γ n f) : xCi l yX4_trunks wsX4_trunks rmX4_trunks E [.ref (E.2.2.2 40)] (n, f, o) (fun r σ' => r = nI (gNt Γ) ∧ xOKR Γ n f o 0 σ') := by
  refine x_starti RX4 (by decide) rfl rfl (Nat.le_of_ble_eq_true rfl) ?_
  intro p e s m args below meth c ls S hr hlk hW hl
  have hx := S.1
  have hb := S.2.1
  have hl : lv_has ls 1 [(0, .ref (E.2.2.2 40))] := hl
  have hinX4 : ∀ w ∈ wsX40, w ∈ wsX4_trunks := by decide +kernel
  have w62 : Cond.fieldLink RX4 62 "CableBookModel" "thrown" "I" ∈ wsX4_trunks := by decide +kernel
  have w94 : Cond.fieldLink RX4 94 "CableBookModel" "trunks" "I" ∈ wsX4_trunks := by decide +kernel
  have hno := hG.no
  have hnp := hG.np
  have hnt := hG.nt
  have hnm := hG.nm
  refine lv_aload_n hx hb dX4_trunks_0 rfl (lv_at hl 0 rfl) ?_
  refine lv_iconst (v := 0) hx hb dX4_trunks_1 (by decide) ?_
  refine x_put (σ' := ((xu n 10 0), f, o)) S hW hinX4 tyX4 tyX4_ok nmX4 40 (xw_40 E _) rfl 0 (by decide) w62 rfl (by decide +kernel) (Nat.le_of_ble_eq_true rfl) (xw_N10 E _ _ _ _) dX4_trunks_2 (fun H locs hW => ?_)
  refine lv_aload_n hx hb dX4_trunks_5 rfl (lv_at hl 0 rfl) ?_
  refine x_get (v := .int (n 13)) S hW hinX4 40 (xw_40 E _) rfl 3 (by decide) w94 rfl dX4_trunks_6 ?_
  refine x_topN (gNt Γ) (hR.nt) ?_
  exact x_reti S hr hlk hW dX4_trunks_9 (⟨rfl, hR.ok 0⟩)

abbrev rmX4_panelOf : Room := { frames := 2, cells := 0, slots := 0, locals := 43 }
set_option maxHeartbeats 4000000 in
set_option maxRecDepth 100000 in
theorem c_X4_panelOf (l : Launch) (E : xE) (n : Nat → Int32) (f : Nat → Nat → Int32) (o : Nat → Int64) (Γ : xG) (hG : xGood Γ) (hR : xRepR Γ n f) (a : Int32) : xCi l yX4_panelOf wsX4_panelOf rmX4_panelOf E [.ref (E.2.2.2 40), .int a] (n, f, o) (fun r σ' => (ocPort Γ a = 0 ∧ r = nI (gPn Γ (xNa a)) ∧ xOKR Γ n f o 0 σ') ∨ (ocPort Γ a ≠ 0 ∧ xOKR Γ n f o (ocPort Γ a) σ')) := by
  refine x_starti RX4 (by decide) rfl rfl (Nat.le_of_ble_eq_true rfl) ?_
  intro p e s m args below meth c ls S hr hlk hW hl
  have hx := S.1
  have hb := S.2.1
  have hl : lv_has ls 2 [(0, .ref (E.2.2.2 40)), (1, .int a)] := hl
  have hno := hG.no
  have hnp := hG.np
  have hnt := hG.nt
  have hnm := hG.nm
  refine lv_aload_n hx hb dX4_panelOf_0 rfl (lv_at hl 0 rfl) ?_
  refine lv_aload_n hx hb dX4_panelOf_1 rfl (lv_at hl 0 rfl) ?_
  refine lv_iload_n hx hb dX4_panelOf_2 rfl (lv_at hl 1 rfl) ?_
  refine x_Vi (rest := [.ref (E.2.2.2 40)]) S (c_X4_isPort l E n f o Γ hG hR a) (cwV 1 S.2.2.2.2 gX4_panelOf_X4_isPort rfl rfl rfl (by decide +kernel) ⟨Nat.le_of_ble_eq_true rfl, Nat.le_of_ble_eq_true rfl⟩) hW 40 (xw_40 E _) rfl rfl rfl hl.1 (Nat.le_of_ble_eq_true rfl) dX4_panelOf_3 ⟨Nat.zero_le _, Nat.zero_le _⟩ (fun r3 σ3 H locs hq1 hW => ?_)
  rcases hq1 with ⟨rfl, h3, rfl⟩ | ⟨rfl, h3, rfl⟩
  · refine lv_if_eq (tgt := 13) hx hb dX4_panelOf_6 (by decide) (fun c6 => ?_) (fun c6 => ?_)
    rotate_left
    · exact absurd c6 (by decide)
    refine lv_iconst (v := 1) hx hb dX4_panelOf_13 (by decide) ?_
    refine x_Vi (rest := []) S (c_X4_holds l E n f o 1) (cwV 1 S.2.2.2.2 gX4_panelOf_X4_holds rfl rfl rfl (by decide +kernel) ⟨Nat.le_of_ble_eq_true rfl, Nat.le_of_ble_eq_true rfl⟩) hW 40 (xw_40 E _) rfl rfl rfl hl.1 (Nat.le_of_ble_eq_true rfl) dX4_panelOf_14 ⟨Nat.zero_le _, Nat.zero_le _⟩ (fun r14 σ14 H locs hq2 hW => ?_)
    rcases hq2 with ⟨h14, rfl, rfl⟩ | ⟨-, rfl, rfl⟩
    · exact absurd h14 (by decide)
    · refine lv_if_eq (tgt := 28) hx hb dX4_panelOf_17 (by decide) (fun c17 => ?_) (fun c17 => ?_)
      rotate_left
      · exact absurd c17 (by decide)
      refine lv_iconst (v := 0) hx hb dX4_panelOf_28 (by decide) ?_
      exact x_reti S hr hlk hW dX4_panelOf_29 (by first | exact .inr (xbad (k := 1) (xif_t h3) (by decide) (hR.ok 1)) | exact .inl ⟨xif_f (not_not_intro (xPn hq3)), by rw [xNa_n (by omega)], hR.ok 0⟩)
  · obtain ⟨q3, hq3, rfl⟩ := h3
    refine lv_if_eq (tgt := 13) hx hb dX4_panelOf_6 (by decide) (fun c6 => ?_) (fun c6 => ?_)
    · exact absurd c6 (by decide)
    refine lv_iconst (v := 0) hx hb dX4_panelOf_9 (by decide) ?_
    refine lv_goto (tgt := 14) hx hb dX4_panelOf_10 (by decide) ?_
    refine x_Vi (rest := []) S (c_X4_holds l E n f o 0) (cwV 1 S.2.2.2.2 gX4_panelOf_X4_holds rfl rfl rfl (by decide +kernel) ⟨Nat.le_of_ble_eq_true rfl, Nat.le_of_ble_eq_true rfl⟩) hW 40 (xw_40 E _) rfl rfl rfl hl.1 (Nat.le_of_ble_eq_true rfl) dX4_panelOf_14 ⟨Nat.zero_le _, Nat.zero_le _⟩ (fun r14 σ14 H locs hq3 hW => ?_)
    rcases hq3 with ⟨-, rfl, rfl⟩ | ⟨h14, rfl, rfl⟩
    · refine lv_if_eq (tgt := 28) hx hb dX4_panelOf_17 (by decide) (fun c17 => ?_) (fun c17 => ?_)
      · exact absurd c17 (by decide)
      refine lv_aload_n hx hb dX4_panelOf_20 rfl (lv_at hl 0 rfl) ?_
      refine lv_iload_n hx hb dX4_panelOf_21 rfl (lv_at hl 1 rfl) ?_
      refine x_Vi (rest := []) S (c_X4_panel l E (xu n 10 0) f o Γ hG hR (p1 := q3) hq3) (cwV 1 S.2.2.2.2 gX4_panelOf_X4_panel rfl rfl rfl (by decide +kernel) ⟨Nat.le_of_ble_eq_true rfl, Nat.le_of_ble_eq_true rfl⟩) hW 40 (xw_40 E _) rfl rfl rfl hl.1 (Nat.le_of_ble_eq_true rfl) dX4_panelOf_22 ⟨Nat.zero_le _, Nat.zero_le _⟩ (fun r22 σ22 H locs hq4 hW => ?_)
      obtain ⟨rfl, rfl⟩ := hq4
      refine lv_goto (tgt := 29) hx hb dX4_panelOf_25 (by decide) ?_
      exact x_reti S hr hlk hW dX4_panelOf_29 (by first | exact .inr (xbad (k := 1) (xif_t h3) (by decide) (hR.ok 1)) | exact .inl ⟨xif_f (not_not_intro (xPn hq3)), by rw [xNa_n (by omega)], hR.ok 0⟩)
    · exact absurd h14 (by decide)

abbrev rmX4_byCable : Room := { frames := 2, cells := 0, slots := 0, locals := 43 }
set_option maxHeartbeats 4000000 in
set_option maxRecDepth 100000 in
theorem c_X4_byCable (l : Launch) (E : xE) (n : Nat → Int32) (f : Nat → Nat → Int32) (o : Nat → Int64) (Γ : xG) (hG : xGood Γ) (hR : xRepR Γ n f) (a : Int32) : xCi l yX4_byCable wsX4_byCable rmX4_byCable E [.ref (E.2.2.2 40), .int a] (n, f, o) (fun r σ' => (ocPort Γ a = 0 ∧ r = gCb Γ (xNa a) ∧ xOKR Γ n f o 0 σ') ∨ (ocPort Γ a ≠ 0 ∧ xOKR Γ n f o (ocPort Γ a) σ')) := by
  refine x_starti RX4 (by decide) rfl rfl (Nat.le_of_ble_eq_true rfl) ?_
  intro p e s m args below meth c ls S hr hlk hW hl
  have hx := S.1
  have hb := S.2.1
  have hl : lv_has ls 2 [(0, .ref (E.2.2.2 40)), (1, .int a)] := hl
  have hinX4 : ∀ w ∈ wsX40, w ∈ wsX4_byCable := by decide +kernel
  have w16 : Cond.fieldLink RX4 16 "CableBookModel" "cables" "[I" ∈ wsX4_byCable := by decide +kernel
  have hno := hG.no
  have hnp := hG.np
  have hnt := hG.nt
  have hnm := hG.nm
  refine lv_aload_n hx hb dX4_byCable_0 rfl (lv_at hl 0 rfl) ?_
  refine lv_aload_n hx hb dX4_byCable_1 rfl (lv_at hl 0 rfl) ?_
  refine lv_iload_n hx hb dX4_byCable_2 rfl (lv_at hl 1 rfl) ?_
  refine x_Vi (rest := [.ref (E.2.2.2 40)]) S (c_X4_isPort l E n f o Γ hG hR a) (cwV 1 S.2.2.2.2 gX4_byCable_X4_isPort rfl rfl rfl (by decide +kernel) ⟨Nat.le_of_ble_eq_true rfl, Nat.le_of_ble_eq_true rfl⟩) hW 40 (xw_40 E _) rfl rfl rfl hl.1 (Nat.le_of_ble_eq_true rfl) dX4_byCable_3 ⟨Nat.zero_le _, Nat.zero_le _⟩ (fun r3 σ3 H locs hq1 hW => ?_)
  rcases hq1 with ⟨rfl, h3, rfl⟩ | ⟨rfl, h3, rfl⟩
  · refine lv_if_eq (tgt := 13) hx hb dX4_byCable_6 (by decide) (fun c6 => ?_) (fun c6 => ?_)
    rotate_left
    · exact absurd c6 (by decide)
    refine lv_iconst (v := 1) hx hb dX4_byCable_13 (by decide) ?_
    refine x_Vi (rest := []) S (c_X4_holds l E n f o 1) (cwV 1 S.2.2.2.2 gX4_byCable_X4_holds rfl rfl rfl (by decide +kernel) ⟨Nat.le_of_ble_eq_true rfl, Nat.le_of_ble_eq_true rfl⟩) hW 40 (xw_40 E _) rfl rfl rfl hl.1 (Nat.le_of_ble_eq_true rfl) dX4_byCable_14 ⟨Nat.zero_le _, Nat.zero_le _⟩ (fun r14 σ14 H locs hq2 hW => ?_)
    rcases hq2 with ⟨h14, rfl, rfl⟩ | ⟨-, rfl, rfl⟩
    · exact absurd h14 (by decide)
    · refine lv_if_eq (tgt := 29) hx hb dX4_byCable_17 (by decide) (fun c17 => ?_) (fun c17 => ?_)
      rotate_left
      · exact absurd c17 (by decide)
      refine lv_iconst (v := 0) hx hb dX4_byCable_29 (by decide) ?_
      exact x_reti S hr hlk hW dX4_byCable_30 (by first | exact .inr (xbad (k := 1) (xif_t h3) (by decide) (hR.ok 1)) | exact .inl ⟨xif_f (not_not_intro (xPn hq3)), by rw [xNa_n (by omega)]; exact hR.cb _ hq3, hR.ok 0⟩)
  · obtain ⟨q3, hq3, rfl⟩ := h3
    refine lv_if_eq (tgt := 13) hx hb dX4_byCable_6 (by decide) (fun c6 => ?_) (fun c6 => ?_)
    · exact absurd c6 (by decide)
    refine lv_iconst (v := 0) hx hb dX4_byCable_9 (by decide) ?_
    refine lv_goto (tgt := 14) hx hb dX4_byCable_10 (by decide) ?_
    refine x_Vi (rest := []) S (c_X4_holds l E n f o 0) (cwV 1 S.2.2.2.2 gX4_byCable_X4_holds rfl rfl rfl (by decide +kernel) ⟨Nat.le_of_ble_eq_true rfl, Nat.le_of_ble_eq_true rfl⟩) hW 40 (xw_40 E _) rfl rfl rfl hl.1 (Nat.le_of_ble_eq_true rfl) dX4_byCable_14 ⟨Nat.zero_le _, Nat.zero_le _⟩ (fun r14 σ14 H locs hq3 hW => ?_)
    rcases hq3 with ⟨-, rfl, rfl⟩ | ⟨h14, rfl, rfl⟩
    · refine lv_if_eq (tgt := 29) hx hb dX4_byCable_17 (by decide) (fun c17 => ?_) (fun c17 => ?_)
      · exact absurd c17 (by decide)
      refine lv_aload_n hx hb dX4_byCable_20 rfl (lv_at hl 0 rfl) ?_
      refine x_get (v := .ref (E.2.2.2 43)) S hW hinX4 40 (xw_40 E _) rfl 7 (by decide) w16 rfl dX4_byCable_21 ?_
      refine lv_iload_n hx hb dX4_byCable_24 rfl (lv_at hl 1 rfl) ?_
      refine x_ildN (k := q3) (v := ((f 22) q3)) S hW 43 (xw_43 E _) (rfl) (show q3 < 144 from by omega) (by decide) rfl dX4_byCable_25 ?_
      refine lv_goto (tgt := 30) hx hb dX4_byCable_26 (by decide) ?_
      exact x_reti S hr hlk hW dX4_byCable_30 (by first | exact .inr (xbad (k := 1) (xif_t h3) (by decide) (hR.ok 1)) | exact .inl ⟨xif_f (not_not_intro (xPn hq3)), by rw [xNa_n (by omega)]; exact hR.cb _ hq3, hR.ok 0⟩)
    · exact absurd h14 (by decide)

abbrev rmX4_byStrand : Room := { frames := 2, cells := 0, slots := 0, locals := 43 }
set_option maxHeartbeats 4000000 in
set_option maxRecDepth 100000 in
theorem c_X4_byStrand (l : Launch) (E : xE) (n : Nat → Int32) (f : Nat → Nat → Int32) (o : Nat → Int64) (Γ : xG) (hG : xGood Γ) (hR : xRepR Γ n f) (a : Int32) : xCi l yX4_byStrand wsX4_byStrand rmX4_byStrand E [.ref (E.2.2.2 40), .int a] (n, f, o) (fun r σ' => (ocPort Γ a = 0 ∧ r = gSt Γ (xNa a) ∧ xOKR Γ n f o 0 σ') ∨ (ocPort Γ a ≠ 0 ∧ xOKR Γ n f o (ocPort Γ a) σ')) := by
  refine x_starti RX4 (by decide) rfl rfl (Nat.le_of_ble_eq_true rfl) ?_
  intro p e s m args below meth c ls S hr hlk hW hl
  have hx := S.1
  have hb := S.2.1
  have hl : lv_has ls 2 [(0, .ref (E.2.2.2 40)), (1, .int a)] := hl
  have hinX4 : ∀ w ∈ wsX40, w ∈ wsX4_byStrand := by decide +kernel
  have w22 : Cond.fieldLink RX4 22 "CableBookModel" "strands" "[I" ∈ wsX4_byStrand := by decide +kernel
  have hno := hG.no
  have hnp := hG.np
  have hnt := hG.nt
  have hnm := hG.nm
  refine lv_aload_n hx hb dX4_byStrand_0 rfl (lv_at hl 0 rfl) ?_
  refine lv_aload_n hx hb dX4_byStrand_1 rfl (lv_at hl 0 rfl) ?_
  refine lv_iload_n hx hb dX4_byStrand_2 rfl (lv_at hl 1 rfl) ?_
  refine x_Vi (rest := [.ref (E.2.2.2 40)]) S (c_X4_isPort l E n f o Γ hG hR a) (cwV 1 S.2.2.2.2 gX4_byStrand_X4_isPort rfl rfl rfl (by decide +kernel) ⟨Nat.le_of_ble_eq_true rfl, Nat.le_of_ble_eq_true rfl⟩) hW 40 (xw_40 E _) rfl rfl rfl hl.1 (Nat.le_of_ble_eq_true rfl) dX4_byStrand_3 ⟨Nat.zero_le _, Nat.zero_le _⟩ (fun r3 σ3 H locs hq1 hW => ?_)
  rcases hq1 with ⟨rfl, h3, rfl⟩ | ⟨rfl, h3, rfl⟩
  · refine lv_if_eq (tgt := 13) hx hb dX4_byStrand_6 (by decide) (fun c6 => ?_) (fun c6 => ?_)
    rotate_left
    · exact absurd c6 (by decide)
    refine lv_iconst (v := 1) hx hb dX4_byStrand_13 (by decide) ?_
    refine x_Vi (rest := []) S (c_X4_holds l E n f o 1) (cwV 1 S.2.2.2.2 gX4_byStrand_X4_holds rfl rfl rfl (by decide +kernel) ⟨Nat.le_of_ble_eq_true rfl, Nat.le_of_ble_eq_true rfl⟩) hW 40 (xw_40 E _) rfl rfl rfl hl.1 (Nat.le_of_ble_eq_true rfl) dX4_byStrand_14 ⟨Nat.zero_le _, Nat.zero_le _⟩ (fun r14 σ14 H locs hq2 hW => ?_)
    rcases hq2 with ⟨h14, rfl, rfl⟩ | ⟨-, rfl, rfl⟩
    · exact absurd h14 (by decide)
    · refine lv_if_eq (tgt := 29) hx hb dX4_byStrand_17 (by decide) (fun c17 => ?_) (fun c17 => ?_)
      rotate_left
      · exact absurd c17 (by decide)
      refine lv_iconst (v := 0) hx hb dX4_byStrand_29 (by decide) ?_
      exact x_reti S hr hlk hW dX4_byStrand_30 (by first | exact .inr (xbad (k := 1) (xif_t h3) (by decide) (hR.ok 1)) | exact .inl ⟨xif_f (not_not_intro (xPn hq3)), by rw [xNa_n (by omega)]; exact hR.st _ hq3, hR.ok 0⟩)
  · obtain ⟨q3, hq3, rfl⟩ := h3
    refine lv_if_eq (tgt := 13) hx hb dX4_byStrand_6 (by decide) (fun c6 => ?_) (fun c6 => ?_)
    · exact absurd c6 (by decide)
    refine lv_iconst (v := 0) hx hb dX4_byStrand_9 (by decide) ?_
    refine lv_goto (tgt := 14) hx hb dX4_byStrand_10 (by decide) ?_
    refine x_Vi (rest := []) S (c_X4_holds l E n f o 0) (cwV 1 S.2.2.2.2 gX4_byStrand_X4_holds rfl rfl rfl (by decide +kernel) ⟨Nat.le_of_ble_eq_true rfl, Nat.le_of_ble_eq_true rfl⟩) hW 40 (xw_40 E _) rfl rfl rfl hl.1 (Nat.le_of_ble_eq_true rfl) dX4_byStrand_14 ⟨Nat.zero_le _, Nat.zero_le _⟩ (fun r14 σ14 H locs hq3 hW => ?_)
    rcases hq3 with ⟨-, rfl, rfl⟩ | ⟨h14, rfl, rfl⟩
    · refine lv_if_eq (tgt := 29) hx hb dX4_byStrand_17 (by decide) (fun c17 => ?_) (fun c17 => ?_)
      · exact absurd c17 (by decide)
      refine lv_aload_n hx hb dX4_byStrand_20 rfl (lv_at hl 0 rfl) ?_
      refine x_get (v := .ref (E.2.2.2 45)) S hW hinX4 40 (xw_40 E _) rfl 9 (by decide) w22 rfl dX4_byStrand_21 ?_
      refine lv_iload_n hx hb dX4_byStrand_24 rfl (lv_at hl 1 rfl) ?_
      refine x_ildN (k := q3) (v := ((f 24) q3)) S hW 45 (xw_45 E _) (rfl) (show q3 < 144 from by omega) (by decide) rfl dX4_byStrand_25 ?_
      refine lv_goto (tgt := 30) hx hb dX4_byStrand_26 (by decide) ?_
      exact x_reti S hr hlk hW dX4_byStrand_30 (by first | exact .inr (xbad (k := 1) (xif_t h3) (by decide) (hR.ok 1)) | exact .inl ⟨xif_f (not_not_intro (xPn hq3)), by rw [xNa_n (by omega)]; exact hR.st _ hq3, hR.ok 0⟩)
    · exact absurd h14 (by decide)

abbrev rmX4_colour : Room := { frames := 2, cells := 0, slots := 0, locals := 43 }
set_option maxHeartbeats 4000000 in
set_option maxRecDepth 100000 in
theorem c_X4_colour (l : Launch) (E : xE) (n : Nat → Int32) (f : Nat → Nat → Int32) (o : Nat → Int64) (Γ : xG) (hG : xGood Γ) (hR : xRepR Γ n f) (a : Int32) : xCi l yX4_colour wsX4_colour rmX4_colour E [.ref (E.2.2.2 40), .int a] (n, f, o) (fun r σ' => (ocPort Γ a = 0 ∧ r = gCl Γ (xNa a) ∧ xOKR Γ n f o 0 σ') ∨ (ocPort Γ a ≠ 0 ∧ xOKR Γ n f o (ocPort Γ a) σ')) := by
  refine x_starti RX4 (by decide) rfl rfl (Nat.le_of_ble_eq_true rfl) ?_
  intro p e s m args below meth c ls S hr hlk hW hl
  have hx := S.1
  have hb := S.2.1
  have hl : lv_has ls 2 [(0, .ref (E.2.2.2 40)), (1, .int a)] := hl
  have hinX4 : ∀ w ∈ wsX40, w ∈ wsX4_colour := by decide +kernel
  have w16 : Cond.fieldLink RX4 16 "CableBookModel" "cables" "[I" ∈ wsX4_colour := by decide +kernel
  have w19 : Cond.fieldLink RX4 19 "CableBookModel" "colours" "[I" ∈ wsX4_colour := by decide +kernel
  have hno := hG.no
  have hnp := hG.np
  have hnt := hG.nt
  have hnm := hG.nm
  refine lv_aload_n hx hb dX4_colour_0 rfl (lv_at hl 0 rfl) ?_
  refine lv_aload_n hx hb dX4_colour_1 rfl (lv_at hl 0 rfl) ?_
  refine lv_iload_n hx hb dX4_colour_2 rfl (lv_at hl 1 rfl) ?_
  refine x_Vi (rest := [.ref (E.2.2.2 40)]) S (c_X4_isPort l E n f o Γ hG hR a) (cwV 1 S.2.2.2.2 gX4_colour_X4_isPort rfl rfl rfl (by decide +kernel) ⟨Nat.le_of_ble_eq_true rfl, Nat.le_of_ble_eq_true rfl⟩) hW 40 (xw_40 E _) rfl rfl rfl hl.1 (Nat.le_of_ble_eq_true rfl) dX4_colour_3 ⟨Nat.zero_le _, Nat.zero_le _⟩ (fun r3 σ3 H locs hq1 hW => ?_)
  rcases hq1 with ⟨rfl, h3, rfl⟩ | ⟨rfl, h3, rfl⟩
  · refine lv_if_eq (tgt := 13) hx hb dX4_colour_6 (by decide) (fun c6 => ?_) (fun c6 => ?_)
    rotate_left
    · exact absurd c6 (by decide)
    refine lv_iconst (v := 1) hx hb dX4_colour_13 (by decide) ?_
    refine x_Vi (rest := []) S (c_X4_holds l E n f o 1) (cwV 1 S.2.2.2.2 gX4_colour_X4_holds rfl rfl rfl (by decide +kernel) ⟨Nat.le_of_ble_eq_true rfl, Nat.le_of_ble_eq_true rfl⟩) hW 40 (xw_40 E _) rfl rfl rfl hl.1 (Nat.le_of_ble_eq_true rfl) dX4_colour_14 ⟨Nat.zero_le _, Nat.zero_le _⟩ (fun r14 σ14 H locs hq2 hW => ?_)
    rcases hq2 with ⟨h14, rfl, rfl⟩ | ⟨-, rfl, rfl⟩
    · exact absurd h14 (by decide)
    · refine lv_if_eq (tgt := 39) hx hb dX4_colour_17 (by decide) (fun c17 => ?_) (fun c17 => ?_)
      rotate_left
      · exact absurd c17 (by decide)
      refine lv_iconst (v := 0) hx hb dX4_colour_39 (by decide) ?_
      exact x_reti S hr hlk hW dX4_colour_40 (by first | exact .inr (xbad (k := 1) (xif_t h3) (by decide) (hR.ok 1)) | exact .inl ⟨xif_f (not_not_intro (xPn hq3)), by rw [xNa_n (by omega)]; first | exact (hG.cl _ c27).symm | exact hR.cl _ hq3 c27, hR.ok 0⟩)
  · obtain ⟨q3, hq3, rfl⟩ := h3
    refine lv_if_eq (tgt := 13) hx hb dX4_colour_6 (by decide) (fun c6 => ?_) (fun c6 => ?_)
    · exact absurd c6 (by decide)
    refine lv_iconst (v := 0) hx hb dX4_colour_9 (by decide) ?_
    refine lv_goto (tgt := 14) hx hb dX4_colour_10 (by decide) ?_
    refine x_Vi (rest := []) S (c_X4_holds l E n f o 0) (cwV 1 S.2.2.2.2 gX4_colour_X4_holds rfl rfl rfl (by decide +kernel) ⟨Nat.le_of_ble_eq_true rfl, Nat.le_of_ble_eq_true rfl⟩) hW 40 (xw_40 E _) rfl rfl rfl hl.1 (Nat.le_of_ble_eq_true rfl) dX4_colour_14 ⟨Nat.zero_le _, Nat.zero_le _⟩ (fun r14 σ14 H locs hq3 hW => ?_)
    rcases hq3 with ⟨-, rfl, rfl⟩ | ⟨h14, rfl, rfl⟩
    · refine lv_if_eq (tgt := 39) hx hb dX4_colour_17 (by decide) (fun c17 => ?_) (fun c17 => ?_)
      · exact absurd c17 (by decide)
      refine lv_aload_n hx hb dX4_colour_20 rfl (lv_at hl 0 rfl) ?_
      refine x_get (v := .ref (E.2.2.2 43)) S hW hinX4 40 (xw_40 E _) rfl 7 (by decide) w16 rfl dX4_colour_21 ?_
      refine lv_iload_n hx hb dX4_colour_24 rfl (lv_at hl 1 rfl) ?_
      refine x_ildN (k := q3) (v := ((f 22) q3)) S hW 43 (xw_43 E _) (rfl) (show q3 < 144 from by omega) (by decide) rfl dX4_colour_25 ?_
      refine x_topE (gCb Γ q3) (hR.cb _ hq3) ?_
      refine lv_iconst (v := (-1)) hx hb dX4_colour_26 (by decide) ?_
      refine lv_icmp_eq (tgt := 39) hx hb dX4_colour_27 (by decide) (fun c27 => ?_) (fun c27 => ?_)
      · refine lv_iconst (v := 0) hx hb dX4_colour_39 (by decide) ?_
        exact x_reti S hr hlk hW dX4_colour_40 (by first | exact .inr (xbad (k := 1) (xif_t h3) (by decide) (hR.ok 1)) | exact .inl ⟨xif_f (not_not_intro (xPn hq3)), by rw [xNa_n (by omega)]; first | exact (hG.cl _ c27).symm | exact hR.cl _ hq3 c27, hR.ok 0⟩)
      · refine lv_aload_n hx hb dX4_colour_30 rfl (lv_at hl 0 rfl) ?_
        refine x_get (v := .ref (E.2.2.2 44)) S hW hinX4 40 (xw_40 E _) rfl 8 (by decide) w19 rfl dX4_colour_31 ?_
        refine lv_iload_n hx hb dX4_colour_34 rfl (lv_at hl 1 rfl) ?_
        refine x_ildN (k := q3) (v := ((f 23) q3)) S hW 44 (xw_44 E _) (rfl) (show q3 < 144 from by omega) (by decide) rfl dX4_colour_35 ?_
        refine lv_goto (tgt := 40) hx hb dX4_colour_36 (by decide) ?_
        exact x_reti S hr hlk hW dX4_colour_40 (by first | exact .inr (xbad (k := 1) (xif_t h3) (by decide) (hR.ok 1)) | exact .inl ⟨xif_f (not_not_intro (xPn hq3)), by rw [xNa_n (by omega)]; first | exact (hG.cl _ c27).symm | exact hR.cl _ hq3 c27, hR.ok 0⟩)
    · exact absurd h14 (by decide)

abbrev rmX4_end : Room := { frames := 3, cells := 0, slots := 0, locals := 71 }
set_option maxHeartbeats 4000000 in
set_option maxRecDepth 100000 in
theorem c_X4_end (l : Launch) (E : xE) (n : Nat → Int32) (f : Nat → Nat → Int32) (o : Nat → Int64) (Γ : xG) (hG : xGood Γ) (hR : xRepR Γ n f) (a : Int32) (b : Bool) : xCi l yX4_end wsX4_end rmX4_end E [.ref (E.2.2.2 40), .int a, .int (bz b)] (n, f, o) (fun r σ' => (ocPort Γ a = 0 ∧ (∃ K, xStop (gCb Γ) (gOp Γ) b (xNa a) K ∧ r = xw (gCb Γ) (gOp Γ) b (xNa a) K) ∧ xOKR Γ n f o 0 σ') ∨ (ocPort Γ a ≠ 0 ∧ xOKR Γ n f o (ocPort Γ a) σ')) := by
  refine x_starti RX4 (by decide) rfl rfl (Nat.le_of_ble_eq_true rfl) ?_
  intro p e s m args below meth c ls S hr hlk hW hl
  have hx := S.1
  have hb := S.2.1
  have hl : lv_has ls 3 [(0, .ref (E.2.2.2 40)), (1, .int a), (2, .int (bz b))] := hl
  have hno := hG.no
  have hnp := hG.np
  have hnt := hG.nt
  have hnm := hG.nm
  refine lv_aload_n hx hb dX4_end_0 rfl (lv_at hl 0 rfl) ?_
  refine lv_aload_n hx hb dX4_end_1 rfl (lv_at hl 0 rfl) ?_
  refine lv_iload_n hx hb dX4_end_2 rfl (lv_at hl 1 rfl) ?_
  refine x_Vi (rest := [.ref (E.2.2.2 40)]) S (c_X4_isPort l E n f o Γ hG hR a) (cwV 1 S.2.2.2.2 gX4_end_X4_isPort rfl rfl rfl (by decide +kernel) ⟨Nat.le_of_ble_eq_true rfl, Nat.le_of_ble_eq_true rfl⟩) hW 40 (xw_40 E _) rfl rfl rfl hl.1 (Nat.le_of_ble_eq_true rfl) dX4_end_3 ⟨Nat.zero_le _, Nat.zero_le _⟩ (fun r3 σ3 H locs hq1 hW => ?_)
  rcases hq1 with ⟨rfl, h3, rfl⟩ | ⟨rfl, h3, rfl⟩
  · refine lv_if_eq (tgt := 13) hx hb dX4_end_6 (by decide) (fun c6 => ?_) (fun c6 => ?_)
    rotate_left
    · exact absurd c6 (by decide)
    refine lv_iconst (v := 1) hx hb dX4_end_13 (by decide) ?_
    refine x_Vi (rest := []) S (c_X4_holds l E n f o 1) (cwV 1 S.2.2.2.2 gX4_end_X4_holds rfl rfl rfl (by decide +kernel) ⟨Nat.le_of_ble_eq_true rfl, Nat.le_of_ble_eq_true rfl⟩) hW 40 (xw_40 E _) rfl rfl rfl hl.1 (Nat.le_of_ble_eq_true rfl) dX4_end_14 ⟨Nat.zero_le _, Nat.zero_le _⟩ (fun r14 σ14 H locs hq2 hW => ?_)
    rcases hq2 with ⟨h14, rfl, rfl⟩ | ⟨-, rfl, rfl⟩
    · exact absurd h14 (by decide)
    · refine lv_if_eq (tgt := 29) hx hb dX4_end_17 (by decide) (fun c17 => ?_) (fun c17 => ?_)
      rotate_left
      · exact absurd c17 (by decide)
      refine lv_iconst (v := 0) hx hb dX4_end_29 (by decide) ?_
      exact x_reti S hr hlk hW dX4_end_30 (by first | exact .inr (xbad (k := 1) (xif_t h3) (by decide) (hR.ok 1)) | exact .inl ⟨xif_f (not_not_intro (xPn hq3)), by rw [xNa_n (by omega)]; exact ⟨K23, hS23, rfl⟩, hR.goes hN23 hF23⟩)
  · obtain ⟨q3, hq3, rfl⟩ := h3
    refine lv_if_eq (tgt := 13) hx hb dX4_end_6 (by decide) (fun c6 => ?_) (fun c6 => ?_)
    · exact absurd c6 (by decide)
    refine lv_iconst (v := 0) hx hb dX4_end_9 (by decide) ?_
    refine lv_goto (tgt := 14) hx hb dX4_end_10 (by decide) ?_
    refine x_Vi (rest := []) S (c_X4_holds l E n f o 0) (cwV 1 S.2.2.2.2 gX4_end_X4_holds rfl rfl rfl (by decide +kernel) ⟨Nat.le_of_ble_eq_true rfl, Nat.le_of_ble_eq_true rfl⟩) hW 40 (xw_40 E _) rfl rfl rfl hl.1 (Nat.le_of_ble_eq_true rfl) dX4_end_14 ⟨Nat.zero_le _, Nat.zero_le _⟩ (fun r14 σ14 H locs hq3 hW => ?_)
    rcases hq3 with ⟨-, rfl, rfl⟩ | ⟨h14, rfl, rfl⟩
    · refine lv_if_eq (tgt := 29) hx hb dX4_end_17 (by decide) (fun c17 => ?_) (fun c17 => ?_)
      · exact absurd c17 (by decide)
      refine lv_aload_n hx hb dX4_end_20 rfl (lv_at hl 0 rfl) ?_
      refine lv_iload_n hx hb dX4_end_21 rfl (lv_at hl 1 rfl) ?_
      refine lv_iload_n hx hb dX4_end_22 rfl (lv_at hl 2 rfl) ?_
      refine x_Vi (rest := []) S (c_X4_goes l E (xu n 10 0) f o Γ hG hR (p1 := q3) hq3 b) (cwV 2 S.2.2.2.2 gX4_end_X4_goes rfl rfl rfl (by decide +kernel) ⟨Nat.le_of_ble_eq_true rfl, Nat.le_of_ble_eq_true rfl⟩) hW 40 (xw_40 E _) rfl rfl rfl hl.1 (Nat.le_of_ble_eq_true rfl) dX4_end_23 ⟨Nat.zero_le _, Nat.zero_le _⟩ (fun r23 σ23 H locs hq4 hW => ?_)
      obtain ⟨K23, N23, F23, rfl, rfl, hS23, hc23, hl23, hg23, hN23, hF23⟩ := hq4
      refine lv_goto (tgt := 30) hx hb dX4_end_26 (by decide) ?_
      exact x_reti S hr hlk hW dX4_end_30 (by first | exact .inr (xbad (k := 1) (xif_t h3) (by decide) (hR.ok 1)) | exact .inl ⟨xif_f (not_not_intro (xPn hq3)), by rw [xNa_n (by omega)]; exact ⟨K23, hS23, rfl⟩, hR.goes hN23 hF23⟩)
    · exact absurd h14 (by decide)

abbrev rmX4_hops : Room := { frames := 3, cells := 0, slots := 0, locals := 71 }
set_option maxHeartbeats 4000000 in
set_option maxRecDepth 100000 in
theorem c_X4_hops (l : Launch) (E : xE) (n : Nat → Int32) (f : Nat → Nat → Int32) (o : Nat → Int64) (Γ : xG) (hG : xGood Γ) (hR : xRepR Γ n f) (a : Int32) (b : Bool) : xCi l yX4_hops wsX4_hops rmX4_hops E [.ref (E.2.2.2 40), .int a, .int (bz b)] (n, f, o) (fun r σ' => (ocPort Γ a = 0 ∧ (∃ K, xStop (gCb Γ) (gOp Γ) b (xNa a) K ∧ r = nI K) ∧ xOKR Γ n f o 0 σ') ∨ (ocPort Γ a ≠ 0 ∧ xOKR Γ n f o (ocPort Γ a) σ')) := by
  refine x_starti RX4 (by decide) rfl rfl (Nat.le_of_ble_eq_true rfl) ?_
  intro p e s m args below meth c ls S hr hlk hW hl
  have hx := S.1
  have hb := S.2.1
  have hl : lv_has ls 3 [(0, .ref (E.2.2.2 40)), (1, .int a), (2, .int (bz b))] := hl
  have hinX4 : ∀ w ∈ wsX40, w ∈ wsX4_hops := by decide +kernel
  have w126 : Cond.fieldLink RX4 126 "CableBookModel" "hopCount" "I" ∈ wsX4_hops := by decide +kernel
  have hno := hG.no
  have hnp := hG.np
  have hnt := hG.nt
  have hnm := hG.nm
  refine lv_aload_n hx hb dX4_hops_0 rfl (lv_at hl 0 rfl) ?_
  refine lv_aload_n hx hb dX4_hops_1 rfl (lv_at hl 0 rfl) ?_
  refine lv_iload_n hx hb dX4_hops_2 rfl (lv_at hl 1 rfl) ?_
  refine x_Vi (rest := [.ref (E.2.2.2 40)]) S (c_X4_isPort l E n f o Γ hG hR a) (cwV 1 S.2.2.2.2 gX4_hops_X4_isPort rfl rfl rfl (by decide +kernel) ⟨Nat.le_of_ble_eq_true rfl, Nat.le_of_ble_eq_true rfl⟩) hW 40 (xw_40 E _) rfl rfl rfl hl.1 (Nat.le_of_ble_eq_true rfl) dX4_hops_3 ⟨Nat.zero_le _, Nat.zero_le _⟩ (fun r3 σ3 H locs hq1 hW => ?_)
  rcases hq1 with ⟨rfl, h3, rfl⟩ | ⟨rfl, h3, rfl⟩
  · refine lv_if_eq (tgt := 13) hx hb dX4_hops_6 (by decide) (fun c6 => ?_) (fun c6 => ?_)
    rotate_left
    · exact absurd c6 (by decide)
    refine lv_iconst (v := 1) hx hb dX4_hops_13 (by decide) ?_
    refine x_Vi (rest := []) S (c_X4_holds l E n f o 1) (cwV 1 S.2.2.2.2 gX4_hops_X4_holds rfl rfl rfl (by decide +kernel) ⟨Nat.le_of_ble_eq_true rfl, Nat.le_of_ble_eq_true rfl⟩) hW 40 (xw_40 E _) rfl rfl rfl hl.1 (Nat.le_of_ble_eq_true rfl) dX4_hops_14 ⟨Nat.zero_le _, Nat.zero_le _⟩ (fun r14 σ14 H locs hq2 hW => ?_)
    rcases hq2 with ⟨h14, rfl, rfl⟩ | ⟨-, rfl, rfl⟩
    · exact absurd h14 (by decide)
    · refine lv_if_ne (tgt := 22) hx hb dX4_hops_17 (by decide) (fun c17 => ?_) (fun c17 => ?_)
      · exact absurd c17 (by decide)
      refine lv_iconst (v := 0) hx hb dX4_hops_20 (by decide) ?_
      exact x_reti S hr hlk hW dX4_hops_21 (.inr (xbad (k := 1) (xif_t h3) (by decide) (hR.ok 1)))
  · obtain ⟨q3, hq3, rfl⟩ := h3
    refine lv_if_eq (tgt := 13) hx hb dX4_hops_6 (by decide) (fun c6 => ?_) (fun c6 => ?_)
    · exact absurd c6 (by decide)
    refine lv_iconst (v := 0) hx hb dX4_hops_9 (by decide) ?_
    refine lv_goto (tgt := 14) hx hb dX4_hops_10 (by decide) ?_
    refine x_Vi (rest := []) S (c_X4_holds l E n f o 0) (cwV 1 S.2.2.2.2 gX4_hops_X4_holds rfl rfl rfl (by decide +kernel) ⟨Nat.le_of_ble_eq_true rfl, Nat.le_of_ble_eq_true rfl⟩) hW 40 (xw_40 E _) rfl rfl rfl hl.1 (Nat.le_of_ble_eq_true rfl) dX4_hops_14 ⟨Nat.zero_le _, Nat.zero_le _⟩ (fun r14 σ14 H locs hq3 hW => ?_)
    rcases hq3 with ⟨-, rfl, rfl⟩ | ⟨h14, rfl, rfl⟩
    · refine lv_if_ne (tgt := 22) hx hb dX4_hops_17 (by decide) (fun c17 => ?_) (fun c17 => ?_)
      rotate_left
      · exact absurd c17 (by decide)
      refine lv_aload_n hx hb dX4_hops_22 rfl (lv_at hl 0 rfl) ?_
      refine lv_iload_n hx hb dX4_hops_23 rfl (lv_at hl 1 rfl) ?_
      refine lv_iload_n hx hb dX4_hops_24 rfl (lv_at hl 2 rfl) ?_
      refine x_Vi (rest := []) S (c_X4_goes l E (xu n 10 0) f o Γ hG hR (p1 := q3) hq3 b) (cwV 2 S.2.2.2.2 gX4_hops_X4_goes rfl rfl rfl (by decide +kernel) ⟨Nat.le_of_ble_eq_true rfl, Nat.le_of_ble_eq_true rfl⟩) hW 40 (xw_40 E _) rfl rfl rfl hl.1 (Nat.le_of_ble_eq_true rfl) dX4_hops_25 ⟨Nat.zero_le _, Nat.zero_le _⟩ (fun r25 σ25 H locs hq4 hW => ?_)
      obtain ⟨K25, N25, F25, rfl, rfl, hS25, hc25, hl25, hg25, hN25, hF25⟩ := hq4
      refine lv_pop hx hb dX4_hops_28 rfl ?_
      refine lv_aload_n hx hb dX4_hops_29 rfl (lv_at hl 0 rfl) ?_
      refine x_get (v := .int (N25 15)) S hW hinX4 40 (xw_40 E _) rfl 21 (by decide) w126 rfl dX4_hops_30 ?_
      exact x_reti S hr hlk hW dX4_hops_33 (.inl ⟨xif_f (not_not_intro (xPn hq3)), by rw [xNa_n (by omega)]; exact ⟨K25, hS25, hc25⟩, hR.goes hN25 hF25⟩)
    · exact absurd h14 (by decide)

abbrev rmX4_lengthOf : Room := { frames := 3, cells := 0, slots := 0, locals := 71 }
set_option maxHeartbeats 4000000 in
set_option maxRecDepth 100000 in
theorem c_X4_lengthOf (l : Launch) (E : xE) (n : Nat → Int32) (f : Nat → Nat → Int32) (o : Nat → Int64) (Γ : xG) (hG : xGood Γ) (hR : xRepR Γ n f) (a : Int32) (b : Bool) : xCi l yX4_lengthOf wsX4_lengthOf rmX4_lengthOf E [.ref (E.2.2.2 40), .int a, .int (bz b)] (n, f, o) (fun r σ' => (ocPort Γ a = 0 ∧ (∃ K, xStop (gCb Γ) (gOp Γ) b (xNa a) K ∧ r = gLen Γ b (xNa a) K) ∧ xOKR Γ n f o 0 σ') ∨ (ocPort Γ a ≠ 0 ∧ xOKR Γ n f o (ocPort Γ a) σ')) := by
  refine x_starti RX4 (by decide) rfl rfl (Nat.le_of_ble_eq_true rfl) ?_
  intro p e s m args below meth c ls S hr hlk hW hl
  have hx := S.1
  have hb := S.2.1
  have hl : lv_has ls 3 [(0, .ref (E.2.2.2 40)), (1, .int a), (2, .int (bz b))] := hl
  have hinX4 : ∀ w ∈ wsX40, w ∈ wsX4_lengthOf := by decide +kernel
  have w129 : Cond.fieldLink RX4 129 "CableBookModel" "hopLength" "I" ∈ wsX4_lengthOf := by decide +kernel
  have hno := hG.no
  have hnp := hG.np
  have hnt := hG.nt
  have hnm := hG.nm
  refine lv_aload_n hx hb dX4_lengthOf_0 rfl (lv_at hl 0 rfl) ?_
  refine lv_aload_n hx hb dX4_lengthOf_1 rfl (lv_at hl 0 rfl) ?_
  refine lv_iload_n hx hb dX4_lengthOf_2 rfl (lv_at hl 1 rfl) ?_
  refine x_Vi (rest := [.ref (E.2.2.2 40)]) S (c_X4_isPort l E n f o Γ hG hR a) (cwV 1 S.2.2.2.2 gX4_lengthOf_X4_isPort rfl rfl rfl (by decide +kernel) ⟨Nat.le_of_ble_eq_true rfl, Nat.le_of_ble_eq_true rfl⟩) hW 40 (xw_40 E _) rfl rfl rfl hl.1 (Nat.le_of_ble_eq_true rfl) dX4_lengthOf_3 ⟨Nat.zero_le _, Nat.zero_le _⟩ (fun r3 σ3 H locs hq1 hW => ?_)
  rcases hq1 with ⟨rfl, h3, rfl⟩ | ⟨rfl, h3, rfl⟩
  · refine lv_if_eq (tgt := 13) hx hb dX4_lengthOf_6 (by decide) (fun c6 => ?_) (fun c6 => ?_)
    rotate_left
    · exact absurd c6 (by decide)
    refine lv_iconst (v := 1) hx hb dX4_lengthOf_13 (by decide) ?_
    refine x_Vi (rest := []) S (c_X4_holds l E n f o 1) (cwV 1 S.2.2.2.2 gX4_lengthOf_X4_holds rfl rfl rfl (by decide +kernel) ⟨Nat.le_of_ble_eq_true rfl, Nat.le_of_ble_eq_true rfl⟩) hW 40 (xw_40 E _) rfl rfl rfl hl.1 (Nat.le_of_ble_eq_true rfl) dX4_lengthOf_14 ⟨Nat.zero_le _, Nat.zero_le _⟩ (fun r14 σ14 H locs hq2 hW => ?_)
    rcases hq2 with ⟨h14, rfl, rfl⟩ | ⟨-, rfl, rfl⟩
    · exact absurd h14 (by decide)
    · refine lv_if_ne (tgt := 22) hx hb dX4_lengthOf_17 (by decide) (fun c17 => ?_) (fun c17 => ?_)
      · exact absurd c17 (by decide)
      refine lv_iconst (v := 0) hx hb dX4_lengthOf_20 (by decide) ?_
      exact x_reti S hr hlk hW dX4_lengthOf_21 (.inr (xbad (k := 1) (xif_t h3) (by decide) (hR.ok 1)))
  · obtain ⟨q3, hq3, rfl⟩ := h3
    refine lv_if_eq (tgt := 13) hx hb dX4_lengthOf_6 (by decide) (fun c6 => ?_) (fun c6 => ?_)
    · exact absurd c6 (by decide)
    refine lv_iconst (v := 0) hx hb dX4_lengthOf_9 (by decide) ?_
    refine lv_goto (tgt := 14) hx hb dX4_lengthOf_10 (by decide) ?_
    refine x_Vi (rest := []) S (c_X4_holds l E n f o 0) (cwV 1 S.2.2.2.2 gX4_lengthOf_X4_holds rfl rfl rfl (by decide +kernel) ⟨Nat.le_of_ble_eq_true rfl, Nat.le_of_ble_eq_true rfl⟩) hW 40 (xw_40 E _) rfl rfl rfl hl.1 (Nat.le_of_ble_eq_true rfl) dX4_lengthOf_14 ⟨Nat.zero_le _, Nat.zero_le _⟩ (fun r14 σ14 H locs hq3 hW => ?_)
    rcases hq3 with ⟨-, rfl, rfl⟩ | ⟨h14, rfl, rfl⟩
    · refine lv_if_ne (tgt := 22) hx hb dX4_lengthOf_17 (by decide) (fun c17 => ?_) (fun c17 => ?_)
      rotate_left
      · exact absurd c17 (by decide)
      refine lv_aload_n hx hb dX4_lengthOf_22 rfl (lv_at hl 0 rfl) ?_
      refine lv_iload_n hx hb dX4_lengthOf_23 rfl (lv_at hl 1 rfl) ?_
      refine lv_iload_n hx hb dX4_lengthOf_24 rfl (lv_at hl 2 rfl) ?_
      refine x_Vi (rest := []) S (c_X4_goes l E (xu n 10 0) f o Γ hG hR (p1 := q3) hq3 b) (cwV 2 S.2.2.2.2 gX4_lengthOf_X4_goes rfl rfl rfl (by decide +kernel) ⟨Nat.le_of_ble_eq_true rfl, Nat.le_of_ble_eq_true rfl⟩) hW 40 (xw_40 E _) rfl rfl rfl hl.1 (Nat.le_of_ble_eq_true rfl) dX4_lengthOf_25 ⟨Nat.zero_le _, Nat.zero_le _⟩ (fun r25 σ25 H locs hq4 hW => ?_)
      obtain ⟨K25, N25, F25, rfl, rfl, hS25, hc25, hl25, hg25, hN25, hF25⟩ := hq4
      refine lv_pop hx hb dX4_lengthOf_28 rfl ?_
      refine lv_aload_n hx hb dX4_lengthOf_29 rfl (lv_at hl 0 rfl) ?_
      refine x_get (v := .int (N25 16)) S hW hinX4 40 (xw_40 E _) rfl 22 (by decide) w129 rfl dX4_lengthOf_30 ?_
      exact x_reti S hr hlk hW dX4_lengthOf_33 (.inl ⟨xif_f (not_not_intro (xPn hq3)), by rw [xNa_n (by omega)]; exact ⟨K25, hS25, hl25⟩, hR.goes hN25 hF25⟩)
    · exact absurd h14 (by decide)

abbrev rmX4_isRing : Room := { frames := 3, cells := 0, slots := 0, locals := 71 }
set_option maxHeartbeats 4000000 in
set_option maxRecDepth 100000 in
theorem c_X4_isRing (l : Launch) (E : xE) (n : Nat → Int32) (f : Nat → Nat → Int32) (o : Nat → Int64) (Γ : xG) (hG : xGood Γ) (hR : xRepR Γ n f) (a : Int32) : xCi l yX4_isRing wsX4_isRing rmX4_isRing E [.ref (E.2.2.2 40), .int a] (n, f, o) (fun r σ' => (ocPort Γ a = 0 ∧ r = xif (∃ K, xStop (gCb Γ) (gOp Γ) true (xNa a) K ∧ 0 < K ∧ xw (gCb Γ) (gOp Γ) true (xNa a) K = a) 1 0 ∧ xOKR Γ n f o 0 σ') ∨ (ocPort Γ a ≠ 0 ∧ xOKR Γ n f o (ocPort Γ a) σ')) := by
  refine x_starti RX4 (by decide) rfl rfl (Nat.le_of_ble_eq_true rfl) ?_
  intro p e s m args below meth c ls S hr hlk hW hl
  have hx := S.1
  have hb := S.2.1
  have hl : lv_has ls 2 [(0, .ref (E.2.2.2 40)), (1, .int a)] := hl
  have hinX4 : ∀ w ∈ wsX40, w ∈ wsX4_isRing := by decide +kernel
  have w126 : Cond.fieldLink RX4 126 "CableBookModel" "hopCount" "I" ∈ wsX4_isRing := by decide +kernel
  have hno := hG.no
  have hnp := hG.np
  have hnt := hG.nt
  have hnm := hG.nm
  refine lv_aload_n hx hb dX4_isRing_0 rfl (lv_at hl 0 rfl) ?_
  refine lv_aload_n hx hb dX4_isRing_1 rfl (lv_at hl 0 rfl) ?_
  refine lv_iload_n hx hb dX4_isRing_2 rfl (lv_at hl 1 rfl) ?_
  refine x_Vi (rest := [.ref (E.2.2.2 40)]) S (c_X4_isPort l E n f o Γ hG hR a) (cwV 1 S.2.2.2.2 gX4_isRing_X4_isPort rfl rfl rfl (by decide +kernel) ⟨Nat.le_of_ble_eq_true rfl, Nat.le_of_ble_eq_true rfl⟩) hW 40 (xw_40 E _) rfl rfl rfl hl.1 (Nat.le_of_ble_eq_true rfl) dX4_isRing_3 ⟨Nat.zero_le _, Nat.zero_le _⟩ (fun r3 σ3 H locs hq1 hW => ?_)
  rcases hq1 with ⟨rfl, h3, rfl⟩ | ⟨rfl, h3, rfl⟩
  · refine lv_if_eq (tgt := 13) hx hb dX4_isRing_6 (by decide) (fun c6 => ?_) (fun c6 => ?_)
    rotate_left
    · exact absurd c6 (by decide)
    refine lv_iconst (v := 1) hx hb dX4_isRing_13 (by decide) ?_
    refine x_Vi (rest := []) S (c_X4_holds l E n f o 1) (cwV 1 S.2.2.2.2 gX4_isRing_X4_holds rfl rfl rfl (by decide +kernel) ⟨Nat.le_of_ble_eq_true rfl, Nat.le_of_ble_eq_true rfl⟩) hW 40 (xw_40 E _) rfl rfl rfl hl.1 (Nat.le_of_ble_eq_true rfl) dX4_isRing_14 ⟨Nat.zero_le _, Nat.zero_le _⟩ (fun r14 σ14 H locs hq2 hW => ?_)
    rcases hq2 with ⟨h14, rfl, rfl⟩ | ⟨-, rfl, rfl⟩
    · exact absurd h14 (by decide)
    · refine lv_if_eq (tgt := 41) hx hb dX4_isRing_17 (by decide) (fun c17 => ?_) (fun c17 => ?_)
      rotate_left
      · exact absurd c17 (by decide)
      refine lv_iconst (v := 0) hx hb dX4_isRing_41 (by decide) ?_
      exact x_retz S hr hlk hW dX4_isRing_42 (Or.inl rfl) (by first | exact .inr (xbad (k := 1) (xif_t h3) (by decide) (hR.ok 1)) | exact .inl ⟨xif_f (not_not_intro (xPn hq3)), by rw [xNa_n (by omega)]; exact (xif_f (fun ⟨K9, h1, h2, h3⟩ => by have := h1.uniq hS23; subst this; first | exact c27 h3 | omega)).symm, hR.goes hN23 hF23⟩)
  · obtain ⟨q3, hq3, rfl⟩ := h3
    refine lv_if_eq (tgt := 13) hx hb dX4_isRing_6 (by decide) (fun c6 => ?_) (fun c6 => ?_)
    · exact absurd c6 (by decide)
    refine lv_iconst (v := 0) hx hb dX4_isRing_9 (by decide) ?_
    refine lv_goto (tgt := 14) hx hb dX4_isRing_10 (by decide) ?_
    refine x_Vi (rest := []) S (c_X4_holds l E n f o 0) (cwV 1 S.2.2.2.2 gX4_isRing_X4_holds rfl rfl rfl (by decide +kernel) ⟨Nat.le_of_ble_eq_true rfl, Nat.le_of_ble_eq_true rfl⟩) hW 40 (xw_40 E _) rfl rfl rfl hl.1 (Nat.le_of_ble_eq_true rfl) dX4_isRing_14 ⟨Nat.zero_le _, Nat.zero_le _⟩ (fun r14 σ14 H locs hq3 hW => ?_)
    rcases hq3 with ⟨-, rfl, rfl⟩ | ⟨h14, rfl, rfl⟩
    · refine lv_if_eq (tgt := 41) hx hb dX4_isRing_17 (by decide) (fun c17 => ?_) (fun c17 => ?_)
      · exact absurd c17 (by decide)
      refine lv_aload_n hx hb dX4_isRing_20 rfl (lv_at hl 0 rfl) ?_
      refine lv_iload_n hx hb dX4_isRing_21 rfl (lv_at hl 1 rfl) ?_
      refine lv_iconst (v := 1) hx hb dX4_isRing_22 (by decide) ?_
      refine x_Vi (rest := []) S (c_X4_goes l E (xu n 10 0) f o Γ hG hR (p1 := q3) hq3 true) (cwV 2 S.2.2.2.2 gX4_isRing_X4_goes rfl rfl rfl (by decide +kernel) ⟨Nat.le_of_ble_eq_true rfl, Nat.le_of_ble_eq_true rfl⟩) hW 40 (xw_40 E _) rfl rfl rfl hl.1 (Nat.le_of_ble_eq_true rfl) dX4_isRing_23 ⟨Nat.zero_le _, Nat.zero_le _⟩ (fun r23 σ23 H locs hq4 hW => ?_)
      obtain ⟨K23, N23, F23, rfl, rfl, hS23, hc23, hl23, hg23, hN23, hF23⟩ := hq4
      have hK23 := hS23.le (by omega) hG.cb hG.op hq3
      refine lv_iload_n hx hb dX4_isRing_26 rfl (lv_at hl 1 rfl) ?_
      refine lv_icmp_ne (tgt := 41) hx hb dX4_isRing_27 (by decide) (fun c27 => ?_) (fun c27 => ?_)
      · refine lv_iconst (v := 0) hx hb dX4_isRing_41 (by decide) ?_
        exact x_retz S hr hlk hW dX4_isRing_42 (Or.inl rfl) (by first | exact .inr (xbad (k := 1) (xif_t h3) (by decide) (hR.ok 1)) | exact .inl ⟨xif_f (not_not_intro (xPn hq3)), by rw [xNa_n (by omega)]; exact (xif_f (fun ⟨K9, h1, h2, h3⟩ => by have := h1.uniq hS23; subst this; first | exact c27 h3 | omega)).symm, hR.goes hN23 hF23⟩)
      · refine lv_aload_n hx hb dX4_isRing_30 rfl (lv_at hl 0 rfl) ?_
        refine x_get (v := .int (N23 15)) S hW hinX4 40 (xw_40 E _) rfl 21 (by decide) w126 rfl dX4_isRing_31 ?_
        refine x_topN (K23) (hc23) ?_
        refine x_if_le (tgt := 41) hx hb dX4_isRing_34 (by decide) (by omega) (fun c34 => ?_) (fun c34 => ?_)
        · refine lv_iconst (v := 0) hx hb dX4_isRing_41 (by decide) ?_
          exact x_retz S hr hlk hW dX4_isRing_42 (Or.inl rfl) (by first | exact .inr (xbad (k := 1) (xif_t h3) (by decide) (hR.ok 1)) | exact .inl ⟨xif_f (not_not_intro (xPn hq3)), by rw [xNa_n (by omega)]; exact (xif_f (fun ⟨K9, h1, h2, h3⟩ => by have := h1.uniq hS23; subst this; first | exact c27 h3 | omega)).symm, hR.goes hN23 hF23⟩)
        · refine lv_iconst (v := 1) hx hb dX4_isRing_37 (by decide) ?_
          refine lv_goto (tgt := 42) hx hb dX4_isRing_38 (by decide) ?_
          exact x_retz S hr hlk hW dX4_isRing_42 (Or.inr rfl) (.inl ⟨xif_f (not_not_intro (xPn hq3)), by rw [xNa_n (by omega)]; exact (xif_t ⟨K23, hS23, by omega, c27⟩).symm, hR.goes hN23 hF23⟩)
    · exact absurd h14 (by decide)

abbrev rmX4_hopTo : Room := { frames := 3, cells := 0, slots := 0, locals := 71 }
set_option maxHeartbeats 4000000 in
set_option maxRecDepth 100000 in
theorem c_X4_hopTo (l : Launch) (E : xE) (n : Nat → Int32) (f : Nat → Nat → Int32) (o : Nat → Int64) (Γ : xG) (hG : xGood Γ) (hR : xRepR Γ n f) (a : Int32) (b : Bool) (a3 : Int32) : xCi l yX4_hopTo wsX4_hopTo rmX4_hopTo E [.ref (E.2.2.2 40), .int a, .int (bz b), .int a3] (n, f, o) (fun r σ' => (ocHop Γ a b a3 = 0 ∧ r = xw (gCb Γ) (gOp Γ) b (xNa a) (xNa a3 + 1) ∧ xOKR Γ n f o 0 σ') ∨ (ocHop Γ a b a3 ≠ 0 ∧ xOKR Γ n f o (ocHop Γ a b a3) σ')) := by
  refine x_starti RX4 (by decide) rfl rfl (Nat.le_of_ble_eq_true rfl) ?_
  intro p e s m args below meth c ls S hr hlk hW hl
  have hx := S.1
  have hb := S.2.1
  have hl : lv_has ls 5 [(0, .ref (E.2.2.2 40)), (1, .int a), (2, .int (bz b)), (3, .int a3)] := hl
  have hinX4 : ∀ w ∈ wsX40, w ∈ wsX4_hopTo := by decide +kernel
  have w126 : Cond.fieldLink RX4 126 "CableBookModel" "hopCount" "I" ∈ wsX4_hopTo := by decide +kernel
  have w56 : Cond.fieldLink RX4 56 "CableBookModel" "hops" "[I" ∈ wsX4_hopTo := by decide +kernel
  have hno := hG.no
  have hnp := hG.np
  have hnt := hG.nt
  have hnm := hG.nm
  refine lv_aload_n hx hb dX4_hopTo_0 rfl (lv_at hl 0 rfl) ?_
  refine lv_iload_n hx hb dX4_hopTo_1 rfl (lv_at hl 1 rfl) ?_
  refine x_Vi (rest := []) S (c_X4_isPort l E n f o Γ hG hR a) (cwV 1 S.2.2.2.2 gX4_hopTo_X4_isPort rfl rfl rfl (by decide +kernel) ⟨Nat.le_of_ble_eq_true rfl, Nat.le_of_ble_eq_true rfl⟩) hW 40 (xw_40 E _) rfl rfl rfl hl.1 (Nat.le_of_ble_eq_true rfl) dX4_hopTo_2 ⟨Nat.zero_le _, Nat.zero_le _⟩ (fun r2 σ2 H locs hq1 hW => ?_)
  rcases hq1 with ⟨rfl, h2, rfl⟩ | ⟨rfl, h2, rfl⟩
  · refine lv_if_eq (tgt := 17) hx hb dX4_hopTo_5 (by decide) (fun c5 => ?_) (fun c5 => ?_)
    rotate_left
    · exact absurd c5 (by decide)
    refine lv_iconst (v := (-1)) hx hb dX4_hopTo_17 (by decide) ?_
    refine lv_istore (lv' := [(4, .int (-1)), (0, .ref (E.2.2.2 40)), (1, .int a), (2, .int (bz b)), (3, .int a3)]) hx hb dX4_hopTo_18 hl (by decide) rfl (fun ls hl => ?_)
    refine lv_aload_n hx hb dX4_hopTo_20 rfl (lv_at hl 1 rfl) ?_
    refine lv_iload hx hb dX4_hopTo_21 (lv_at hl 0 rfl) ?_
    refine lv_iconst (v := (-1)) hx hb dX4_hopTo_23 (by decide) ?_
    refine lv_icmp_eq (tgt := 45) hx hb dX4_hopTo_24 (by decide) (fun c24 => ?_) (fun c24 => ?_)
    rotate_left
    · exact absurd c24 (by decide)
    refine lv_iconst (v := 1) hx hb dX4_hopTo_45 (by decide) ?_
    refine x_Vi (rest := []) S (c_X4_holds l E n f o 1) (cwV 1 S.2.2.2.2 gX4_hopTo_X4_holds rfl rfl rfl (by decide +kernel) ⟨Nat.le_of_ble_eq_true rfl, Nat.le_of_ble_eq_true rfl⟩) hW 40 (xw_40 E _) rfl rfl rfl hl.1 (Nat.le_of_ble_eq_true rfl) dX4_hopTo_46 ⟨Nat.zero_le _, Nat.zero_le _⟩ (fun r46 σ46 H locs hq2 hW => ?_)
    rcases hq2 with ⟨h46, rfl, rfl⟩ | ⟨-, rfl, rfl⟩
    · exact absurd h46 (by decide)
    · refine lv_if_eq (tgt := 61) hx hb dX4_hopTo_49 (by decide) (fun c49 => ?_) (fun c49 => ?_)
      rotate_left
      · exact absurd c49 (by decide)
      refine lv_iconst (v := 0) hx hb dX4_hopTo_61 (by decide) ?_
      exact x_reti S hr hlk hW dX4_hopTo_62 (by first | exact .inr (xbad (k := 1) (xif_t h2) (by decide) (hR.ok 1)) | exact .inr (xbad (k := 1) (by rw [ocHop, xif_f (not_not_intro (xPn hq3)), xNa_n (by omega)]; exact xif_f (fun ⟨K9, h1, h2⟩ => h35 (by have := h1.uniq hS11; subst this; exact h2))) (by decide) (hR.goes2 (k := 1) hN11 hF11)))
  · obtain ⟨q3, hq3, rfl⟩ := h2
    refine lv_if_eq (tgt := 17) hx hb dX4_hopTo_5 (by decide) (fun c5 => ?_) (fun c5 => ?_)
    · exact absurd c5 (by decide)
    refine lv_aload_n hx hb dX4_hopTo_8 rfl (lv_at hl 0 rfl) ?_
    refine lv_iload_n hx hb dX4_hopTo_9 rfl (lv_at hl 1 rfl) ?_
    refine lv_iload_n hx hb dX4_hopTo_10 rfl (lv_at hl 2 rfl) ?_
    refine x_Vi (rest := []) S (c_X4_goes l E n f o Γ hG hR (p1 := q3) hq3 b) (cwV 2 S.2.2.2.2 gX4_hopTo_X4_goes rfl rfl rfl (by decide +kernel) ⟨Nat.le_of_ble_eq_true rfl, Nat.le_of_ble_eq_true rfl⟩) hW 40 (xw_40 E _) rfl rfl rfl hl.1 (Nat.le_of_ble_eq_true rfl) dX4_hopTo_11 ⟨Nat.zero_le _, Nat.zero_le _⟩ (fun r11 σ11 H locs hq3 hW => ?_)
    obtain ⟨K11, N11, F11, rfl, rfl, hS11, hc11, hl11, hg11, hN11, hF11⟩ := hq3
    have hK11 := hS11.le (by omega) hG.cb hG.op hq3
    obtain ⟨qe, hqe, ee⟩ := hS11.get (by omega) hG.cb hG.op hq3 (Nat.le_refl K11)
    refine x_topN (qe) (ee) ?_
    refine lv_goto (tgt := 18) hx hb dX4_hopTo_14 (by decide) ?_
    refine lv_istore (lv' := [(4, .int (nI qe)), (0, .ref (E.2.2.2 40)), (1, .int (nI q3)), (2, .int (bz b)), (3, .int a3)]) hx hb dX4_hopTo_18 hl (by decide) rfl (fun ls hl => ?_)
    refine lv_aload_n hx hb dX4_hopTo_20 rfl (lv_at hl 1 rfl) ?_
    refine lv_iload hx hb dX4_hopTo_21 (lv_at hl 0 rfl) ?_
    refine lv_iconst (v := (-1)) hx hb dX4_hopTo_23 (by decide) ?_
    refine lv_icmp_eq (tgt := 45) hx hb dX4_hopTo_24 (by decide) (fun c24 => ?_) (fun c24 => ?_)
    · exact absurd c24 (nI_m1 (by omega))
    refine lv_iload_n hx hb dX4_hopTo_27 rfl (lv_at hl 4 rfl) ?_
    refine lv_iconst (v := 0) hx hb dX4_hopTo_28 (by decide) ?_
    refine lv_aload_n hx hb dX4_hopTo_29 rfl (lv_at hl 1 rfl) ?_
    refine x_get (v := .int (N11 15)) S hW hinX4 40 (xw_40 E _) rfl 21 (by decide) w126 rfl dX4_hopTo_30 ?_
    refine x_topN (K11) (hc11) ?_
    refine lv_iconst (v := 1) hx hb dX4_hopTo_33 (by decide) ?_
    refine lv_isub hx hb dX4_hopTo_34 ?_
    refine x_Si (rest := [.ref (E.2.2.2 40)]) S (c_X4_in l E N11 F11 o a3 0 ((nI K11) - 1)) (cwS 3 S.2.2.2.2 gX4_hopTo_X4_in rfl rfl rfl (by decide +kernel) ⟨Nat.le_of_ble_eq_true rfl, Nat.le_of_ble_eq_true rfl⟩) hW rfl rfl hl.1 (Nat.le_of_ble_eq_true rfl) dX4_hopTo_35 ⟨Nat.zero_le _, Nat.zero_le _⟩ (fun r35 σ35 H locs hq4 hW => ?_)
    rcases hq4 with ⟨rfl, h35, rfl⟩ | ⟨rfl, h35, rfl⟩
    · rw [xP_iff (by omega)] at h35
      refine lv_if_eq (tgt := 45) hx hb dX4_hopTo_38 (by decide) (fun c38 => ?_) (fun c38 => ?_)
      rotate_left
      · exact absurd c38 (by decide)
      refine lv_iconst (v := 1) hx hb dX4_hopTo_45 (by decide) ?_
      refine x_Vi (rest := []) S (c_X4_holds l E N11 F11 o 1) (cwV 1 S.2.2.2.2 gX4_hopTo_X4_holds rfl rfl rfl (by decide +kernel) ⟨Nat.le_of_ble_eq_true rfl, Nat.le_of_ble_eq_true rfl⟩) hW 40 (xw_40 E _) rfl rfl rfl hl.1 (Nat.le_of_ble_eq_true rfl) dX4_hopTo_46 ⟨Nat.zero_le _, Nat.zero_le _⟩ (fun r46 σ46 H locs hq5 hW => ?_)
      rcases hq5 with ⟨h46, rfl, rfl⟩ | ⟨-, rfl, rfl⟩
      · exact absurd h46 (by decide)
      · refine lv_if_eq (tgt := 61) hx hb dX4_hopTo_49 (by decide) (fun c49 => ?_) (fun c49 => ?_)
        rotate_left
        · exact absurd c49 (by decide)
        refine lv_iconst (v := 0) hx hb dX4_hopTo_61 (by decide) ?_
        exact x_reti S hr hlk hW dX4_hopTo_62 (by first | exact .inr (xbad (k := 1) (xif_t h2) (by decide) (hR.ok 1)) | exact .inr (xbad (k := 1) (by rw [ocHop, xif_f (not_not_intro (xPn hq3)), xNa_n (by omega)]; exact xif_f (fun ⟨K9, h1, h2⟩ => h35 (by have := h1.uniq hS11; subst this; exact h2))) (by decide) (hR.goes2 (k := 1) hN11 hF11)))
    · obtain ⟨h9, hh9, rfl⟩ := (xP_iff (by omega)).mp h35
      refine lv_if_eq (tgt := 45) hx hb dX4_hopTo_38 (by decide) (fun c38 => ?_) (fun c38 => ?_)
      · exact absurd c38 (by decide)
      refine lv_iconst (v := 0) hx hb dX4_hopTo_41 (by decide) ?_
      refine lv_goto (tgt := 46) hx hb dX4_hopTo_42 (by decide) ?_
      refine x_Vi (rest := []) S (c_X4_holds l E N11 F11 o 0) (cwV 1 S.2.2.2.2 gX4_hopTo_X4_holds rfl rfl rfl (by decide +kernel) ⟨Nat.le_of_ble_eq_true rfl, Nat.le_of_ble_eq_true rfl⟩) hW 40 (xw_40 E _) rfl rfl rfl hl.1 (Nat.le_of_ble_eq_true rfl) dX4_hopTo_46 ⟨Nat.zero_le _, Nat.zero_le _⟩ (fun r46 σ46 H locs hq6 hW => ?_)
      rcases hq6 with ⟨-, rfl, rfl⟩ | ⟨h46, rfl, rfl⟩
      · refine lv_if_eq (tgt := 61) hx hb dX4_hopTo_49 (by decide) (fun c49 => ?_) (fun c49 => ?_)
        · exact absurd c49 (by decide)
        refine lv_aload_n hx hb dX4_hopTo_52 rfl (lv_at hl 1 rfl) ?_
        refine x_get (v := .ref (E.2.2.2 56)) S hW hinX4 40 (xw_40 E _) rfl 20 (by decide) w56 rfl dX4_hopTo_53 ?_
        refine lv_iload_n hx hb dX4_hopTo_56 rfl (lv_at hl 4 rfl) ?_
        refine x_ildN (k := h9) (v := ((F11 35) h9)) S hW 56 (xw_56 E _) (rfl) (show h9 < 145 from by omega) (by decide) rfl dX4_hopTo_57 ?_
        refine lv_goto (tgt := 62) hx hb dX4_hopTo_58 (by decide) ?_
        exact x_reti S hr hlk hW dX4_hopTo_62 (.inl ⟨by rw [ocHop, xif_f (not_not_intro (xPn hq3)), xNa_n (by omega)]; exact xif_t ⟨K11, hS11, xPn hh9⟩, by rw [xNa_n (by omega), xNa_n (by omega)]; exact hg11 h9 hh9, hR.goes2 hN11 hF11⟩)
      · exact absurd h46 (by decide)

abbrev rmX4_areJoined : Room := { frames := 5, cells := 0, slots := 0, locals := 117 }
set_option maxHeartbeats 4000000 in
set_option maxRecDepth 100000 in
theorem c_X4_areJoined (l : Launch) (E : xE) (n : Nat → Int32) (f : Nat → Nat → Int32) (o : Nat → Int64) (Γ : xG) (hG : xGood Γ) (hR : xRepR Γ n f) (a a2 : Int32) : xCi l yX4_areJoined wsX4_areJoined rmX4_areJoined E [.ref (E.2.2.2 40), .int a, .int a2] (n, f, o) (fun r σ' => (oc2 Γ a a2 = 0 ∧ r = xif (xR (gNo Γ) (gCb Γ) (gOp Γ) (xNa a) (xNa a2)) 1 0 ∧ xOKR Γ n f o 0 σ') ∨ (oc2 Γ a a2 ≠ 0 ∧ xOKR Γ n f o (oc2 Γ a a2) σ')) := by
  refine x_starti RX4 (by decide) rfl rfl (Nat.le_of_ble_eq_true rfl) ?_
  intro p e s m args below meth c ls S hr hlk hW hl
  have hx := S.1
  have hb := S.2.1
  have hl : lv_has ls 3 [(0, .ref (E.2.2.2 40)), (1, .int a), (2, .int a2)] := hl
  have hno := hG.no
  have hnp := hG.np
  have hnt := hG.nt
  have hnm := hG.nm
  refine lv_aload_n hx hb dX4_areJoined_0 rfl (lv_at hl 0 rfl) ?_
  refine lv_aload_n hx hb dX4_areJoined_1 rfl (lv_at hl 0 rfl) ?_
  refine lv_iload_n hx hb dX4_areJoined_2 rfl (lv_at hl 1 rfl) ?_
  refine lv_iload_n hx hb dX4_areJoined_3 rfl (lv_at hl 2 rfl) ?_
  refine x_Vi (rest := [.ref (E.2.2.2 40)]) S (c_X4_arePorts l E n f o Γ hG hR a a2) (cwV 2 S.2.2.2.2 gX4_areJoined_X4_arePorts rfl rfl rfl (by decide +kernel) ⟨Nat.le_of_ble_eq_true rfl, Nat.le_of_ble_eq_true rfl⟩) hW 40 (xw_40 E _) rfl rfl rfl hl.1 (Nat.le_of_ble_eq_true rfl) dX4_areJoined_4 ⟨Nat.zero_le _, Nat.zero_le _⟩ (fun r4 σ4 H locs hq1 hW => ?_)
  rcases hq1 with ⟨rfl, h4, rfl⟩ | ⟨rfl, h4, rfl⟩
  · refine lv_if_eq (tgt := 14) hx hb dX4_areJoined_7 (by decide) (fun c7 => ?_) (fun c7 => ?_)
    rotate_left
    · exact absurd c7 (by decide)
    refine lv_iconst (v := 1) hx hb dX4_areJoined_14 (by decide) ?_
    refine x_Vi (rest := []) S (c_X4_holds l E n f o 1) (cwV 1 S.2.2.2.2 gX4_areJoined_X4_holds rfl rfl rfl (by decide +kernel) ⟨Nat.le_of_ble_eq_true rfl, Nat.le_of_ble_eq_true rfl⟩) hW 40 (xw_40 E _) rfl rfl rfl hl.1 (Nat.le_of_ble_eq_true rfl) dX4_areJoined_15 ⟨Nat.zero_le _, Nat.zero_le _⟩ (fun r15 σ15 H locs hq2 hW => ?_)
    rcases hq2 with ⟨h15, rfl, rfl⟩ | ⟨-, rfl, rfl⟩
    · exact absurd h15 (by decide)
    · refine lv_if_eq (tgt := 34) hx hb dX4_areJoined_18 (by decide) (fun c18 => ?_) (fun c18 => ?_)
      rotate_left
      · exact absurd c18 (by decide)
      refine lv_iconst (v := 0) hx hb dX4_areJoined_34 (by decide) ?_
      exact x_retz S hr hlk hW dX4_areJoined_35 (Or.inl rfl) (by first | exact .inr (xbad (k := 1) (xif_t h4) (by decide) (hR.ok 1)) | exact .inl ⟨xif_f (not_not_intro ⟨xPn hq4, xPn hq5⟩), by rw [xNa_n (by omega), xNa_n (by omega)]; exact (xif_f h24).symm, hR.goes hN24 hF24⟩)
  · obtain ⟨⟨q4, hq4, rfl⟩, q5, hq5, rfl⟩ := h4
    refine lv_if_eq (tgt := 14) hx hb dX4_areJoined_7 (by decide) (fun c7 => ?_) (fun c7 => ?_)
    · exact absurd c7 (by decide)
    refine lv_iconst (v := 0) hx hb dX4_areJoined_10 (by decide) ?_
    refine lv_goto (tgt := 15) hx hb dX4_areJoined_11 (by decide) ?_
    refine x_Vi (rest := []) S (c_X4_holds l E n f o 0) (cwV 1 S.2.2.2.2 gX4_areJoined_X4_holds rfl rfl rfl (by decide +kernel) ⟨Nat.le_of_ble_eq_true rfl, Nat.le_of_ble_eq_true rfl⟩) hW 40 (xw_40 E _) rfl rfl rfl hl.1 (Nat.le_of_ble_eq_true rfl) dX4_areJoined_15 ⟨Nat.zero_le _, Nat.zero_le _⟩ (fun r15 σ15 H locs hq3 hW => ?_)
    rcases hq3 with ⟨-, rfl, rfl⟩ | ⟨h15, rfl, rfl⟩
    · refine lv_if_eq (tgt := 34) hx hb dX4_areJoined_18 (by decide) (fun c18 => ?_) (fun c18 => ?_)
      · exact absurd c18 (by decide)
      refine lv_aload_n hx hb dX4_areJoined_21 rfl (lv_at hl 0 rfl) ?_
      refine lv_iload_n hx hb dX4_areJoined_22 rfl (lv_at hl 2 rfl) ?_
      refine lv_iload_n hx hb dX4_areJoined_23 rfl (lv_at hl 1 rfl) ?_
      refine x_Vi (rest := []) S (c_X4_isOnLine l E (xu n 10 0) f o Γ hG hR (p1 := q4) hq4 (p2 := q5) hq5) (cwV 2 S.2.2.2.2 gX4_areJoined_X4_isOnLine rfl rfl rfl (by decide +kernel) ⟨Nat.le_of_ble_eq_true rfl, Nat.le_of_ble_eq_true rfl⟩) hW 40 (xw_40 E _) rfl rfl rfl hl.1 (Nat.le_of_ble_eq_true rfl) dX4_areJoined_24 ⟨Nat.zero_le _, Nat.zero_le _⟩ (fun r24 σ24 H locs hq4 hW => ?_)
      rcases hq4 with ⟨N24, F24, ⟨rfl, h24⟩ | ⟨rfl, h24⟩, rfl, hN24, hF24⟩
      · refine lv_if_eq (tgt := 34) hx hb dX4_areJoined_27 (by decide) (fun c27 => ?_) (fun c27 => ?_)
        rotate_left
        · exact absurd c27 (by decide)
        refine lv_iconst (v := 0) hx hb dX4_areJoined_34 (by decide) ?_
        exact x_retz S hr hlk hW dX4_areJoined_35 (Or.inl rfl) (by first | exact .inr (xbad (k := 1) (xif_t h4) (by decide) (hR.ok 1)) | exact .inl ⟨xif_f (not_not_intro ⟨xPn hq4, xPn hq5⟩), by rw [xNa_n (by omega), xNa_n (by omega)]; exact (xif_f h24).symm, hR.goes hN24 hF24⟩)
      · refine lv_if_eq (tgt := 34) hx hb dX4_areJoined_27 (by decide) (fun c27 => ?_) (fun c27 => ?_)
        · exact absurd c27 (by decide)
        refine lv_iconst (v := 1) hx hb dX4_areJoined_30 (by decide) ?_
        refine lv_goto (tgt := 35) hx hb dX4_areJoined_31 (by decide) ?_
        exact x_retz S hr hlk hW dX4_areJoined_35 (Or.inr rfl) (.inl ⟨xif_f (not_not_intro ⟨xPn hq4, xPn hq5⟩), by rw [xNa_n (by omega), xNa_n (by omega)]; exact (xif_t h24).symm, hR.goes hN24 hF24⟩)
    · exact absurd h15 (by decide)

abbrev rmX4_areJoinedBySearch : Room := { frames := 3, cells := 0, slots := 0, locals := 65 }
set_option maxHeartbeats 4000000 in
set_option maxRecDepth 100000 in
theorem c_X4_areJoinedBySearch (l : Launch) (E : xE) (n : Nat → Int32) (f : Nat → Nat → Int32) (o : Nat → Int64) (Γ : xG) (hG : xGood Γ) (hR : xRepR Γ n f) (a a2 : Int32) : xCi l yX4_areJoinedBySearch wsX4_areJoinedBySearch rmX4_areJoinedBySearch E [.ref (E.2.2.2 40), .int a, .int a2] (n, f, o) (fun r σ' => (oc2 Γ a a2 = 0 ∧ r = xif (xR (gNo Γ) (gCb Γ) (gOp Γ) (xNa a) (xNa a2)) 1 0 ∧ xOKR Γ n f o 0 σ') ∨ (oc2 Γ a a2 ≠ 0 ∧ xOKR Γ n f o (oc2 Γ a a2) σ')) := by
  refine x_starti RX4 (by decide) rfl rfl (Nat.le_of_ble_eq_true rfl) ?_
  intro p e s m args below meth c ls S hr hlk hW hl
  have hx := S.1
  have hb := S.2.1
  have hl : lv_has ls 3 [(0, .ref (E.2.2.2 40)), (1, .int a), (2, .int a2)] := hl
  have hinX4 : ∀ w ∈ wsX40, w ∈ wsX4_areJoinedBySearch := by decide +kernel
  have w59 : Cond.fieldLink RX4 59 "CableBookModel" "lineOf" "[I" ∈ wsX4_areJoinedBySearch := by decide +kernel
  have hno := hG.no
  have hnp := hG.np
  have hnt := hG.nt
  have hnm := hG.nm
  refine lv_aload_n hx hb dX4_areJoinedBySearch_0 rfl (lv_at hl 0 rfl) ?_
  refine lv_aload_n hx hb dX4_areJoinedBySearch_1 rfl (lv_at hl 0 rfl) ?_
  refine lv_iload_n hx hb dX4_areJoinedBySearch_2 rfl (lv_at hl 1 rfl) ?_
  refine lv_iload_n hx hb dX4_areJoinedBySearch_3 rfl (lv_at hl 2 rfl) ?_
  refine x_Vi (rest := [.ref (E.2.2.2 40)]) S (c_X4_arePorts l E n f o Γ hG hR a a2) (cwV 2 S.2.2.2.2 gX4_areJoinedBySearch_X4_arePorts rfl rfl rfl (by decide +kernel) ⟨Nat.le_of_ble_eq_true rfl, Nat.le_of_ble_eq_true rfl⟩) hW 40 (xw_40 E _) rfl rfl rfl hl.1 (Nat.le_of_ble_eq_true rfl) dX4_areJoinedBySearch_4 ⟨Nat.zero_le _, Nat.zero_le _⟩ (fun r4 σ4 H locs hq1 hW => ?_)
  rcases hq1 with ⟨rfl, h4, rfl⟩ | ⟨rfl, h4, rfl⟩
  · refine lv_if_eq (tgt := 14) hx hb dX4_areJoinedBySearch_7 (by decide) (fun c7 => ?_) (fun c7 => ?_)
    rotate_left
    · exact absurd c7 (by decide)
    refine lv_iconst (v := 1) hx hb dX4_areJoinedBySearch_14 (by decide) ?_
    refine x_Vi (rest := []) S (c_X4_holds l E n f o 1) (cwV 1 S.2.2.2.2 gX4_areJoinedBySearch_X4_holds rfl rfl rfl (by decide +kernel) ⟨Nat.le_of_ble_eq_true rfl, Nat.le_of_ble_eq_true rfl⟩) hW 40 (xw_40 E _) rfl rfl rfl hl.1 (Nat.le_of_ble_eq_true rfl) dX4_areJoinedBySearch_15 ⟨Nat.zero_le _, Nat.zero_le _⟩ (fun r15 σ15 H locs hq2 hW => ?_)
    rcases hq2 with ⟨h15, rfl, rfl⟩ | ⟨-, rfl, rfl⟩
    · exact absurd h15 (by decide)
    · refine lv_if_ne (tgt := 23) hx hb dX4_areJoinedBySearch_18 (by decide) (fun c18 => ?_) (fun c18 => ?_)
      · exact absurd c18 (by decide)
      refine lv_iconst (v := 0) hx hb dX4_areJoinedBySearch_21 (by decide) ?_
      exact x_retz S hr hlk hW dX4_areJoinedBySearch_22 (Or.inl rfl) (.inr (xbad (k := 1) (xif_t h4) (by decide) (hR.ok 1)))
  · obtain ⟨⟨q4, hq4, rfl⟩, q5, hq5, rfl⟩ := h4
    refine lv_if_eq (tgt := 14) hx hb dX4_areJoinedBySearch_7 (by decide) (fun c7 => ?_) (fun c7 => ?_)
    · exact absurd c7 (by decide)
    refine lv_iconst (v := 0) hx hb dX4_areJoinedBySearch_10 (by decide) ?_
    refine lv_goto (tgt := 15) hx hb dX4_areJoinedBySearch_11 (by decide) ?_
    refine x_Vi (rest := []) S (c_X4_holds l E n f o 0) (cwV 1 S.2.2.2.2 gX4_areJoinedBySearch_X4_holds rfl rfl rfl (by decide +kernel) ⟨Nat.le_of_ble_eq_true rfl, Nat.le_of_ble_eq_true rfl⟩) hW 40 (xw_40 E _) rfl rfl rfl hl.1 (Nat.le_of_ble_eq_true rfl) dX4_areJoinedBySearch_15 ⟨Nat.zero_le _, Nat.zero_le _⟩ (fun r15 σ15 H locs hq3 hW => ?_)
    rcases hq3 with ⟨-, rfl, rfl⟩ | ⟨h15, rfl, rfl⟩
    · refine lv_if_ne (tgt := 23) hx hb dX4_areJoinedBySearch_18 (by decide) (fun c18 => ?_) (fun c18 => ?_)
      rotate_left
      · exact absurd c18 (by decide)
      refine lv_aload_n hx hb dX4_areJoinedBySearch_23 rfl (lv_at hl 0 rfl) ?_
      refine x_Vv (rest := []) S (c_X4_searches l E (xu n 10 0) f o Γ hG hR) (cwV 0 S.2.2.2.2 gX4_areJoinedBySearch_X4_searches rfl rfl rfl (by decide +kernel) ⟨Nat.le_of_ble_eq_true rfl, Nat.le_of_ble_eq_true rfl⟩) hW 40 (xw_40 E _) rfl rfl rfl hl.1 (Nat.le_of_ble_eq_true rfl) dX4_areJoinedBySearch_24 ⟨Nat.zero_le _, Nat.zero_le _⟩ (fun σ24 H locs hq4 hW => ?_)
      obtain ⟨F24, L24s, rfl, hF24, hL24, hc24⟩ := hq4
      refine lv_aload_n hx hb dX4_areJoinedBySearch_27 rfl (lv_at hl 0 rfl) ?_
      refine x_get (v := .ref (E.2.2.2 57)) S hW hinX4 40 (xw_40 E _) rfl 23 (by decide) w59 rfl dX4_areJoinedBySearch_28 ?_
      refine lv_iload_n hx hb dX4_areJoinedBySearch_31 rfl (lv_at hl 1 rfl) ?_
      refine x_ildN (k := q4) (v := ((F24 36) q4)) S hW 57 (xw_57 E _) (rfl) (show q4 < 144 from by omega) (by decide) rfl dX4_areJoinedBySearch_32 ?_
      refine x_topN (L24s q4) ((hL24 q4 hq4).1) ?_
      refine lv_aload_n hx hb dX4_areJoinedBySearch_33 rfl (lv_at hl 0 rfl) ?_
      refine x_get (v := .ref (E.2.2.2 57)) S hW hinX4 40 (xw_40 E _) rfl 23 (by decide) w59 rfl dX4_areJoinedBySearch_34 ?_
      refine lv_iload_n hx hb dX4_areJoinedBySearch_37 rfl (lv_at hl 2 rfl) ?_
      refine x_ildN (k := q5) (v := ((F24 36) q5)) S hW 57 (xw_57 E _) (rfl) (show q5 < 144 from by omega) (by decide) rfl dX4_areJoinedBySearch_38 ?_
      refine x_topN (L24s q5) ((hL24 q5 hq5).1) ?_
      refine x_icmp_ne (a := L24s q4) (b := L24s q5) (tgt := 46) hx hb dX4_areJoinedBySearch_39 (by decide) (by have := (hL24 q4 hq4).2.1; omega) (by have := (hL24 q5 hq5).2.1; omega) (fun c39 => ?_) (fun c39 => ?_)
      · refine lv_iconst (v := 0) hx hb dX4_areJoinedBySearch_46 (by decide) ?_
        exact x_retz S hr hlk hW dX4_areJoinedBySearch_47 (Or.inl rfl) (.inl ⟨xif_f (not_not_intro ⟨xPn hq4, xPn hq5⟩), by rw [xNa_n (by omega), xNa_n (by omega)]; exact (xif_f (fun h => c39 ((hc24.iff hG hL24 hq4 hq5).mpr h))).symm, hR.srch hF24⟩)
      · refine lv_iconst (v := 1) hx hb dX4_areJoinedBySearch_42 (by decide) ?_
        refine lv_goto (tgt := 47) hx hb dX4_areJoinedBySearch_43 (by decide) ?_
        exact x_retz S hr hlk hW dX4_areJoinedBySearch_47 (Or.inr rfl) (.inl ⟨xif_f (not_not_intro ⟨xPn hq4, xPn hq5⟩), by rw [xNa_n (by omega), xNa_n (by omega)]; exact (xif_t ((hc24.iff hG hL24 hq4 hq5).mp c39)).symm, hR.srch hF24⟩)
    · exact absurd h15 (by decide)

abbrev rmX4_lines : Room := { frames := 2, cells := 0, slots := 0, locals := 46 }
set_option maxHeartbeats 4000000 in
set_option maxRecDepth 100000 in
theorem c_X4_lines (l : Launch) (E : xE) (n : Nat → Int32) (f : Nat → Nat → Int32) (o : Nat → Int64) (Γ : xG) (hG : xGood Γ) (hR : xRepR Γ n f) : xCi l yX4_lines wsX4_lines rmX4_lines E [.ref (E.2.2.2 40)] (n, f, o) (fun r σ' => r = nI (xcnt (fun q => ∀ z, z < q → ¬ xR (gNo Γ) (gCb Γ) (gOp Γ) z q) (gNo Γ)) ∧ xOKR Γ n f o 0 σ') := by
  refine x_starti RX4 (by decide) rfl rfl (Nat.le_of_ble_eq_true rfl) ?_
  intro p e s m args below meth c ls S hr hlk hW hl
  have hx := S.1
  have hb := S.2.1
  have hl : lv_has ls 3 [(0, .ref (E.2.2.2 40))] := hl
  have hinX4 : ∀ w ∈ wsX40, w ∈ wsX4_lines := by decide +kernel
  have w59 : Cond.fieldLink RX4 59 "CableBookModel" "lineOf" "[I" ∈ wsX4_lines := by decide +kernel
  have w62 : Cond.fieldLink RX4 62 "CableBookModel" "thrown" "I" ∈ wsX4_lines := by decide +kernel
  have w66 : Cond.fieldLink RX4 66 "CableBookModel" "ports" "I" ∈ wsX4_lines := by decide +kernel
  have hno := hG.no
  have hnp := hG.np
  have hnt := hG.nt
  have hnm := hG.nm
  refine lv_aload_n hx hb dX4_lines_0 rfl (lv_at hl 0 rfl) ?_
  refine lv_iconst (v := 0) hx hb dX4_lines_1 (by decide) ?_
  refine x_put (σ' := ((xu n 10 0), f, o)) S hW hinX4 tyX4 tyX4_ok nmX4 40 (xw_40 E _) rfl 0 (by decide) w62 rfl (by decide +kernel) (Nat.le_of_ble_eq_true rfl) (xw_N10 E _ _ _ _) dX4_lines_2 (fun H locs hW => ?_)
  refine lv_aload_n hx hb dX4_lines_5 rfl (lv_at hl 0 rfl) ?_
  refine x_Vv (rest := []) S (c_X4_searches l E (xu n 10 0) f o Γ hG hR) (cwV 0 S.2.2.2.2 gX4_lines_X4_searches rfl rfl rfl (by decide +kernel) ⟨Nat.le_of_ble_eq_true rfl, Nat.le_of_ble_eq_true rfl⟩) hW 40 (xw_40 E _) rfl rfl rfl hl.1 (Nat.le_of_ble_eq_true rfl) dX4_lines_6 ⟨Nat.zero_le _, Nat.zero_le _⟩ (fun σ6 H locs hq1 hW => ?_)
  obtain ⟨F6, L6s, rfl, hF6, hL6, hc6⟩ := hq1
  refine lv_iconst (v := 0) hx hb dX4_lines_9 (by decide) ?_
  refine lv_istore_n (lv' := [(1, .int 0), (0, .ref (E.2.2.2 40))]) hx hb dX4_lines_10 rfl hl (by decide) rfl (fun ls hl => ?_)
  refine lv_iconst (v := 0) hx hb dX4_lines_11 (by decide) ?_
  refine lv_istore_n (lv' := [(2, .int 0), (1, .int 0), (0, .ref (E.2.2.2 40))]) hx hb dX4_lines_12 rfl hl (by decide) rfl (fun ls hl => ?_)
  have L13 : ∀ (fu13 : Nat) (i : Nat) (hμ13 : gNo Γ + 1 - i < fu13) (hi : i ≤ gNo Γ) (H : Heap) (locs : List Loc) (ls : Array Slot), xSt E ((xu n 10 0), F6, o) s s.heap H locs → lv_has ls 3 [(0, .ref (E.2.2.2 40)), (1, .int (nI (xcnt (fun q => ∀ z, z < q → ¬ xR (gNo Γ) (gCb Γ) (gOp Γ) z q) i))), (2, .int (nI i))] → W p l e rmX4_lines s m args below meth c H locs 0 0 (MQ below (va_Qi (fun r σ' => r = nI (xcnt (fun q => ∀ z, z < q → ¬ xR (gNo Γ) (gCb Γ) (gOp Γ) z q) (gNo Γ)) ∧ xOKR Γ n f o 0 σ') (xWd E) (xA E)) args s 0 0 (xA E)) (F0 m 13 ls []) := by
    intro fu13
    induction fu13 with
    | zero => intro i hμ13; exact absurd hμ13 (Nat.not_lt_zero _)
    | succ fu13 L13 =>
      intro i hμ13 hi H locs ls hW hl
      have hx9 := xcnt_le (fun q => ∀ z, z < q → ¬ xR (gNo Γ) (gCb Γ) (gOp Γ) z q) i
      refine lv_iload_n hx hb dX4_lines_13 rfl (lv_at hl 2 rfl) ?_
      refine lv_aload_n hx hb dX4_lines_14 rfl (lv_at hl 0 rfl) ?_
      refine x_get (v := .int (n 12)) S hW hinX4 40 (xw_40 E _) rfl 2 (by decide) w66 rfl dX4_lines_15 ?_
      refine x_topN (gNo Γ) (hR.no) ?_
      refine x_icmp_ge (a := i) (b := gNo Γ) (tgt := 45) hx hb dX4_lines_18 (by decide) (by omega) (by omega) (fun c18 => ?_) (fun c18 => ?_)
      · refine lv_iload_n hx hb dX4_lines_45 rfl (lv_at hl 1 rfl) ?_
        exact x_reti S hr hlk hW dX4_lines_46 (⟨by rw [show i = gNo Γ by omega], hR.srch hF6⟩)
      · refine lv_iload_n hx hb dX4_lines_21 rfl (lv_at hl 1 rfl) ?_
        refine lv_aload_n hx hb dX4_lines_22 rfl (lv_at hl 0 rfl) ?_
        refine x_get (v := .ref (E.2.2.2 57)) S hW hinX4 40 (xw_40 E _) rfl 23 (by decide) w59 rfl dX4_lines_23 ?_
        refine lv_iload_n hx hb dX4_lines_26 rfl (lv_at hl 2 rfl) ?_
        refine x_ildN (k := i) (v := ((F6 36) i)) S hW 57 (xw_57 E _) (rfl) (show i < 144 from by omega) (by decide) rfl dX4_lines_27 ?_
        refine x_topN (L6s i) ((hL6 i (by omega)).1) ?_
        refine lv_iload_n hx hb dX4_lines_28 rfl (lv_at hl 2 rfl) ?_
        refine x_icmp_ne (a := L6s i) (b := i) (tgt := 36) hx hb dX4_lines_29 (by decide) (by have := (hL6 i (by omega)).2.1; omega) (by omega) (fun c29 => ?_) (fun c29 => ?_)
        · refine lv_iconst (v := 0) hx hb dX4_lines_36 (by decide) ?_
          refine x_iadd (a := xcnt (fun q => ∀ z, z < q → ¬ xR (gNo Γ) (gCb Γ) (gOp Γ) z q) i) (b := 0) hx hb dX4_lines_37 ?_
          refine lv_istore_n (lv' := [(1, .int (nI ((xcnt (fun q => ∀ z, z < q → ¬ xR (gNo Γ) (gCb Γ) (gOp Γ) z q) i) + 0))), (0, .ref (E.2.2.2 40)), (2, .int (nI i))]) hx hb dX4_lines_38 rfl hl (by decide) rfl (fun ls hl => ?_)
          refine lv_iinc (v := (nI (i + 1))) (lv' := [(2, .int (nI (i + 1))), (1, .int (nI ((xcnt (fun q => ∀ z, z < q → ¬ xR (gNo Γ) (gCb Γ) (gOp Γ) z q) i) + 0))), (0, .ref (E.2.2.2 40))]) hx hb dX4_lines_39 hl (k := 2) rfl (x_inc _) (by decide) rfl (fun ls hl => ?_)
          refine lv_goto (tgt := 13) hx hb dX4_lines_42 (by decide) ?_
          first | rw [show xcnt (fun q => ∀ z, z < q → ¬ xR (gNo Γ) (gCb Γ) (gOp Γ) z q) i + 1 = xcnt (fun q => ∀ z, z < q → ¬ xR (gNo Γ) (gCb Γ) (gOp Γ) z q) (i + 1) from (xcnt_t ((hc6.low hG hL6 (by omega)).mp c29)).symm] at hl | rw [show xcnt (fun q => ∀ z, z < q → ¬ xR (gNo Γ) (gCb Γ) (gOp Γ) z q) i + 0 = xcnt (fun q => ∀ z, z < q → ¬ xR (gNo Γ) (gCb Γ) (gOp Γ) z q) (i + 1) from (xcnt_f (fun h => c29 ((hc6.low hG hL6 (by omega)).mpr h))).symm] at hl
          exact L13  (i + 1) (by omega) (by omega) _ _ _ hW (lv_sub hl [2, 1, 0] rfl)
        · refine lv_iconst (v := 1) hx hb dX4_lines_32 (by decide) ?_
          refine lv_goto (tgt := 37) hx hb dX4_lines_33 (by decide) ?_
          refine x_iadd (a := xcnt (fun q => ∀ z, z < q → ¬ xR (gNo Γ) (gCb Γ) (gOp Γ) z q) i) (b := 1) hx hb dX4_lines_37 ?_
          refine lv_istore_n (lv' := [(1, .int (nI ((xcnt (fun q => ∀ z, z < q → ¬ xR (gNo Γ) (gCb Γ) (gOp Γ) z q) i) + 1))), (0, .ref (E.2.2.2 40)), (2, .int (nI i))]) hx hb dX4_lines_38 rfl hl (by decide) rfl (fun ls hl => ?_)
          refine lv_iinc (v := (nI (i + 1))) (lv' := [(2, .int (nI (i + 1))), (1, .int (nI ((xcnt (fun q => ∀ z, z < q → ¬ xR (gNo Γ) (gCb Γ) (gOp Γ) z q) i) + 1))), (0, .ref (E.2.2.2 40))]) hx hb dX4_lines_39 hl (k := 2) rfl (x_inc _) (by decide) rfl (fun ls hl => ?_)
          refine lv_goto (tgt := 13) hx hb dX4_lines_42 (by decide) ?_
          first | rw [show xcnt (fun q => ∀ z, z < q → ¬ xR (gNo Γ) (gCb Γ) (gOp Γ) z q) i + 1 = xcnt (fun q => ∀ z, z < q → ¬ xR (gNo Γ) (gCb Γ) (gOp Γ) z q) (i + 1) from (xcnt_t ((hc6.low hG hL6 (by omega)).mp c29)).symm] at hl | rw [show xcnt (fun q => ∀ z, z < q → ¬ xR (gNo Γ) (gCb Γ) (gOp Γ) z q) i + 0 = xcnt (fun q => ∀ z, z < q → ¬ xR (gNo Γ) (gCb Γ) (gOp Γ) z q) (i + 1) from (xcnt_f (fun h => c29 ((hc6.low hG hL6 (by omega)).mpr h))).symm] at hl
          exact L13  (i + 1) (by omega) (by omega) _ _ _ hW (lv_sub hl [2, 1, 0] rfl)
  exact L13 _ (0) (Nat.lt_succ_self _) (by omega) _ _ _ hW (lv_sub hl [2, 1, 0] rfl)

abbrev rmX4_cables : Room := { frames := 0, cells := 0, slots := 0, locals := 0 }
set_option maxHeartbeats 4000000 in
set_option maxRecDepth 100000 in
theorem c_X4_cables (l : Launch) (E : xE) (n : Nat → Int32) (f : Nat → Nat → Int32) (o : Nat → Int64) (Γ : xG) (hG : xGood Γ) (hR : xRepR Γ n f) : xCi l yX4_cables wsX4_cables rmX4_cables E [.ref (E.2.2.2 40)] (n, f, o) (fun r σ' => r = nI (xcnt (fun q => gCb Γ q ≠ -1) (gNo Γ) / 2) ∧ xOKR Γ n f o 0 σ') := by
  refine x_starti RX4 (by decide) rfl rfl (Nat.le_of_ble_eq_true rfl) ?_
  intro p e s m args below meth c ls S hr hlk hW hl
  have hx := S.1
  have hb := S.2.1
  have hl : lv_has ls 3 [(0, .ref (E.2.2.2 40))] := hl
  have hinX4 : ∀ w ∈ wsX40, w ∈ wsX4_cables := by decide +kernel
  have w16 : Cond.fieldLink RX4 16 "CableBookModel" "cables" "[I" ∈ wsX4_cables := by decide +kernel
  have w62 : Cond.fieldLink RX4 62 "CableBookModel" "thrown" "I" ∈ wsX4_cables := by decide +kernel
  have w66 : Cond.fieldLink RX4 66 "CableBookModel" "ports" "I" ∈ wsX4_cables := by decide +kernel
  have hno := hG.no
  have hnp := hG.np
  have hnt := hG.nt
  have hnm := hG.nm
  refine lv_aload_n hx hb dX4_cables_0 rfl (lv_at hl 0 rfl) ?_
  refine lv_iconst (v := 0) hx hb dX4_cables_1 (by decide) ?_
  refine x_put (σ' := ((xu n 10 0), f, o)) S hW hinX4 tyX4 tyX4_ok nmX4 40 (xw_40 E _) rfl 0 (by decide) w62 rfl (by decide +kernel) (Nat.le_of_ble_eq_true rfl) (xw_N10 E _ _ _ _) dX4_cables_2 (fun H locs hW => ?_)
  refine lv_iconst (v := 0) hx hb dX4_cables_5 (by decide) ?_
  refine lv_istore_n (lv' := [(1, .int 0), (0, .ref (E.2.2.2 40))]) hx hb dX4_cables_6 rfl hl (by decide) rfl (fun ls hl => ?_)
  refine lv_iconst (v := 0) hx hb dX4_cables_7 (by decide) ?_
  refine lv_istore_n (lv' := [(2, .int 0), (1, .int 0), (0, .ref (E.2.2.2 40))]) hx hb dX4_cables_8 rfl hl (by decide) rfl (fun ls hl => ?_)
  have L9 : ∀ (fu9 : Nat) (i : Nat) (hμ9 : gNo Γ + 1 - i < fu9) (hi : i ≤ gNo Γ) (H : Heap) (locs : List Loc) (ls : Array Slot), xSt E ((xu n 10 0), f, o) s s.heap H locs → lv_has ls 3 [(0, .ref (E.2.2.2 40)), (1, .int (nI (xcnt (fun q => gCb Γ q ≠ -1) i))), (2, .int (nI i))] → W p l e rmX4_cables s m args below meth c H locs 0 0 (MQ below (va_Qi (fun r σ' => r = nI (xcnt (fun q => gCb Γ q ≠ -1) (gNo Γ) / 2) ∧ xOKR Γ n f o 0 σ') (xWd E) (xA E)) args s 0 0 (xA E)) (F0 m 9 ls []) := by
    intro fu9
    induction fu9 with
    | zero => intro i hμ9; exact absurd hμ9 (Nat.not_lt_zero _)
    | succ fu9 L9 =>
      intro i hμ9 hi H locs ls hW hl
      have hx9 := xcnt_le (fun q => gCb Γ q ≠ -1) i
      refine lv_iload_n hx hb dX4_cables_9 rfl (lv_at hl 2 rfl) ?_
      refine lv_aload_n hx hb dX4_cables_10 rfl (lv_at hl 0 rfl) ?_
      refine x_get (v := .int (n 12)) S hW hinX4 40 (xw_40 E _) rfl 2 (by decide) w66 rfl dX4_cables_11 ?_
      refine x_topN (gNo Γ) (hR.no) ?_
      refine x_icmp_ge (a := i) (b := gNo Γ) (tgt := 41) hx hb dX4_cables_14 (by decide) (by omega) (by omega) (fun c14 => ?_) (fun c14 => ?_)
      · refine lv_iload_n hx hb dX4_cables_41 rfl (lv_at hl 1 rfl) ?_
        refine lv_iconst (v := 2) hx hb dX4_cables_42 (by decide) ?_
        refine lv_idiv hx hb dX4_cables_43 (by decide) ?_
        exact x_reti S hr hlk hW dX4_cables_44 (⟨by rw [show i = gNo Γ by omega] at hx9 ⊢; exact pk_div (d := 2) (by omega) (by decide) (by decide), hR.ok 0⟩)
      · refine lv_iload_n hx hb dX4_cables_17 rfl (lv_at hl 1 rfl) ?_
        refine lv_aload_n hx hb dX4_cables_18 rfl (lv_at hl 0 rfl) ?_
        refine x_get (v := .ref (E.2.2.2 43)) S hW hinX4 40 (xw_40 E _) rfl 7 (by decide) w16 rfl dX4_cables_19 ?_
        refine lv_iload_n hx hb dX4_cables_22 rfl (lv_at hl 2 rfl) ?_
        refine x_ildN (k := i) (v := ((f 22) i)) S hW 43 (xw_43 E _) (rfl) (show i < 144 from by omega) (by decide) rfl dX4_cables_23 ?_
        refine x_topE (gCb Γ i) (hR.cb i (by omega)) ?_
        refine lv_iconst (v := (-1)) hx hb dX4_cables_24 (by decide) ?_
        refine lv_icmp_ne (tgt := 32) hx hb dX4_cables_25 (by decide) (fun c25 => ?_) (fun c25 => ?_)
        · refine lv_iconst (v := 1) hx hb dX4_cables_32 (by decide) ?_
          refine x_iadd (a := xcnt (fun q => gCb Γ q ≠ -1) i) (b := 1) hx hb dX4_cables_33 ?_
          refine lv_istore_n (lv' := [(1, .int (nI ((xcnt (fun q => gCb Γ q ≠ -1) i) + 1))), (0, .ref (E.2.2.2 40)), (2, .int (nI i))]) hx hb dX4_cables_34 rfl hl (by decide) rfl (fun ls hl => ?_)
          refine lv_iinc (v := (nI (i + 1))) (lv' := [(2, .int (nI (i + 1))), (1, .int (nI ((xcnt (fun q => gCb Γ q ≠ -1) i) + 1))), (0, .ref (E.2.2.2 40))]) hx hb dX4_cables_35 hl (k := 2) rfl (x_inc _) (by decide) rfl (fun ls hl => ?_)
          refine lv_goto (tgt := 9) hx hb dX4_cables_38 (by decide) ?_
          first | rw [show xcnt (fun q => gCb Γ q ≠ -1) i + 1 = xcnt (fun q => gCb Γ q ≠ -1) (i + 1) from (xcnt_t c25).symm] at hl | rw [show xcnt (fun q => gCb Γ q ≠ -1) i + 0 = xcnt (fun q => gCb Γ q ≠ -1) (i + 1) from (xcnt_f (not_not_intro c25)).symm] at hl
          exact L9  (i + 1) (by omega) (by omega) _ _ _ hW (lv_sub hl [2, 1, 0] rfl)
        · refine lv_iconst (v := 0) hx hb dX4_cables_28 (by decide) ?_
          refine lv_goto (tgt := 33) hx hb dX4_cables_29 (by decide) ?_
          refine x_iadd (a := xcnt (fun q => gCb Γ q ≠ -1) i) (b := 0) hx hb dX4_cables_33 ?_
          refine lv_istore_n (lv' := [(1, .int (nI ((xcnt (fun q => gCb Γ q ≠ -1) i) + 0))), (0, .ref (E.2.2.2 40)), (2, .int (nI i))]) hx hb dX4_cables_34 rfl hl (by decide) rfl (fun ls hl => ?_)
          refine lv_iinc (v := (nI (i + 1))) (lv' := [(2, .int (nI (i + 1))), (1, .int (nI ((xcnt (fun q => gCb Γ q ≠ -1) i) + 0))), (0, .ref (E.2.2.2 40))]) hx hb dX4_cables_35 hl (k := 2) rfl (x_inc _) (by decide) rfl (fun ls hl => ?_)
          refine lv_goto (tgt := 9) hx hb dX4_cables_38 (by decide) ?_
          first | rw [show xcnt (fun q => gCb Γ q ≠ -1) i + 1 = xcnt (fun q => gCb Γ q ≠ -1) (i + 1) from (xcnt_t c25).symm] at hl | rw [show xcnt (fun q => gCb Γ q ≠ -1) i + 0 = xcnt (fun q => gCb Γ q ≠ -1) (i + 1) from (xcnt_f (not_not_intro c25)).symm] at hl
          exact L9  (i + 1) (by omega) (by omega) _ _ _ hW (lv_sub hl [2, 1, 0] rfl)
  exact L9 _ (0) (Nat.lt_succ_self _) (by omega) _ _ _ hW (lv_sub hl [2, 1, 0] rfl)

abbrev rmX4_cableLength : Room := { frames := 2, cells := 0, slots := 0, locals := 46 }
set_option maxHeartbeats 4000000 in
set_option maxRecDepth 100000 in
theorem c_X4_cableLength (l : Launch) (E : xE) (n : Nat → Int32) (f : Nat → Nat → Int32) (o : Nat → Int64) (Γ : xG) (hG : xGood Γ) (hR : xRepR Γ n f) : xCi l yX4_cableLength wsX4_cableLength rmX4_cableLength E [.ref (E.2.2.2 40)] (n, f, o) (fun r σ' => r = gSum Γ (gNo Γ) ∧ xOKR Γ n f o 0 σ') := by
  refine x_starti RX4 (by decide) rfl rfl (Nat.le_of_ble_eq_true rfl) ?_
  intro p e s m args below meth c ls S hr hlk hW hl
  have hx := S.1
  have hb := S.2.1
  have hl : lv_has ls 3 [(0, .ref (E.2.2.2 40))] := hl
  have hinX4 : ∀ w ∈ wsX40, w ∈ wsX4_cableLength := by decide +kernel
  have w16 : Cond.fieldLink RX4 16 "CableBookModel" "cables" "[I" ∈ wsX4_cableLength := by decide +kernel
  have w62 : Cond.fieldLink RX4 62 "CableBookModel" "thrown" "I" ∈ wsX4_cableLength := by decide +kernel
  have w66 : Cond.fieldLink RX4 66 "CableBookModel" "ports" "I" ∈ wsX4_cableLength := by decide +kernel
  have hno := hG.no
  have hnp := hG.np
  have hnt := hG.nt
  have hnm := hG.nm
  refine lv_aload_n hx hb dX4_cableLength_0 rfl (lv_at hl 0 rfl) ?_
  refine lv_iconst (v := 0) hx hb dX4_cableLength_1 (by decide) ?_
  refine x_put (σ' := ((xu n 10 0), f, o)) S hW hinX4 tyX4 tyX4_ok nmX4 40 (xw_40 E _) rfl 0 (by decide) w62 rfl (by decide +kernel) (Nat.le_of_ble_eq_true rfl) (xw_N10 E _ _ _ _) dX4_cableLength_2 (fun H locs hW => ?_)
  refine lv_iconst (v := 0) hx hb dX4_cableLength_5 (by decide) ?_
  refine lv_istore_n (lv' := [(1, .int 0), (0, .ref (E.2.2.2 40))]) hx hb dX4_cableLength_6 rfl hl (by decide) rfl (fun ls hl => ?_)
  refine lv_iconst (v := 0) hx hb dX4_cableLength_7 (by decide) ?_
  refine lv_istore_n (lv' := [(2, .int 0), (1, .int 0), (0, .ref (E.2.2.2 40))]) hx hb dX4_cableLength_8 rfl hl (by decide) rfl (fun ls hl => ?_)
  have L9 : ∀ (fu9 : Nat) (i : Nat) (hμ9 : gNo Γ + 1 - i < fu9) (hi : i ≤ gNo Γ) (H : Heap) (locs : List Loc) (ls : Array Slot), xSt E ((xu n 10 0), f, o) s s.heap H locs → lv_has ls 3 [(0, .ref (E.2.2.2 40)), (1, .int (gSum Γ i)), (2, .int (nI i))] → W p l e rmX4_cableLength s m args below meth c H locs 0 0 (MQ below (va_Qi (fun r σ' => r = gSum Γ (gNo Γ) ∧ xOKR Γ n f o 0 σ') (xWd E) (xA E)) args s 0 0 (xA E)) (F0 m 9 ls []) := by
    intro fu9
    induction fu9 with
    | zero => intro i hμ9; exact absurd hμ9 (Nat.not_lt_zero _)
    | succ fu9 L9 =>
      intro i hμ9 hi H locs ls hW hl
      refine lv_iload_n hx hb dX4_cableLength_9 rfl (lv_at hl 2 rfl) ?_
      refine lv_aload_n hx hb dX4_cableLength_10 rfl (lv_at hl 0 rfl) ?_
      refine x_get (v := .int (n 12)) S hW hinX4 40 (xw_40 E _) rfl 2 (by decide) w66 rfl dX4_cableLength_11 ?_
      refine x_topN (gNo Γ) (hR.no) ?_
      refine x_icmp_ge (a := i) (b := gNo Γ) (tgt := 51) hx hb dX4_cableLength_14 (by decide) (by omega) (by omega) (fun c14 => ?_) (fun c14 => ?_)
      · refine lv_iload_n hx hb dX4_cableLength_51 rfl (lv_at hl 1 rfl) ?_
        exact x_reti S hr hlk hW dX4_cableLength_52 (⟨by rw [show i = gNo Γ by omega], hR.ok 0⟩)
      · refine lv_iload_n hx hb dX4_cableLength_17 rfl (lv_at hl 1 rfl) ?_
        refine lv_aload_n hx hb dX4_cableLength_18 rfl (lv_at hl 0 rfl) ?_
        refine x_get (v := .ref (E.2.2.2 43)) S hW hinX4 40 (xw_40 E _) rfl 7 (by decide) w16 rfl dX4_cableLength_19 ?_
        refine lv_iload_n hx hb dX4_cableLength_22 rfl (lv_at hl 2 rfl) ?_
        refine x_ildN (k := i) (v := ((f 22) i)) S hW 43 (xw_43 E _) (rfl) (show i < 144 from by omega) (by decide) rfl dX4_cableLength_23 ?_
        refine x_topE (gCb Γ i) (hR.cb i (by omega)) ?_
        refine lv_iload_n hx hb dX4_cableLength_24 rfl (lv_at hl 2 rfl) ?_
        refine lv_icmp_le (tgt := 42) hx hb dX4_cableLength_25 (by decide) (fun c25 => ?_) (fun c25 => ?_)
        · refine lv_iconst (v := 0) hx hb dX4_cableLength_42 (by decide) ?_
          refine lv_iadd hx hb dX4_cableLength_43 ?_
          refine x_topE (gSum Γ (i + 1)) (by rw [gSum, xif_f (Int32.not_lt.mpr c25)]) ?_
          refine lv_istore_n (lv' := [(1, .int (gSum Γ (i + 1))), (0, .ref (E.2.2.2 40)), (2, .int (nI i))]) hx hb dX4_cableLength_44 rfl hl (by decide) rfl (fun ls hl => ?_)
          refine lv_iinc (v := (nI (i + 1))) (lv' := [(2, .int (nI (i + 1))), (1, .int (gSum Γ (i + 1))), (0, .ref (E.2.2.2 40))]) hx hb dX4_cableLength_45 hl (k := 2) rfl (x_inc _) (by decide) rfl (fun ls hl => ?_)
          refine lv_goto (tgt := 9) hx hb dX4_cableLength_48 (by decide) ?_
          exact L9  (i + 1) (by omega) (by omega) _ _ _ hW (lv_sub hl [2, 1, 0] rfl)
        · have h14 := Int32.not_le.mp c25
          obtain ⟨z, hz, -, ez, -⟩ := (hG.cb i (by omega)).resolve_left (fun e => by rw [e] at h14; exact absurd h14 (Int32.not_lt.mpr (Int32.le_trans (by decide) (nI_pos' (n := i) (by omega)))))
          refine lv_aload_n hx hb dX4_cableLength_28 rfl (lv_at hl 0 rfl) ?_
          refine lv_iload_n hx hb dX4_cableLength_29 rfl (lv_at hl 2 rfl) ?_
          refine lv_aload_n hx hb dX4_cableLength_30 rfl (lv_at hl 0 rfl) ?_
          refine x_get (v := .ref (E.2.2.2 43)) S hW hinX4 40 (xw_40 E _) rfl 7 (by decide) w16 rfl dX4_cableLength_31 ?_
          refine lv_iload_n hx hb dX4_cableLength_34 rfl (lv_at hl 2 rfl) ?_
          refine x_ildN (k := i) (v := ((f 22) i)) S hW 43 (xw_43 E _) (rfl) (show i < 144 from by omega) (by decide) rfl dX4_cableLength_35 ?_
          refine x_topN (z) ((hR.cb i (by omega)).trans ez) ?_
          refine x_Vi (rest := [.int (gSum Γ i)]) S (c_X4_length l E (xu n 10 0) f o Γ hG hR (p1 := i) (by omega) (p2 := z) hz) (cwV 2 S.2.2.2.2 gX4_cableLength_X4_length rfl rfl rfl (by decide +kernel) ⟨Nat.le_of_ble_eq_true rfl, Nat.le_of_ble_eq_true rfl⟩) hW 40 (xw_40 E _) rfl rfl rfl hl.1 (Nat.le_of_ble_eq_true rfl) dX4_cableLength_36 ⟨Nat.zero_le _, Nat.zero_le _⟩ (fun r36 σ36 H locs hq1 hW => ?_)
          obtain ⟨rfl, rfl⟩ := hq1
          refine lv_goto (tgt := 43) hx hb dX4_cableLength_39 (by decide) ?_
          refine lv_iadd hx hb dX4_cableLength_43 ?_
          refine x_topE (gSum Γ (i + 1)) (by rw [gSum, xif_t h14, ez, xNa_n (by omega)]) ?_
          refine lv_istore_n (lv' := [(1, .int (gSum Γ (i + 1))), (0, .ref (E.2.2.2 40)), (2, .int (nI i))]) hx hb dX4_cableLength_44 rfl hl (by decide) rfl (fun ls hl => ?_)
          refine lv_iinc (v := (nI (i + 1))) (lv' := [(2, .int (nI (i + 1))), (1, .int (gSum Γ (i + 1))), (0, .ref (E.2.2.2 40))]) hx hb dX4_cableLength_45 hl (k := 2) rfl (x_inc _) (by decide) rfl (fun ls hl => ?_)
          refine lv_goto (tgt := 9) hx hb dX4_cableLength_48 (by decide) ?_
          exact L9  (i + 1) (by omega) (by omega) _ _ _ hW (lv_sub hl [2, 1, 0] rfl)
  exact L9 _ (0) (Nat.lt_succ_self _) (by omega) _ _ _ hW (lv_sub hl [2, 1, 0] rfl)

abbrev rmX4_freePort : Room := { frames := 2, cells := 0, slots := 0, locals := 43 }
set_option maxHeartbeats 4000000 in
set_option maxRecDepth 100000 in
theorem c_X4_freePort (l : Launch) (E : xE) (n : Nat → Int32) (f : Nat → Nat → Int32) (o : Nat → Int64) (Γ : xG) (hG : xGood Γ) (hR : xRepR Γ n f) (a : Int32) : xCi l yX4_freePort wsX4_freePort rmX4_freePort E [.ref (E.2.2.2 40), .int a] (n, f, o) (fun r σ' => (ocPanel Γ a = 0 ∧ xFF (fun q => gCb Γ q = -1 ∧ gSt Γ q = -1) (gFs Γ (xNa a)) (gFs Γ (xNa a + 1) - gFs Γ (xNa a)) r ∧ xOKR Γ n f o 0 σ') ∨ (ocPanel Γ a ≠ 0 ∧ xOKR Γ n f o (ocPanel Γ a) σ')) := by
  refine x_starti RX4 (by decide) rfl rfl (Nat.le_of_ble_eq_true rfl) ?_
  intro p e s m args below meth c ls S hr hlk hW hl
  have hx := S.1
  have hb := S.2.1
  have hl : lv_has ls 3 [(0, .ref (E.2.2.2 40)), (1, .int a)] := hl
  have hinX4 : ∀ w ∈ wsX40, w ∈ wsX4_freePort := by decide +kernel
  have w13 : Cond.fieldLink RX4 13 "CableBookModel" "firsts" "[I" ∈ wsX4_freePort := by decide +kernel
  have w16 : Cond.fieldLink RX4 16 "CableBookModel" "cables" "[I" ∈ wsX4_freePort := by decide +kernel
  have w22 : Cond.fieldLink RX4 22 "CableBookModel" "strands" "[I" ∈ wsX4_freePort := by decide +kernel
  have hno := hG.no
  have hnp := hG.np
  have hnt := hG.nt
  have hnm := hG.nm
  refine lv_aload_n hx hb dX4_freePort_0 rfl (lv_at hl 0 rfl) ?_
  refine lv_aload_n hx hb dX4_freePort_1 rfl (lv_at hl 0 rfl) ?_
  refine lv_iload_n hx hb dX4_freePort_2 rfl (lv_at hl 1 rfl) ?_
  refine x_Vi (rest := [.ref (E.2.2.2 40)]) S (c_X4_isPanel l E n f o Γ hG hR a) (cwV 1 S.2.2.2.2 gX4_freePort_X4_isPanel rfl rfl rfl (by decide +kernel) ⟨Nat.le_of_ble_eq_true rfl, Nat.le_of_ble_eq_true rfl⟩) hW 40 (xw_40 E _) rfl rfl rfl hl.1 (Nat.le_of_ble_eq_true rfl) dX4_freePort_3 ⟨Nat.zero_le _, Nat.zero_le _⟩ (fun r3 σ3 H locs hq1 hW => ?_)
  rcases hq1 with ⟨rfl, h3, rfl⟩ | ⟨rfl, h3, rfl⟩
  · refine lv_if_eq (tgt := 13) hx hb dX4_freePort_6 (by decide) (fun c6 => ?_) (fun c6 => ?_)
    rotate_left
    · exact absurd c6 (by decide)
    refine lv_iconst (v := 1) hx hb dX4_freePort_13 (by decide) ?_
    refine x_Vi (rest := []) S (c_X4_holds l E n f o 1) (cwV 1 S.2.2.2.2 gX4_freePort_X4_holds rfl rfl rfl (by decide +kernel) ⟨Nat.le_of_ble_eq_true rfl, Nat.le_of_ble_eq_true rfl⟩) hW 40 (xw_40 E _) rfl rfl rfl hl.1 (Nat.le_of_ble_eq_true rfl) dX4_freePort_14 ⟨Nat.zero_le _, Nat.zero_le _⟩ (fun r14 σ14 H locs hq2 hW => ?_)
    rcases hq2 with ⟨h14, rfl, rfl⟩ | ⟨-, rfl, rfl⟩
    · exact absurd h14 (by decide)
    · refine lv_if_ne (tgt := 22) hx hb dX4_freePort_17 (by decide) (fun c17 => ?_) (fun c17 => ?_)
      · exact absurd c17 (by decide)
      refine lv_iconst (v := 0) hx hb dX4_freePort_20 (by decide) ?_
      exact x_reti S hr hlk hW dX4_freePort_21 (.inr (xbad (k := 1) (xif_t h3) (by decide) (hR.ok 1)))
  · obtain ⟨q3, hq3, rfl⟩ := h3
    refine lv_if_eq (tgt := 13) hx hb dX4_freePort_6 (by decide) (fun c6 => ?_) (fun c6 => ?_)
    · exact absurd c6 (by decide)
    refine lv_iconst (v := 0) hx hb dX4_freePort_9 (by decide) ?_
    refine lv_goto (tgt := 14) hx hb dX4_freePort_10 (by decide) ?_
    refine x_Vi (rest := []) S (c_X4_holds l E n f o 0) (cwV 1 S.2.2.2.2 gX4_freePort_X4_holds rfl rfl rfl (by decide +kernel) ⟨Nat.le_of_ble_eq_true rfl, Nat.le_of_ble_eq_true rfl⟩) hW 40 (xw_40 E _) rfl rfl rfl hl.1 (Nat.le_of_ble_eq_true rfl) dX4_freePort_14 ⟨Nat.zero_le _, Nat.zero_le _⟩ (fun r14 σ14 H locs hq3 hW => ?_)
    rcases hq3 with ⟨-, rfl, rfl⟩ | ⟨h14, rfl, rfl⟩
    · refine lv_if_ne (tgt := 22) hx hb dX4_freePort_17 (by decide) (fun c17 => ?_) (fun c17 => ?_)
      rotate_left
      · exact absurd c17 (by decide)
      refine lv_aload_n hx hb dX4_freePort_22 rfl (lv_at hl 0 rfl) ?_
      refine x_get (v := .ref (E.2.2.2 42)) S hW hinX4 40 (xw_40 E _) rfl 6 (by decide) w13 rfl dX4_freePort_23 ?_
      refine lv_iload_n hx hb dX4_freePort_26 rfl (lv_at hl 1 rfl) ?_
      refine x_ildN (k := q3) (v := ((f 21) q3)) S hW 42 (xw_42 E _) (rfl) (show q3 < 13 from by omega) (by decide) rfl dX4_freePort_27 ?_
      have hf9 := hG.fno (k := q3 + 1) (by omega)
      have hf8 := (hG.fs q3 hq3).1
      refine x_topN (gFs Γ q3) (hR.fs q3 (by omega)) ?_
      refine lv_istore_n (lv' := [(2, .int (nI (gFs Γ q3))), (0, .ref (E.2.2.2 40)), (1, .int (nI q3))]) hx hb dX4_freePort_28 rfl hl (by decide) rfl (fun ls hl => ?_)
      have L29 : ∀ (fu29 : Nat) (i : Nat) (hμ29 : gFs Γ (q3 + 1) - gFs Γ q3 + 1 - i < fu29) (hi : i ≤ gFs Γ (q3 + 1) - gFs Γ q3) (h0 : ∀ q, q < i → ¬ (fun q => gCb Γ q = -1 ∧ gSt Γ q = -1) (gFs Γ q3 + q)) (H : Heap) (locs : List Loc) (ls : Array Slot), xSt E ((xu n 10 0), f, o) s s.heap H locs → lv_has ls 3 [(0, .ref (E.2.2.2 40)), (1, .int (nI q3)), (2, .int (nI (gFs Γ q3 + i)))] → W p l e rmX4_freePort s m args below meth c H locs 0 0 (MQ below (va_Qi (fun r σ' => (ocPanel Γ (nI q3) = 0 ∧ xFF (fun q => gCb Γ q = -1 ∧ gSt Γ q = -1) (gFs Γ (xNa (nI q3))) (gFs Γ (xNa (nI q3) + 1) - gFs Γ (xNa (nI q3))) r ∧ xOKR Γ n f o 0 σ') ∨ (ocPanel Γ (nI q3) ≠ 0 ∧ xOKR Γ n f o (ocPanel Γ (nI q3)) σ')) (xWd E) (xA E)) args s 0 0 (xA E)) (F0 m 29 ls []) := by
        intro fu29
        induction fu29 with
        | zero => intro i hμ29; exact absurd hμ29 (Nat.not_lt_zero _)
        | succ fu29 L29 =>
          intro i hμ29 hi h0 H locs ls hW hl
          refine lv_iload_n hx hb dX4_freePort_29 rfl (lv_at hl 2 rfl) ?_
          refine lv_aload_n hx hb dX4_freePort_30 rfl (lv_at hl 0 rfl) ?_
          refine x_get (v := .ref (E.2.2.2 42)) S hW hinX4 40 (xw_40 E _) rfl 6 (by decide) w13 rfl dX4_freePort_31 ?_
          refine lv_iload_n hx hb dX4_freePort_34 rfl (lv_at hl 1 rfl) ?_
          refine lv_iconst (v := 1) hx hb dX4_freePort_35 (by decide) ?_
          refine x_iadd (a := q3) (b := 1) hx hb dX4_freePort_36 ?_
          refine x_ildN (k := q3 + 1) (v := ((f 21) (q3 + 1))) S hW 42 (xw_42 E _) (rfl) (show q3 + 1 < 13 from by omega) (by decide) rfl dX4_freePort_37 ?_
          refine x_topN (gFs Γ (q3 + 1)) (hR.fs _ (by omega)) ?_
          refine x_icmp_ge (a := gFs Γ q3 + i) (b := gFs Γ (q3 + 1)) (tgt := 69) hx hb dX4_freePort_38 (by decide) (by omega) (by omega) (fun c38 => ?_) (fun c38 => ?_)
          · refine lv_iconst (v := (-1)) hx hb dX4_freePort_69 (by decide) ?_
            exact x_reti S hr hlk hW dX4_freePort_70 (.inl ⟨xif_f (not_not_intro (xPn hq3)), by rw [xNa_n (by omega)]; exact Or.inr ⟨fun q hq => h0 q (by omega), rfl⟩, hR.ok 0⟩)
          · refine lv_aload_n hx hb dX4_freePort_41 rfl (lv_at hl 0 rfl) ?_
            refine x_get (v := .ref (E.2.2.2 43)) S hW hinX4 40 (xw_40 E _) rfl 7 (by decide) w16 rfl dX4_freePort_42 ?_
            refine lv_iload_n hx hb dX4_freePort_45 rfl (lv_at hl 2 rfl) ?_
            refine x_ildN (k := gFs Γ q3 + i) (v := ((f 22) (gFs Γ q3 + i))) S hW 43 (xw_43 E _) (rfl) (show gFs Γ q3 + i < 144 from by omega) (by decide) rfl dX4_freePort_46 ?_
            refine x_topE (gCb Γ (gFs Γ q3 + i)) (hR.cb _ (by omega)) ?_
            refine lv_iconst (v := (-1)) hx hb dX4_freePort_47 (by decide) ?_
            refine lv_icmp_ne (tgt := 63) hx hb dX4_freePort_48 (by decide) (fun c48 => ?_) (fun c48 => ?_)
            · refine lv_iinc (v := (nI (gFs Γ q3 + i + 1))) (lv' := [(2, .int (nI (gFs Γ q3 + i + 1))), (0, .ref (E.2.2.2 40)), (1, .int (nI q3))]) hx hb dX4_freePort_63 hl (k := 2) rfl (x_inc _) (by decide) rfl (fun ls hl => ?_)
              refine lv_goto (tgt := 29) hx hb dX4_freePort_66 (by decide) ?_
              exact L29  (i + 1) (by omega) (by omega) (lt_s h0 (by first | exact fun h => c48 h.1 | exact fun h => c58 h.2)) _ _ _ hW (lv_sub hl [1, 2, 0] rfl)
            · refine lv_aload_n hx hb dX4_freePort_51 rfl (lv_at hl 0 rfl) ?_
              refine x_get (v := .ref (E.2.2.2 45)) S hW hinX4 40 (xw_40 E _) rfl 9 (by decide) w22 rfl dX4_freePort_52 ?_
              refine lv_iload_n hx hb dX4_freePort_55 rfl (lv_at hl 2 rfl) ?_
              refine x_ildN (k := gFs Γ q3 + i) (v := ((f 24) (gFs Γ q3 + i))) S hW 45 (xw_45 E _) (rfl) (show gFs Γ q3 + i < 144 from by omega) (by decide) rfl dX4_freePort_56 ?_
              refine x_topE (gSt Γ (gFs Γ q3 + i)) (hR.st _ (by omega)) ?_
              refine lv_iconst (v := (-1)) hx hb dX4_freePort_57 (by decide) ?_
              refine lv_icmp_ne (tgt := 63) hx hb dX4_freePort_58 (by decide) (fun c58 => ?_) (fun c58 => ?_)
              · refine lv_iinc (v := (nI (gFs Γ q3 + i + 1))) (lv' := [(2, .int (nI (gFs Γ q3 + i + 1))), (0, .ref (E.2.2.2 40)), (1, .int (nI q3))]) hx hb dX4_freePort_63 hl (k := 2) rfl (x_inc _) (by decide) rfl (fun ls hl => ?_)
                refine lv_goto (tgt := 29) hx hb dX4_freePort_66 (by decide) ?_
                exact L29  (i + 1) (by omega) (by omega) (lt_s h0 (by first | exact fun h => c48 h.1 | exact fun h => c58 h.2)) _ _ _ hW (lv_sub hl [1, 2, 0] rfl)
              · refine lv_iload_n hx hb dX4_freePort_61 rfl (lv_at hl 2 rfl) ?_
                exact x_reti S hr hlk hW dX4_freePort_62 (.inl ⟨xif_f (not_not_intro (xPn hq3)), by rw [xNa_n (by omega)]; exact Or.inl ⟨i, by omega, ⟨c48, c58⟩, h0, rfl⟩, hR.ok 0⟩)
      exact L29 _ (0) (Nat.lt_succ_self _) (by omega) (fun q hq => absurd hq (Nat.not_lt_zero q)) _ _ _ hW (lv_sub hl [1, 2, 0] rfl)
    · exact absurd h14 (by decide)

abbrev rmX4_freeStrand : Room := { frames := 2, cells := 0, slots := 0, locals := 43 }
set_option maxHeartbeats 4000000 in
set_option maxRecDepth 100000 in
theorem c_X4_freeStrand (l : Launch) (E : xE) (n : Nat → Int32) (f : Nat → Nat → Int32) (o : Nat → Int64) (Γ : xG) (hG : xGood Γ) (hR : xRepR Γ n f) (a a2 : Int32) : xCi l yX4_freeStrand wsX4_freeStrand rmX4_freeStrand E [.ref (E.2.2.2 40), .int a, .int a2] (n, f, o) (fun r σ' => (oc2p Γ a a2 = 0 ∧ xFF (fun q => ∃ z, z < gNo Γ ∧ gOp Γ q = nI z ∧ gPn Γ z = xNa a2 ∧ gCb Γ q = -1 ∧ gCb Γ z = -1) (gFs Γ (xNa a)) (gFs Γ (xNa a + 1) - gFs Γ (xNa a)) r ∧ xOKR Γ n f o 0 σ') ∨ (oc2p Γ a a2 ≠ 0 ∧ xOKR Γ n f o (oc2p Γ a a2) σ')) := by
  refine x_starti RX4 (by decide) rfl rfl (Nat.le_of_ble_eq_true rfl) ?_
  intro p e s m args below meth c ls S hr hlk hW hl
  have hx := S.1
  have hb := S.2.1
  have hl : lv_has ls 5 [(0, .ref (E.2.2.2 40)), (1, .int a), (2, .int a2)] := hl
  have hinX4 : ∀ w ∈ wsX40, w ∈ wsX4_freeStrand := by decide +kernel
  have w13 : Cond.fieldLink RX4 13 "CableBookModel" "firsts" "[I" ∈ wsX4_freeStrand := by decide +kernel
  have w16 : Cond.fieldLink RX4 16 "CableBookModel" "cables" "[I" ∈ wsX4_freeStrand := by decide +kernel
  have hno := hG.no
  have hnp := hG.np
  have hnt := hG.nt
  have hnm := hG.nm
  refine lv_aload_n hx hb dX4_freeStrand_0 rfl (lv_at hl 0 rfl) ?_
  refine lv_aload_n hx hb dX4_freeStrand_1 rfl (lv_at hl 0 rfl) ?_
  refine lv_iload_n hx hb dX4_freeStrand_2 rfl (lv_at hl 1 rfl) ?_
  refine x_Vi (rest := [.ref (E.2.2.2 40)]) S (c_X4_isPanel l E n f o Γ hG hR a) (cwV 1 S.2.2.2.2 gX4_freeStrand_X4_isPanel rfl rfl rfl (by decide +kernel) ⟨Nat.le_of_ble_eq_true rfl, Nat.le_of_ble_eq_true rfl⟩) hW 40 (xw_40 E _) rfl rfl rfl hl.1 (Nat.le_of_ble_eq_true rfl) dX4_freeStrand_3 ⟨Nat.zero_le _, Nat.zero_le _⟩ (fun r3 σ3 H locs hq1 hW => ?_)
  rcases hq1 with ⟨rfl, h3, rfl⟩ | ⟨rfl, h3, rfl⟩
  · refine lv_if_eq (tgt := 21) hx hb dX4_freeStrand_6 (by decide) (fun c6 => ?_) (fun c6 => ?_)
    rotate_left
    · exact absurd c6 (by decide)
    refine lv_iconst (v := 1) hx hb dX4_freeStrand_21 (by decide) ?_
    refine x_Vi (rest := []) S (c_X4_holds l E n f o 1) (cwV 1 S.2.2.2.2 gX4_freeStrand_X4_holds rfl rfl rfl (by decide +kernel) ⟨Nat.le_of_ble_eq_true rfl, Nat.le_of_ble_eq_true rfl⟩) hW 40 (xw_40 E _) rfl rfl rfl hl.1 (Nat.le_of_ble_eq_true rfl) dX4_freeStrand_22 ⟨Nat.zero_le _, Nat.zero_le _⟩ (fun r22 σ22 H locs hq2 hW => ?_)
    rcases hq2 with ⟨h22, rfl, rfl⟩ | ⟨-, rfl, rfl⟩
    · exact absurd h22 (by decide)
    · refine lv_if_ne (tgt := 30) hx hb dX4_freeStrand_25 (by decide) (fun c25 => ?_) (fun c25 => ?_)
      · exact absurd c25 (by decide)
      refine lv_iconst (v := 0) hx hb dX4_freeStrand_28 (by decide) ?_
      exact x_reti S hr hlk hW dX4_freeStrand_29 (by first | exact .inr (xbad (k := 1) (xif_t (fun q => h3 q.1)) (by decide) (hR.ok 1)) | exact .inr (xbad (k := 1) (xif_t (fun q => h11 q.2)) (by decide) (hR.ok 1)))
  · obtain ⟨q4, hq4, rfl⟩ := h3
    refine lv_if_eq (tgt := 21) hx hb dX4_freeStrand_6 (by decide) (fun c6 => ?_) (fun c6 => ?_)
    · exact absurd c6 (by decide)
    refine lv_aload_n hx hb dX4_freeStrand_9 rfl (lv_at hl 0 rfl) ?_
    refine lv_iload_n hx hb dX4_freeStrand_10 rfl (lv_at hl 2 rfl) ?_
    refine x_Vi (rest := [.ref (E.2.2.2 40)]) S (c_X4_isPanel l E n f o Γ hG hR a2) (cwV 1 S.2.2.2.2 gX4_freeStrand_X4_isPanel rfl rfl rfl (by decide +kernel) ⟨Nat.le_of_ble_eq_true rfl, Nat.le_of_ble_eq_true rfl⟩) hW 40 (xw_40 E _) rfl rfl rfl hl.1 (Nat.le_of_ble_eq_true rfl) dX4_freeStrand_11 ⟨Nat.zero_le _, Nat.zero_le _⟩ (fun r11 σ11 H locs hq3 hW => ?_)
    rcases hq3 with ⟨rfl, h11, rfl⟩ | ⟨rfl, h11, rfl⟩
    · refine lv_if_eq (tgt := 21) hx hb dX4_freeStrand_14 (by decide) (fun c14 => ?_) (fun c14 => ?_)
      rotate_left
      · exact absurd c14 (by decide)
      refine lv_iconst (v := 1) hx hb dX4_freeStrand_21 (by decide) ?_
      refine x_Vi (rest := []) S (c_X4_holds l E n f o 1) (cwV 1 S.2.2.2.2 gX4_freeStrand_X4_holds rfl rfl rfl (by decide +kernel) ⟨Nat.le_of_ble_eq_true rfl, Nat.le_of_ble_eq_true rfl⟩) hW 40 (xw_40 E _) rfl rfl rfl hl.1 (Nat.le_of_ble_eq_true rfl) dX4_freeStrand_22 ⟨Nat.zero_le _, Nat.zero_le _⟩ (fun r22 σ22 H locs hq4 hW => ?_)
      rcases hq4 with ⟨h22, rfl, rfl⟩ | ⟨-, rfl, rfl⟩
      · exact absurd h22 (by decide)
      · refine lv_if_ne (tgt := 30) hx hb dX4_freeStrand_25 (by decide) (fun c25 => ?_) (fun c25 => ?_)
        · exact absurd c25 (by decide)
        refine lv_iconst (v := 0) hx hb dX4_freeStrand_28 (by decide) ?_
        exact x_reti S hr hlk hW dX4_freeStrand_29 (by first | exact .inr (xbad (k := 1) (xif_t (fun q => h3 q.1)) (by decide) (hR.ok 1)) | exact .inr (xbad (k := 1) (xif_t (fun q => h11 q.2)) (by decide) (hR.ok 1)))
    · obtain ⟨q5, hq5, rfl⟩ := h11
      refine lv_if_eq (tgt := 21) hx hb dX4_freeStrand_14 (by decide) (fun c14 => ?_) (fun c14 => ?_)
      · exact absurd c14 (by decide)
      refine lv_iconst (v := 0) hx hb dX4_freeStrand_17 (by decide) ?_
      refine lv_goto (tgt := 22) hx hb dX4_freeStrand_18 (by decide) ?_
      refine x_Vi (rest := []) S (c_X4_holds l E n f o 0) (cwV 1 S.2.2.2.2 gX4_freeStrand_X4_holds rfl rfl rfl (by decide +kernel) ⟨Nat.le_of_ble_eq_true rfl, Nat.le_of_ble_eq_true rfl⟩) hW 40 (xw_40 E _) rfl rfl rfl hl.1 (Nat.le_of_ble_eq_true rfl) dX4_freeStrand_22 ⟨Nat.zero_le _, Nat.zero_le _⟩ (fun r22 σ22 H locs hq5 hW => ?_)
      rcases hq5 with ⟨-, rfl, rfl⟩ | ⟨h22, rfl, rfl⟩
      · refine lv_if_ne (tgt := 30) hx hb dX4_freeStrand_25 (by decide) (fun c25 => ?_) (fun c25 => ?_)
        rotate_left
        · exact absurd c25 (by decide)
        refine lv_aload_n hx hb dX4_freeStrand_30 rfl (lv_at hl 0 rfl) ?_
        refine x_get (v := .ref (E.2.2.2 42)) S hW hinX4 40 (xw_40 E _) rfl 6 (by decide) w13 rfl dX4_freeStrand_31 ?_
        refine lv_iload_n hx hb dX4_freeStrand_34 rfl (lv_at hl 1 rfl) ?_
        refine x_ildN (k := q4) (v := ((f 21) q4)) S hW 42 (xw_42 E _) (rfl) (show q4 < 13 from by omega) (by decide) rfl dX4_freeStrand_35 ?_
        have hf9 := hG.fno (k := q4 + 1) (by omega)
        have hf8 := (hG.fs q4 hq4).1
        refine x_topN (gFs Γ q4) (hR.fs q4 (by omega)) ?_
        refine lv_istore_n (lv' := [(3, .int (nI (gFs Γ q4))), (0, .ref (E.2.2.2 40)), (1, .int (nI q4)), (2, .int (nI q5))]) hx hb dX4_freeStrand_36 rfl hl (by decide) rfl (fun ls hl => ?_)
        have L37 : ∀ (fu37 : Nat) (i : Nat) (hμ37 : gFs Γ (q4 + 1) - gFs Γ q4 + 1 - i < fu37) (hi : i ≤ gFs Γ (q4 + 1) - gFs Γ q4) (h0 : ∀ q, q < i → ¬ (fun q => ∃ z, z < gNo Γ ∧ gOp Γ q = nI z ∧ gPn Γ z = q5 ∧ gCb Γ q = -1 ∧ gCb Γ z = -1) (gFs Γ q4 + q)) (H : Heap) (locs : List Loc) (ls : Array Slot), xSt E ((xu n 10 0), f, o) s s.heap H locs → lv_has ls 5 [(0, .ref (E.2.2.2 40)), (1, .int (nI q4)), (2, .int (nI q5)), (3, .int (nI (gFs Γ q4 + i)))] → W p l e rmX4_freeStrand s m args below meth c H locs 0 0 (MQ below (va_Qi (fun r σ' => (oc2p Γ (nI q4) (nI q5) = 0 ∧ xFF (fun q => ∃ z, z < gNo Γ ∧ gOp Γ q = nI z ∧ gPn Γ z = xNa (nI q5) ∧ gCb Γ q = -1 ∧ gCb Γ z = -1) (gFs Γ (xNa (nI q4))) (gFs Γ (xNa (nI q4) + 1) - gFs Γ (xNa (nI q4))) r ∧ xOKR Γ n f o 0 σ') ∨ (oc2p Γ (nI q4) (nI q5) ≠ 0 ∧ xOKR Γ n f o (oc2p Γ (nI q4) (nI q5)) σ')) (xWd E) (xA E)) args s 0 0 (xA E)) (F0 m 37 ls []) := by
          intro fu37
          induction fu37 with
          | zero => intro i hμ37; exact absurd hμ37 (Nat.not_lt_zero _)
          | succ fu37 L37 =>
            intro i hμ37 hi h0 H locs ls hW hl
            refine lv_iload_n hx hb dX4_freeStrand_37 rfl (lv_at hl 3 rfl) ?_
            refine lv_aload_n hx hb dX4_freeStrand_38 rfl (lv_at hl 0 rfl) ?_
            refine x_get (v := .ref (E.2.2.2 42)) S hW hinX4 40 (xw_40 E _) rfl 6 (by decide) w13 rfl dX4_freeStrand_39 ?_
            refine lv_iload_n hx hb dX4_freeStrand_42 rfl (lv_at hl 1 rfl) ?_
            refine lv_iconst (v := 1) hx hb dX4_freeStrand_43 (by decide) ?_
            refine x_iadd (a := q4) (b := 1) hx hb dX4_freeStrand_44 ?_
            refine x_ildN (k := q4 + 1) (v := ((f 21) (q4 + 1))) S hW 42 (xw_42 E _) (rfl) (show q4 + 1 < 13 from by omega) (by decide) rfl dX4_freeStrand_45 ?_
            refine x_topN (gFs Γ (q4 + 1)) (hR.fs _ (by omega)) ?_
            refine x_icmp_ge (a := gFs Γ q4 + i) (b := gFs Γ (q4 + 1)) (tgt := 102) hx hb dX4_freeStrand_46 (by decide) (by omega) (by omega) (fun c46 => ?_) (fun c46 => ?_)
            · refine lv_iconst (v := (-1)) hx hb dX4_freeStrand_102 (by decide) ?_
              exact x_reti S hr hlk hW dX4_freeStrand_103 (.inl ⟨xif_f (not_not_intro ⟨xPn hq4, xPn hq5⟩), by rw [xNa_n (by omega), xNa_n (by omega)]; exact Or.inr ⟨fun q hq => h0 q (by omega), rfl⟩, hR.ok 0⟩)
            · refine lv_aload_n hx hb dX4_freeStrand_49 rfl (lv_at hl 0 rfl) ?_
              refine lv_iload_n hx hb dX4_freeStrand_50 rfl (lv_at hl 3 rfl) ?_
              refine lv_iconst (v := 0) hx hb dX4_freeStrand_51 (by decide) ?_
              refine x_Vi (rest := []) S (c_X4_next l E (xu n 10 0) f o Γ hG hR (p1 := (gFs Γ q4 + i)) (show gFs Γ q4 + i < gNo Γ by omega) false) (cwV 2 S.2.2.2.2 gX4_freeStrand_X4_next rfl rfl rfl (by decide +kernel) ⟨Nat.le_of_ble_eq_true rfl, Nat.le_of_ble_eq_true rfl⟩) hW 40 (xw_40 E _) rfl rfl rfl hl.1 (Nat.le_of_ble_eq_true rfl) dX4_freeStrand_52 ⟨Nat.zero_le _, Nat.zero_le _⟩ (fun r52 σ52 H locs hq6 hW => ?_)
              obtain ⟨rfl, rfl⟩ := hq6
              refine x_topE (gOp Γ (gFs Γ q4 + i)) (rfl) ?_
              refine lv_istore (lv' := [(4, .int (gOp Γ (gFs Γ q4 + i))), (0, .ref (E.2.2.2 40)), (1, .int (nI q4)), (2, .int (nI q5)), (3, .int (nI (gFs Γ q4 + i)))]) hx hb dX4_freeStrand_55 hl (by decide) rfl (fun ls hl => ?_)
              refine lv_iload hx hb dX4_freeStrand_57 (lv_at hl 0 rfl) ?_
              refine lv_iconst (v := (-1)) hx hb dX4_freeStrand_59 (by decide) ?_
              refine lv_icmp_eq (tgt := 96) hx hb dX4_freeStrand_60 (by decide) (fun c60 => ?_) (fun c60 => ?_)
              · refine lv_iinc (v := (nI (gFs Γ q4 + i + 1))) (lv' := [(3, .int (nI (gFs Γ q4 + i + 1))), (4, .int (gOp Γ (gFs Γ q4 + i))), (0, .ref (E.2.2.2 40)), (1, .int (nI q4)), (2, .int (nI q5))]) hx hb dX4_freeStrand_96 hl (k := 4) rfl (x_inc _) (by decide) rfl (fun ls hl => ?_)
                refine lv_goto (tgt := 37) hx hb dX4_freeStrand_99 (by decide) ?_
                exact L37  (i + 1) (by omega) (by omega) (lt_s h0 (by rintro ⟨z9, a1, a2, a3, a4, a5⟩; first | exact absurd (a2.symm.trans c60) (nI_m1 (by omega)) | (obtain rfl : z = z9 := nI_inj (by omega) (by omega) (ez.symm.trans a2); first | exact c70 a3 | exact c80 a4 | exact c91 a5))) _ _ _ hW (lv_sub hl [2, 3, 4, 0] rfl)
              · obtain ⟨z, hz, -, ez, -⟩ := (hG.op (gFs Γ q4 + i) (by omega)).resolve_left c60
                rw [ez] at hl
                refine lv_aload_n hx hb dX4_freeStrand_63 rfl (lv_at hl 1 rfl) ?_
                refine lv_iload hx hb dX4_freeStrand_64 (lv_at hl 0 rfl) ?_
                refine x_Vi (rest := []) S (c_X4_panel l E (xu n 10 0) f o Γ hG hR (p1 := z) hz) (cwV 1 S.2.2.2.2 gX4_freeStrand_X4_panel rfl rfl rfl (by decide +kernel) ⟨Nat.le_of_ble_eq_true rfl, Nat.le_of_ble_eq_true rfl⟩) hW 40 (xw_40 E _) rfl rfl rfl hl.1 (Nat.le_of_ble_eq_true rfl) dX4_freeStrand_66 ⟨Nat.zero_le _, Nat.zero_le _⟩ (fun r66 σ66 H locs hq7 hW => ?_)
                obtain ⟨rfl, rfl⟩ := hq7
                refine lv_iload_n hx hb dX4_freeStrand_69 rfl (lv_at hl 3 rfl) ?_
                refine x_icmp_ne (a := gPn Γ z) (b := q5) (tgt := 96) hx hb dX4_freeStrand_70 (by decide) (by have := (hG.pn z hz).1; omega) (by omega) (fun c70 => ?_) (fun c70 => ?_)
                · refine lv_iinc (v := (nI (gFs Γ q4 + i + 1))) (lv' := [(3, .int (nI (gFs Γ q4 + i + 1))), (4, .int (nI z)), (0, .ref (E.2.2.2 40)), (1, .int (nI q4)), (2, .int (nI q5))]) hx hb dX4_freeStrand_96 hl (k := 4) rfl (x_inc _) (by decide) rfl (fun ls hl => ?_)
                  refine lv_goto (tgt := 37) hx hb dX4_freeStrand_99 (by decide) ?_
                  exact L37  (i + 1) (by omega) (by omega) (lt_s h0 (by rintro ⟨z9, a1, a2, a3, a4, a5⟩; first | exact absurd (a2.symm.trans c60) (nI_m1 (by omega)) | (obtain rfl : z = z9 := nI_inj (by omega) (by omega) (ez.symm.trans a2); first | exact c70 a3 | exact c80 a4 | exact c91 a5))) _ _ _ hW (lv_sub hl [2, 3, 4, 0] rfl)
                · refine lv_aload_n hx hb dX4_freeStrand_73 rfl (lv_at hl 1 rfl) ?_
                  refine x_get (v := .ref (E.2.2.2 43)) S hW hinX4 40 (xw_40 E _) rfl 7 (by decide) w16 rfl dX4_freeStrand_74 ?_
                  refine lv_iload_n hx hb dX4_freeStrand_77 rfl (lv_at hl 4 rfl) ?_
                  refine x_ildN (k := gFs Γ q4 + i) (v := ((f 22) (gFs Γ q4 + i))) S hW 43 (xw_43 E _) (rfl) (show gFs Γ q4 + i < 144 from by omega) (by decide) rfl dX4_freeStrand_78 ?_
                  refine x_topE (gCb Γ (gFs Γ q4 + i)) (hR.cb _ (by omega)) ?_
                  refine lv_iconst (v := (-1)) hx hb dX4_freeStrand_79 (by decide) ?_
                  refine lv_icmp_ne (tgt := 96) hx hb dX4_freeStrand_80 (by decide) (fun c80 => ?_) (fun c80 => ?_)
                  · refine lv_iinc (v := (nI (gFs Γ q4 + i + 1))) (lv' := [(3, .int (nI (gFs Γ q4 + i + 1))), (4, .int (nI z)), (0, .ref (E.2.2.2 40)), (1, .int (nI q4)), (2, .int (nI q5))]) hx hb dX4_freeStrand_96 hl (k := 4) rfl (x_inc _) (by decide) rfl (fun ls hl => ?_)
                    refine lv_goto (tgt := 37) hx hb dX4_freeStrand_99 (by decide) ?_
                    exact L37  (i + 1) (by omega) (by omega) (lt_s h0 (by rintro ⟨z9, a1, a2, a3, a4, a5⟩; first | exact absurd (a2.symm.trans c60) (nI_m1 (by omega)) | (obtain rfl : z = z9 := nI_inj (by omega) (by omega) (ez.symm.trans a2); first | exact c70 a3 | exact c80 a4 | exact c91 a5))) _ _ _ hW (lv_sub hl [2, 3, 4, 0] rfl)
                  · refine lv_aload_n hx hb dX4_freeStrand_83 rfl (lv_at hl 1 rfl) ?_
                    refine x_get (v := .ref (E.2.2.2 43)) S hW hinX4 40 (xw_40 E _) rfl 7 (by decide) w16 rfl dX4_freeStrand_84 ?_
                    refine lv_iload hx hb dX4_freeStrand_87 (lv_at hl 0 rfl) ?_
                    refine x_ildN (k := z) (v := ((f 22) z)) S hW 43 (xw_43 E _) (rfl) (show z < 144 from by omega) (by decide) rfl dX4_freeStrand_89 ?_
                    refine x_topE (gCb Γ z) (hR.cb _ hz) ?_
                    refine lv_iconst (v := (-1)) hx hb dX4_freeStrand_90 (by decide) ?_
                    refine lv_icmp_ne (tgt := 96) hx hb dX4_freeStrand_91 (by decide) (fun c91 => ?_) (fun c91 => ?_)
                    · refine lv_iinc (v := (nI (gFs Γ q4 + i + 1))) (lv' := [(3, .int (nI (gFs Γ q4 + i + 1))), (4, .int (nI z)), (0, .ref (E.2.2.2 40)), (1, .int (nI q4)), (2, .int (nI q5))]) hx hb dX4_freeStrand_96 hl (k := 4) rfl (x_inc _) (by decide) rfl (fun ls hl => ?_)
                      refine lv_goto (tgt := 37) hx hb dX4_freeStrand_99 (by decide) ?_
                      exact L37  (i + 1) (by omega) (by omega) (lt_s h0 (by rintro ⟨z9, a1, a2, a3, a4, a5⟩; first | exact absurd (a2.symm.trans c60) (nI_m1 (by omega)) | (obtain rfl : z = z9 := nI_inj (by omega) (by omega) (ez.symm.trans a2); first | exact c70 a3 | exact c80 a4 | exact c91 a5))) _ _ _ hW (lv_sub hl [2, 3, 4, 0] rfl)
                    · refine lv_iload_n hx hb dX4_freeStrand_94 rfl (lv_at hl 4 rfl) ?_
                      exact x_reti S hr hlk hW dX4_freeStrand_95 (.inl ⟨xif_f (not_not_intro ⟨xPn hq4, xPn hq5⟩), by rw [xNa_n (by omega), xNa_n (by omega)]; exact Or.inl ⟨i, by omega, ⟨z, hz, ez, c70, c80, c91⟩, h0, rfl⟩, hR.ok 0⟩)
        exact L37 _ (0) (Nat.lt_succ_self _) (by omega) (fun q hq => absurd hq (Nat.not_lt_zero q)) _ _ _ hW (lv_sub hl [1, 2, 3, 0] rfl)
      · exact absurd h22 (by decide)

abbrev rmX4_used : Room := { frames := 2, cells := 0, slots := 0, locals := 43 }
set_option maxHeartbeats 4000000 in
set_option maxRecDepth 100000 in
theorem c_X4_used (l : Launch) (E : xE) (n : Nat → Int32) (f : Nat → Nat → Int32) (o : Nat → Int64) (Γ : xG) (hG : xGood Γ) (hR : xRepR Γ n f) (a : Int32) : xCi l yX4_used wsX4_used rmX4_used E [.ref (E.2.2.2 40), .int a] (n, f, o) (fun r σ' => (ocTrk Γ a = 0 ∧ r = nI (xcnt (fun i => gCb Γ (gTa Γ (xNa a) + i) ≠ -1 ∧ gCb Γ (gTb Γ (xNa a) + i) ≠ -1) (gTc Γ (xNa a))) ∧ xOKR Γ n f o 0 σ') ∨ (ocTrk Γ a ≠ 0 ∧ xOKR Γ n f o (ocTrk Γ a) σ')) := by
  refine x_starti RX4 (by decide) rfl rfl (Nat.le_of_ble_eq_true rfl) ?_
  intro p e s m args below meth c ls S hr hlk hW hl
  have hx := S.1
  have hb := S.2.1
  have hl : lv_has ls 4 [(0, .ref (E.2.2.2 40)), (1, .int a)] := hl
  have hinX4 : ∀ w ∈ wsX40, w ∈ wsX4_used := by decide +kernel
  have w16 : Cond.fieldLink RX4 16 "CableBookModel" "cables" "[I" ∈ wsX4_used := by decide +kernel
  have w32 : Cond.fieldLink RX4 32 "CableBookModel" "trunkFrom" "[I" ∈ wsX4_used := by decide +kernel
  have w35 : Cond.fieldLink RX4 35 "CableBookModel" "trunkTo" "[I" ∈ wsX4_used := by decide +kernel
  have w38 : Cond.fieldLink RX4 38 "CableBookModel" "trunkStrands" "[I" ∈ wsX4_used := by decide +kernel
  have hno := hG.no
  have hnp := hG.np
  have hnt := hG.nt
  have hnm := hG.nm
  refine lv_aload_n hx hb dX4_used_0 rfl (lv_at hl 0 rfl) ?_
  refine lv_aload_n hx hb dX4_used_1 rfl (lv_at hl 0 rfl) ?_
  refine lv_iload_n hx hb dX4_used_2 rfl (lv_at hl 1 rfl) ?_
  refine x_Vi (rest := [.ref (E.2.2.2 40)]) S (c_X4_isTrunk l E n f o Γ hG hR a) (cwV 1 S.2.2.2.2 gX4_used_X4_isTrunk rfl rfl rfl (by decide +kernel) ⟨Nat.le_of_ble_eq_true rfl, Nat.le_of_ble_eq_true rfl⟩) hW 40 (xw_40 E _) rfl rfl rfl hl.1 (Nat.le_of_ble_eq_true rfl) dX4_used_3 ⟨Nat.zero_le _, Nat.zero_le _⟩ (fun r3 σ3 H locs hq1 hW => ?_)
  rcases hq1 with ⟨rfl, h3, rfl⟩ | ⟨rfl, h3, rfl⟩
  · refine lv_if_eq (tgt := 13) hx hb dX4_used_6 (by decide) (fun c6 => ?_) (fun c6 => ?_)
    rotate_left
    · exact absurd c6 (by decide)
    refine lv_iconst (v := 1) hx hb dX4_used_13 (by decide) ?_
    refine x_Vi (rest := []) S (c_X4_holds l E n f o 1) (cwV 1 S.2.2.2.2 gX4_used_X4_holds rfl rfl rfl (by decide +kernel) ⟨Nat.le_of_ble_eq_true rfl, Nat.le_of_ble_eq_true rfl⟩) hW 40 (xw_40 E _) rfl rfl rfl hl.1 (Nat.le_of_ble_eq_true rfl) dX4_used_14 ⟨Nat.zero_le _, Nat.zero_le _⟩ (fun r14 σ14 H locs hq2 hW => ?_)
    rcases hq2 with ⟨h14, rfl, rfl⟩ | ⟨-, rfl, rfl⟩
    · exact absurd h14 (by decide)
    · refine lv_if_ne (tgt := 22) hx hb dX4_used_17 (by decide) (fun c17 => ?_) (fun c17 => ?_)
      · exact absurd c17 (by decide)
      refine lv_iconst (v := 0) hx hb dX4_used_20 (by decide) ?_
      exact x_reti S hr hlk hW dX4_used_21 (.inr (xbad (k := 1) (xif_t h3) (by decide) (hR.ok 1)))
  · obtain ⟨q3, hq3, rfl⟩ := h3
    refine lv_if_eq (tgt := 13) hx hb dX4_used_6 (by decide) (fun c6 => ?_) (fun c6 => ?_)
    · exact absurd c6 (by decide)
    refine lv_iconst (v := 0) hx hb dX4_used_9 (by decide) ?_
    refine lv_goto (tgt := 14) hx hb dX4_used_10 (by decide) ?_
    refine x_Vi (rest := []) S (c_X4_holds l E n f o 0) (cwV 1 S.2.2.2.2 gX4_used_X4_holds rfl rfl rfl (by decide +kernel) ⟨Nat.le_of_ble_eq_true rfl, Nat.le_of_ble_eq_true rfl⟩) hW 40 (xw_40 E _) rfl rfl rfl hl.1 (Nat.le_of_ble_eq_true rfl) dX4_used_14 ⟨Nat.zero_le _, Nat.zero_le _⟩ (fun r14 σ14 H locs hq3 hW => ?_)
    rcases hq3 with ⟨-, rfl, rfl⟩ | ⟨h14, rfl, rfl⟩
    · refine lv_if_ne (tgt := 22) hx hb dX4_used_17 (by decide) (fun c17 => ?_) (fun c17 => ?_)
      rotate_left
      · exact absurd c17 (by decide)
      refine lv_iconst (v := 0) hx hb dX4_used_22 (by decide) ?_
      refine lv_istore_n (lv' := [(2, .int 0), (0, .ref (E.2.2.2 40)), (1, .int (nI q3))]) hx hb dX4_used_23 rfl hl (by decide) rfl (fun ls hl => ?_)
      have ht9 := hG.tt q3 hq3
      have hts := hG.ts q3 hq3
      refine lv_iconst (v := 0) hx hb dX4_used_24 (by decide) ?_
      refine lv_istore_n (lv' := [(3, .int 0), (2, .int 0), (0, .ref (E.2.2.2 40)), (1, .int (nI q3))]) hx hb dX4_used_25 rfl hl (by decide) rfl (fun ls hl => ?_)
      have L26 : ∀ (fu26 : Nat) (i : Nat) (hμ26 : gTc Γ q3 + 1 - i < fu26) (hi : i ≤ gTc Γ q3) (H : Heap) (locs : List Loc) (ls : Array Slot), xSt E ((xu n 10 0), f, o) s s.heap H locs → lv_has ls 4 [(0, .ref (E.2.2.2 40)), (1, .int (nI q3)), (2, .int (nI (xcnt (fun i => gCb Γ (gTa Γ q3 + i) ≠ -1 ∧ gCb Γ (gTb Γ q3 + i) ≠ -1) i))), (3, .int (nI i))] → W p l e rmX4_used s m args below meth c H locs 0 0 (MQ below (va_Qi (fun r σ' => (ocTrk Γ (nI q3) = 0 ∧ r = nI (xcnt (fun i => gCb Γ (gTa Γ (xNa (nI q3)) + i) ≠ -1 ∧ gCb Γ (gTb Γ (xNa (nI q3)) + i) ≠ -1) (gTc Γ (xNa (nI q3)))) ∧ xOKR Γ n f o 0 σ') ∨ (ocTrk Γ (nI q3) ≠ 0 ∧ xOKR Γ n f o (ocTrk Γ (nI q3)) σ')) (xWd E) (xA E)) args s 0 0 (xA E)) (F0 m 26 ls []) := by
        intro fu26
        induction fu26 with
        | zero => intro i hμ26; exact absurd hμ26 (Nat.not_lt_zero _)
        | succ fu26 L26 =>
          intro i hμ26 hi H locs ls hW hl
          have hx9 := xcnt_le (fun i => gCb Γ (gTa Γ q3 + i) ≠ -1 ∧ gCb Γ (gTb Γ q3 + i) ≠ -1) i
          refine lv_iload_n hx hb dX4_used_26 rfl (lv_at hl 3 rfl) ?_
          refine lv_aload_n hx hb dX4_used_27 rfl (lv_at hl 0 rfl) ?_
          refine x_get (v := .ref (E.2.2.2 50)) S hW hinX4 40 (xw_40 E _) rfl 14 (by decide) w38 rfl dX4_used_28 ?_
          refine lv_iload_n hx hb dX4_used_31 rfl (lv_at hl 1 rfl) ?_
          refine x_ildN (k := q3) (v := ((f 29) q3)) S hW 50 (xw_50 E _) (rfl) (show q3 < 10 from by omega) (by decide) rfl dX4_used_32 ?_
          refine x_topN (gTc Γ q3) (hR.tc q3 hq3) ?_
          refine x_icmp_ge (a := i) (b := gTc Γ q3) (tgt := 84) hx hb dX4_used_33 (by decide) (by omega) (by omega) (fun c33 => ?_) (fun c33 => ?_)
          · refine lv_iload_n hx hb dX4_used_84 rfl (lv_at hl 2 rfl) ?_
            exact x_reti S hr hlk hW dX4_used_85 (.inl ⟨xif_f (not_not_intro (xPn hq3)), by rw [xNa_n (by omega), show i = gTc Γ q3 by omega], hR.ok 0⟩)
          · have ht8 := hts i (by omega)
            refine lv_iload_n hx hb dX4_used_36 rfl (lv_at hl 2 rfl) ?_
            refine lv_aload_n hx hb dX4_used_37 rfl (lv_at hl 0 rfl) ?_
            refine x_get (v := .ref (E.2.2.2 43)) S hW hinX4 40 (xw_40 E _) rfl 7 (by decide) w16 rfl dX4_used_38 ?_
            refine lv_aload_n hx hb dX4_used_41 rfl (lv_at hl 0 rfl) ?_
            refine x_get (v := .ref (E.2.2.2 48)) S hW hinX4 40 (xw_40 E _) rfl 12 (by decide) w32 rfl dX4_used_42 ?_
            refine lv_iload_n hx hb dX4_used_45 rfl (lv_at hl 1 rfl) ?_
            refine x_ildN (k := q3) (v := ((f 27) q3)) S hW 48 (xw_48 E _) (rfl) (show q3 < 10 from by omega) (by decide) rfl dX4_used_46 ?_
            refine x_topN (gTa Γ q3) (hR.ta q3 hq3) ?_
            refine lv_iload_n hx hb dX4_used_47 rfl (lv_at hl 3 rfl) ?_
            refine x_iadd (a := gTa Γ q3) (b := i) hx hb dX4_used_48 ?_
            refine x_ildN (k := (gTa Γ q3) + i) (v := ((f 22) ((gTa Γ q3) + i))) S hW 43 (xw_43 E _) (rfl) (show (gTa Γ q3) + i < 144 from by omega) (by decide) rfl dX4_used_49 ?_
            refine x_topE (gCb Γ (gTa Γ q3 + i)) (hR.cb _ (by omega)) ?_
            refine lv_iconst (v := (-1)) hx hb dX4_used_50 (by decide) ?_
            refine lv_icmp_eq (tgt := 75) hx hb dX4_used_51 (by decide) (fun c51 => ?_) (fun c51 => ?_)
            · refine lv_iconst (v := 0) hx hb dX4_used_75 (by decide) ?_
              refine x_iadd (a := xcnt (fun i => gCb Γ (gTa Γ q3 + i) ≠ -1 ∧ gCb Γ (gTb Γ q3 + i) ≠ -1) i) (b := 0) hx hb dX4_used_76 ?_
              refine lv_istore_n (lv' := [(2, .int (nI ((xcnt (fun i => gCb Γ (gTa Γ q3 + i) ≠ -1 ∧ gCb Γ (gTb Γ q3 + i) ≠ -1) i) + 0))), (0, .ref (E.2.2.2 40)), (1, .int (nI q3)), (3, .int (nI i))]) hx hb dX4_used_77 rfl hl (by decide) rfl (fun ls hl => ?_)
              refine lv_iinc (v := (nI (i + 1))) (lv' := [(3, .int (nI (i + 1))), (2, .int (nI ((xcnt (fun i => gCb Γ (gTa Γ q3 + i) ≠ -1 ∧ gCb Γ (gTb Γ q3 + i) ≠ -1) i) + 0))), (0, .ref (E.2.2.2 40)), (1, .int (nI q3))]) hx hb dX4_used_78 hl (k := 3) rfl (x_inc _) (by decide) rfl (fun ls hl => ?_)
              refine lv_goto (tgt := 26) hx hb dX4_used_81 (by decide) ?_
              first | rw [show xcnt (fun i => gCb Γ (gTa Γ q3 + i) ≠ -1 ∧ gCb Γ (gTb Γ q3 + i) ≠ -1) i + 1 = xcnt (fun i => gCb Γ (gTa Γ q3 + i) ≠ -1 ∧ gCb Γ (gTb Γ q3 + i) ≠ -1) (i + 1) from (xcnt_t ⟨c51, c68⟩).symm] at hl | rw [show xcnt (fun i => gCb Γ (gTa Γ q3 + i) ≠ -1 ∧ gCb Γ (gTb Γ q3 + i) ≠ -1) i + 0 = xcnt (fun i => gCb Γ (gTa Γ q3 + i) ≠ -1 ∧ gCb Γ (gTb Γ q3 + i) ≠ -1) (i + 1) from (xcnt_f (by first | exact fun h => h.1 c51 | exact fun h => h.2 c68)).symm] at hl
              exact L26  (i + 1) (by omega) (by omega) _ _ _ hW (lv_sub hl [2, 3, 1, 0] rfl)
            · refine lv_aload_n hx hb dX4_used_54 rfl (lv_at hl 0 rfl) ?_
              refine x_get (v := .ref (E.2.2.2 43)) S hW hinX4 40 (xw_40 E _) rfl 7 (by decide) w16 rfl dX4_used_55 ?_
              refine lv_aload_n hx hb dX4_used_58 rfl (lv_at hl 0 rfl) ?_
              refine x_get (v := .ref (E.2.2.2 49)) S hW hinX4 40 (xw_40 E _) rfl 13 (by decide) w35 rfl dX4_used_59 ?_
              refine lv_iload_n hx hb dX4_used_62 rfl (lv_at hl 1 rfl) ?_
              refine x_ildN (k := q3) (v := ((f 28) q3)) S hW 49 (xw_49 E _) (rfl) (show q3 < 10 from by omega) (by decide) rfl dX4_used_63 ?_
              refine x_topN (gTb Γ q3) (hR.tb q3 hq3) ?_
              refine lv_iload_n hx hb dX4_used_64 rfl (lv_at hl 3 rfl) ?_
              refine x_iadd (a := gTb Γ q3) (b := i) hx hb dX4_used_65 ?_
              refine x_ildN (k := (gTb Γ q3) + i) (v := ((f 22) ((gTb Γ q3) + i))) S hW 43 (xw_43 E _) (rfl) (show (gTb Γ q3) + i < 144 from by omega) (by decide) rfl dX4_used_66 ?_
              refine x_topE (gCb Γ (gTb Γ q3 + i)) (hR.cb _ (by omega)) ?_
              refine lv_iconst (v := (-1)) hx hb dX4_used_67 (by decide) ?_
              refine lv_icmp_eq (tgt := 75) hx hb dX4_used_68 (by decide) (fun c68 => ?_) (fun c68 => ?_)
              · refine lv_iconst (v := 0) hx hb dX4_used_75 (by decide) ?_
                refine x_iadd (a := xcnt (fun i => gCb Γ (gTa Γ q3 + i) ≠ -1 ∧ gCb Γ (gTb Γ q3 + i) ≠ -1) i) (b := 0) hx hb dX4_used_76 ?_
                refine lv_istore_n (lv' := [(2, .int (nI ((xcnt (fun i => gCb Γ (gTa Γ q3 + i) ≠ -1 ∧ gCb Γ (gTb Γ q3 + i) ≠ -1) i) + 0))), (0, .ref (E.2.2.2 40)), (1, .int (nI q3)), (3, .int (nI i))]) hx hb dX4_used_77 rfl hl (by decide) rfl (fun ls hl => ?_)
                refine lv_iinc (v := (nI (i + 1))) (lv' := [(3, .int (nI (i + 1))), (2, .int (nI ((xcnt (fun i => gCb Γ (gTa Γ q3 + i) ≠ -1 ∧ gCb Γ (gTb Γ q3 + i) ≠ -1) i) + 0))), (0, .ref (E.2.2.2 40)), (1, .int (nI q3))]) hx hb dX4_used_78 hl (k := 3) rfl (x_inc _) (by decide) rfl (fun ls hl => ?_)
                refine lv_goto (tgt := 26) hx hb dX4_used_81 (by decide) ?_
                first | rw [show xcnt (fun i => gCb Γ (gTa Γ q3 + i) ≠ -1 ∧ gCb Γ (gTb Γ q3 + i) ≠ -1) i + 1 = xcnt (fun i => gCb Γ (gTa Γ q3 + i) ≠ -1 ∧ gCb Γ (gTb Γ q3 + i) ≠ -1) (i + 1) from (xcnt_t ⟨c51, c68⟩).symm] at hl | rw [show xcnt (fun i => gCb Γ (gTa Γ q3 + i) ≠ -1 ∧ gCb Γ (gTb Γ q3 + i) ≠ -1) i + 0 = xcnt (fun i => gCb Γ (gTa Γ q3 + i) ≠ -1 ∧ gCb Γ (gTb Γ q3 + i) ≠ -1) (i + 1) from (xcnt_f (by first | exact fun h => h.1 c51 | exact fun h => h.2 c68)).symm] at hl
                exact L26  (i + 1) (by omega) (by omega) _ _ _ hW (lv_sub hl [2, 3, 1, 0] rfl)
              · refine lv_iconst (v := 1) hx hb dX4_used_71 (by decide) ?_
                refine lv_goto (tgt := 76) hx hb dX4_used_72 (by decide) ?_
                refine x_iadd (a := xcnt (fun i => gCb Γ (gTa Γ q3 + i) ≠ -1 ∧ gCb Γ (gTb Γ q3 + i) ≠ -1) i) (b := 1) hx hb dX4_used_76 ?_
                refine lv_istore_n (lv' := [(2, .int (nI ((xcnt (fun i => gCb Γ (gTa Γ q3 + i) ≠ -1 ∧ gCb Γ (gTb Γ q3 + i) ≠ -1) i) + 1))), (0, .ref (E.2.2.2 40)), (1, .int (nI q3)), (3, .int (nI i))]) hx hb dX4_used_77 rfl hl (by decide) rfl (fun ls hl => ?_)
                refine lv_iinc (v := (nI (i + 1))) (lv' := [(3, .int (nI (i + 1))), (2, .int (nI ((xcnt (fun i => gCb Γ (gTa Γ q3 + i) ≠ -1 ∧ gCb Γ (gTb Γ q3 + i) ≠ -1) i) + 1))), (0, .ref (E.2.2.2 40)), (1, .int (nI q3))]) hx hb dX4_used_78 hl (k := 3) rfl (x_inc _) (by decide) rfl (fun ls hl => ?_)
                refine lv_goto (tgt := 26) hx hb dX4_used_81 (by decide) ?_
                first | rw [show xcnt (fun i => gCb Γ (gTa Γ q3 + i) ≠ -1 ∧ gCb Γ (gTb Γ q3 + i) ≠ -1) i + 1 = xcnt (fun i => gCb Γ (gTa Γ q3 + i) ≠ -1 ∧ gCb Γ (gTb Γ q3 + i) ≠ -1) (i + 1) from (xcnt_t ⟨c51, c68⟩).symm] at hl | rw [show xcnt (fun i => gCb Γ (gTa Γ q3 + i) ≠ -1 ∧ gCb Γ (gTb Γ q3 + i) ≠ -1) i + 0 = xcnt (fun i => gCb Γ (gTa Γ q3 + i) ≠ -1 ∧ gCb Γ (gTb Γ q3 + i) ≠ -1) (i + 1) from (xcnt_f (by first | exact fun h => h.1 c51 | exact fun h => h.2 c68)).symm] at hl
                exact L26  (i + 1) (by omega) (by omega) _ _ _ hW (lv_sub hl [2, 3, 1, 0] rfl)
      exact L26 _ (0) (Nat.lt_succ_self _) (by omega) _ _ _ hW (lv_sub hl [2, 3, 1, 0] rfl)
    · exact absurd h14 (by decide)

abbrev rmX4_canCarryOut : Room := { frames := 2, cells := 0, slots := 0, locals := 46 }
set_option maxHeartbeats 4000000 in
set_option maxRecDepth 100000 in
theorem c_X4_canCarryOut (l : Launch) (E : xE) (n : Nat → Int32) (f : Nat → Nat → Int32) (o : Nat → Int64) (Γ : xG) (hG : xGood Γ) (hR : xRepR Γ n f) : xCi l yX4_canCarryOut wsX4_canCarryOut rmX4_canCarryOut E [.ref (E.2.2.2 40)] (n, f, o) (fun r σ' => r = xif (gPos Γ) 1 0 ∧ xOKR Γ n f o 0 σ') := by
  refine x_starti RX4 (by decide) rfl rfl (Nat.le_of_ble_eq_true rfl) ?_
  intro p e s m args below meth c ls S hr hlk hW hl
  have hx := S.1
  have hb := S.2.1
  have hl : lv_has ls 1 [(0, .ref (E.2.2.2 40))] := hl
  have hinX4 : ∀ w ∈ wsX40, w ∈ wsX4_canCarryOut := by decide +kernel
  have w62 : Cond.fieldLink RX4 62 "CableBookModel" "thrown" "I" ∈ wsX4_canCarryOut := by decide +kernel
  have hno := hG.no
  have hnp := hG.np
  have hnt := hG.nt
  have hnm := hG.nm
  refine lv_aload_n hx hb dX4_canCarryOut_0 rfl (lv_at hl 0 rfl) ?_
  refine lv_iconst (v := 0) hx hb dX4_canCarryOut_1 (by decide) ?_
  refine x_put (σ' := ((xu n 10 0), f, o)) S hW hinX4 tyX4 tyX4_ok nmX4 40 (xw_40 E _) rfl 0 (by decide) w62 rfl (by decide +kernel) (Nat.le_of_ble_eq_true rfl) (xw_N10 E _ _ _ _) dX4_canCarryOut_2 (fun H locs hW => ?_)
  refine lv_aload_n hx hb dX4_canCarryOut_5 rfl (lv_at hl 0 rfl) ?_
  refine x_Vi (rest := []) S (c_X4_lays l E (xu n 10 0) f o Γ hG hR) (cwV 0 S.2.2.2.2 gX4_canCarryOut_X4_lays rfl rfl rfl (by decide +kernel) ⟨Nat.le_of_ble_eq_true rfl, Nat.le_of_ble_eq_true rfl⟩) hW 40 (xw_40 E _) rfl rfl rfl hl.1 (Nat.le_of_ble_eq_true rfl) dX4_canCarryOut_6 ⟨Nat.zero_le _, Nat.zero_le _⟩ (fun r6 σ6 H locs hq1 hW => ?_)
  rcases hq1 with ⟨F6, ⟨rfl, h6⟩ | ⟨rfl, h6, hn6⟩, rfl, hF6⟩
  · exact x_retz S hr hlk hW dX4_canCarryOut_9 (Or.inl rfl) (⟨(xif_f h6).symm, hR.laid hF6⟩)
  · exact x_retz S hr hlk hW dX4_canCarryOut_9 (Or.inr rfl) (⟨(xif_t h6).symm, hR.laid hF6⟩)

abbrev rmX4_dropPlan : Room := { frames := 0, cells := 0, slots := 0, locals := 0 }
set_option maxHeartbeats 4000000 in
set_option maxRecDepth 100000 in
theorem c_X4_dropPlan (l : Launch) (E : xE) (n : Nat → Int32) (f : Nat → Nat → Int32) (o : Nat → Int64) (Γ : xG) (hG : xGood Γ) (hR : xRepR Γ n f) : xCi l yX4_dropPlan wsX4_dropPlan rmX4_dropPlan E [.ref (E.2.2.2 40)] (n, f, o) (fun r σ' => r = nI (gNm Γ) ∧ xOKR (gDrop Γ) n f o 0 σ') := by
  refine x_starti RX4 (by decide) rfl rfl (Nat.le_of_ble_eq_true rfl) ?_
  intro p e s m args below meth c ls S hr hlk hW hl
  have hx := S.1
  have hb := S.2.1
  have hl : lv_has ls 2 [(0, .ref (E.2.2.2 40))] := hl
  have hinX4 : ∀ w ∈ wsX40, w ∈ wsX4_dropPlan := by decide +kernel
  have w112 : Cond.fieldLink RX4 112 "CableBookModel" "moves" "I" ∈ wsX4_dropPlan := by decide +kernel
  have w62 : Cond.fieldLink RX4 62 "CableBookModel" "thrown" "I" ∈ wsX4_dropPlan := by decide +kernel
  have hno := hG.no
  have hnp := hG.np
  have hnt := hG.nt
  have hnm := hG.nm
  refine lv_aload_n hx hb dX4_dropPlan_0 rfl (lv_at hl 0 rfl) ?_
  refine lv_iconst (v := 0) hx hb dX4_dropPlan_1 (by decide) ?_
  refine x_put (σ' := ((xu n 10 0), f, o)) S hW hinX4 tyX4 tyX4_ok nmX4 40 (xw_40 E _) rfl 0 (by decide) w62 rfl (by decide +kernel) (Nat.le_of_ble_eq_true rfl) (xw_N10 E _ _ _ _) dX4_dropPlan_2 (fun H locs hW => ?_)
  refine lv_aload_n hx hb dX4_dropPlan_5 rfl (lv_at hl 0 rfl) ?_
  refine x_get (v := .int (n 14)) S hW hinX4 40 (xw_40 E _) rfl 4 (by decide) w112 rfl dX4_dropPlan_6 ?_
  refine x_topN (gNm Γ) (hR.nm) ?_
  refine lv_istore_n (lv' := [(1, .int (nI (gNm Γ))), (0, .ref (E.2.2.2 40))]) hx hb dX4_dropPlan_9 rfl hl (by decide) rfl (fun ls hl => ?_)
  refine lv_aload_n hx hb dX4_dropPlan_10 rfl (lv_at hl 1 rfl) ?_
  refine lv_iconst (v := 0) hx hb dX4_dropPlan_11 (by decide) ?_
  refine x_put (σ' := ((xu (xu n 10 0) 14 0), f, o)) S hW hinX4 tyX4 tyX4_ok nmX4 40 (xw_40 E _) rfl 4 (by decide) w112 rfl (by decide +kernel) (Nat.le_of_ble_eq_true rfl) (xw_N14 E _ _ _ _) dX4_dropPlan_12 (fun H locs hW => ?_)
  refine lv_iload_n hx hb dX4_dropPlan_15 rfl (lv_at hl 0 rfl) ?_
  exact x_reti S hr hlk hW dX4_dropPlan_16 (⟨rfl, xOKR.mk (repR_drop hR) (fun q hq => by rw [xu_n (by omega), xu_n (by omega)]) (fun _ _ => rfl) rfl⟩)

abbrev rmX4_pull : Room := { frames := 2, cells := 0, slots := 0, locals := 43 }
set_option maxHeartbeats 4000000 in
set_option maxRecDepth 100000 in
theorem c_X4_pull (l : Launch) (E : xE) (n : Nat → Int32) (f : Nat → Nat → Int32) (o : Nat → Int64) (Γ : xG) (hG : xGood Γ) (hR : xRepR Γ n f) (a : Int32) : xCi l yX4_pull wsX4_pull rmX4_pull E [.ref (E.2.2.2 40), .int a] (n, f, o) (fun r σ' => (ocPull Γ a = 0 ∧ r = gCb Γ (xNa a) ∧ xOKR (gPull Γ (xNa a) (xNa (gCb Γ (xNa a)))) n f o 0 σ') ∨ (ocPull Γ a ≠ 0 ∧ xOKR Γ n f o (ocPull Γ a) σ')) := by
  refine x_starti RX4 (by decide) rfl rfl (Nat.le_of_ble_eq_true rfl) ?_
  intro p e s m args below meth c ls S hr hlk hW hl
  have hx := S.1
  have hb := S.2.1
  have hl : lv_has ls 3 [(0, .ref (E.2.2.2 40)), (1, .int a)] := hl
  have hinX4 : ∀ w ∈ wsX40, w ∈ wsX4_pull := by decide +kernel
  have w16 : Cond.fieldLink RX4 16 "CableBookModel" "cables" "[I" ∈ wsX4_pull := by decide +kernel
  have hno := hG.no
  have hnp := hG.np
  have hnt := hG.nt
  have hnm := hG.nm
  refine lv_aload_n hx hb dX4_pull_0 rfl (lv_at hl 0 rfl) ?_
  refine lv_aload_n hx hb dX4_pull_1 rfl (lv_at hl 0 rfl) ?_
  refine lv_iload_n hx hb dX4_pull_2 rfl (lv_at hl 1 rfl) ?_
  refine x_Vi (rest := [.ref (E.2.2.2 40)]) S (c_X4_isPort l E n f o Γ hG hR a) (cwV 1 S.2.2.2.2 gX4_pull_X4_isPort rfl rfl rfl (by decide +kernel) ⟨Nat.le_of_ble_eq_true rfl, Nat.le_of_ble_eq_true rfl⟩) hW 40 (xw_40 E _) rfl rfl rfl hl.1 (Nat.le_of_ble_eq_true rfl) dX4_pull_3 ⟨Nat.zero_le _, Nat.zero_le _⟩ (fun r3 σ3 H locs hq1 hW => ?_)
  rcases hq1 with ⟨rfl, h3, rfl⟩ | ⟨rfl, h3, rfl⟩
  · refine lv_if_ne (tgt := 13) hx hb dX4_pull_6 (by decide) (fun c6 => ?_) (fun c6 => ?_)
    · exact absurd c6 (by decide)
    refine lv_iconst (v := 1) hx hb dX4_pull_9 (by decide) ?_
    refine lv_goto (tgt := 28) hx hb dX4_pull_10 (by decide) ?_
    refine x_Vi (rest := []) S (c_X4_holds l E n f o 1) (cwV 1 S.2.2.2.2 gX4_pull_X4_holds rfl rfl rfl (by decide +kernel) ⟨Nat.le_of_ble_eq_true rfl, Nat.le_of_ble_eq_true rfl⟩) hW 40 (xw_40 E _) rfl rfl rfl hl.1 (Nat.le_of_ble_eq_true rfl) dX4_pull_28 ⟨Nat.zero_le _, Nat.zero_le _⟩ (fun r28 σ28 H locs hq2 hW => ?_)
    rcases hq2 with ⟨h28, rfl, rfl⟩ | ⟨-, rfl, rfl⟩
    · exact absurd h28 (by decide)
    · refine lv_if_ne (tgt := 36) hx hb dX4_pull_31 (by decide) (fun c31 => ?_) (fun c31 => ?_)
      · exact absurd c31 (by decide)
      refine lv_iconst (v := 0) hx hb dX4_pull_34 (by decide) ?_
      exact x_reti S hr hlk hW dX4_pull_35 (by first | exact .inr (xbad (k := 1) (xif_t h3) (by decide) (hR.ok 1)) | exact .inr (xbad (k := 2) (by rw [ocPull, xif_f (not_not_intro (xPn hq3)), xNa_n (by omega)]; exact xif_t c20) (by decide) (hR.ok 2)))
  · obtain ⟨q3, hq3, rfl⟩ := h3
    refine lv_if_ne (tgt := 13) hx hb dX4_pull_6 (by decide) (fun c6 => ?_) (fun c6 => ?_)
    rotate_left
    · exact absurd c6 (by decide)
    refine lv_aload_n hx hb dX4_pull_13 rfl (lv_at hl 0 rfl) ?_
    refine x_get (v := .ref (E.2.2.2 43)) S hW hinX4 40 (xw_40 E _) rfl 7 (by decide) w16 rfl dX4_pull_14 ?_
    refine lv_iload_n hx hb dX4_pull_17 rfl (lv_at hl 1 rfl) ?_
    refine x_ildN (k := q3) (v := ((f 22) q3)) S hW 43 (xw_43 E _) (rfl) (show q3 < 144 from by omega) (by decide) rfl dX4_pull_18 ?_
    refine x_topE (gCb Γ q3) (hR.cb _ hq3) ?_
    refine lv_iconst (v := (-1)) hx hb dX4_pull_19 (by decide) ?_
    refine lv_icmp_ne (tgt := 27) hx hb dX4_pull_20 (by decide) (fun c20 => ?_) (fun c20 => ?_)
    · refine lv_iconst (v := 0) hx hb dX4_pull_27 (by decide) ?_
      refine x_Vi (rest := []) S (c_X4_holds l E n f o 0) (cwV 1 S.2.2.2.2 gX4_pull_X4_holds rfl rfl rfl (by decide +kernel) ⟨Nat.le_of_ble_eq_true rfl, Nat.le_of_ble_eq_true rfl⟩) hW 40 (xw_40 E _) rfl rfl rfl hl.1 (Nat.le_of_ble_eq_true rfl) dX4_pull_28 ⟨Nat.zero_le _, Nat.zero_le _⟩ (fun r28 σ28 H locs hq3 hW => ?_)
      rcases hq3 with ⟨-, rfl, rfl⟩ | ⟨h28, rfl, rfl⟩
      · refine lv_if_ne (tgt := 36) hx hb dX4_pull_31 (by decide) (fun c31 => ?_) (fun c31 => ?_)
        rotate_left
        · exact absurd c31 (by decide)
        obtain ⟨z, hz, hne, ez, ez2⟩ := (hG.cb q3 hq3).resolve_left c20
        refine lv_aload_n hx hb dX4_pull_36 rfl (lv_at hl 0 rfl) ?_
        refine x_get (v := .ref (E.2.2.2 43)) S hW hinX4 40 (xw_40 E _) rfl 7 (by decide) w16 rfl dX4_pull_37 ?_
        refine lv_iload_n hx hb dX4_pull_40 rfl (lv_at hl 1 rfl) ?_
        refine x_ildN (k := q3) (v := ((f 22) q3)) S hW 43 (xw_43 E _) (rfl) (show q3 < 144 from by omega) (by decide) rfl dX4_pull_41 ?_
        refine x_topN (z) ((hR.cb _ hq3).trans ez) ?_
        refine lv_istore_n (lv' := [(2, .int (nI z)), (0, .ref (E.2.2.2 40)), (1, .int (nI q3))]) hx hb dX4_pull_42 rfl hl (by decide) rfl (fun ls hl => ?_)
        refine lv_aload_n hx hb dX4_pull_43 rfl (lv_at hl 1 rfl) ?_
        refine x_get (v := .ref (E.2.2.2 43)) S hW hinX4 40 (xw_40 E _) rfl 7 (by decide) w16 rfl dX4_pull_44 ?_
        refine lv_iload_n hx hb dX4_pull_47 rfl (lv_at hl 2 rfl) ?_
        refine lv_iconst (v := (-1)) hx hb dX4_pull_48 (by decide) ?_
        refine x_istN (k := q3) (σ' := ((xu n 10 0), (xu f 22 (upd (f 22) q3 (-1))), o)) S hW 43 (xw_43 E _) (rfl) (show q3 < 144 from by omega) (by decide) (xw_S22 E _ _ _ _) dX4_pull_49 (fun H locs hW => ?_)
        refine lv_aload_n hx hb dX4_pull_50 rfl (lv_at hl 1 rfl) ?_
        refine x_get (v := .ref (E.2.2.2 43)) S hW hinX4 40 (xw_40 E _) rfl 7 (by decide) w16 rfl dX4_pull_51 ?_
        refine lv_iload_n hx hb dX4_pull_54 rfl (lv_at hl 0 rfl) ?_
        refine lv_iconst (v := (-1)) hx hb dX4_pull_55 (by decide) ?_
        refine x_istN (k := z) (σ' := ((xu n 10 0), (xu f 22 (upd (upd (f 22) q3 (-1)) z (-1))), o)) S hW 43 (xw_43 E _) (rfl) (show z < 144 from by omega) (by decide) (xw_S22 E _ _ _ _) dX4_pull_56 (fun H locs hW => ?_)
        refine lv_iload_n hx hb dX4_pull_57 rfl (lv_at hl 0 rfl) ?_
        exact x_reti S hr hlk hW dX4_pull_58 (.inl ⟨by rw [ocPull, xif_f (not_not_intro (xPn hq3)), xNa_n (by omega)]; exact xif_f c20, by rw [xNa_n (by omega), ez], by rw [xNa_n (by omega), ez, xNa_n (by omega)]; exact xOKR.mk (repR_pull hR) (fun q hq => xu_n (by omega)) (fun q hq => by rw [xu_n (by omega)]) rfl⟩)
      · exact absurd h28 (by decide)
    · refine lv_iconst (v := 2) hx hb dX4_pull_23 (by decide) ?_
      refine lv_goto (tgt := 28) hx hb dX4_pull_24 (by decide) ?_
      refine x_Vi (rest := []) S (c_X4_holds l E n f o 2) (cwV 1 S.2.2.2.2 gX4_pull_X4_holds rfl rfl rfl (by decide +kernel) ⟨Nat.le_of_ble_eq_true rfl, Nat.le_of_ble_eq_true rfl⟩) hW 40 (xw_40 E _) rfl rfl rfl hl.1 (Nat.le_of_ble_eq_true rfl) dX4_pull_28 ⟨Nat.zero_le _, Nat.zero_le _⟩ (fun r28 σ28 H locs hq4 hW => ?_)
      rcases hq4 with ⟨h28, rfl, rfl⟩ | ⟨-, rfl, rfl⟩
      · exact absurd h28 (by decide)
      · refine lv_if_ne (tgt := 36) hx hb dX4_pull_31 (by decide) (fun c31 => ?_) (fun c31 => ?_)
        · exact absurd c31 (by decide)
        refine lv_iconst (v := 0) hx hb dX4_pull_34 (by decide) ?_
        exact x_reti S hr hlk hW dX4_pull_35 (by first | exact .inr (xbad (k := 1) (xif_t h3) (by decide) (hR.ok 1)) | exact .inr (xbad (k := 2) (by rw [ocPull, xif_f (not_not_intro (xPn hq3)), xNa_n (by omega)]; exact xif_t c20) (by decide) (hR.ok 2)))

abbrev rmX4_plug : Room := { frames := 3, cells := 0, slots := 0, locals := 65 }
set_option maxHeartbeats 4000000 in
set_option maxRecDepth 100000 in
theorem c_X4_plug (l : Launch) (E : xE) (n : Nat → Int32) (f : Nat → Nat → Int32) (o : Nat → Int64) (Γ : xG) (hG : xGood Γ) (hR : xRepR Γ n f) (a a2 a3 : Int32) : xCi l yX4_plug wsX4_plug rmX4_plug E [.ref (E.2.2.2 40), .int a, .int a2, .int a3] (n, f, o) (fun r σ' => (ocPlug Γ a a2 a3 = 0 ∧ r = xlen (gRk Γ) (gPn Γ (xNa a)) (gPn Γ (xNa a2)) ∧ xOKR (gPlug Γ (xNa a) (xNa a2) a3) n f o 0 σ') ∨ (ocPlug Γ a a2 a3 ≠ 0 ∧ xOKR Γ n f o (ocPlug Γ a a2 a3) σ')) := by
  refine x_starti RX4 (by decide) rfl rfl (Nat.le_of_ble_eq_true rfl) ?_
  intro p e s m args below meth c ls S hr hlk hW hl
  have hx := S.1
  have hb := S.2.1
  have hl : lv_has ls 4 [(0, .ref (E.2.2.2 40)), (1, .int a), (2, .int a2), (3, .int a3)] := hl
  have hinX4 : ∀ w ∈ wsX40, w ∈ wsX4_plug := by decide +kernel
  have w16 : Cond.fieldLink RX4 16 "CableBookModel" "cables" "[I" ∈ wsX4_plug := by decide +kernel
  have w19 : Cond.fieldLink RX4 19 "CableBookModel" "colours" "[I" ∈ wsX4_plug := by decide +kernel
  have hno := hG.no
  have hnp := hG.np
  have hnt := hG.nt
  have hnm := hG.nm
  refine lv_aload_n hx hb dX4_plug_0 rfl (lv_at hl 0 rfl) ?_
  refine lv_aload_n hx hb dX4_plug_1 rfl (lv_at hl 0 rfl) ?_
  refine lv_iload_n hx hb dX4_plug_2 rfl (lv_at hl 1 rfl) ?_
  refine lv_iload_n hx hb dX4_plug_3 rfl (lv_at hl 2 rfl) ?_
  refine x_Vi (rest := [.ref (E.2.2.2 40)]) S (c_X4_arePorts l E n f o Γ hG hR a a2) (cwV 2 S.2.2.2.2 gX4_plug_X4_arePorts rfl rfl rfl (by decide +kernel) ⟨Nat.le_of_ble_eq_true rfl, Nat.le_of_ble_eq_true rfl⟩) hW 40 (xw_40 E _) rfl rfl rfl hl.1 (Nat.le_of_ble_eq_true rfl) dX4_plug_4 ⟨Nat.zero_le _, Nat.zero_le _⟩ (fun r4 σ4 H locs hq1 hW => ?_)
  rcases hq1 with ⟨rfl, h4, rfl⟩ | ⟨rfl, h4, rfl⟩
  · refine lv_if_ne (tgt := 14) hx hb dX4_plug_7 (by decide) (fun c7 => ?_) (fun c7 => ?_)
    · exact absurd c7 (by decide)
    refine lv_iconst (v := 1) hx hb dX4_plug_10 (by decide) ?_
    refine lv_goto (tgt := 58) hx hb dX4_plug_11 (by decide) ?_
    refine x_Vi (rest := []) S (c_X4_holds l E n f o 1) (cwV 1 S.2.2.2.2 gX4_plug_X4_holds rfl rfl rfl (by decide +kernel) ⟨Nat.le_of_ble_eq_true rfl, Nat.le_of_ble_eq_true rfl⟩) hW 40 (xw_40 E _) rfl rfl rfl hl.1 (Nat.le_of_ble_eq_true rfl) dX4_plug_58 ⟨Nat.zero_le _, Nat.zero_le _⟩ (fun r58 σ58 H locs hq2 hW => ?_)
    rcases hq2 with ⟨h58, rfl, rfl⟩ | ⟨-, rfl, rfl⟩
    · exact absurd h58 (by decide)
    · refine lv_if_ne (tgt := 66) hx hb dX4_plug_61 (by decide) (fun c61 => ?_) (fun c61 => ?_)
      · exact absurd c61 (by decide)
      refine lv_iconst (v := 0) hx hb dX4_plug_64 (by decide) ?_
      exact x_reti S hr hlk hW dX4_plug_65 (by first | exact .inr (xbad (k := 1) (xif_t h4) (by decide) (hR.ok 1)) | exact .inr (xbad (k := 2) (by rw [ocPlug, xif_f (not_not_intro ⟨xPn hq4, xPn hq5⟩)]; exact xif_t (by first | exact Or.inl h18 | exact Or.inr (by rw [c26]))) (by decide) (hR.ok 2)) | exact .inr (xbad (k := 3) (by rw [ocPlug, xif_f (not_not_intro ⟨xPn hq4, xPn hq5⟩), xif_f (not_or.mpr ⟨not_not_intro h18, fun e => c26 (nI_inj (by omega) (by omega) e)⟩), xNa_n (by omega), xNa_n (by omega)]; exact xif_t (by first | exact Or.inl c40 | exact Or.inr c50)) (by decide) (hR.ok 3)))
  · obtain ⟨⟨q4, hq4, rfl⟩, q5, hq5, rfl⟩ := h4
    refine lv_if_ne (tgt := 14) hx hb dX4_plug_7 (by decide) (fun c7 => ?_) (fun c7 => ?_)
    rotate_left
    · exact absurd c7 (by decide)
    refine lv_iload_n hx hb dX4_plug_14 rfl (lv_at hl 3 rfl) ?_
    refine lv_iconst (v := 1) hx hb dX4_plug_15 (by decide) ?_
    refine lv_bipush (v := 9) hx hb dX4_plug_16 (by decide) ?_
    refine x_Si (rest := [.ref (E.2.2.2 40)]) S (c_X4_in l E n f o a3 1 9) (cwS 3 S.2.2.2.2 gX4_plug_X4_in rfl rfl rfl (by decide +kernel) ⟨Nat.le_of_ble_eq_true rfl, Nat.le_of_ble_eq_true rfl⟩) hW rfl rfl hl.1 (Nat.le_of_ble_eq_true rfl) dX4_plug_18 ⟨Nat.zero_le _, Nat.zero_le _⟩ (fun r18 σ18 H locs hq3 hW => ?_)
    rcases hq3 with ⟨rfl, h18, rfl⟩ | ⟨rfl, h18, rfl⟩
    · refine lv_if_eq (tgt := 29) hx hb dX4_plug_21 (by decide) (fun c21 => ?_) (fun c21 => ?_)
      rotate_left
      · exact absurd c21 (by decide)
      refine lv_iconst (v := 2) hx hb dX4_plug_29 (by decide) ?_
      refine lv_goto (tgt := 58) hx hb dX4_plug_30 (by decide) ?_
      refine x_Vi (rest := []) S (c_X4_holds l E n f o 2) (cwV 1 S.2.2.2.2 gX4_plug_X4_holds rfl rfl rfl (by decide +kernel) ⟨Nat.le_of_ble_eq_true rfl, Nat.le_of_ble_eq_true rfl⟩) hW 40 (xw_40 E _) rfl rfl rfl hl.1 (Nat.le_of_ble_eq_true rfl) dX4_plug_58 ⟨Nat.zero_le _, Nat.zero_le _⟩ (fun r58 σ58 H locs hq4 hW => ?_)
      rcases hq4 with ⟨h58, rfl, rfl⟩ | ⟨-, rfl, rfl⟩
      · exact absurd h58 (by decide)
      · refine lv_if_ne (tgt := 66) hx hb dX4_plug_61 (by decide) (fun c61 => ?_) (fun c61 => ?_)
        · exact absurd c61 (by decide)
        refine lv_iconst (v := 0) hx hb dX4_plug_64 (by decide) ?_
        exact x_reti S hr hlk hW dX4_plug_65 (by first | exact .inr (xbad (k := 1) (xif_t h4) (by decide) (hR.ok 1)) | exact .inr (xbad (k := 2) (by rw [ocPlug, xif_f (not_not_intro ⟨xPn hq4, xPn hq5⟩)]; exact xif_t (by first | exact Or.inl h18 | exact Or.inr (by rw [c26]))) (by decide) (hR.ok 2)) | exact .inr (xbad (k := 3) (by rw [ocPlug, xif_f (not_not_intro ⟨xPn hq4, xPn hq5⟩), xif_f (not_or.mpr ⟨not_not_intro h18, fun e => c26 (nI_inj (by omega) (by omega) e)⟩), xNa_n (by omega), xNa_n (by omega)]; exact xif_t (by first | exact Or.inl c40 | exact Or.inr c50)) (by decide) (hR.ok 3)))
    · refine lv_if_eq (tgt := 29) hx hb dX4_plug_21 (by decide) (fun c21 => ?_) (fun c21 => ?_)
      · exact absurd c21 (by decide)
      refine lv_iload_n hx hb dX4_plug_24 rfl (lv_at hl 1 rfl) ?_
      refine lv_iload_n hx hb dX4_plug_25 rfl (lv_at hl 2 rfl) ?_
      refine x_icmp_ne (a := q4) (b := q5) (tgt := 33) hx hb dX4_plug_26 (by decide) (by omega) (by omega) (fun c26 => ?_) (fun c26 => ?_)
      · refine lv_aload_n hx hb dX4_plug_33 rfl (lv_at hl 0 rfl) ?_
        refine x_get (v := .ref (E.2.2.2 43)) S hW hinX4 40 (xw_40 E _) rfl 7 (by decide) w16 rfl dX4_plug_34 ?_
        refine lv_iload_n hx hb dX4_plug_37 rfl (lv_at hl 1 rfl) ?_
        refine x_ildN (k := q4) (v := ((f 22) q4)) S hW 43 (xw_43 E _) (rfl) (show q4 < 144 from by omega) (by decide) rfl dX4_plug_38 ?_
        refine x_topE (gCb Γ q4) (hR.cb _ hq4) ?_
        refine lv_iconst (v := (-1)) hx hb dX4_plug_39 (by decide) ?_
        refine lv_icmp_ne (tgt := 53) hx hb dX4_plug_40 (by decide) (fun c40 => ?_) (fun c40 => ?_)
        · refine lv_iconst (v := 3) hx hb dX4_plug_53 (by decide) ?_
          refine lv_goto (tgt := 58) hx hb dX4_plug_54 (by decide) ?_
          refine x_Vi (rest := []) S (c_X4_holds l E n f o 3) (cwV 1 S.2.2.2.2 gX4_plug_X4_holds rfl rfl rfl (by decide +kernel) ⟨Nat.le_of_ble_eq_true rfl, Nat.le_of_ble_eq_true rfl⟩) hW 40 (xw_40 E _) rfl rfl rfl hl.1 (Nat.le_of_ble_eq_true rfl) dX4_plug_58 ⟨Nat.zero_le _, Nat.zero_le _⟩ (fun r58 σ58 H locs hq5 hW => ?_)
          rcases hq5 with ⟨h58, rfl, rfl⟩ | ⟨-, rfl, rfl⟩
          · exact absurd h58 (by decide)
          · refine lv_if_ne (tgt := 66) hx hb dX4_plug_61 (by decide) (fun c61 => ?_) (fun c61 => ?_)
            · exact absurd c61 (by decide)
            refine lv_iconst (v := 0) hx hb dX4_plug_64 (by decide) ?_
            exact x_reti S hr hlk hW dX4_plug_65 (by first | exact .inr (xbad (k := 1) (xif_t h4) (by decide) (hR.ok 1)) | exact .inr (xbad (k := 2) (by rw [ocPlug, xif_f (not_not_intro ⟨xPn hq4, xPn hq5⟩)]; exact xif_t (by first | exact Or.inl h18 | exact Or.inr (by rw [c26]))) (by decide) (hR.ok 2)) | exact .inr (xbad (k := 3) (by rw [ocPlug, xif_f (not_not_intro ⟨xPn hq4, xPn hq5⟩), xif_f (not_or.mpr ⟨not_not_intro h18, fun e => c26 (nI_inj (by omega) (by omega) e)⟩), xNa_n (by omega), xNa_n (by omega)]; exact xif_t (by first | exact Or.inl c40 | exact Or.inr c50)) (by decide) (hR.ok 3)))
        · refine lv_aload_n hx hb dX4_plug_43 rfl (lv_at hl 0 rfl) ?_
          refine x_get (v := .ref (E.2.2.2 43)) S hW hinX4 40 (xw_40 E _) rfl 7 (by decide) w16 rfl dX4_plug_44 ?_
          refine lv_iload_n hx hb dX4_plug_47 rfl (lv_at hl 2 rfl) ?_
          refine x_ildN (k := q5) (v := ((f 22) q5)) S hW 43 (xw_43 E _) (rfl) (show q5 < 144 from by omega) (by decide) rfl dX4_plug_48 ?_
          refine x_topE (gCb Γ q5) (hR.cb _ hq5) ?_
          refine lv_iconst (v := (-1)) hx hb dX4_plug_49 (by decide) ?_
          refine lv_icmp_eq (tgt := 57) hx hb dX4_plug_50 (by decide) (fun c50 => ?_) (fun c50 => ?_)
          · refine lv_iconst (v := 0) hx hb dX4_plug_57 (by decide) ?_
            refine x_Vi (rest := []) S (c_X4_holds l E n f o 0) (cwV 1 S.2.2.2.2 gX4_plug_X4_holds rfl rfl rfl (by decide +kernel) ⟨Nat.le_of_ble_eq_true rfl, Nat.le_of_ble_eq_true rfl⟩) hW 40 (xw_40 E _) rfl rfl rfl hl.1 (Nat.le_of_ble_eq_true rfl) dX4_plug_58 ⟨Nat.zero_le _, Nat.zero_le _⟩ (fun r58 σ58 H locs hq6 hW => ?_)
            rcases hq6 with ⟨-, rfl, rfl⟩ | ⟨h58, rfl, rfl⟩
            · refine lv_if_ne (tgt := 66) hx hb dX4_plug_61 (by decide) (fun c61 => ?_) (fun c61 => ?_)
              rotate_left
              · exact absurd c61 (by decide)
              refine lv_aload_n hx hb dX4_plug_66 rfl (lv_at hl 0 rfl) ?_
              refine x_get (v := .ref (E.2.2.2 43)) S hW hinX4 40 (xw_40 E _) rfl 7 (by decide) w16 rfl dX4_plug_67 ?_
              refine lv_iload_n hx hb dX4_plug_70 rfl (lv_at hl 1 rfl) ?_
              refine lv_iload_n hx hb dX4_plug_71 rfl (lv_at hl 2 rfl) ?_
              refine x_istN (k := q4) (σ' := ((xu n 10 0), (xu f 22 (upd (f 22) q4 (nI q5))), o)) S hW 43 (xw_43 E _) (rfl) (show q4 < 144 from by omega) (by decide) (xw_S22 E _ _ _ _) dX4_plug_72 (fun H locs hW => ?_)
              refine lv_aload_n hx hb dX4_plug_73 rfl (lv_at hl 0 rfl) ?_
              refine x_get (v := .ref (E.2.2.2 43)) S hW hinX4 40 (xw_40 E _) rfl 7 (by decide) w16 rfl dX4_plug_74 ?_
              refine lv_iload_n hx hb dX4_plug_77 rfl (lv_at hl 2 rfl) ?_
              refine lv_iload_n hx hb dX4_plug_78 rfl (lv_at hl 1 rfl) ?_
              refine x_istN (k := q5) (σ' := ((xu n 10 0), (xu f 22 (upd (upd (f 22) q4 (nI q5)) q5 (nI q4))), o)) S hW 43 (xw_43 E _) (rfl) (show q5 < 144 from by omega) (by decide) (xw_S22 E _ _ _ _) dX4_plug_79 (fun H locs hW => ?_)
              refine lv_aload_n hx hb dX4_plug_80 rfl (lv_at hl 0 rfl) ?_
              refine x_get (v := .ref (E.2.2.2 44)) S hW hinX4 40 (xw_40 E _) rfl 8 (by decide) w19 rfl dX4_plug_81 ?_
              refine lv_iload_n hx hb dX4_plug_84 rfl (lv_at hl 1 rfl) ?_
              refine lv_iload_n hx hb dX4_plug_85 rfl (lv_at hl 3 rfl) ?_
              refine x_istN (k := q4) (σ' := ((xu n 10 0), (xu (xu f 22 (upd (upd (f 22) q4 (nI q5)) q5 (nI q4))) 23 (upd (f 23) q4 a3)), o)) S hW 44 (xw_44 E _) (rfl) (show q4 < 144 from by omega) (by decide) (xw_S23 E _ _ _ _) dX4_plug_86 (fun H locs hW => ?_)
              refine lv_aload_n hx hb dX4_plug_87 rfl (lv_at hl 0 rfl) ?_
              refine x_get (v := .ref (E.2.2.2 44)) S hW hinX4 40 (xw_40 E _) rfl 8 (by decide) w19 rfl dX4_plug_88 ?_
              refine lv_iload_n hx hb dX4_plug_91 rfl (lv_at hl 2 rfl) ?_
              refine lv_iload_n hx hb dX4_plug_92 rfl (lv_at hl 3 rfl) ?_
              refine x_istN (k := q5) (σ' := ((xu n 10 0), (xu (xu f 22 (upd (upd (f 22) q4 (nI q5)) q5 (nI q4))) 23 (upd (upd (f 23) q4 a3) q5 a3)), o)) S hW 44 (xw_44 E _) (rfl) (show q5 < 144 from by omega) (by decide) (xw_S23 E _ _ _ _) dX4_plug_93 (fun H locs hW => ?_)
              refine lv_aload_n hx hb dX4_plug_94 rfl (lv_at hl 0 rfl) ?_
              refine lv_iload_n hx hb dX4_plug_95 rfl (lv_at hl 1 rfl) ?_
              refine lv_iload_n hx hb dX4_plug_96 rfl (lv_at hl 2 rfl) ?_
              refine x_Vi (rest := []) S (c_X4_length l E (xu n 10 0) (xu (xu f 22 (upd (upd (f 22) q4 (nI q5)) q5 (nI q4))) 23 (upd (upd (f 23) q4 a3) q5 a3)) o (gPlug Γ q4 q5 a3) (good_plug hG hq4 hq5 c26 c40 c50) (repR_plug hR) (p1 := q4) hq4 (p2 := q5) hq5) (cwV 2 S.2.2.2.2 gX4_plug_X4_length rfl rfl rfl (by decide +kernel) ⟨Nat.le_of_ble_eq_true rfl, Nat.le_of_ble_eq_true rfl⟩) hW 40 (xw_40 E _) rfl rfl rfl hl.1 (Nat.le_of_ble_eq_true rfl) dX4_plug_97 ⟨Nat.zero_le _, Nat.zero_le _⟩ (fun r97 σ97 H locs hq7 hW => ?_)
              obtain ⟨rfl, rfl⟩ := hq7
              exact x_reti S hr hlk hW dX4_plug_100 (.inl ⟨by rw [ocPlug, xif_f (not_not_intro ⟨xPn hq4, xPn hq5⟩), xif_f (not_or.mpr ⟨not_not_intro h18, fun e => c26 (nI_inj (by omega) (by omega) e)⟩), xNa_n (by omega), xNa_n (by omega)]; exact xif_f (not_or.mpr ⟨not_not_intro c40, not_not_intro c50⟩), by first | (rw [xNa_n (by omega), xNa_n (by omega)]; done) | (rw [xNa_n (by omega), xNa_n (by omega)]; rfl), by rw [xNa_n (by omega), xNa_n (by omega)]; exact xOKR.mk (repR_plug hR) (fun q hq => xu_n (by omega)) (fun q hq => by rw [xu_n (by omega), xu_n (by omega)]) rfl⟩)
            · exact absurd h58 (by decide)
          · refine lv_iconst (v := 3) hx hb dX4_plug_53 (by decide) ?_
            refine lv_goto (tgt := 58) hx hb dX4_plug_54 (by decide) ?_
            refine x_Vi (rest := []) S (c_X4_holds l E n f o 3) (cwV 1 S.2.2.2.2 gX4_plug_X4_holds rfl rfl rfl (by decide +kernel) ⟨Nat.le_of_ble_eq_true rfl, Nat.le_of_ble_eq_true rfl⟩) hW 40 (xw_40 E _) rfl rfl rfl hl.1 (Nat.le_of_ble_eq_true rfl) dX4_plug_58 ⟨Nat.zero_le _, Nat.zero_le _⟩ (fun r58 σ58 H locs hq8 hW => ?_)
            rcases hq8 with ⟨h58, rfl, rfl⟩ | ⟨-, rfl, rfl⟩
            · exact absurd h58 (by decide)
            · refine lv_if_ne (tgt := 66) hx hb dX4_plug_61 (by decide) (fun c61 => ?_) (fun c61 => ?_)
              · exact absurd c61 (by decide)
              refine lv_iconst (v := 0) hx hb dX4_plug_64 (by decide) ?_
              exact x_reti S hr hlk hW dX4_plug_65 (by first | exact .inr (xbad (k := 1) (xif_t h4) (by decide) (hR.ok 1)) | exact .inr (xbad (k := 2) (by rw [ocPlug, xif_f (not_not_intro ⟨xPn hq4, xPn hq5⟩)]; exact xif_t (by first | exact Or.inl h18 | exact Or.inr (by rw [c26]))) (by decide) (hR.ok 2)) | exact .inr (xbad (k := 3) (by rw [ocPlug, xif_f (not_not_intro ⟨xPn hq4, xPn hq5⟩), xif_f (not_or.mpr ⟨not_not_intro h18, fun e => c26 (nI_inj (by omega) (by omega) e)⟩), xNa_n (by omega), xNa_n (by omega)]; exact xif_t (by first | exact Or.inl c40 | exact Or.inr c50)) (by decide) (hR.ok 3)))
      · refine lv_iconst (v := 2) hx hb dX4_plug_29 (by decide) ?_
        refine lv_goto (tgt := 58) hx hb dX4_plug_30 (by decide) ?_
        refine x_Vi (rest := []) S (c_X4_holds l E n f o 2) (cwV 1 S.2.2.2.2 gX4_plug_X4_holds rfl rfl rfl (by decide +kernel) ⟨Nat.le_of_ble_eq_true rfl, Nat.le_of_ble_eq_true rfl⟩) hW 40 (xw_40 E _) rfl rfl rfl hl.1 (Nat.le_of_ble_eq_true rfl) dX4_plug_58 ⟨Nat.zero_le _, Nat.zero_le _⟩ (fun r58 σ58 H locs hq9 hW => ?_)
        rcases hq9 with ⟨h58, rfl, rfl⟩ | ⟨-, rfl, rfl⟩
        · exact absurd h58 (by decide)
        · refine lv_if_ne (tgt := 66) hx hb dX4_plug_61 (by decide) (fun c61 => ?_) (fun c61 => ?_)
          · exact absurd c61 (by decide)
          refine lv_iconst (v := 0) hx hb dX4_plug_64 (by decide) ?_
          exact x_reti S hr hlk hW dX4_plug_65 (by first | exact .inr (xbad (k := 1) (xif_t h4) (by decide) (hR.ok 1)) | exact .inr (xbad (k := 2) (by rw [ocPlug, xif_f (not_not_intro ⟨xPn hq4, xPn hq5⟩)]; exact xif_t (by first | exact Or.inl h18 | exact Or.inr (by rw [c26]))) (by decide) (hR.ok 2)) | exact .inr (xbad (k := 3) (by rw [ocPlug, xif_f (not_not_intro ⟨xPn hq4, xPn hq5⟩), xif_f (not_or.mpr ⟨not_not_intro h18, fun e => c26 (nI_inj (by omega) (by omega) e)⟩), xNa_n (by omega), xNa_n (by omega)]; exact xif_t (by first | exact Or.inl c40 | exact Or.inr c50)) (by decide) (hR.ok 3)))

abbrev rmX4_addMove : Room := { frames := 3, cells := 0, slots := 0, locals := 65 }
set_option maxHeartbeats 4000000 in
set_option maxRecDepth 100000 in
theorem c_X4_addMove (l : Launch) (E : xE) (n : Nat → Int32) (f : Nat → Nat → Int32) (o : Nat → Int64) (Γ : xG) (hG : xGood Γ) (hR : xRepR Γ n f) (a a2 : Int32) : xCi l yX4_addMove wsX4_addMove rmX4_addMove E [.ref (E.2.2.2 40), .int a, .int a2] (n, f, o) (fun r σ' => (ocMove Γ a a2 = 0 ∧ r = nI (gNm Γ + 1) ∧ xOKR (gMove Γ (xNa a) (xNa a2)) n f o 0 σ') ∨ (ocMove Γ a a2 ≠ 0 ∧ xOKR Γ n f o (ocMove Γ a a2) σ')) := by
  refine x_starti RX4 (by decide) rfl rfl (Nat.le_of_ble_eq_true rfl) ?_
  intro p e s m args below meth c ls S hr hlk hW hl
  have hx := S.1
  have hb := S.2.1
  have hl : lv_has ls 3 [(0, .ref (E.2.2.2 40)), (1, .int a), (2, .int a2)] := hl
  have hinX4 : ∀ w ∈ wsX40, w ∈ wsX4_addMove := by decide +kernel
  have w112 : Cond.fieldLink RX4 112 "CableBookModel" "moves" "I" ∈ wsX4_addMove := by decide +kernel
  have w44 : Cond.fieldLink RX4 44 "CableBookModel" "from" "[I" ∈ wsX4_addMove := by decide +kernel
  have w47 : Cond.fieldLink RX4 47 "CableBookModel" "to" "[I" ∈ wsX4_addMove := by decide +kernel
  have hno := hG.no
  have hnp := hG.np
  have hnt := hG.nt
  have hnm := hG.nm
  refine lv_aload_n hx hb dX4_addMove_0 rfl (lv_at hl 0 rfl) ?_
  refine lv_aload_n hx hb dX4_addMove_1 rfl (lv_at hl 0 rfl) ?_
  refine lv_iload_n hx hb dX4_addMove_2 rfl (lv_at hl 1 rfl) ?_
  refine lv_iload_n hx hb dX4_addMove_3 rfl (lv_at hl 2 rfl) ?_
  refine x_Vi (rest := [.ref (E.2.2.2 40)]) S (c_X4_arePorts l E n f o Γ hG hR a a2) (cwV 2 S.2.2.2.2 gX4_addMove_X4_arePorts rfl rfl rfl (by decide +kernel) ⟨Nat.le_of_ble_eq_true rfl, Nat.le_of_ble_eq_true rfl⟩) hW 40 (xw_40 E _) rfl rfl rfl hl.1 (Nat.le_of_ble_eq_true rfl) dX4_addMove_4 ⟨Nat.zero_le _, Nat.zero_le _⟩ (fun r4 σ4 H locs hq1 hW => ?_)
  rcases hq1 with ⟨rfl, h4, rfl⟩ | ⟨rfl, h4, rfl⟩
  · refine lv_if_ne (tgt := 14) hx hb dX4_addMove_7 (by decide) (fun c7 => ?_) (fun c7 => ?_)
    · exact absurd c7 (by decide)
    refine lv_iconst (v := 1) hx hb dX4_addMove_10 (by decide) ?_
    refine lv_goto (tgt := 37) hx hb dX4_addMove_11 (by decide) ?_
    refine x_Vi (rest := []) S (c_X4_holds l E n f o 1) (cwV 1 S.2.2.2.2 gX4_addMove_X4_holds rfl rfl rfl (by decide +kernel) ⟨Nat.le_of_ble_eq_true rfl, Nat.le_of_ble_eq_true rfl⟩) hW 40 (xw_40 E _) rfl rfl rfl hl.1 (Nat.le_of_ble_eq_true rfl) dX4_addMove_37 ⟨Nat.zero_le _, Nat.zero_le _⟩ (fun r37 σ37 H locs hq2 hW => ?_)
    rcases hq2 with ⟨h37, rfl, rfl⟩ | ⟨-, rfl, rfl⟩
    · exact absurd h37 (by decide)
    · refine lv_if_ne (tgt := 45) hx hb dX4_addMove_40 (by decide) (fun c40 => ?_) (fun c40 => ?_)
      · exact absurd c40 (by decide)
      refine lv_iconst (v := 0) hx hb dX4_addMove_43 (by decide) ?_
      exact x_reti S hr hlk hW dX4_addMove_44 (by first | exact .inr (xbad (k := 1) (xif_t h4) (by decide) (hR.ok 1)) | exact .inr (xbad (k := 2) (by rw [ocMove, xif_f (not_not_intro ⟨xPn hq4, xPn hq5⟩)]; exact xif_t (by rw [c16])) (by decide) (hR.ok 2)) | exact .inr (xbad (k := 3) (by rw [ocMove, xif_f (not_not_intro ⟨xPn hq4, xPn hq5⟩), xif_f (fun e => c16 (nI_inj (by omega) (by omega) e))]; exact xif_t c29) (by decide) (hR.ok 3)))
  · obtain ⟨⟨q4, hq4, rfl⟩, q5, hq5, rfl⟩ := h4
    refine lv_if_ne (tgt := 14) hx hb dX4_addMove_7 (by decide) (fun c7 => ?_) (fun c7 => ?_)
    rotate_left
    · exact absurd c7 (by decide)
    refine lv_iload_n hx hb dX4_addMove_14 rfl (lv_at hl 1 rfl) ?_
    refine lv_iload_n hx hb dX4_addMove_15 rfl (lv_at hl 2 rfl) ?_
    refine x_icmp_ne (a := q4) (b := q5) (tgt := 23) hx hb dX4_addMove_16 (by decide) (by omega) (by omega) (fun c16 => ?_) (fun c16 => ?_)
    · refine lv_aload_n hx hb dX4_addMove_23 rfl (lv_at hl 0 rfl) ?_
      refine x_get (v := .int (n 14)) S hW hinX4 40 (xw_40 E _) rfl 4 (by decide) w112 rfl dX4_addMove_24 ?_
      refine x_topN (gNm Γ) (hR.nm) ?_
      refine lv_bipush (v := 12) hx hb dX4_addMove_27 (by decide) ?_
      refine x_icmp_ne (a := gNm Γ) (b := 12) (tgt := 36) hx hb dX4_addMove_29 (by decide) (by omega) (by omega) (fun c29 => ?_) (fun c29 => ?_)
      · refine lv_iconst (v := 0) hx hb dX4_addMove_36 (by decide) ?_
        refine x_Vi (rest := []) S (c_X4_holds l E n f o 0) (cwV 1 S.2.2.2.2 gX4_addMove_X4_holds rfl rfl rfl (by decide +kernel) ⟨Nat.le_of_ble_eq_true rfl, Nat.le_of_ble_eq_true rfl⟩) hW 40 (xw_40 E _) rfl rfl rfl hl.1 (Nat.le_of_ble_eq_true rfl) dX4_addMove_37 ⟨Nat.zero_le _, Nat.zero_le _⟩ (fun r37 σ37 H locs hq3 hW => ?_)
        rcases hq3 with ⟨-, rfl, rfl⟩ | ⟨h37, rfl, rfl⟩
        · refine lv_if_ne (tgt := 45) hx hb dX4_addMove_40 (by decide) (fun c40 => ?_) (fun c40 => ?_)
          rotate_left
          · exact absurd c40 (by decide)
          refine lv_aload_n hx hb dX4_addMove_45 rfl (lv_at hl 0 rfl) ?_
          refine x_get (v := .ref (E.2.2.2 52)) S hW hinX4 40 (xw_40 E _) rfl 16 (by decide) w44 rfl dX4_addMove_46 ?_
          refine lv_aload_n hx hb dX4_addMove_49 rfl (lv_at hl 0 rfl) ?_
          refine x_get (v := .int (n 14)) S hW hinX4 40 (xw_40 E _) rfl 4 (by decide) w112 rfl dX4_addMove_50 ?_
          refine x_topN (gNm Γ) (hR.nm) ?_
          refine lv_iload_n hx hb dX4_addMove_53 rfl (lv_at hl 1 rfl) ?_
          refine x_istN (k := gNm Γ) (σ' := ((xu n 10 0), (xu f 31 (upd (f 31) (gNm Γ) (nI q4))), o)) S hW 52 (xw_52 E _) (rfl) (show gNm Γ < 12 from by omega) (by decide) (xw_S31 E _ _ _ _) dX4_addMove_54 (fun H locs hW => ?_)
          refine lv_aload_n hx hb dX4_addMove_55 rfl (lv_at hl 0 rfl) ?_
          refine x_get (v := .ref (E.2.2.2 53)) S hW hinX4 40 (xw_40 E _) rfl 17 (by decide) w47 rfl dX4_addMove_56 ?_
          refine lv_aload_n hx hb dX4_addMove_59 rfl (lv_at hl 0 rfl) ?_
          refine x_get (v := .int (n 14)) S hW hinX4 40 (xw_40 E _) rfl 4 (by decide) w112 rfl dX4_addMove_60 ?_
          refine x_topN (gNm Γ) (hR.nm) ?_
          refine lv_iload_n hx hb dX4_addMove_63 rfl (lv_at hl 2 rfl) ?_
          refine x_istN (k := gNm Γ) (σ' := ((xu n 10 0), (xu (xu f 31 (upd (f 31) (gNm Γ) (nI q4))) 32 (upd (f 32) (gNm Γ) (nI q5))), o)) S hW 53 (xw_53 E _) (rfl) (show gNm Γ < 12 from by omega) (by decide) (xw_S32 E _ _ _ _) dX4_addMove_64 (fun H locs hW => ?_)
          refine lv_aload_n hx hb dX4_addMove_65 rfl (lv_at hl 0 rfl) ?_
          refine lv_dup hx hb dX4_addMove_66 rfl ?_
          refine x_get (v := .int (n 14)) S hW hinX4 40 (xw_40 E _) rfl 4 (by decide) w112 rfl dX4_addMove_67 ?_
          refine x_topN (gNm Γ) (hR.nm) ?_
          refine lv_iconst (v := 1) hx hb dX4_addMove_70 (by decide) ?_
          refine x_iadd (a := gNm Γ) (b := 1) hx hb dX4_addMove_71 ?_
          refine x_put (σ' := ((xu (xu n 10 0) 14 (nI ((gNm Γ) + 1))), (xu (xu f 31 (upd (f 31) (gNm Γ) (nI q4))) 32 (upd (f 32) (gNm Γ) (nI q5))), o)) S hW hinX4 tyX4 tyX4_ok nmX4 40 (xw_40 E _) rfl 4 (by decide) w112 rfl (by decide +kernel) (Nat.le_of_ble_eq_true rfl) (xw_N14 E _ _ _ _) dX4_addMove_72 (fun H locs hW => ?_)
          refine lv_aload_n hx hb dX4_addMove_75 rfl (lv_at hl 0 rfl) ?_
          refine x_get (v := .int (nI ((gNm Γ) + 1))) S hW hinX4 40 (xw_40 E _) rfl 4 (by decide) w112 rfl dX4_addMove_76 ?_
          exact x_reti S hr hlk hW dX4_addMove_79 (.inl ⟨by rw [ocMove, xif_f (not_not_intro ⟨xPn hq4, xPn hq5⟩), xif_f (fun e => c16 (nI_inj (by omega) (by omega) e))]; exact xif_f c29, rfl, by rw [xNa_n (by omega), xNa_n (by omega)]; exact xOKR.mk (repR_move hR) (fun q hq => by rw [xu_n (by omega), xu_n (by omega)]) (fun q hq => by rw [xu_n (by omega), xu_n (by omega)]) rfl⟩)
        · exact absurd h37 (by decide)
      · refine lv_iconst (v := 3) hx hb dX4_addMove_32 (by decide) ?_
        refine lv_goto (tgt := 37) hx hb dX4_addMove_33 (by decide) ?_
        refine x_Vi (rest := []) S (c_X4_holds l E n f o 3) (cwV 1 S.2.2.2.2 gX4_addMove_X4_holds rfl rfl rfl (by decide +kernel) ⟨Nat.le_of_ble_eq_true rfl, Nat.le_of_ble_eq_true rfl⟩) hW 40 (xw_40 E _) rfl rfl rfl hl.1 (Nat.le_of_ble_eq_true rfl) dX4_addMove_37 ⟨Nat.zero_le _, Nat.zero_le _⟩ (fun r37 σ37 H locs hq4 hW => ?_)
        rcases hq4 with ⟨h37, rfl, rfl⟩ | ⟨-, rfl, rfl⟩
        · exact absurd h37 (by decide)
        · refine lv_if_ne (tgt := 45) hx hb dX4_addMove_40 (by decide) (fun c40 => ?_) (fun c40 => ?_)
          · exact absurd c40 (by decide)
          refine lv_iconst (v := 0) hx hb dX4_addMove_43 (by decide) ?_
          exact x_reti S hr hlk hW dX4_addMove_44 (by first | exact .inr (xbad (k := 1) (xif_t h4) (by decide) (hR.ok 1)) | exact .inr (xbad (k := 2) (by rw [ocMove, xif_f (not_not_intro ⟨xPn hq4, xPn hq5⟩)]; exact xif_t (by rw [c16])) (by decide) (hR.ok 2)) | exact .inr (xbad (k := 3) (by rw [ocMove, xif_f (not_not_intro ⟨xPn hq4, xPn hq5⟩), xif_f (fun e => c16 (nI_inj (by omega) (by omega) e))]; exact xif_t c29) (by decide) (hR.ok 3)))
    · refine lv_iconst (v := 2) hx hb dX4_addMove_19 (by decide) ?_
      refine lv_goto (tgt := 37) hx hb dX4_addMove_20 (by decide) ?_
      refine x_Vi (rest := []) S (c_X4_holds l E n f o 2) (cwV 1 S.2.2.2.2 gX4_addMove_X4_holds rfl rfl rfl (by decide +kernel) ⟨Nat.le_of_ble_eq_true rfl, Nat.le_of_ble_eq_true rfl⟩) hW 40 (xw_40 E _) rfl rfl rfl hl.1 (Nat.le_of_ble_eq_true rfl) dX4_addMove_37 ⟨Nat.zero_le _, Nat.zero_le _⟩ (fun r37 σ37 H locs hq5 hW => ?_)
      rcases hq5 with ⟨h37, rfl, rfl⟩ | ⟨-, rfl, rfl⟩
      · exact absurd h37 (by decide)
      · refine lv_if_ne (tgt := 45) hx hb dX4_addMove_40 (by decide) (fun c40 => ?_) (fun c40 => ?_)
        · exact absurd c40 (by decide)
        refine lv_iconst (v := 0) hx hb dX4_addMove_43 (by decide) ?_
        exact x_reti S hr hlk hW dX4_addMove_44 (by first | exact .inr (xbad (k := 1) (xif_t h4) (by decide) (hR.ok 1)) | exact .inr (xbad (k := 2) (by rw [ocMove, xif_f (not_not_intro ⟨xPn hq4, xPn hq5⟩)]; exact xif_t (by rw [c16])) (by decide) (hR.ok 2)) | exact .inr (xbad (k := 3) (by rw [ocMove, xif_f (not_not_intro ⟨xPn hq4, xPn hq5⟩), xif_f (fun e => c16 (nI_inj (by omega) (by omega) e))]; exact xif_t c29) (by decide) (hR.ok 3)))

abbrev rmX4_setBroken : Room := { frames := 2, cells := 0, slots := 0, locals := 43 }
set_option maxHeartbeats 4000000 in
set_option maxRecDepth 100000 in
theorem c_X4_setBroken (l : Launch) (E : xE) (n : Nat → Int32) (f : Nat → Nat → Int32) (o : Nat → Int64) (Γ : xG) (hG : xGood Γ) (hR : xRepR Γ n f) (a a2 : Int32) (b : Bool) : xCi l yX4_setBroken wsX4_setBroken rmX4_setBroken E [.ref (E.2.2.2 40), .int a, .int a2, .int (bz b)] (n, f, o) (fun r σ' => (ocBrk Γ a a2 = 0 ∧ r = gBk Γ (gTa Γ (xNa a) + xNa a2) ∧ xOKR (gBrk Γ (gTa Γ (xNa a) + xNa a2) (gTb Γ (xNa a) + xNa a2) (bz b)) n f o 0 σ') ∨ (ocBrk Γ a a2 ≠ 0 ∧ xOKR Γ n f o (ocBrk Γ a a2) σ')) := by
  refine x_starti RX4 (by decide) rfl rfl (Nat.le_of_ble_eq_true rfl) ?_
  intro p e s m args below meth c ls S hr hlk hW hl
  have hx := S.1
  have hb := S.2.1
  have hl : lv_has ls 5 [(0, .ref (E.2.2.2 40)), (1, .int a), (2, .int a2), (3, .int (bz b))] := hl
  have hinX4 : ∀ w ∈ wsX40, w ∈ wsX4_setBroken := by decide +kernel
  have w28 : Cond.fieldLink RX4 28 "CableBookModel" "areBroken" "[Z" ∈ wsX4_setBroken := by decide +kernel
  have w32 : Cond.fieldLink RX4 32 "CableBookModel" "trunkFrom" "[I" ∈ wsX4_setBroken := by decide +kernel
  have w35 : Cond.fieldLink RX4 35 "CableBookModel" "trunkTo" "[I" ∈ wsX4_setBroken := by decide +kernel
  have w38 : Cond.fieldLink RX4 38 "CableBookModel" "trunkStrands" "[I" ∈ wsX4_setBroken := by decide +kernel
  have hno := hG.no
  have hnp := hG.np
  have hnt := hG.nt
  have hnm := hG.nm
  refine lv_aload_n hx hb dX4_setBroken_0 rfl (lv_at hl 0 rfl) ?_
  refine lv_aload_n hx hb dX4_setBroken_1 rfl (lv_at hl 0 rfl) ?_
  refine lv_iload_n hx hb dX4_setBroken_2 rfl (lv_at hl 1 rfl) ?_
  refine x_Vi (rest := [.ref (E.2.2.2 40)]) S (c_X4_isTrunk l E n f o Γ hG hR a) (cwV 1 S.2.2.2.2 gX4_setBroken_X4_isTrunk rfl rfl rfl (by decide +kernel) ⟨Nat.le_of_ble_eq_true rfl, Nat.le_of_ble_eq_true rfl⟩) hW 40 (xw_40 E _) rfl rfl rfl hl.1 (Nat.le_of_ble_eq_true rfl) dX4_setBroken_3 ⟨Nat.zero_le _, Nat.zero_le _⟩ (fun r3 σ3 H locs hq1 hW => ?_)
  rcases hq1 with ⟨rfl, h3, rfl⟩ | ⟨rfl, h3, rfl⟩
  · refine lv_if_eq (tgt := 29) hx hb dX4_setBroken_6 (by decide) (fun c6 => ?_) (fun c6 => ?_)
    rotate_left
    · exact absurd c6 (by decide)
    refine lv_iconst (v := 1) hx hb dX4_setBroken_29 (by decide) ?_
    refine x_Vi (rest := []) S (c_X4_holds l E n f o 1) (cwV 1 S.2.2.2.2 gX4_setBroken_X4_holds rfl rfl rfl (by decide +kernel) ⟨Nat.le_of_ble_eq_true rfl, Nat.le_of_ble_eq_true rfl⟩) hW 40 (xw_40 E _) rfl rfl rfl hl.1 (Nat.le_of_ble_eq_true rfl) dX4_setBroken_30 ⟨Nat.zero_le _, Nat.zero_le _⟩ (fun r30 σ30 H locs hq2 hW => ?_)
    rcases hq2 with ⟨h30, rfl, rfl⟩ | ⟨-, rfl, rfl⟩
    · exact absurd h30 (by decide)
    · refine lv_if_ne (tgt := 38) hx hb dX4_setBroken_33 (by decide) (fun c33 => ?_) (fun c33 => ?_)
      · exact absurd c33 (by decide)
      refine lv_iconst (v := 0) hx hb dX4_setBroken_36 (by decide) ?_
      exact x_retz S hr hlk hW dX4_setBroken_37 (Or.inl rfl) (by first | exact .inr (xbad (k := 1) (xif_f (fun q => h3 q.1)) (by decide) (hR.ok 1)) | exact .inr (xbad (k := 1) (xif_f (fun q => h19 (by have := q.2; rw [xNa_n (by omega)] at this; exact this))) (by decide) (hR.ok 1)))
  · obtain ⟨q3, hq3, rfl⟩ := h3
    refine lv_if_eq (tgt := 29) hx hb dX4_setBroken_6 (by decide) (fun c6 => ?_) (fun c6 => ?_)
    · exact absurd c6 (by decide)
    refine lv_iload_n hx hb dX4_setBroken_9 rfl (lv_at hl 2 rfl) ?_
    refine lv_iconst (v := 0) hx hb dX4_setBroken_10 (by decide) ?_
    refine lv_aload_n hx hb dX4_setBroken_11 rfl (lv_at hl 0 rfl) ?_
    refine x_get (v := .ref (E.2.2.2 50)) S hW hinX4 40 (xw_40 E _) rfl 14 (by decide) w38 rfl dX4_setBroken_12 ?_
    refine lv_iload_n hx hb dX4_setBroken_15 rfl (lv_at hl 1 rfl) ?_
    refine x_ildN (k := q3) (v := ((f 29) q3)) S hW 50 (xw_50 E _) (rfl) (show q3 < 10 from by omega) (by decide) rfl dX4_setBroken_16 ?_
    have ht9 := hG.tt q3 hq3
    have hts := hG.ts q3 hq3
    refine x_topN (gTc Γ q3) (hR.tc q3 hq3) ?_
    refine lv_iconst (v := 1) hx hb dX4_setBroken_17 (by decide) ?_
    refine lv_isub hx hb dX4_setBroken_18 ?_
    refine x_Si (rest := [.ref (E.2.2.2 40)]) S (c_X4_in l E n f o a2 0 ((nI (gTc Γ q3)) - 1)) (cwS 3 S.2.2.2.2 gX4_setBroken_X4_in rfl rfl rfl (by decide +kernel) ⟨Nat.le_of_ble_eq_true rfl, Nat.le_of_ble_eq_true rfl⟩) hW rfl rfl hl.1 (Nat.le_of_ble_eq_true rfl) dX4_setBroken_19 ⟨Nat.zero_le _, Nat.zero_le _⟩ (fun r19 σ19 H locs hq3 hW => ?_)
    rcases hq3 with ⟨rfl, h19, rfl⟩ | ⟨rfl, h19, rfl⟩
    · rw [xP_iff (by omega)] at h19
      refine lv_if_eq (tgt := 29) hx hb dX4_setBroken_22 (by decide) (fun c22 => ?_) (fun c22 => ?_)
      rotate_left
      · exact absurd c22 (by decide)
      refine lv_iconst (v := 1) hx hb dX4_setBroken_29 (by decide) ?_
      refine x_Vi (rest := []) S (c_X4_holds l E n f o 1) (cwV 1 S.2.2.2.2 gX4_setBroken_X4_holds rfl rfl rfl (by decide +kernel) ⟨Nat.le_of_ble_eq_true rfl, Nat.le_of_ble_eq_true rfl⟩) hW 40 (xw_40 E _) rfl rfl rfl hl.1 (Nat.le_of_ble_eq_true rfl) dX4_setBroken_30 ⟨Nat.zero_le _, Nat.zero_le _⟩ (fun r30 σ30 H locs hq4 hW => ?_)
      rcases hq4 with ⟨h30, rfl, rfl⟩ | ⟨-, rfl, rfl⟩
      · exact absurd h30 (by decide)
      · refine lv_if_ne (tgt := 38) hx hb dX4_setBroken_33 (by decide) (fun c33 => ?_) (fun c33 => ?_)
        · exact absurd c33 (by decide)
        refine lv_iconst (v := 0) hx hb dX4_setBroken_36 (by decide) ?_
        exact x_retz S hr hlk hW dX4_setBroken_37 (Or.inl rfl) (by first | exact .inr (xbad (k := 1) (xif_f (fun q => h3 q.1)) (by decide) (hR.ok 1)) | exact .inr (xbad (k := 1) (xif_f (fun q => h19 (by have := q.2; rw [xNa_n (by omega)] at this; exact this))) (by decide) (hR.ok 1)))
    · obtain ⟨s9, hs9, rfl⟩ := (xP_iff (by omega)).mp h19
      have ht8 := hts s9 hs9
      refine lv_if_eq (tgt := 29) hx hb dX4_setBroken_22 (by decide) (fun c22 => ?_) (fun c22 => ?_)
      · exact absurd c22 (by decide)
      refine lv_iconst (v := 0) hx hb dX4_setBroken_25 (by decide) ?_
      refine lv_goto (tgt := 30) hx hb dX4_setBroken_26 (by decide) ?_
      refine x_Vi (rest := []) S (c_X4_holds l E n f o 0) (cwV 1 S.2.2.2.2 gX4_setBroken_X4_holds rfl rfl rfl (by decide +kernel) ⟨Nat.le_of_ble_eq_true rfl, Nat.le_of_ble_eq_true rfl⟩) hW 40 (xw_40 E _) rfl rfl rfl hl.1 (Nat.le_of_ble_eq_true rfl) dX4_setBroken_30 ⟨Nat.zero_le _, Nat.zero_le _⟩ (fun r30 σ30 H locs hq5 hW => ?_)
      rcases hq5 with ⟨-, rfl, rfl⟩ | ⟨h30, rfl, rfl⟩
      · refine lv_if_ne (tgt := 38) hx hb dX4_setBroken_33 (by decide) (fun c33 => ?_) (fun c33 => ?_)
        rotate_left
        · exact absurd c33 (by decide)
        refine lv_aload_n hx hb dX4_setBroken_38 rfl (lv_at hl 0 rfl) ?_
        refine x_get (v := .ref (E.2.2.2 47)) S hW hinX4 40 (xw_40 E _) rfl 11 (by decide) w28 rfl dX4_setBroken_39 ?_
        refine lv_aload_n hx hb dX4_setBroken_42 rfl (lv_at hl 0 rfl) ?_
        refine x_get (v := .ref (E.2.2.2 48)) S hW hinX4 40 (xw_40 E _) rfl 12 (by decide) w32 rfl dX4_setBroken_43 ?_
        refine lv_iload_n hx hb dX4_setBroken_46 rfl (lv_at hl 1 rfl) ?_
        refine x_ildN (k := q3) (v := ((f 27) q3)) S hW 48 (xw_48 E _) (rfl) (show q3 < 10 from by omega) (by decide) rfl dX4_setBroken_47 ?_
        refine x_topN (gTa Γ q3) (hR.ta q3 hq3) ?_
        refine lv_iload_n hx hb dX4_setBroken_48 rfl (lv_at hl 2 rfl) ?_
        refine x_iadd (a := gTa Γ q3) (b := s9) hx hb dX4_setBroken_49 ?_
        refine x_zldN (k := (gTa Γ q3) + s9) (v := ((f 26) ((gTa Γ q3) + s9))) S hW 47 (xw_47 E _) (rfl) (show (gTa Γ q3) + s9 < 144 from by omega) (by decide) rfl dX4_setBroken_50 ?_
        refine x_topE (gBk Γ (gTa Γ q3 + s9)) (hR.bk _ (by omega)) ?_
        refine lv_istore (lv' := [(4, .int (gBk Γ (gTa Γ q3 + s9))), (0, .ref (E.2.2.2 40)), (1, .int (nI q3)), (2, .int (nI s9)), (3, .int (bz b))]) hx hb dX4_setBroken_51 hl (by decide) rfl (fun ls hl => ?_)
        refine lv_aload_n hx hb dX4_setBroken_53 rfl (lv_at hl 1 rfl) ?_
        refine x_get (v := .ref (E.2.2.2 47)) S hW hinX4 40 (xw_40 E _) rfl 11 (by decide) w28 rfl dX4_setBroken_54 ?_
        refine lv_aload_n hx hb dX4_setBroken_57 rfl (lv_at hl 1 rfl) ?_
        refine x_get (v := .ref (E.2.2.2 48)) S hW hinX4 40 (xw_40 E _) rfl 12 (by decide) w32 rfl dX4_setBroken_58 ?_
        refine lv_iload_n hx hb dX4_setBroken_61 rfl (lv_at hl 2 rfl) ?_
        refine x_ildN (k := q3) (v := ((f 27) q3)) S hW 48 (xw_48 E _) (rfl) (show q3 < 10 from by omega) (by decide) rfl dX4_setBroken_62 ?_
        refine x_topN (gTa Γ q3) (hR.ta q3 hq3) ?_
        refine lv_iload_n hx hb dX4_setBroken_63 rfl (lv_at hl 3 rfl) ?_
        refine x_iadd (a := gTa Γ q3) (b := s9) hx hb dX4_setBroken_64 ?_
        refine lv_iload_n hx hb dX4_setBroken_65 rfl (lv_at hl 4 rfl) ?_
        refine x_zstN (k := (gTa Γ q3) + s9) (σ' := ((xu n 10 0), (xu f 26 (upd (f 26) ((gTa Γ q3) + s9) (bz b))), o)) S hW 47 (xw_47 E _) (rfl) (show (gTa Γ q3) + s9 < 144 from by omega) (by decide) (bz_01 b) (xw_S26 E _ _ _ _) dX4_setBroken_66 (fun H locs hW => ?_)
        refine lv_aload_n hx hb dX4_setBroken_67 rfl (lv_at hl 1 rfl) ?_
        refine x_get (v := .ref (E.2.2.2 47)) S hW hinX4 40 (xw_40 E _) rfl 11 (by decide) w28 rfl dX4_setBroken_68 ?_
        refine lv_aload_n hx hb dX4_setBroken_71 rfl (lv_at hl 1 rfl) ?_
        refine x_get (v := .ref (E.2.2.2 49)) S hW hinX4 40 (xw_40 E _) rfl 13 (by decide) w35 rfl dX4_setBroken_72 ?_
        refine lv_iload_n hx hb dX4_setBroken_75 rfl (lv_at hl 2 rfl) ?_
        refine x_ildN (k := q3) (v := ((f 28) q3)) S hW 49 (xw_49 E _) (rfl) (show q3 < 10 from by omega) (by decide) rfl dX4_setBroken_76 ?_
        refine x_topN (gTb Γ q3) (hR.tb q3 hq3) ?_
        refine lv_iload_n hx hb dX4_setBroken_77 rfl (lv_at hl 3 rfl) ?_
        refine x_iadd (a := gTb Γ q3) (b := s9) hx hb dX4_setBroken_78 ?_
        refine lv_iload_n hx hb dX4_setBroken_79 rfl (lv_at hl 4 rfl) ?_
        refine x_zstN (k := (gTb Γ q3) + s9) (σ' := ((xu n 10 0), (xu f 26 (upd (upd (f 26) ((gTa Γ q3) + s9) (bz b)) ((gTb Γ q3) + s9) (bz b))), o)) S hW 47 (xw_47 E _) (rfl) (show (gTb Γ q3) + s9 < 144 from by omega) (by decide) (bz_01 b) (xw_S26 E _ _ _ _) dX4_setBroken_80 (fun H locs hW => ?_)
        refine lv_iload hx hb dX4_setBroken_81 (lv_at hl 0 rfl) ?_
        exact x_retz S hr hlk hW dX4_setBroken_83 (hG.b01 _) (.inl ⟨xif_t ⟨xPn hq3, by rw [xNa_n (by omega)]; exact xPn hs9⟩, by rw [xNa_n (by omega), xNa_n (by omega)], by rw [xNa_n (by omega), xNa_n (by omega)]; exact xOKR.mk (repR_brk hR) (fun q hq => xu_n (by omega)) (fun q hq => xu_n (by omega)) rfl⟩)
      · exact absurd h30 (by decide)

abbrev rmX4_addPanel : Room := { frames := 1, cells := 0, slots := 0, locals := 22 }
set_option maxHeartbeats 4000000 in
set_option maxRecDepth 100000 in
theorem c_X4_addPanel (l : Launch) (E : xE) (n : Nat → Int32) (f : Nat → Nat → Int32) (o : Nat → Int64) (Γ : xG) (hG : xGood Γ) (hR : xRepR Γ n f) (a a2 : Int32) : xCi l yX4_addPanel wsX4_addPanel rmX4_addPanel E [.ref (E.2.2.2 40), .int a, .int a2] (n, f, o) (fun r σ' => (ocAddPanel Γ a a2 = 0 ∧ r = nI (gNo Γ) ∧ xOKR (gPanel Γ a (xNa a2)) n f o 0 σ') ∨ (ocAddPanel Γ a a2 ≠ 0 ∧ xOKR Γ n f o (ocAddPanel Γ a a2) σ')) := by
  refine x_starti RX4 (by decide) rfl rfl (Nat.le_of_ble_eq_true rfl) ?_
  intro p e s m args below meth c ls S hr hlk hW hl
  have hx := S.1
  have hb := S.2.1
  have hl : lv_has ls 4 [(0, .ref (E.2.2.2 40)), (1, .int a), (2, .int a2)] := hl
  have hinX4 : ∀ w ∈ wsX40, w ∈ wsX4_addPanel := by decide +kernel
  have w13 : Cond.fieldLink RX4 13 "CableBookModel" "firsts" "[I" ∈ wsX4_addPanel := by decide +kernel
  have w16 : Cond.fieldLink RX4 16 "CableBookModel" "cables" "[I" ∈ wsX4_addPanel := by decide +kernel
  have w22 : Cond.fieldLink RX4 22 "CableBookModel" "strands" "[I" ∈ wsX4_addPanel := by decide +kernel
  have w66 : Cond.fieldLink RX4 66 "CableBookModel" "ports" "I" ∈ wsX4_addPanel := by decide +kernel
  have w7 : Cond.fieldLink RX4 7 "CableBookModel" "racks" "[I" ∈ wsX4_addPanel := by decide +kernel
  have w77 : Cond.fieldLink RX4 77 "CableBookModel" "panels" "I" ∈ wsX4_addPanel := by decide +kernel
  have hno := hG.no
  have hnp := hG.np
  have hnt := hG.nt
  have hnm := hG.nm
  refine lv_aload_n hx hb dX4_addPanel_0 rfl (lv_at hl 0 rfl) ?_
  refine lv_iload_n hx hb dX4_addPanel_1 rfl (lv_at hl 1 rfl) ?_
  refine lv_iconst (v := 0) hx hb dX4_addPanel_2 (by decide) ?_
  refine lv_bipush (v := 9) hx hb dX4_addPanel_3 (by decide) ?_
  refine x_Si (rest := [.ref (E.2.2.2 40)]) S (c_X4_in l E n f o a 0 9) (cwS 3 S.2.2.2.2 gX4_addPanel_X4_in rfl rfl rfl (by decide +kernel) ⟨Nat.le_of_ble_eq_true rfl, Nat.le_of_ble_eq_true rfl⟩) hW rfl rfl hl.1 (Nat.le_of_ble_eq_true rfl) dX4_addPanel_5 ⟨Nat.zero_le _, Nat.zero_le _⟩ (fun r5 σ5 H locs hq1 hW => ?_)
  rcases hq1 with ⟨rfl, h5, rfl⟩ | ⟨rfl, h5, rfl⟩
  · refine lv_if_eq (tgt := 21) hx hb dX4_addPanel_8 (by decide) (fun c8 => ?_) (fun c8 => ?_)
    rotate_left
    · exact absurd c8 (by decide)
    refine lv_iconst (v := 1) hx hb dX4_addPanel_21 (by decide) ?_
    refine lv_goto (tgt := 39) hx hb dX4_addPanel_22 (by decide) ?_
    refine x_Vi (rest := []) S (c_X4_holds l E n f o 1) (cwV 1 S.2.2.2.2 gX4_addPanel_X4_holds rfl rfl rfl (by decide +kernel) ⟨Nat.le_of_ble_eq_true rfl, Nat.le_of_ble_eq_true rfl⟩) hW 40 (xw_40 E _) rfl rfl rfl hl.1 (Nat.le_of_ble_eq_true rfl) dX4_addPanel_39 ⟨Nat.zero_le _, Nat.zero_le _⟩ (fun r39 σ39 H locs hq2 hW => ?_)
    rcases hq2 with ⟨h39, rfl, rfl⟩ | ⟨-, rfl, rfl⟩
    · exact absurd h39 (by decide)
    · refine lv_if_ne (tgt := 47) hx hb dX4_addPanel_42 (by decide) (fun c42 => ?_) (fun c42 => ?_)
      · exact absurd c42 (by decide)
      refine lv_iconst (v := 0) hx hb dX4_addPanel_45 (by decide) ?_
      exact x_reti S hr hlk hW dX4_addPanel_46 (by first | exact .inr (xbad (k := 1) (xif_t (by first | exact Or.inl h5 | exact Or.inr h15)) (by decide) (hR.ok 1)) | exact .inr (xbad (k := 2) (by rw [ocAddPanel, xif_f (not_or.mpr ⟨not_not_intro h5, not_not_intro h15⟩)]; exact xif_t c31) (by decide) (hR.ok 2)))
  · refine lv_if_eq (tgt := 21) hx hb dX4_addPanel_8 (by decide) (fun c8 => ?_) (fun c8 => ?_)
    · exact absurd c8 (by decide)
    refine lv_iload_n hx hb dX4_addPanel_11 rfl (lv_at hl 2 rfl) ?_
    refine lv_iconst (v := 1) hx hb dX4_addPanel_12 (by decide) ?_
    refine lv_bipush (v := 12) hx hb dX4_addPanel_13 (by decide) ?_
    refine x_Si (rest := [.ref (E.2.2.2 40)]) S (c_X4_in l E n f o a2 1 12) (cwS 3 S.2.2.2.2 gX4_addPanel_X4_in rfl rfl rfl (by decide +kernel) ⟨Nat.le_of_ble_eq_true rfl, Nat.le_of_ble_eq_true rfl⟩) hW rfl rfl hl.1 (Nat.le_of_ble_eq_true rfl) dX4_addPanel_15 ⟨Nat.zero_le _, Nat.zero_le _⟩ (fun r15 σ15 H locs hq3 hW => ?_)
    rcases hq3 with ⟨rfl, h15, rfl⟩ | ⟨rfl, h15, rfl⟩
    · refine lv_if_ne (tgt := 25) hx hb dX4_addPanel_18 (by decide) (fun c18 => ?_) (fun c18 => ?_)
      · exact absurd c18 (by decide)
      refine lv_iconst (v := 1) hx hb dX4_addPanel_21 (by decide) ?_
      refine lv_goto (tgt := 39) hx hb dX4_addPanel_22 (by decide) ?_
      refine x_Vi (rest := []) S (c_X4_holds l E n f o 1) (cwV 1 S.2.2.2.2 gX4_addPanel_X4_holds rfl rfl rfl (by decide +kernel) ⟨Nat.le_of_ble_eq_true rfl, Nat.le_of_ble_eq_true rfl⟩) hW 40 (xw_40 E _) rfl rfl rfl hl.1 (Nat.le_of_ble_eq_true rfl) dX4_addPanel_39 ⟨Nat.zero_le _, Nat.zero_le _⟩ (fun r39 σ39 H locs hq4 hW => ?_)
      rcases hq4 with ⟨h39, rfl, rfl⟩ | ⟨-, rfl, rfl⟩
      · exact absurd h39 (by decide)
      · refine lv_if_ne (tgt := 47) hx hb dX4_addPanel_42 (by decide) (fun c42 => ?_) (fun c42 => ?_)
        · exact absurd c42 (by decide)
        refine lv_iconst (v := 0) hx hb dX4_addPanel_45 (by decide) ?_
        exact x_reti S hr hlk hW dX4_addPanel_46 (by first | exact .inr (xbad (k := 1) (xif_t (by first | exact Or.inl h5 | exact Or.inr h15)) (by decide) (hR.ok 1)) | exact .inr (xbad (k := 2) (by rw [ocAddPanel, xif_f (not_or.mpr ⟨not_not_intro h5, not_not_intro h15⟩)]; exact xif_t c31) (by decide) (hR.ok 2)))
    · refine lv_if_ne (tgt := 25) hx hb dX4_addPanel_18 (by decide) (fun c18 => ?_) (fun c18 => ?_)
      rotate_left
      · exact absurd c18 (by decide)
      refine lv_aload_n hx hb dX4_addPanel_25 rfl (lv_at hl 0 rfl) ?_
      refine x_get (v := .int (n 11)) S hW hinX4 40 (xw_40 E _) rfl 1 (by decide) w77 rfl dX4_addPanel_26 ?_
      refine x_topN (gNp Γ) (hR.np) ?_
      refine lv_bipush (v := 12) hx hb dX4_addPanel_29 (by decide) ?_
      refine x_icmp_ne (a := gNp Γ) (b := 12) (tgt := 38) hx hb dX4_addPanel_31 (by decide) (by omega) (by omega) (fun c31 => ?_) (fun c31 => ?_)
      · refine lv_iconst (v := 0) hx hb dX4_addPanel_38 (by decide) ?_
        refine x_Vi (rest := []) S (c_X4_holds l E n f o 0) (cwV 1 S.2.2.2.2 gX4_addPanel_X4_holds rfl rfl rfl (by decide +kernel) ⟨Nat.le_of_ble_eq_true rfl, Nat.le_of_ble_eq_true rfl⟩) hW 40 (xw_40 E _) rfl rfl rfl hl.1 (Nat.le_of_ble_eq_true rfl) dX4_addPanel_39 ⟨Nat.zero_le _, Nat.zero_le _⟩ (fun r39 σ39 H locs hq5 hW => ?_)
        rcases hq5 with ⟨-, rfl, rfl⟩ | ⟨h39, rfl, rfl⟩
        · refine lv_if_ne (tgt := 47) hx hb dX4_addPanel_42 (by decide) (fun c42 => ?_) (fun c42 => ?_)
          rotate_left
          · exact absurd c42 (by decide)
          obtain ⟨c9, hc1, hc2, rfl⟩ := xin112 h15
          have hb9 : gNo Γ + c9 ≤ 144 := by have := hG.mono (gNp Γ) (Nat.le_refl _); have := hG.fn; omega
          refine lv_aload_n hx hb dX4_addPanel_47 rfl (lv_at hl 0 rfl) ?_
          refine x_get (v := .ref (E.2.2.2 41)) S hW hinX4 40 (xw_40 E _) rfl 5 (by decide) w7 rfl dX4_addPanel_48 ?_
          refine lv_aload_n hx hb dX4_addPanel_51 rfl (lv_at hl 0 rfl) ?_
          refine x_get (v := .int (n 11)) S hW hinX4 40 (xw_40 E _) rfl 1 (by decide) w77 rfl dX4_addPanel_52 ?_
          refine x_topN (gNp Γ) (hR.np) ?_
          refine lv_iload_n hx hb dX4_addPanel_55 rfl (lv_at hl 1 rfl) ?_
          refine x_istN (k := gNp Γ) (σ' := ((xu n 10 0), (xu f 20 (upd (f 20) (gNp Γ) a)), o)) S hW 41 (xw_41 E _) (rfl) (show gNp Γ < 12 from by omega) (by decide) (xw_S20 E _ _ _ _) dX4_addPanel_56 (fun H locs hW => ?_)
          refine lv_aload_n hx hb dX4_addPanel_57 rfl (lv_at hl 0 rfl) ?_
          refine x_get (v := .int (n 12)) S hW hinX4 40 (xw_40 E _) rfl 2 (by decide) w66 rfl dX4_addPanel_58 ?_
          refine x_topN (gNo Γ) (hR.no) ?_
          refine lv_istore_n (lv' := [(3, .int (nI (gNo Γ))), (0, .ref (E.2.2.2 40)), (1, .int a), (2, .int (nI c9))]) hx hb dX4_addPanel_61 rfl hl (by decide) rfl (fun ls hl => ?_)
          have L62 : ∀ (fu62 : Nat) (z : Nat) (F : Nat → Nat → Int32) (hμ62 : gNo Γ + c9 + 1 - z < fu62) (hz1 : gNo Γ ≤ z) (hz2 : z ≤ gNo Γ + c9) (hF : ∀ q, q ≠ 22 → q ≠ 24 → F q = (xu f 20 (upd (f 20) (gNp Γ) a)) q) (h22 : ∀ q, q < gNo Γ → F 22 q = f 22 q ∧ F 24 q = f 24 q) (h24 : ∀ q, gNo Γ ≤ q → q < z → F 22 q = -1 ∧ F 24 q = -1) (H : Heap) (locs : List Loc) (ls : Array Slot), xSt E ((xu n 10 0), F, o) s s.heap H locs → lv_has ls 4 [(0, .ref (E.2.2.2 40)), (1, .int a), (2, .int (nI c9)), (3, .int (nI z))] → W p l e rmX4_addPanel s m args below meth c H locs 0 0 (MQ below (va_Qi (fun r σ' => (ocAddPanel Γ a (nI c9) = 0 ∧ r = nI (gNo Γ) ∧ xOKR (gPanel Γ a (xNa (nI c9))) n f o 0 σ') ∨ (ocAddPanel Γ a (nI c9) ≠ 0 ∧ xOKR Γ n f o (ocAddPanel Γ a (nI c9)) σ')) (xWd E) (xA E)) args s 0 0 (xA E)) (F0 m 62 ls []) := by
            intro fu62
            induction fu62 with
            | zero => intro z F hμ62; exact absurd hμ62 (Nat.not_lt_zero _)
            | succ fu62 L62 =>
              intro z F hμ62 hz1 hz2 hF h22 h24 H locs ls hW hl
              refine lv_iload_n hx hb dX4_addPanel_62 rfl (lv_at hl 3 rfl) ?_
              refine lv_aload_n hx hb dX4_addPanel_63 rfl (lv_at hl 0 rfl) ?_
              refine x_get (v := .int (n 12)) S hW hinX4 40 (xw_40 E _) rfl 2 (by decide) w66 rfl dX4_addPanel_64 ?_
              refine x_topN (gNo Γ) (hR.no) ?_
              refine lv_iload_n hx hb dX4_addPanel_67 rfl (lv_at hl 2 rfl) ?_
              refine x_iadd (a := gNo Γ) (b := c9) hx hb dX4_addPanel_68 ?_
              refine x_icmp_ge (a := z) (b := (gNo Γ) + c9) (tgt := 92) hx hb dX4_addPanel_69 (by decide) (by omega) (by omega) (fun c69 => ?_) (fun c69 => ?_)
              · refine lv_aload_n hx hb dX4_addPanel_92 rfl (lv_at hl 0 rfl) ?_
                refine lv_dup hx hb dX4_addPanel_93 rfl ?_
                refine x_get (v := .int (n 11)) S hW hinX4 40 (xw_40 E _) rfl 1 (by decide) w77 rfl dX4_addPanel_94 ?_
                refine x_topN (gNp Γ) (hR.np) ?_
                refine lv_iconst (v := 1) hx hb dX4_addPanel_97 (by decide) ?_
                refine x_iadd (a := gNp Γ) (b := 1) hx hb dX4_addPanel_98 ?_
                refine x_put (σ' := ((xu (xu n 10 0) 11 (nI ((gNp Γ) + 1))), F, o)) S hW hinX4 tyX4 tyX4_ok nmX4 40 (xw_40 E _) rfl 1 (by decide) w77 rfl (by decide +kernel) (Nat.le_of_ble_eq_true rfl) (xw_N11 E _ _ _ _) dX4_addPanel_99 (fun H locs hW => ?_)
                refine lv_aload_n hx hb dX4_addPanel_102 rfl (lv_at hl 0 rfl) ?_
                refine lv_dup hx hb dX4_addPanel_103 rfl ?_
                refine x_get (v := .int (n 12)) S hW hinX4 40 (xw_40 E _) rfl 2 (by decide) w66 rfl dX4_addPanel_104 ?_
                refine x_topN (gNo Γ) (hR.no) ?_
                refine lv_iload_n hx hb dX4_addPanel_107 rfl (lv_at hl 2 rfl) ?_
                refine x_iadd (a := gNo Γ) (b := c9) hx hb dX4_addPanel_108 ?_
                refine x_put (σ' := ((xu (xu (xu n 10 0) 11 (nI ((gNp Γ) + 1))) 12 (nI ((gNo Γ) + c9))), F, o)) S hW hinX4 tyX4 tyX4_ok nmX4 40 (xw_40 E _) rfl 2 (by decide) w66 rfl (by decide +kernel) (Nat.le_of_ble_eq_true rfl) (xw_N12 E _ _ _ _) dX4_addPanel_109 (fun H locs hW => ?_)
                refine lv_aload_n hx hb dX4_addPanel_112 rfl (lv_at hl 0 rfl) ?_
                refine x_get (v := .ref (E.2.2.2 42)) S hW hinX4 40 (xw_40 E _) rfl 6 (by decide) w13 rfl dX4_addPanel_113 ?_
                refine lv_aload_n hx hb dX4_addPanel_116 rfl (lv_at hl 0 rfl) ?_
                refine x_get (v := .int (nI ((gNp Γ) + 1))) S hW hinX4 40 (xw_40 E _) rfl 1 (by decide) w77 rfl dX4_addPanel_117 ?_
                refine lv_aload_n hx hb dX4_addPanel_120 rfl (lv_at hl 0 rfl) ?_
                refine x_get (v := .int (nI ((gNo Γ) + c9))) S hW hinX4 40 (xw_40 E _) rfl 2 (by decide) w66 rfl dX4_addPanel_121 ?_
                refine x_istN (k := (gNp Γ) + 1) (σ' := ((xu (xu (xu n 10 0) 11 (nI ((gNp Γ) + 1))) 12 (nI ((gNo Γ) + c9))), (xu F 21 (upd (F 21) ((gNp Γ) + 1) (nI ((gNo Γ) + c9)))), o)) S hW 42 (xw_42 E _) (rfl) (show (gNp Γ) + 1 < 13 from by omega) (by decide) (xw_S21 E _ _ _ _) dX4_addPanel_124 (fun H locs hW => ?_)
                refine lv_aload_n hx hb dX4_addPanel_125 rfl (lv_at hl 0 rfl) ?_
                refine x_get (v := .int (nI ((gNo Γ) + c9))) S hW hinX4 40 (xw_40 E _) rfl 2 (by decide) w66 rfl dX4_addPanel_126 ?_
                refine lv_iload_n hx hb dX4_addPanel_129 rfl (lv_at hl 2 rfl) ?_
                refine x_isub (a := (gNo Γ) + c9) (b := c9) hx hb dX4_addPanel_130 (by omega) ?_
                exact x_reti S hr hlk hW dX4_addPanel_131 (.inl ⟨by rw [ocAddPanel, xif_f (not_or.mpr ⟨not_not_intro h5, not_not_intro h15⟩)]; exact xif_f c31, by rw [Nat.add_sub_cancel], by rw [xNa_n (by omega)]; exact xOKR.mk (repR_panel hG hR (by omega) hF h22 (fun q h1 h2 => h24 q h1 (by omega))) (fun q hq => by rw [xu_n (by omega), xu_n (by omega), xu_n (by omega)]) (fun q hq => by rw [xu_n (by omega), hF q (by omega) (by omega), xu_n (by omega)]) rfl⟩)
              · refine lv_aload_n hx hb dX4_addPanel_72 rfl (lv_at hl 0 rfl) ?_
                refine x_get (v := .ref (E.2.2.2 43)) S hW hinX4 40 (xw_40 E _) rfl 7 (by decide) w16 rfl dX4_addPanel_73 ?_
                refine lv_iload_n hx hb dX4_addPanel_76 rfl (lv_at hl 3 rfl) ?_
                refine lv_iconst (v := (-1)) hx hb dX4_addPanel_77 (by decide) ?_
                refine x_istN (k := z) (σ' := ((xu n 10 0), (xu F 22 (upd (F 22) z (-1))), o)) S hW 43 (xw_43 E _) (rfl) (show z < 144 from by omega) (by decide) (xw_S22 E _ _ _ _) dX4_addPanel_78 (fun H locs hW => ?_)
                refine lv_aload_n hx hb dX4_addPanel_79 rfl (lv_at hl 0 rfl) ?_
                refine x_get (v := .ref (E.2.2.2 45)) S hW hinX4 40 (xw_40 E _) rfl 9 (by decide) w22 rfl dX4_addPanel_80 ?_
                refine lv_iload_n hx hb dX4_addPanel_83 rfl (lv_at hl 3 rfl) ?_
                refine lv_iconst (v := (-1)) hx hb dX4_addPanel_84 (by decide) ?_
                refine x_istN (k := z) (σ' := ((xu n 10 0), (xu (xu F 22 (upd (F 22) z (-1))) 24 (upd (F 24) z (-1))), o)) S hW 45 (xw_45 E _) (rfl) (show z < 144 from by omega) (by decide) (xw_S24 E _ _ _ _) dX4_addPanel_85 (fun H locs hW => ?_)
                refine lv_iinc (v := (nI (z + 1))) (lv' := [(3, .int (nI (z + 1))), (0, .ref (E.2.2.2 40)), (1, .int a), (2, .int (nI c9))]) hx hb dX4_addPanel_86 hl (k := 3) rfl (x_inc _) (by decide) rfl (fun ls hl => ?_)
                refine lv_goto (tgt := 62) hx hb dX4_addPanel_89 (by decide) ?_
                exact L62  (z + 1) ((xu (xu F 22 (upd (F 22) z (-1))) 24 (upd (F 24) z (-1)))) (by omega) (by omega) (by omega) (fun q h1 h2 => by rw [xu_n h2, xu_n h1]; exact hF q h1 h2) (fun q hq => ⟨(upd_n (by omega)).trans (h22 q hq).1, (upd_n (by omega)).trans (h22 q hq).2⟩) (xap h24) _ _ _ hW (lv_sub hl [1, 2, 3, 0] rfl)
          exact L62 _ (gNo Γ) ((xu f 20 (upd (f 20) (gNp Γ) a))) (Nat.lt_succ_self _) (by omega) (by omega) (fun _ _ _ => rfl) (fun _ _ => ⟨rfl, rfl⟩) (fun q h1 h2 => absurd h2 (Nat.not_lt.mpr h1)) _ _ _ hW (lv_sub hl [1, 2, 3, 0] rfl)
        · exact absurd h39 (by decide)
      · refine lv_iconst (v := 2) hx hb dX4_addPanel_34 (by decide) ?_
        refine lv_goto (tgt := 39) hx hb dX4_addPanel_35 (by decide) ?_
        refine x_Vi (rest := []) S (c_X4_holds l E n f o 2) (cwV 1 S.2.2.2.2 gX4_addPanel_X4_holds rfl rfl rfl (by decide +kernel) ⟨Nat.le_of_ble_eq_true rfl, Nat.le_of_ble_eq_true rfl⟩) hW 40 (xw_40 E _) rfl rfl rfl hl.1 (Nat.le_of_ble_eq_true rfl) dX4_addPanel_39 ⟨Nat.zero_le _, Nat.zero_le _⟩ (fun r39 σ39 H locs hq6 hW => ?_)
        rcases hq6 with ⟨h39, rfl, rfl⟩ | ⟨-, rfl, rfl⟩
        · exact absurd h39 (by decide)
        · refine lv_if_ne (tgt := 47) hx hb dX4_addPanel_42 (by decide) (fun c42 => ?_) (fun c42 => ?_)
          · exact absurd c42 (by decide)
          refine lv_iconst (v := 0) hx hb dX4_addPanel_45 (by decide) ?_
          exact x_reti S hr hlk hW dX4_addPanel_46 (by first | exact .inr (xbad (k := 1) (xif_t (by first | exact Or.inl h5 | exact Or.inr h15)) (by decide) (hR.ok 1)) | exact .inr (xbad (k := 2) (by rw [ocAddPanel, xif_f (not_or.mpr ⟨not_not_intro h5, not_not_intro h15⟩)]; exact xif_t c31) (by decide) (hR.ok 2)))

abbrev rmX4_addTrunk : Room := { frames := 4, cells := 0, slots := 0, locals := 91 }
set_option maxHeartbeats 4000000 in
set_option maxRecDepth 100000 in
theorem c_X4_addTrunk (l : Launch) (E : xE) (n : Nat → Int32) (f : Nat → Nat → Int32) (o : Nat → Int64) (Γ : xG) (hG : xGood Γ) (hR : xRepR Γ n f) (a a2 a3 a4 : Int32) : xCi l yX4_addTrunk wsX4_addTrunk rmX4_addTrunk E [.ref (E.2.2.2 40), .int a, .int a2, .int a3, .int a4] (n, f, o) (fun r σ' => (ocTrunk Γ a a2 a3 a4 = 0 ∧ r = nI (gNt Γ) ∧ xOKR (gTrunk Γ (xNa a) (xNa a2) (xNa a3) a4) n f o 0 σ') ∨ (ocTrunk Γ a a2 a3 a4 ≠ 0 ∧ xOKR Γ n f o (ocTrunk Γ a a2 a3 a4) σ')) := by
  refine x_starti RX4 (by decide) rfl rfl (Nat.le_of_ble_eq_true rfl) ?_
  intro p e s m args below meth c ls S hr hlk hW hl
  have hx := S.1
  have hb := S.2.1
  have hl : lv_has ls 6 [(0, .ref (E.2.2.2 40)), (1, .int a), (2, .int a2), (3, .int a3), (4, .int a4)] := hl
  have hinX4 : ∀ w ∈ wsX40, w ∈ wsX4_addTrunk := by decide +kernel
  have w32 : Cond.fieldLink RX4 32 "CableBookModel" "trunkFrom" "[I" ∈ wsX4_addTrunk := by decide +kernel
  have w35 : Cond.fieldLink RX4 35 "CableBookModel" "trunkTo" "[I" ∈ wsX4_addTrunk := by decide +kernel
  have w38 : Cond.fieldLink RX4 38 "CableBookModel" "trunkStrands" "[I" ∈ wsX4_addTrunk := by decide +kernel
  have w41 : Cond.fieldLink RX4 41 "CableBookModel" "trunkLengths" "[I" ∈ wsX4_addTrunk := by decide +kernel
  have w94 : Cond.fieldLink RX4 94 "CableBookModel" "trunks" "I" ∈ wsX4_addTrunk := by decide +kernel
  have hno := hG.no
  have hnp := hG.np
  have hnt := hG.nt
  have hnm := hG.nm
  refine lv_aload_n hx hb dX4_addTrunk_0 rfl (lv_at hl 0 rfl) ?_
  refine lv_aload_n hx hb dX4_addTrunk_1 rfl (lv_at hl 0 rfl) ?_
  refine lv_iload_n hx hb dX4_addTrunk_2 rfl (lv_at hl 1 rfl) ?_
  refine lv_iload_n hx hb dX4_addTrunk_3 rfl (lv_at hl 2 rfl) ?_
  refine lv_iload_n hx hb dX4_addTrunk_4 rfl (lv_at hl 3 rfl) ?_
  refine lv_iload hx hb dX4_addTrunk_5 (lv_at hl 4 rfl) ?_
  refine x_Vi (rest := [.ref (E.2.2.2 40)]) S (c_X4_errorOfTrunk l E n f o Γ hG hR a a2 a3 a4) (cwV 4 S.2.2.2.2 gX4_addTrunk_X4_errorOfTrunk rfl rfl rfl (by decide +kernel) ⟨Nat.le_of_ble_eq_true rfl, Nat.le_of_ble_eq_true rfl⟩) hW 40 (xw_40 E _) rfl rfl rfl hl.1 (Nat.le_of_ble_eq_true rfl) dX4_addTrunk_7 ⟨Nat.zero_le _, Nat.zero_le _⟩ (fun r7 σ7 H locs hq1 hW => ?_)
  obtain ⟨rfl, rfl⟩ := hq1
  refine x_Vi (rest := []) S (c_X4_holds l E n f o (nI (ocTrunk Γ a a2 a3 a4))) (cwV 1 S.2.2.2.2 gX4_addTrunk_X4_holds rfl rfl rfl (by decide +kernel) ⟨Nat.le_of_ble_eq_true rfl, Nat.le_of_ble_eq_true rfl⟩) hW 40 (xw_40 E _) rfl rfl rfl hl.1 (Nat.le_of_ble_eq_true rfl) dX4_addTrunk_10 ⟨Nat.zero_le _, Nat.zero_le _⟩ (fun r10 σ10 H locs hq2 hW => ?_)
  rcases hq2 with ⟨h10, rfl, rfl⟩ | ⟨h10, rfl, rfl⟩
  · have h10 : ocTrunk Γ a a2 a3 a4 = 0 := nI_inj (by have := ocTrunk_lt Γ a a2 a3 a4; omega) (by decide) h10
    rw [h10] at hW
    obtain ⟨q4, q5, c9, rfl, rfl, rfl, hq4, hq5, hc1, hc2, hpn, hfa, hfb, hnt9, hfr, hln⟩ := ocTrunk_0 hG h10
    have a1 := hG.fno (k := gPn Γ q4 + 1) (by have := hG.pn q4 hq4; omega)
    have a2 := hG.fno (k := gPn Γ q5 + 1) (by have := hG.pn q5 hq5; omega)
    have hdj : q4 + c9 ≤ q5 ∨ q5 + c9 ≤ q4 := xdisj hG hq4 hq5 hpn hfa hfb
    refine lv_if_ne (tgt := 18) hx hb dX4_addTrunk_13 (by decide) (fun c13 => ?_) (fun c13 => ?_)
    rotate_left
    · exact absurd c13 (by decide)
    refine lv_iconst (v := 0) hx hb dX4_addTrunk_18 (by decide) ?_
    refine lv_istore (lv' := [(5, .int 0), (0, .ref (E.2.2.2 40)), (1, .int (nI q4)), (2, .int (nI q5)), (3, .int (nI c9)), (4, .int a4)]) hx hb dX4_addTrunk_19 hl (by decide) rfl (fun ls hl => ?_)
    have L21 : ∀ (fu21 : Nat) (i : Nat) (F : Nat → Nat → Int32) (hμ21 : c9 + 1 - i < fu21) (hi : i ≤ c9) (hF : ∀ q, q ≠ 24 → q ≠ 25 → q ≠ 26 → F q = f q) (h24 : ∀ q, F 24 q = xjs (f 24) q4 q5 i q) (h25 : ∀ q, F 25 q = xjt (f 25) q4 q5 i (nI (gNt Γ)) q) (h26 : ∀ q, q < 144 → F 26 q = gBk Γ q) (H : Heap) (locs : List Loc) (ls : Array Slot), xSt E ((xu n 10 (nI 0)), F, o) s s.heap H locs → lv_has ls 6 [(0, .ref (E.2.2.2 40)), (1, .int (nI q4)), (2, .int (nI q5)), (3, .int (nI c9)), (4, .int a4), (5, .int (nI i))] → W p l e rmX4_addTrunk s m args below meth c H locs 0 0 (MQ below (va_Qi (fun r σ' => (ocTrunk Γ (nI q4) (nI q5) (nI c9) a4 = 0 ∧ r = nI (gNt Γ) ∧ xOKR (gTrunk Γ (xNa (nI q4)) (xNa (nI q5)) (xNa (nI c9)) a4) n f o 0 σ') ∨ (ocTrunk Γ (nI q4) (nI q5) (nI c9) a4 ≠ 0 ∧ xOKR Γ n f o (ocTrunk Γ (nI q4) (nI q5) (nI c9) a4) σ')) (xWd E) (xA E)) args s 0 0 (xA E)) (F0 m 21 ls []) := by
      intro fu21
      induction fu21 with
      | zero => intro i F hμ21; exact absurd hμ21 (Nat.not_lt_zero _)
      | succ fu21 L21 =>
        intro i F hμ21 hi hF h24 h25 h26 H locs ls hW hl
        refine lv_iload hx hb dX4_addTrunk_21 (lv_at hl 5 rfl) ?_
        refine lv_iload_n hx hb dX4_addTrunk_23 rfl (lv_at hl 3 rfl) ?_
        refine x_icmp_ge (a := i) (b := c9) (tgt := 57) hx hb dX4_addTrunk_24 (by decide) (by omega) (by omega) (fun c24 => ?_) (fun c24 => ?_)
        · refine lv_aload_n hx hb dX4_addTrunk_57 rfl (lv_at hl 0 rfl) ?_
          refine x_get (v := .ref (E.2.2.2 48)) S hW hinX4 40 (xw_40 E _) rfl 12 (by decide) w32 rfl dX4_addTrunk_58 ?_
          refine lv_aload_n hx hb dX4_addTrunk_61 rfl (lv_at hl 0 rfl) ?_
          refine x_get (v := .int (n 13)) S hW hinX4 40 (xw_40 E _) rfl 3 (by decide) w94 rfl dX4_addTrunk_62 ?_
          refine x_topN (gNt Γ) (hR.nt) ?_
          refine lv_iload_n hx hb dX4_addTrunk_65 rfl (lv_at hl 1 rfl) ?_
          refine x_istN (k := gNt Γ) (σ' := ((xu n 10 (nI 0)), (xu F 27 (upd (F 27) (gNt Γ) (nI q4))), o)) S hW 48 (xw_48 E _) (rfl) (show gNt Γ < 10 from by omega) (by decide) (xw_S27 E _ _ _ _) dX4_addTrunk_66 (fun H locs hW => ?_)
          refine lv_aload_n hx hb dX4_addTrunk_67 rfl (lv_at hl 0 rfl) ?_
          refine x_get (v := .ref (E.2.2.2 49)) S hW hinX4 40 (xw_40 E _) rfl 13 (by decide) w35 rfl dX4_addTrunk_68 ?_
          refine lv_aload_n hx hb dX4_addTrunk_71 rfl (lv_at hl 0 rfl) ?_
          refine x_get (v := .int (n 13)) S hW hinX4 40 (xw_40 E _) rfl 3 (by decide) w94 rfl dX4_addTrunk_72 ?_
          refine x_topN (gNt Γ) (hR.nt) ?_
          refine lv_iload_n hx hb dX4_addTrunk_75 rfl (lv_at hl 2 rfl) ?_
          refine x_istN (k := gNt Γ) (σ' := ((xu n 10 (nI 0)), (xu (xu F 27 (upd (F 27) (gNt Γ) (nI q4))) 28 (upd (F 28) (gNt Γ) (nI q5))), o)) S hW 49 (xw_49 E _) (rfl) (show gNt Γ < 10 from by omega) (by decide) (xw_S28 E _ _ _ _) dX4_addTrunk_76 (fun H locs hW => ?_)
          refine lv_aload_n hx hb dX4_addTrunk_77 rfl (lv_at hl 0 rfl) ?_
          refine x_get (v := .ref (E.2.2.2 50)) S hW hinX4 40 (xw_40 E _) rfl 14 (by decide) w38 rfl dX4_addTrunk_78 ?_
          refine lv_aload_n hx hb dX4_addTrunk_81 rfl (lv_at hl 0 rfl) ?_
          refine x_get (v := .int (n 13)) S hW hinX4 40 (xw_40 E _) rfl 3 (by decide) w94 rfl dX4_addTrunk_82 ?_
          refine x_topN (gNt Γ) (hR.nt) ?_
          refine lv_iload_n hx hb dX4_addTrunk_85 rfl (lv_at hl 3 rfl) ?_
          refine x_istN (k := gNt Γ) (σ' := ((xu n 10 (nI 0)), (xu (xu (xu F 27 (upd (F 27) (gNt Γ) (nI q4))) 28 (upd (F 28) (gNt Γ) (nI q5))) 29 (upd (F 29) (gNt Γ) (nI c9))), o)) S hW 50 (xw_50 E _) (rfl) (show gNt Γ < 10 from by omega) (by decide) (xw_S29 E _ _ _ _) dX4_addTrunk_86 (fun H locs hW => ?_)
          refine lv_aload_n hx hb dX4_addTrunk_87 rfl (lv_at hl 0 rfl) ?_
          refine x_get (v := .ref (E.2.2.2 51)) S hW hinX4 40 (xw_40 E _) rfl 15 (by decide) w41 rfl dX4_addTrunk_88 ?_
          refine lv_aload_n hx hb dX4_addTrunk_91 rfl (lv_at hl 0 rfl) ?_
          refine x_get (v := .int (n 13)) S hW hinX4 40 (xw_40 E _) rfl 3 (by decide) w94 rfl dX4_addTrunk_92 ?_
          refine x_topN (gNt Γ) (hR.nt) ?_
          refine lv_iload hx hb dX4_addTrunk_95 (lv_at hl 4 rfl) ?_
          refine x_istN (k := gNt Γ) (σ' := ((xu n 10 (nI 0)), (xu (xu (xu (xu F 27 (upd (F 27) (gNt Γ) (nI q4))) 28 (upd (F 28) (gNt Γ) (nI q5))) 29 (upd (F 29) (gNt Γ) (nI c9))) 30 (upd (F 30) (gNt Γ) a4)), o)) S hW 51 (xw_51 E _) (rfl) (show gNt Γ < 10 from by omega) (by decide) (xw_S30 E _ _ _ _) dX4_addTrunk_97 (fun H locs hW => ?_)
          refine lv_aload_n hx hb dX4_addTrunk_98 rfl (lv_at hl 0 rfl) ?_
          refine lv_dup hx hb dX4_addTrunk_99 rfl ?_
          refine x_get (v := .int (n 13)) S hW hinX4 40 (xw_40 E _) rfl 3 (by decide) w94 rfl dX4_addTrunk_100 ?_
          refine x_topN (gNt Γ) (hR.nt) ?_
          refine lv_iconst (v := 1) hx hb dX4_addTrunk_103 (by decide) ?_
          refine x_iadd (a := gNt Γ) (b := 1) hx hb dX4_addTrunk_104 ?_
          refine x_put (σ' := ((xu (xu n 10 (nI 0)) 13 (nI ((gNt Γ) + 1))), (xu (xu (xu (xu F 27 (upd (F 27) (gNt Γ) (nI q4))) 28 (upd (F 28) (gNt Γ) (nI q5))) 29 (upd (F 29) (gNt Γ) (nI c9))) 30 (upd (F 30) (gNt Γ) a4)), o)) S hW hinX4 tyX4 tyX4_ok nmX4 40 (xw_40 E _) rfl 3 (by decide) w94 rfl (by decide +kernel) (Nat.le_of_ble_eq_true rfl) (xw_N13 E _ _ _ _) dX4_addTrunk_105 (fun H locs hW => ?_)
          refine lv_aload_n hx hb dX4_addTrunk_108 rfl (lv_at hl 0 rfl) ?_
          refine x_get (v := .int (nI ((gNt Γ) + 1))) S hW hinX4 40 (xw_40 E _) rfl 3 (by decide) w94 rfl dX4_addTrunk_109 ?_
          refine lv_iconst (v := 1) hx hb dX4_addTrunk_112 (by decide) ?_
          refine x_isub (a := (gNt Γ) + 1) (b := 1) hx hb dX4_addTrunk_113 (by omega) ?_
          exact x_reti S hr hlk hW dX4_addTrunk_114 (.inl ⟨h10, by rw [Nat.add_sub_cancel], by rw [xNa_n (by omega), xNa_n (by omega), xNa_n (by omega)]; exact xOKR.mk (repR_trunk hG hR (by omega) (by omega) hF (by rw [show c9 = i by omega]; exact h24) (by rw [show c9 = i by omega]; exact h25) h26) (fun q hq => by rw [xu_n (by omega), xu_n (by omega)]) (fun q hq => by rw [xu_n (by omega), xu_n (by omega), xu_n (by omega), xu_n (by omega)]; exact hF q (by omega) (by omega) (by omega)) rfl⟩)
        · refine lv_aload_n hx hb dX4_addTrunk_27 rfl (lv_at hl 0 rfl) ?_
          refine lv_iload_n hx hb dX4_addTrunk_28 rfl (lv_at hl 1 rfl) ?_
          refine lv_iload hx hb dX4_addTrunk_29 (lv_at hl 5 rfl) ?_
          refine x_iadd (a := q4) (b := i) hx hb dX4_addTrunk_31 ?_
          refine lv_iload_n hx hb dX4_addTrunk_32 rfl (lv_at hl 2 rfl) ?_
          refine lv_iload hx hb dX4_addTrunk_33 (lv_at hl 5 rfl) ?_
          refine x_iadd (a := q5) (b := i) hx hb dX4_addTrunk_35 ?_
          refine x_Vv (rest := []) S (c_X4_joins l E (xu n 10 (nI 0)) F o hR.nt (p1 := (q4 + i)) (by omega) (p2 := (q5 + i))) (cwV 2 S.2.2.2.2 gX4_addTrunk_X4_joins rfl rfl rfl (by decide +kernel) ⟨Nat.le_of_ble_eq_true rfl, Nat.le_of_ble_eq_true rfl⟩) hW 40 (xw_40 E _) rfl rfl rfl hl.1 (Nat.le_of_ble_eq_true rfl) dX4_addTrunk_36 ⟨Nat.zero_le _, Nat.zero_le _⟩ (fun σ36 H locs hq3 hW => ?_)
          obtain rfl := hq3
          refine lv_aload_n hx hb dX4_addTrunk_39 rfl (lv_at hl 0 rfl) ?_
          refine lv_iload_n hx hb dX4_addTrunk_40 rfl (lv_at hl 2 rfl) ?_
          refine lv_iload hx hb dX4_addTrunk_41 (lv_at hl 5 rfl) ?_
          refine x_iadd (a := q5) (b := i) hx hb dX4_addTrunk_43 ?_
          refine lv_iload_n hx hb dX4_addTrunk_44 rfl (lv_at hl 1 rfl) ?_
          refine lv_iload hx hb dX4_addTrunk_45 (lv_at hl 5 rfl) ?_
          refine x_iadd (a := q4) (b := i) hx hb dX4_addTrunk_47 ?_
          refine x_Vv (rest := []) S (c_X4_joins l E (xu n 10 (nI 0)) (xu (xu (xu F 24 (upd (F 24) (q4 + i) (nI (q5 + i)))) 25 (upd (F 25) (q4 + i) (nI (gNt Γ)))) 26 (upd (F 26) (q4 + i) 0)) o hR.nt (p1 := (q5 + i)) (by omega) (p2 := (q4 + i))) (cwV 2 S.2.2.2.2 gX4_addTrunk_X4_joins rfl rfl rfl (by decide +kernel) ⟨Nat.le_of_ble_eq_true rfl, Nat.le_of_ble_eq_true rfl⟩) hW 40 (xw_40 E _) rfl rfl rfl hl.1 (Nat.le_of_ble_eq_true rfl) dX4_addTrunk_48 ⟨Nat.zero_le _, Nat.zero_le _⟩ (fun σ48 H locs hq4 hW => ?_)
          obtain rfl := hq4
          refine lv_iinc (v := (nI (i + 1))) (lv' := [(5, .int (nI (i + 1))), (0, .ref (E.2.2.2 40)), (1, .int (nI q4)), (2, .int (nI q5)), (3, .int (nI c9)), (4, .int a4)]) hx hb dX4_addTrunk_51 hl (k := 5) rfl (x_inc _) (by decide) rfl (fun ls hl => ?_)
          refine lv_goto (tgt := 21) hx hb dX4_addTrunk_54 (by decide) ?_
          exact L21  (i + 1) ((xu (xu (xu (xu (xu (xu F 24 (upd (F 24) (q4 + i) (nI (q5 + i)))) 25 (upd (F 25) (q4 + i) (nI (gNt Γ)))) 26 (upd (F 26) (q4 + i) 0)) 24 (upd (upd (F 24) (q4 + i) (nI (q5 + i))) (q5 + i) (nI (q4 + i)))) 25 (upd (upd (F 25) (q4 + i) (nI (gNt Γ))) (q5 + i) (nI (gNt Γ)))) 26 (upd (upd (F 26) (q4 + i) 0) (q5 + i) 0))) (by omega) (by omega) (fun q h1 h2 h3 => by rw [xu_n h3, xu_n h2, xu_n h1, xu_n h3, xu_n h2, xu_n h1]; exact hF q h1 h2 h3) (xjs_s hdj (by omega) h24) (xjt_s h25) (xbk0 (xbk0 h26 (hG.bst _ (hfr i (by omega)).1)) (hG.bst _ (hfr i (by omega)).2)) _ _ _ hW (lv_sub hl [1, 2, 3, 4, 5, 0] rfl)
    exact L21 _ (0) (f) (Nat.lt_succ_self _) (by omega) (fun _ _ _ _ => rfl) (xjs_0 _ _ _) (xjt_0 _ _ _ _) (fun q hq => hR.bk q hq) _ _ _ hW (lv_sub hl [1, 2, 3, 4, 5, 0] rfl)
  · have h10 : ¬ ocTrunk Γ a a2 a3 a4 = 0 := fun e => h10 (by rw [e]; rfl)
    refine lv_if_ne (tgt := 18) hx hb dX4_addTrunk_13 (by decide) (fun c13 => ?_) (fun c13 => ?_)
    · exact absurd c13 (by decide)
    refine lv_iconst (v := 0) hx hb dX4_addTrunk_16 (by decide) ?_
    exact x_reti S hr hlk hW dX4_addTrunk_17 (.inr ⟨h10, hR.ok _⟩)

abbrev rmX4_carryOut : Room := { frames := 2, cells := 0, slots := 0, locals := 46 }
set_option maxHeartbeats 4000000 in
set_option maxRecDepth 100000 in
theorem c_X4_carryOut (l : Launch) (E : xE) (n : Nat → Int32) (f : Nat → Nat → Int32) (o : Nat → Int64) (Γ : xG) (hG : xGood Γ) (hR : xRepR Γ n f) : xCi l yX4_carryOut wsX4_carryOut rmX4_carryOut E [.ref (E.2.2.2 40)] (n, f, o) (fun r σ' => (ocCarry Γ = 0 ∧ r = nI (gNm Γ) ∧ xOKR (gCarry Γ) n f o 0 σ') ∨ (ocCarry Γ ≠ 0 ∧ xOKR Γ n f o (ocCarry Γ) σ')) := by
  refine x_starti RX4 (by decide) rfl rfl (Nat.le_of_ble_eq_true rfl) ?_
  intro p e s m args below meth c ls S hr hlk hW hl
  have hx := S.1
  have hb := S.2.1
  have hl : lv_has ls 2 [(0, .ref (E.2.2.2 40))] := hl
  have hinX4 : ∀ w ∈ wsX40, w ∈ wsX4_carryOut := by decide +kernel
  have w112 : Cond.fieldLink RX4 112 "CableBookModel" "moves" "I" ∈ wsX4_carryOut := by decide +kernel
  have w16 : Cond.fieldLink RX4 16 "CableBookModel" "cables" "[I" ∈ wsX4_carryOut := by decide +kernel
  have w19 : Cond.fieldLink RX4 19 "CableBookModel" "colours" "[I" ∈ wsX4_carryOut := by decide +kernel
  have w50 : Cond.fieldLink RX4 50 "CableBookModel" "newCables" "[I" ∈ wsX4_carryOut := by decide +kernel
  have w53 : Cond.fieldLink RX4 53 "CableBookModel" "newColours" "[I" ∈ wsX4_carryOut := by decide +kernel
  have w66 : Cond.fieldLink RX4 66 "CableBookModel" "ports" "I" ∈ wsX4_carryOut := by decide +kernel
  have hno := hG.no
  have hnp := hG.np
  have hnt := hG.nt
  have hnm := hG.nm
  refine lv_aload_n hx hb dX4_carryOut_0 rfl (lv_at hl 0 rfl) ?_
  refine lv_aload_n hx hb dX4_carryOut_1 rfl (lv_at hl 0 rfl) ?_
  refine x_Vi (rest := [.ref (E.2.2.2 40)]) S (c_X4_lays l E n f o Γ hG hR) (cwV 0 S.2.2.2.2 gX4_carryOut_X4_lays rfl rfl rfl (by decide +kernel) ⟨Nat.le_of_ble_eq_true rfl, Nat.le_of_ble_eq_true rfl⟩) hW 40 (xw_40 E _) rfl rfl rfl hl.1 (Nat.le_of_ble_eq_true rfl) dX4_carryOut_2 ⟨Nat.zero_le _, Nat.zero_le _⟩ (fun r2 σ2 H locs hq1 hW => ?_)
  rcases hq1 with ⟨F2, ⟨rfl, h2⟩ | ⟨rfl, h2, hn2⟩, rfl, hF2⟩
  · refine lv_if_eq (tgt := 12) hx hb dX4_carryOut_5 (by decide) (fun c5 => ?_) (fun c5 => ?_)
    rotate_left
    · exact absurd c5 (by decide)
    refine lv_iconst (v := 1) hx hb dX4_carryOut_12 (by decide) ?_
    refine x_Vi (rest := []) S (c_X4_holds l E n F2 o 1) (cwV 1 S.2.2.2.2 gX4_carryOut_X4_holds rfl rfl rfl (by decide +kernel) ⟨Nat.le_of_ble_eq_true rfl, Nat.le_of_ble_eq_true rfl⟩) hW 40 (xw_40 E _) rfl rfl rfl hl.1 (Nat.le_of_ble_eq_true rfl) dX4_carryOut_13 ⟨Nat.zero_le _, Nat.zero_le _⟩ (fun r13 σ13 H locs hq2 hW => ?_)
    rcases hq2 with ⟨h13, rfl, rfl⟩ | ⟨-, rfl, rfl⟩
    · exact absurd h13 (by decide)
    · refine lv_if_ne (tgt := 21) hx hb dX4_carryOut_16 (by decide) (fun c16 => ?_) (fun c16 => ?_)
      · exact absurd c16 (by decide)
      refine lv_iconst (v := 0) hx hb dX4_carryOut_19 (by decide) ?_
      exact x_reti S hr hlk hW dX4_carryOut_20 (.inr (xbad (k := 1) (xif_f h2) (by decide) (hR.laid (k := 1) hF2)))
  · refine lv_if_eq (tgt := 12) hx hb dX4_carryOut_5 (by decide) (fun c5 => ?_) (fun c5 => ?_)
    · exact absurd c5 (by decide)
    refine lv_iconst (v := 0) hx hb dX4_carryOut_8 (by decide) ?_
    refine lv_goto (tgt := 13) hx hb dX4_carryOut_9 (by decide) ?_
    refine x_Vi (rest := []) S (c_X4_holds l E n F2 o 0) (cwV 1 S.2.2.2.2 gX4_carryOut_X4_holds rfl rfl rfl (by decide +kernel) ⟨Nat.le_of_ble_eq_true rfl, Nat.le_of_ble_eq_true rfl⟩) hW 40 (xw_40 E _) rfl rfl rfl hl.1 (Nat.le_of_ble_eq_true rfl) dX4_carryOut_13 ⟨Nat.zero_le _, Nat.zero_le _⟩ (fun r13 σ13 H locs hq3 hW => ?_)
    rcases hq3 with ⟨-, rfl, rfl⟩ | ⟨h13, rfl, rfl⟩
    · refine lv_if_ne (tgt := 21) hx hb dX4_carryOut_16 (by decide) (fun c16 => ?_) (fun c16 => ?_)
      rotate_left
      · exact absurd c16 (by decide)
      refine lv_iconst (v := 0) hx hb dX4_carryOut_21 (by decide) ?_
      refine lv_istore_n (lv' := [(1, .int 0), (0, .ref (E.2.2.2 40))]) hx hb dX4_carryOut_22 rfl hl (by decide) rfl (fun ls hl => ?_)
      have L23 : ∀ (fu23 : Nat) (i : Nat) (G : Nat → Nat → Int32) (hμ23 : gNo Γ + 1 - i < fu23) (hi : i ≤ gNo Γ) (hG9 : ∀ q, q ≠ 22 → q ≠ 23 → G q = F2 q) (h22 : ∀ z, z < i → G 22 z = gNC Γ z) (h23 : ∀ z, z < i → G 23 z = gNK Γ z) (H : Heap) (locs : List Loc) (ls : Array Slot), xSt E ((xu n 10 0), G, o) s s.heap H locs → lv_has ls 2 [(0, .ref (E.2.2.2 40)), (1, .int (nI i))] → W p l e rmX4_carryOut s m args below meth c H locs 0 0 (MQ below (va_Qi (fun r σ' => (ocCarry Γ = 0 ∧ r = nI (gNm Γ) ∧ xOKR (gCarry Γ) n f o 0 σ') ∨ (ocCarry Γ ≠ 0 ∧ xOKR Γ n f o (ocCarry Γ) σ')) (xWd E) (xA E)) args s 0 0 (xA E)) (F0 m 23 ls []) := by
        intro fu23
        induction fu23 with
        | zero => intro i G hμ23; exact absurd hμ23 (Nat.not_lt_zero _)
        | succ fu23 L23 =>
          intro i G hμ23 hi hG9 h22 h23 H locs ls hW hl
          refine lv_iload_n hx hb dX4_carryOut_23 rfl (lv_at hl 1 rfl) ?_
          refine lv_aload_n hx hb dX4_carryOut_24 rfl (lv_at hl 0 rfl) ?_
          refine x_get (v := .int (n 12)) S hW hinX4 40 (xw_40 E _) rfl 2 (by decide) w66 rfl dX4_carryOut_25 ?_
          refine x_topN (gNo Γ) (hR.no) ?_
          refine x_icmp_ge (a := i) (b := gNo Γ) (tgt := 61) hx hb dX4_carryOut_28 (by decide) (by omega) (by omega) (fun c28 => ?_) (fun c28 => ?_)
          · refine lv_aload_n hx hb dX4_carryOut_61 rfl (lv_at hl 0 rfl) ?_
            refine x_get (v := .int (n 14)) S hW hinX4 40 (xw_40 E _) rfl 4 (by decide) w112 rfl dX4_carryOut_62 ?_
            refine x_topN (gNm Γ) (hR.nm) ?_
            refine lv_istore_n (lv' := [(1, .int (nI (gNm Γ))), (0, .ref (E.2.2.2 40))]) hx hb dX4_carryOut_65 rfl hl (by decide) rfl (fun ls hl => ?_)
            refine lv_aload_n hx hb dX4_carryOut_66 rfl (lv_at hl 1 rfl) ?_
            refine lv_iconst (v := 0) hx hb dX4_carryOut_67 (by decide) ?_
            refine x_put (σ' := ((xu (xu n 10 0) 14 0), G, o)) S hW hinX4 tyX4 tyX4_ok nmX4 40 (xw_40 E _) rfl 4 (by decide) w112 rfl (by decide +kernel) (Nat.le_of_ble_eq_true rfl) (xw_N14 E _ _ _ _) dX4_carryOut_68 (fun H locs hW => ?_)
            refine lv_iload_n hx hb dX4_carryOut_71 rfl (lv_at hl 0 rfl) ?_
            exact x_reti S hr hlk hW dX4_carryOut_72 (.inl ⟨xif_t h2, rfl, xOKR.mk (repR_carry hR (fun q h1 h2 h3 h4 => (hG9 q h1 h2).trans (hF2 q h3 h4)) (fun q hq => h22 q (by omega)) (fun q hq => h23 q (by omega))) (fun q hq => by rw [xu_n (by omega), xu_n (by omega)]) (fun q hq => by rw [hG9 q (by omega) (by omega), hF2 q (by omega) (by omega)]) rfl⟩)
          · refine lv_aload_n hx hb dX4_carryOut_31 rfl (lv_at hl 0 rfl) ?_
            refine x_get (v := .ref (E.2.2.2 43)) S hW hinX4 40 (xw_40 E _) rfl 7 (by decide) w16 rfl dX4_carryOut_32 ?_
            refine lv_iload_n hx hb dX4_carryOut_35 rfl (lv_at hl 1 rfl) ?_
            refine lv_aload_n hx hb dX4_carryOut_36 rfl (lv_at hl 0 rfl) ?_
            refine x_get (v := .ref (E.2.2.2 54)) S hW hinX4 40 (xw_40 E _) rfl 18 (by decide) w50 rfl dX4_carryOut_37 ?_
            refine lv_iload_n hx hb dX4_carryOut_40 rfl (lv_at hl 1 rfl) ?_
            refine x_ildN (k := i) (v := ((G 33) i)) S hW 54 (xw_54 E _) (rfl) (show i < 144 from by omega) (by decide) rfl dX4_carryOut_41 ?_
            refine x_istN (k := i) (σ' := ((xu n 10 0), (xu G 22 (upd (G 22) i ((G 33) i))), o)) S hW 43 (xw_43 E _) (rfl) (show i < 144 from by omega) (by decide) (xw_S22 E _ _ _ _) dX4_carryOut_42 (fun H locs hW => ?_)
            refine lv_aload_n hx hb dX4_carryOut_43 rfl (lv_at hl 0 rfl) ?_
            refine x_get (v := .ref (E.2.2.2 44)) S hW hinX4 40 (xw_40 E _) rfl 8 (by decide) w19 rfl dX4_carryOut_44 ?_
            refine lv_iload_n hx hb dX4_carryOut_47 rfl (lv_at hl 1 rfl) ?_
            refine lv_aload_n hx hb dX4_carryOut_48 rfl (lv_at hl 0 rfl) ?_
            refine x_get (v := .ref (E.2.2.2 55)) S hW hinX4 40 (xw_40 E _) rfl 19 (by decide) w53 rfl dX4_carryOut_49 ?_
            refine lv_iload_n hx hb dX4_carryOut_52 rfl (lv_at hl 1 rfl) ?_
            refine x_ildN (k := i) (v := ((G 34) i)) S hW 55 (xw_55 E _) (rfl) (show i < 144 from by omega) (by decide) rfl dX4_carryOut_53 ?_
            refine x_istN (k := i) (σ' := ((xu n 10 0), (xu (xu G 22 (upd (G 22) i ((G 33) i))) 23 (upd (G 23) i ((G 34) i))), o)) S hW 44 (xw_44 E _) (rfl) (show i < 144 from by omega) (by decide) (xw_S23 E _ _ _ _) dX4_carryOut_54 (fun H locs hW => ?_)
            refine lv_iinc (v := (nI (i + 1))) (lv' := [(1, .int (nI (i + 1))), (0, .ref (E.2.2.2 40))]) hx hb dX4_carryOut_55 hl (k := 1) rfl (x_inc _) (by decide) rfl (fun ls hl => ?_)
            refine lv_goto (tgt := 23) hx hb dX4_carryOut_58 (by decide) ?_
            exact L23  (i + 1) ((xu (xu G 22 (upd (G 22) i ((G 33) i))) 23 (upd (G 23) i ((G 34) i)))) (by omega) (by omega) (fun q h1 h2 => by rw [xu_n h2, xu_n h1]; exact hG9 q h1 h2) (upd_ltP (P := fun k z => z = gNC Γ k) h22 (by rw [hG9 33 (by decide) (by decide)]; exact (hn2 i (by omega)).1)) (upd_ltP (P := fun k z => z = gNK Γ k) h23 (by rw [hG9 34 (by decide) (by decide)]; exact (hn2 i (by omega)).2)) _ _ _ hW (lv_sub hl [1, 0] rfl)
      exact L23 _ (0) (F2) (Nat.lt_succ_self _) (by omega) (fun _ _ _ => rfl) (fun q hq => absurd hq (Nat.not_lt_zero q)) (fun q hq => absurd hq (Nat.not_lt_zero q)) _ _ _ hW (lv_sub hl [1, 0] rfl)
    · exact absurd h13 (by decide)
