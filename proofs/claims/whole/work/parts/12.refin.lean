/-! the reference's inner methods -/
theorem xw_mv (E : xE) (σ : xS) {i : Nat} (h : i = 31 ∨ i = 32) : (xW E σ)[21 + i]? = some (E.2.2.2 (21 + i), .inl (E.2.1.1, 12, .inl (σ.2.1 i))) := by
  rcases h with rfl | rfl <;> rfl
theorem xRepR.tl_ {Γ : xG} {n : Nat → Int32} {f : Nat → Nat → Int32} (h : xRepR Γ n f) : ∀ t, t < gNt Γ → f 30 t = gTl Γ t := xRepR.tl h
theorem xRepR.eqv {Γ : xG} {n N : Nat → Int32} {f F : Nat → Nat → Int32} (h : xRepR Γ n f) (hn : ∀ q, 10 < q → q ≠ 15 → q ≠ 16 → N q = n q) (hf : ∀ q, 20 ≤ q → q < 33 → F q = f q) : xRepR Γ N F := by
  unfold xRepR
  rw [hn 11 (by decide) (by decide) (by decide), hn 12 (by decide) (by decide) (by decide), hn 13 (by decide) (by decide) (by decide), hn 14 (by decide) (by decide) (by decide)]
  rw [hf 20 (by decide) (by decide), hf 21 (by decide) (by decide), hf 22 (by decide) (by decide), hf 23 (by decide) (by decide), hf 24 (by decide) (by decide), hf 25 (by decide) (by decide), hf 26 (by decide) (by decide), hf 27 (by decide) (by decide), hf 28 (by decide) (by decide), hf 29 (by decide) (by decide), hf 30 (by decide) (by decide), hf 31 (by decide) (by decide), hf 32 (by decide) (by decide)]
  exact h
theorem xlen_dec : ∀ i, i < 10 → ∀ j, j < 10 → (xabs (nI i - nI j) = 0 ↔ nI i = nI j) ∧ (j < i → xabs (nI i - nI j) = nI (i - j)) ∧ (i ≤ j → xabs (nI i - nI j) = nI (j - i)) := by decide +kernel
theorem xer1 {v : Int32} {A B C : Prop} {i : Nat} {P : Nat → Prop} (h : (v = 1 ∧ (A ∨ ∃ j, j < i ∧ P j)) ∨ (v = 0 ∧ B ∧ C)) (hc : ¬ v = 0) : A ∨ ∃ j, j < i + 1 ∧ P j := by
  rcases h with ⟨-, h | ⟨j, hj, h⟩⟩ | ⟨h, -⟩
  · exact Or.inl h
  · exact Or.inr ⟨j, by omega, h⟩
  · exact absurd h hc
theorem xer2 {v : Int32} {A B : Prop} {i : Nat} {P Q : Nat → Prop} (h : (v = 1 ∧ A) ∨ (v = 0 ∧ B ∧ ∀ j, j < i → P j ∧ Q j)) (hc : v = 0) (hp : P i) (hq : Q i) : B ∧ ∀ j, j < i + 1 → P j ∧ Q j := by
  rcases h with ⟨h, -⟩ | ⟨-, h1, h2⟩
  · exact absurd (h.symm.trans hc) (by decide)
  · exact ⟨h1, lt_s h2 ⟨hp, hq⟩⟩
/-- no port has a label below that of a port that it leads to -/
def xClo (Γ : xG) (L : Nat → Nat) : Prop := ∀ z w, z < gNo Γ → w < gNo Γ → (gCb Γ z = nI w ∨ gOp Γ z = nI w) → L z ≤ L w
def xsum (L : Nat → Nat) : Nat → Nat
  | 0 => 0
  | k + 1 => xsum L k + L k
theorem xsum_n {L : Nat → Nat} {p v : Nat} : ∀ {k : Nat}, k ≤ p → xsum (xu L p v) k = xsum L k := by
  intro k
  induction k with
  | zero => intro _; rfl
  | succ k ih => intro h; rw [xsum, xsum, ih (by omega), xu_n (by omega)]
theorem xsum_lt {L : Nat → Nat} {p v : Nat} (hv : v < L p) : ∀ {k : Nat}, p < k → xsum (xu L p v) k < xsum L k := by
  intro k
  induction k with
  | zero => intro h; exact absurd h (Nat.not_lt_zero p)
  | succ k ih =>
    intro h
    rw [xsum, xsum]
    by_cases e : p = k
    · rw [e, xsum_n (Nat.le_refl k), xu_s]; rw [e] at hv; omega
    · have := ih (by omega)
      rw [xu_n (by omega)]; omega
theorem xms {A B : Prop} {v w : Int32} {m m' fu : Nat} (h : (w = 1 ∧ m' < m) ∨ (w = 0 ∧ A ∧ B)) (hA : A → m' = m) (hv : ¬ v = 0) (hμ : m + (if v = 0 then 0 else 1) < fu + 1) : m' + (if w = 0 then 0 else 1) < fu := by
  rw [if_neg hv] at hμ
  rcases h with ⟨rfl, h⟩ | ⟨rfl, h, -⟩
  · rw [if_neg (by decide)]; omega
  · rw [if_pos rfl, hA h]; omega
theorem xkeep1 {v : Int32} {A B : Prop} {k : Nat} {P : Nat → Prop} (h : (v = 1 ∧ A) ∨ (v = 0 ∧ B ∧ ∀ j, j < k → P j)) (hp : B → P k) : (v = 1 ∧ A) ∨ (v = 0 ∧ B ∧ ∀ j, j < k + 1 → P j) := by
  rcases h with h | ⟨h1, h2, h3⟩
  · exact Or.inl h
  · exact Or.inr ⟨h1, h2, lt_s h3 (hp h2)⟩
theorem xnx_R {no : Nat} {C S : Nat → Int32} {b : Bool} {p z : Nat} (hn : no < 2 ^ 31) (hC : xM no C) (hS : xM no S) (hp : p < no) (hz : z < no) (e : xnx C S b p = nI z) : xR no C S z p := by
  have i1 := (xM_nx hC hS b).inv hn hp (by omega) e
  refine xR.rf.step hz hp ?_
  cases b
  · exact Or.inr i1.2.2
  · exact Or.inl i1.2.2
/-- the plan's ends are apart -/
def gUn (Γ : xG) : Prop := ∀ i, i < gNm Γ → ∀ j, j < i → gMx Γ i ≠ gMx Γ j ∧ gMy Γ i ≠ gMy Γ j
theorem gPos.un {Γ : xG} (h : gPos Γ) : gUn Γ := fun i hi j hj => ⟨fun e => (h i hi).2.1 ⟨j, hj, Or.inl e.symm⟩, fun e => (h i hi).2.1 ⟨j, hj, Or.inr e.symm⟩⟩
theorem gUn.ix {Γ : xG} (h : gUn Γ) {i j : Nat} (hi : i < gNm Γ) (hj : j < gNm Γ) (e : gMx Γ i = gMx Γ j) : i = j := by
  rcases Nat.lt_trichotomy i j with a | a | a
  · exact absurd e.symm (h j hj i a).1
  · exact a
  · exact absurd e (h i hi j a).1
theorem gUn.iy {Γ : xG} (h : gUn Γ) {i j : Nat} (hi : i < gNm Γ) (hj : j < gNm Γ) (e : gMy Γ i = gMy Γ j) : i = j := by
  rcases Nat.lt_trichotomy i j with a | a | a
  · exact absurd e.symm (h j hj i a).2
  · exact a
  · exact absurd e (h i hi j a).2
theorem gUn.at {Γ : xG} (h : gUn Γ) {i : Nat} (hi : i < gNm Γ) : gMv Γ (gMx Γ i) = gMy Γ i := by
  unfold gMv
  cases hg : gfi (gMx Γ) (gMx Γ i) (gNm Γ) with
  | some j => obtain ⟨a, b⟩ := gfi_some hg; show gMy Γ j = _; rw [h.ix a hi b]
  | none => exact absurd rfl (gfi_none hg i hi)
theorem un_iff {Γ : xG} {n : Nat → Int32} {f : Nat → Nat → Int32} (hG : xGood Γ) (h : xRepR Γ n f) : ((∀ i, i < gNm Γ → ∀ j, j < i → f 31 i ≠ f 31 j) ∧ (∀ i, i < gNm Γ → ∀ j, j < i → f 32 i ≠ f 32 j)) ↔ gUn Γ := by
  have hno := hG.no
  constructor
  · rintro ⟨h1, h2⟩ i hi j hj
    refine ⟨fun e => h1 i hi j hj ?_, fun e => h2 i hi j hj ?_⟩
    · rw [h.mx i hi, h.mx j (by omega), e]
    · rw [h.my i hi, h.my j (by omega), e]
  · intro h1
    refine ⟨fun i hi j hj e => ?_, fun i hi j hj e => ?_⟩
    · rw [h.mx i hi, h.mx j (by omega)] at e
      have := hG.mm i hi; have := hG.mm j (by omega)
      exact (h1 i hi j hj).1 (nI_inj (by omega) (by omega) e)
    · rw [h.my i hi, h.my j (by omega)] at e
      have := hG.mm i hi; have := hG.mm j (by omega)
      exact (h1 i hi j hj).2 (nI_inj (by omega) (by omega) e)
theorem mv_of {Γ : xG} {n : Nat → Int32} {f : Nat → Nat → Int32} (h : xRepR Γ n f) (hG : xGood Γ) {q : Nat} (hq : q < gNo Γ) (hi : ∀ {i j : Nat}, i < gNm Γ → j < gNm Γ → gMx Γ i = gMx Γ j → i = j) {r : Int32} (hr : xmv (f 31) (f 32) (gNm Γ) (nI q) r) : r = nI (gMv Γ q) := by
  have hno := hG.no
  have hx : ∀ i, i < gNm Γ → (f 31 i = nI q ↔ gMx Γ i = q) := by
    intro i him
    have := hG.mm i him
    rw [h.mx i him]
    exact nI_eq (by omega) (by omega)
  rcases hr with ⟨i, a1, a2, -, rfl⟩ | ⟨a1, rfl⟩
  · rw [h.my i a1]
    have e := (hx i a1).mp a2
    unfold gMv
    cases hg : gfi (gMx Γ) q (gNm Γ) with
    | some j => obtain ⟨b1, b2⟩ := gfi_some hg; show _ = nI (gMy Γ j); rw [hi b1 a1 (b2.trans e.symm)]
    | none => exact absurd e (gfi_none hg i a1)
  · rw [gMv_no (fun i him e => a1 i him ((hx i him).mpr e))]
theorem xla1 {Γ : xG} {v : Int32} {i : Nat} (h : (v = 1 ∧ gUn Γ ∧ ∀ q, q < i → gCb Γ (gMx Γ q) ≠ -1) ∨ (v = 0 ∧ ¬ gPos Γ)) (hv : ¬ v = 0) (hc : gCb Γ (gMx Γ i) ≠ -1) : gUn Γ ∧ ∀ q, q < i + 1 → gCb Γ (gMx Γ q) ≠ -1 := by
  rcases h with ⟨-, h1, h2⟩ | ⟨h, -⟩
  · exact ⟨h1, lt_s h2 hc⟩
  · exact absurd h hv
theorem xla2 {v : Int32} {A B : Prop} (h : (v = 1 ∧ A) ∨ (v = 0 ∧ B)) (hv : v = 0) : B := by
  rcases h with ⟨h, -⟩ | ⟨-, h⟩
  · exact absurd (h.symm.trans hv) (by decide)
  · exact h
theorem xl1 {v : Int32} {A B : Prop} (h : (v = 1 ∧ A) ∨ (v = 0 ∧ B)) (hv : ¬ v = 0) : v = 1 := h.elim (fun a => a.1) (fun a => absurd a.1 hv)
theorem xl2 {v : Int32} {A B : Prop} (h : (v = 1 ∧ A) ∨ (v = 0 ∧ B)) (hv : ¬ v = 0) : A := h.elim (fun a => a.2) (fun a => absurd a.1 hv)
/-- the new cables are laid for the ports below i, none on another -/
def xLay (Γ : xG) (i : Nat) (g3 g4 : Nat → Int32) : Prop := gUn Γ ∧ (∀ q, q < gNm Γ → gCb Γ (gMx Γ q) ≠ -1) ∧ (∀ q, q < i → gCb Γ q ≠ -1 → g3 (gMv Γ q) = nI (gMv Γ (xNa (gCb Γ q))) ∧ g4 (gMv Γ q) = gCl Γ q) ∧ (∀ w, w < gNo Γ → (∀ q, q < i → gCb Γ q ≠ -1 → gMv Γ q ≠ w) → g3 w = -1 ∧ g4 w = 0) ∧ (∀ q, q < i → gCb Γ q ≠ -1 → ∀ r, r < q → gCb Γ r ≠ -1 → gMv Γ r ≠ gMv Γ q)
theorem xlay_s {Γ : xG} {i : Nat} {g3 g4 : Nat → Int32} (h : xLay Γ i g3 g4) (hc : gCb Γ i = -1) : xLay Γ (i + 1) g3 g4 := by
  obtain ⟨h1, h2, h3, h4, h5⟩ := h
  refine ⟨h1, h2, lt_s h3 (fun e => absurd hc e), fun w hw hq => h4 w hw (fun q hq2 => hq q (by omega)), lt_s h5 (fun e => absurd hc e)⟩
theorem xlay_t {Γ : xG} {i z : Nat} {g3 g4 : Nat → Int32} {cv : Int32} (hG : xGood Γ) (h : xLay Γ i g3 g4) (hi : i < gNo Γ) (hc : ¬ gCb Γ i = -1) (hzn : z < gNo Γ) (hz : gCb Γ i = nI z) (hfree : g3 (gMv Γ i) = -1) (hcv : cv = gCl Γ i) : xLay Γ (i + 1) (upd g3 (gMv Γ i) (nI (gMv Γ z))) (upd g4 (gMv Γ i) cv) := by
  obtain ⟨h1, h2, h3, h4, h5⟩ := h
  have hno := hG.no
  have hz2 : z < gNo Γ ∧ z = xNa (gCb Γ i) := by
    exact ⟨hzn, by rw [hz, xNa_n (by omega)]⟩
  have hne : ∀ q, q < i → gCb Γ q ≠ -1 → gMv Γ q ≠ gMv Γ i := by
    intro q hq hcq e
    have := (h3 q hq hcq).1
    rw [e, hfree] at this
    obtain ⟨v, v1, -, v3, -⟩ := (hG.cb q (by omega)).resolve_left hcq
    rw [v3, xNa_n (by omega)] at this
    have hl := gMv_lt hG v1
    exact nI_m1 (by omega) this.symm
  refine ⟨h1, h2, ?_, ?_, lt_s h5 (fun _ r hr hcr => hne r hr hcr)⟩
  · intro q hq hcq
    by_cases e : q = i
    · rw [e, upd_s, upd_s, ← hz2.2]; exact ⟨rfl, hcv⟩
    · have hn := hne q (by omega) hcq
      rw [upd_n hn, upd_n hn]; exact h3 q (by omega) hcq
  · intro w hw hq
    have hn : w ≠ gMv Γ i := fun e => hq i (by omega) hc e.symm
    rw [upd_n hn, upd_n hn]
    exact h4 w hw (fun q hq2 => hq q (by omega))
theorem gPos.inj {Γ : xG} (h : gPos Γ) {q r : Nat} (hq : gCb Γ q ≠ -1) (hr : gCb Γ r ≠ -1) (e : gMv Γ q = gMv Γ r) : q = r := by
  by_cases mq : ∃ i, i < gNm Γ ∧ gMx Γ i = q <;> by_cases mr : ∃ i, i < gNm Γ ∧ gMx Γ i = r
  · obtain ⟨i, hi, rfl⟩ := mq
    obtain ⟨j, hj, rfl⟩ := mr
    rw [h.at hi, h.at hj] at e
    rw [h.iy hi hj e]
  · obtain ⟨i, hi, rfl⟩ := mq
    rw [h.at hi, gMv_no (fun j hj e2 => mr ⟨j, hj, e2⟩)] at e
    exact absurd ⟨by rw [e]; exact hr, fun ⟨j, hj, e2⟩ => mr ⟨j, hj, e2.trans e⟩⟩ (h i hi).2.2
  · obtain ⟨j, hj, rfl⟩ := mr
    rw [h.at hj, gMv_no (fun i hi e2 => mq ⟨i, hi, e2⟩)] at e
    exact absurd ⟨by rw [← e]; exact hq, fun ⟨i, hi, e2⟩ => mq ⟨i, hi, e2.trans e.symm⟩⟩ (h j hj).2.2
  · rw [gMv_no (fun i hi e2 => mq ⟨i, hi, e2⟩), gMv_no (fun i hi e2 => mr ⟨i, hi, e2⟩)] at e
    exact e
theorem xlay_n1 {Γ : xG} {i : Nat} {g3 g4 : Nat → Int32} (hG : xGood Γ) (h : xLay Γ i g3 g4) (hi : i < gNo Γ) (hc : ¬ gCb Γ i = -1) (hne : ¬ g3 (gMv Γ i) = -1) : ¬ gPos Γ := by
  intro hp
  refine hne (h.2.2.2.1 _ (gMv_lt hG hi) (fun q hq hcq e => ?_)).1
  have := hp.inj hcq hc e
  omega
theorem xlay_n2 {Γ : xG} {i z : Nat} {g3 g4 : Nat → Int32} (hG : xGood Γ) (h : xLay Γ i g3 g4) (hi : i < gNo Γ) (hz : z < gNo Γ) (hc : ¬ gCb Γ i = -1) (hoz : gCb Γ i = nI z) (hne : gMv Γ i = gMv Γ z) : ¬ gPos Γ := by
  intro hp
  have hno := hG.no
  have i1 := hG.cb.inv (by omega) hi (by omega) hoz
  exact i1.2.1 (hp.inj hc (by rw [i1.2.2]; exact nI_m1 (by omega)) hne).symm
theorem xlay_e {Γ : xG} {g3 g4 : Nat → Int32} (hG : xGood Γ) (h : xLay Γ (gNo Γ) g3 g4) : gPos Γ ∧ ∀ z, z < gNo Γ → g3 z = gNC Γ z ∧ g4 z = gNK Γ z := by
  obtain ⟨h1, h2, h3, h4, h5⟩ := h
  have hp : gPos Γ := by
    intro i hi
    refine ⟨h2 i hi, fun ⟨q, hq, e⟩ => e.elim (fun e => (h1 i hi q hq).1 e.symm) (fun e => (h1 i hi q hq).2 e.symm), fun ⟨a, b⟩ => ?_⟩
    have hm := hG.mm i hi
    have e1 : gMv Γ (gMy Γ i) = gMy Γ i := gMv_no (fun j hj e => b ⟨j, hj, e⟩)
    have e2 := h1.at hi
    have hne : gMx Γ i ≠ gMy Γ i := hm.2.2
    rcases Nat.lt_or_gt_of_ne hne with c | c
    · exact h5 _ hm.2.1 a _ c (h2 i hi) (by rw [e1, e2])
    · exact h5 _ hm.1 (h2 i hi) _ c a (by rw [e1, e2])
  refine ⟨hp, fun w hw => ?_⟩
  by_cases hit : ∃ q, q < gNo Γ ∧ gCb Γ q ≠ -1 ∧ gMv Γ q = w
  · obtain ⟨q, hq, hc, rfl⟩ := hit
    obtain ⟨a1, a2⟩ := gNC_at hp hc
    rw [a1, a2]
    exact h3 q hq hc
  · obtain ⟨a1, a2⟩ := h4 w hw (fun q hq hc e => hit ⟨q, hq, hc, e⟩)
    rw [a1, a2]
    unfold gNC gNK
    cases hg : gfi (gMy Γ) w (gNm Γ) with
    | some j =>
      obtain ⟨b1, b2⟩ := gfi_some hg
      exact absurd ⟨_, (hG.mm j b1).1, h2 j b1, (hp.at b1).trans b2⟩ hit
    | none =>
      cases hg2 : gfi (gMx Γ) w (gNm Γ) with
      | some j => exact ⟨rfl, rfl⟩
      | none =>
        by_cases hc : gCb Γ w = -1
        · exact ⟨(if_pos hc).symm, (hG.cl w hc).symm⟩
        · exact absurd ⟨w, hw, hc, gMv_no (gfi_none hg2)⟩ hit
theorem xms2 {M L : Nat → Nat} {no p z : Nat} {v : Int32} {Q : Prop} (h : (v = 1 ∧ xsum M no < xsum L no) ∨ (v = 0 ∧ M = L ∧ Q)) (hp : p < no) (hlt : M z < M p) : xsum (xu M p (M z)) no < xsum L no := by
  have h1 := xsum_lt (L := M) (p := p) (v := M z) hlt hp
  rcases h with ⟨-, h⟩ | ⟨-, h, -⟩
  · omega
  · rw [h] at h1 ⊢; exact h1
theorem xlab {Γ : xG} {g : Nat → Int32} {M : Nat → Nat} {p z : Nat} (h : ∀ w, w < gNo Γ → g w = nI (M w) ∧ M w ≤ w ∧ xR (gNo Γ) (gCb Γ) (gOp Γ) (M w) w) (hp : p < gNo Γ) (hz : z < gNo Γ) (hlt : M z < M p) (hR : xR (gNo Γ) (gCb Γ) (gOp Γ) z p) : ∀ w, w < gNo Γ → upd g p (nI (M z)) w = nI (xu M p (M z) w) ∧ xu M p (M z) w ≤ w ∧ xR (gNo Γ) (gCb Γ) (gOp Γ) (xu M p (M z) w) w := by
  intro w hw
  by_cases e : w = p
  · rw [e, upd_s, xu_s]
    exact ⟨rfl, by have := (h p hp).2.1; omega, (h z hz).2.2.trans hR⟩
  · rw [upd_n e, xu_n e]; exact h w hw
theorem xclo_of {Γ : xG} {L M : Nat → Nat} {v : Int32} {A : Prop} (h : (v = 1 ∧ A) ∨ (v = 0 ∧ M = L ∧ ∀ j, j < 2 * gNo Γ → ∀ w, w < gNo Γ → xnx (gCb Γ) (gOp Γ) (j % 2 == 0) (j / 2) = nI w → L (j / 2) ≤ L w)) : v = 1 ∨ (v = 0 ∧ xClo Γ M) := by
  rcases h with ⟨h, -⟩ | ⟨h1, rfl, h3⟩
  · exact Or.inl h
  · refine Or.inr ⟨h1, fun z w hz hw e => ?_⟩
    rcases e with e | e
    · have := h3 (2 * z) (by omega) w hw (by rw [show (2 * z % 2 == 0) = true by simp, show 2 * z / 2 = z by omega]; exact e)
      rw [show 2 * z / 2 = z by omega] at this
      exact this
    · have := h3 (2 * z + 1) (by omega) w hw (by rw [show ((2 * z + 1) % 2 == 0) = false by simp, show (2 * z + 1) / 2 = z by omega]; exact e)
      rw [show (2 * z + 1) / 2 = z by omega] at this
      exact this
theorem xClo.eq {Γ : xG} {L : Nat → Nat} (hG : xGood Γ) (h : xClo Γ L) {z w : Nat} (hz : z < gNo Γ) (hw : w < gNo Γ) (e : gCb Γ z = nI w ∨ gOp Γ z = nI w) : L z = L w := by
  have hno := hG.no
  refine Nat.le_antisymm (h z w hz hw e) (h w z hw hz ?_)
  rcases e with e | e
  · exact Or.inl (hG.cb.inv (by omega) hz (by omega) e).2.2
  · exact Or.inr (hG.op.inv (by omega) hz (by omega) e).2.2
theorem xClo.iff {Γ : xG} {L : Nat → Nat} {g : Nat → Int32} (hG : xGood Γ) (h : xClo Γ L) (hL : ∀ w, w < gNo Γ → g w = nI (L w) ∧ L w ≤ w ∧ xR (gNo Γ) (gCb Γ) (gOp Γ) (L w) w) {a b : Nat} (ha : a < gNo Γ) (hb : b < gNo Γ) : L a = L b ↔ xR (gNo Γ) (gCb Γ) (gOp Γ) a b := by
  have hno := hG.no
  constructor
  · intro e
    have r1 := (hL a ha).2.2
    have r2 := (hL b hb).2.2
    rw [← e] at r2
    exact (r1.symm (by omega) hG.cb hG.op).trans r2
  · intro r
    exact r (fun z => L a = L z) rfl (fun x y hx hy e1 e2 => e1.trans (h.eq hG hx hy e2))
theorem xClo.low {Γ : xG} {L : Nat → Nat} {g : Nat → Int32} (hG : xGood Γ) (h : xClo Γ L) (hL : ∀ w, w < gNo Γ → g w = nI (L w) ∧ L w ≤ w ∧ xR (gNo Γ) (gCb Γ) (gOp Γ) (L w) w) {a : Nat} (ha : a < gNo Γ) : L a = a ↔ ∀ z, z < a → ¬ xR (gNo Γ) (gCb Γ) (gOp Γ) z a := by
  constructor
  · intro e z hz r
    have e2 := (h.iff hG hL (a := z) (by omega) ha).mpr r
    have := (hL z (by omega)).2.1
    omega
  · intro hz
    have := (hL a ha).2
    rcases Nat.lt_or_ge (L a) a with c | c
    · exact absurd this.2 (hz _ c)
    · omega

abbrev rmX4_thrown : Room := { frames := 0, cells := 0, slots := 0, locals := 0 }
set_option maxHeartbeats 4000000 in
set_option maxRecDepth 100000 in
theorem c_X4_thrown (l : Launch) (E : xE) (n : Nat → Int32) (f : Nat → Nat → Int32) (o : Nat → Int64) : xCi l yX4_thrown wsX4_thrown rmX4_thrown E [.ref (E.2.2.2 40)] (n, f, o) (fun r σ' => r = n 10 ∧ σ' = (n, f, o)) := by
  refine x_starti RX4 (by decide) rfl rfl (Nat.le_of_ble_eq_true rfl) ?_
  intro p e s m args below meth c ls S hr hlk hW hl
  have hx := S.1
  have hb := S.2.1
  have hl : lv_has ls 1 [(0, .ref (E.2.2.2 40))] := hl
  have hinX4 : ∀ w ∈ wsX40, w ∈ wsX4_thrown := by decide +kernel
  have w62 : Cond.fieldLink RX4 62 "CableBookModel" "thrown" "I" ∈ wsX4_thrown := by decide +kernel
  refine lv_aload_n hx hb dX4_thrown_0 rfl (lv_at hl 0 rfl) ?_
  refine x_get (v := .int (n 10)) S hW hinX4 40 (xw_40 E _) rfl 0 (by decide) w62 rfl dX4_thrown_1 ?_
  exact x_reti S hr hlk hW dX4_thrown_4 (⟨rfl, rfl⟩)

abbrev rmX4_holds : Room := { frames := 0, cells := 0, slots := 0, locals := 0 }
set_option maxHeartbeats 4000000 in
set_option maxRecDepth 100000 in
theorem c_X4_holds (l : Launch) (E : xE) (n : Nat → Int32) (f : Nat → Nat → Int32) (o : Nat → Int64) (v : Int32) : xCi l yX4_holds wsX4_holds rmX4_holds E [.ref (E.2.2.2 40), .int v] (n, f, o) (fun r σ' => (v = 0 ∧ r = 1 ∧ σ' = (xu n 10 v, f, o)) ∨ (¬ v = 0 ∧ r = 0 ∧ σ' = (xu n 10 v, f, o))) := by
  refine x_starti RX4 (by decide) rfl rfl (Nat.le_of_ble_eq_true rfl) ?_
  intro p e s m args below meth c ls S hr hlk hW hl
  have hx := S.1
  have hb := S.2.1
  have hl : lv_has ls 2 [(0, .ref (E.2.2.2 40)), (1, .int v)] := hl
  have hinX4 : ∀ w ∈ wsX40, w ∈ wsX4_holds := by decide +kernel
  have w62 : Cond.fieldLink RX4 62 "CableBookModel" "thrown" "I" ∈ wsX4_holds := by decide +kernel
  refine lv_aload_n hx hb dX4_holds_0 rfl (lv_at hl 0 rfl) ?_
  refine lv_iload_n hx hb dX4_holds_1 rfl (lv_at hl 1 rfl) ?_
  refine x_put (σ' := ((xu n 10 v), f, o)) S hW hinX4 tyX4 tyX4_ok nmX4 40 (xw_40 E _) rfl 0 (by decide) w62 rfl (by decide +kernel) (Nat.le_of_ble_eq_true rfl) (xw_N10 E _ _ _ _) dX4_holds_2 (fun H locs hW => ?_)
  refine lv_iload_n hx hb dX4_holds_5 rfl (lv_at hl 1 rfl) ?_
  refine lv_if_ne (tgt := 13) hx hb dX4_holds_6 (by decide) (fun c6 => ?_) (fun c6 => ?_)
  · refine lv_iconst (v := 0) hx hb dX4_holds_13 (by decide) ?_
    exact x_retz S hr hlk hW dX4_holds_14 (Or.inl rfl) (.inr ⟨c6, rfl, rfl⟩)
  · refine lv_iconst (v := 1) hx hb dX4_holds_9 (by decide) ?_
    refine lv_goto (tgt := 14) hx hb dX4_holds_10 (by decide) ?_
    exact x_retz S hr hlk hW dX4_holds_14 (Or.inr rfl) (.inl ⟨c6, rfl, rfl⟩)

abbrev rmX4_in : Room := { frames := 0, cells := 0, slots := 0, locals := 0 }
set_option maxHeartbeats 4000000 in
set_option maxRecDepth 100000 in
theorem c_X4_in (l : Launch) (E : xE) (n : Nat → Int32) (f : Nat → Nat → Int32) (o : Nat → Int64) (v lo hi : Int32) : xCi l yX4_in wsX4_in rmX4_in E [.int v, .int lo, .int hi] (n, f, o) (fun r σ' => (r = 0 ∧ ¬ (lo ≤ v ∧ v ≤ hi) ∧ σ' = (n, f, o)) ∨ (r = 1 ∧ (lo ≤ v ∧ v ≤ hi) ∧ σ' = (n, f, o))) := by
  refine x_starti RX4 (by decide) rfl rfl (Nat.le_of_ble_eq_true rfl) ?_
  intro p e s m args below meth c ls S hr hlk hW hl
  have hx := S.1
  have hb := S.2.1
  have hl : lv_has ls 3 [(0, .int v), (1, .int lo), (2, .int hi)] := hl
  refine lv_iload_n hx hb dX4_in_0 rfl (lv_at hl 0 rfl) ?_
  refine lv_iload_n hx hb dX4_in_1 rfl (lv_at hl 1 rfl) ?_
  refine lv_icmp_lt (tgt := 14) hx hb dX4_in_2 (by decide) (fun c2 => ?_) (fun c2 => ?_)
  · refine lv_iconst (v := 0) hx hb dX4_in_14 (by decide) ?_
    exact x_retz S hr hlk hW dX4_in_15 (Or.inl rfl) (.inl ⟨rfl, (by first | exact fun h => absurd c2 (Int32.not_lt.mpr h.1) | exact fun h => absurd c7 (Int32.not_lt.mpr h.2)), rfl⟩)
  · refine lv_iload_n hx hb dX4_in_5 rfl (lv_at hl 0 rfl) ?_
    refine lv_iload_n hx hb dX4_in_6 rfl (lv_at hl 2 rfl) ?_
    refine lv_icmp_gt (tgt := 14) hx hb dX4_in_7 (by decide) (fun c7 => ?_) (fun c7 => ?_)
    · refine lv_iconst (v := 0) hx hb dX4_in_14 (by decide) ?_
      exact x_retz S hr hlk hW dX4_in_15 (Or.inl rfl) (.inl ⟨rfl, (by first | exact fun h => absurd c2 (Int32.not_lt.mpr h.1) | exact fun h => absurd c7 (Int32.not_lt.mpr h.2)), rfl⟩)
    · refine lv_iconst (v := 1) hx hb dX4_in_10 (by decide) ?_
      refine lv_goto (tgt := 15) hx hb dX4_in_11 (by decide) ?_
      exact x_retz S hr hlk hW dX4_in_15 (Or.inr rfl) (.inr ⟨rfl, ⟨Int32.not_lt.mp c2, Int32.not_lt.mp c7⟩, rfl⟩)

abbrev rmX4_isPort : Room := { frames := 1, cells := 0, slots := 0, locals := 22 }
set_option maxHeartbeats 4000000 in
set_option maxRecDepth 100000 in
theorem c_X4_isPort (l : Launch) (E : xE) (n : Nat → Int32) (f : Nat → Nat → Int32) (o : Nat → Int64) (Γ : xG) (hG : xGood Γ) (hR : xRepR Γ n f) (a : Int32) : xCi l yX4_isPort wsX4_isPort rmX4_isPort E [.ref (E.2.2.2 40), .int a] (n, f, o) (fun r σ' => (r = 0 ∧ ¬ (xP (gNo Γ) a) ∧ σ' = (n, f, o)) ∨ (r = 1 ∧ (xP (gNo Γ) a) ∧ σ' = (n, f, o))) := by
  refine x_starti RX4 (by decide) rfl rfl (Nat.le_of_ble_eq_true rfl) ?_
  intro p e s m args below meth c ls S hr hlk hW hl
  have hx := S.1
  have hb := S.2.1
  have hl : lv_has ls 2 [(0, .ref (E.2.2.2 40)), (1, .int a)] := hl
  have hinX4 : ∀ w ∈ wsX40, w ∈ wsX4_isPort := by decide +kernel
  have w66 : Cond.fieldLink RX4 66 "CableBookModel" "ports" "I" ∈ wsX4_isPort := by decide +kernel
  have hno := hG.no
  have hnp := hG.np
  have hnt := hG.nt
  have hnm := hG.nm
  refine lv_iload_n hx hb dX4_isPort_0 rfl (lv_at hl 1 rfl) ?_
  refine lv_iconst (v := 0) hx hb dX4_isPort_1 (by decide) ?_
  refine lv_aload_n hx hb dX4_isPort_2 rfl (lv_at hl 0 rfl) ?_
  refine x_get (v := .int (n 12)) S hW hinX4 40 (xw_40 E _) rfl 2 (by decide) w66 rfl dX4_isPort_3 ?_
  refine x_topN (gNo Γ) (hR.no) ?_
  refine lv_iconst (v := 1) hx hb dX4_isPort_6 (by decide) ?_
  refine lv_isub hx hb dX4_isPort_7 ?_
  refine x_Si (rest := []) S (c_X4_in l E n f o a 0 ((nI (gNo Γ)) - 1)) (cwS 3 S.2.2.2.2 gX4_isPort_X4_in rfl rfl rfl (by decide +kernel) ⟨Nat.le_of_ble_eq_true rfl, Nat.le_of_ble_eq_true rfl⟩) hW rfl rfl hl.1 (Nat.le_of_ble_eq_true rfl) dX4_isPort_8 ⟨Nat.zero_le _, Nat.zero_le _⟩ (fun r8 σ8 H locs hq1 hW => ?_)
  rcases hq1 with ⟨rfl, h8, rfl⟩ | ⟨rfl, h8, rfl⟩
  · rw [xP_iff (by omega)] at h8
    exact x_retz S hr hlk hW dX4_isPort_11 (Or.inl rfl) (.inl ⟨rfl, h8, rfl⟩)
  · rw [xP_iff (by omega)] at h8
    exact x_retz S hr hlk hW dX4_isPort_11 (Or.inr rfl) (.inr ⟨rfl, h8, rfl⟩)

abbrev rmX4_isTrunk : Room := { frames := 1, cells := 0, slots := 0, locals := 22 }
set_option maxHeartbeats 4000000 in
set_option maxRecDepth 100000 in
theorem c_X4_isTrunk (l : Launch) (E : xE) (n : Nat → Int32) (f : Nat → Nat → Int32) (o : Nat → Int64) (Γ : xG) (hG : xGood Γ) (hR : xRepR Γ n f) (a : Int32) : xCi l yX4_isTrunk wsX4_isTrunk rmX4_isTrunk E [.ref (E.2.2.2 40), .int a] (n, f, o) (fun r σ' => (r = 0 ∧ ¬ (xP (gNt Γ) a) ∧ σ' = (n, f, o)) ∨ (r = 1 ∧ (xP (gNt Γ) a) ∧ σ' = (n, f, o))) := by
  refine x_starti RX4 (by decide) rfl rfl (Nat.le_of_ble_eq_true rfl) ?_
  intro p e s m args below meth c ls S hr hlk hW hl
  have hx := S.1
  have hb := S.2.1
  have hl : lv_has ls 2 [(0, .ref (E.2.2.2 40)), (1, .int a)] := hl
  have hinX4 : ∀ w ∈ wsX40, w ∈ wsX4_isTrunk := by decide +kernel
  have w94 : Cond.fieldLink RX4 94 "CableBookModel" "trunks" "I" ∈ wsX4_isTrunk := by decide +kernel
  have hno := hG.no
  have hnp := hG.np
  have hnt := hG.nt
  have hnm := hG.nm
  refine lv_iload_n hx hb dX4_isTrunk_0 rfl (lv_at hl 1 rfl) ?_
  refine lv_iconst (v := 0) hx hb dX4_isTrunk_1 (by decide) ?_
  refine lv_aload_n hx hb dX4_isTrunk_2 rfl (lv_at hl 0 rfl) ?_
  refine x_get (v := .int (n 13)) S hW hinX4 40 (xw_40 E _) rfl 3 (by decide) w94 rfl dX4_isTrunk_3 ?_
  refine x_topN (gNt Γ) (hR.nt) ?_
  refine lv_iconst (v := 1) hx hb dX4_isTrunk_6 (by decide) ?_
  refine lv_isub hx hb dX4_isTrunk_7 ?_
  refine x_Si (rest := []) S (c_X4_in l E n f o a 0 ((nI (gNt Γ)) - 1)) (cwS 3 S.2.2.2.2 gX4_isTrunk_X4_in rfl rfl rfl (by decide +kernel) ⟨Nat.le_of_ble_eq_true rfl, Nat.le_of_ble_eq_true rfl⟩) hW rfl rfl hl.1 (Nat.le_of_ble_eq_true rfl) dX4_isTrunk_8 ⟨Nat.zero_le _, Nat.zero_le _⟩ (fun r8 σ8 H locs hq1 hW => ?_)
  rcases hq1 with ⟨rfl, h8, rfl⟩ | ⟨rfl, h8, rfl⟩
  · rw [xP_iff (by omega)] at h8
    exact x_retz S hr hlk hW dX4_isTrunk_11 (Or.inl rfl) (.inl ⟨rfl, h8, rfl⟩)
  · rw [xP_iff (by omega)] at h8
    exact x_retz S hr hlk hW dX4_isTrunk_11 (Or.inr rfl) (.inr ⟨rfl, h8, rfl⟩)

abbrev rmX4_isPanel : Room := { frames := 1, cells := 0, slots := 0, locals := 22 }
set_option maxHeartbeats 4000000 in
set_option maxRecDepth 100000 in
theorem c_X4_isPanel (l : Launch) (E : xE) (n : Nat → Int32) (f : Nat → Nat → Int32) (o : Nat → Int64) (Γ : xG) (hG : xGood Γ) (hR : xRepR Γ n f) (a : Int32) : xCi l yX4_isPanel wsX4_isPanel rmX4_isPanel E [.ref (E.2.2.2 40), .int a] (n, f, o) (fun r σ' => (r = 0 ∧ ¬ (xP (gNp Γ) a) ∧ σ' = (n, f, o)) ∨ (r = 1 ∧ (xP (gNp Γ) a) ∧ σ' = (n, f, o))) := by
  refine x_starti RX4 (by decide) rfl rfl (Nat.le_of_ble_eq_true rfl) ?_
  intro p e s m args below meth c ls S hr hlk hW hl
  have hx := S.1
  have hb := S.2.1
  have hl : lv_has ls 2 [(0, .ref (E.2.2.2 40)), (1, .int a)] := hl
  have hinX4 : ∀ w ∈ wsX40, w ∈ wsX4_isPanel := by decide +kernel
  have w77 : Cond.fieldLink RX4 77 "CableBookModel" "panels" "I" ∈ wsX4_isPanel := by decide +kernel
  have hno := hG.no
  have hnp := hG.np
  have hnt := hG.nt
  have hnm := hG.nm
  refine lv_iload_n hx hb dX4_isPanel_0 rfl (lv_at hl 1 rfl) ?_
  refine lv_iconst (v := 0) hx hb dX4_isPanel_1 (by decide) ?_
  refine lv_aload_n hx hb dX4_isPanel_2 rfl (lv_at hl 0 rfl) ?_
  refine x_get (v := .int (n 11)) S hW hinX4 40 (xw_40 E _) rfl 1 (by decide) w77 rfl dX4_isPanel_3 ?_
  refine x_topN (gNp Γ) (hR.np) ?_
  refine lv_iconst (v := 1) hx hb dX4_isPanel_6 (by decide) ?_
  refine lv_isub hx hb dX4_isPanel_7 ?_
  refine x_Si (rest := []) S (c_X4_in l E n f o a 0 ((nI (gNp Γ)) - 1)) (cwS 3 S.2.2.2.2 gX4_isPanel_X4_in rfl rfl rfl (by decide +kernel) ⟨Nat.le_of_ble_eq_true rfl, Nat.le_of_ble_eq_true rfl⟩) hW rfl rfl hl.1 (Nat.le_of_ble_eq_true rfl) dX4_isPanel_8 ⟨Nat.zero_le _, Nat.zero_le _⟩ (fun r8 σ8 H locs hq1 hW => ?_)
  rcases hq1 with ⟨rfl, h8, rfl⟩ | ⟨rfl, h8, rfl⟩
  · rw [xP_iff (by omega)] at h8
    exact x_retz S hr hlk hW dX4_isPanel_11 (Or.inl rfl) (.inl ⟨rfl, h8, rfl⟩)
  · rw [xP_iff (by omega)] at h8
    exact x_retz S hr hlk hW dX4_isPanel_11 (Or.inr rfl) (.inr ⟨rfl, h8, rfl⟩)

abbrev rmX4_arePorts : Room := { frames := 2, cells := 0, slots := 0, locals := 43 }
set_option maxHeartbeats 4000000 in
set_option maxRecDepth 100000 in
theorem c_X4_arePorts (l : Launch) (E : xE) (n : Nat → Int32) (f : Nat → Nat → Int32) (o : Nat → Int64) (Γ : xG) (hG : xGood Γ) (hR : xRepR Γ n f) (a a2 : Int32) : xCi l yX4_arePorts wsX4_arePorts rmX4_arePorts E [.ref (E.2.2.2 40), .int a, .int a2] (n, f, o) (fun r σ' => (r = 0 ∧ ¬ (xP (gNo Γ) a ∧ xP (gNo Γ) a2) ∧ σ' = (n, f, o)) ∨ (r = 1 ∧ (xP (gNo Γ) a ∧ xP (gNo Γ) a2) ∧ σ' = (n, f, o))) := by
  refine x_starti RX4 (by decide) rfl rfl (Nat.le_of_ble_eq_true rfl) ?_
  intro p e s m args below meth c ls S hr hlk hW hl
  have hx := S.1
  have hb := S.2.1
  have hl : lv_has ls 3 [(0, .ref (E.2.2.2 40)), (1, .int a), (2, .int a2)] := hl
  have hno := hG.no
  have hnp := hG.np
  have hnt := hG.nt
  have hnm := hG.nm
  refine lv_aload_n hx hb dX4_arePorts_0 rfl (lv_at hl 0 rfl) ?_
  refine lv_iload_n hx hb dX4_arePorts_1 rfl (lv_at hl 1 rfl) ?_
  refine x_Vi (rest := []) S (c_X4_isPort l E n f o Γ hG hR a) (cwV 1 S.2.2.2.2 gX4_arePorts_X4_isPort rfl rfl rfl (by decide +kernel) ⟨Nat.le_of_ble_eq_true rfl, Nat.le_of_ble_eq_true rfl⟩) hW 40 (xw_40 E _) rfl rfl rfl hl.1 (Nat.le_of_ble_eq_true rfl) dX4_arePorts_2 ⟨Nat.zero_le _, Nat.zero_le _⟩ (fun r2 σ2 H locs hq1 hW => ?_)
  rcases hq1 with ⟨rfl, h2, rfl⟩ | ⟨rfl, h2, rfl⟩
  · refine lv_if_eq (tgt := 20) hx hb dX4_arePorts_5 (by decide) (fun c5 => ?_) (fun c5 => ?_)
    rotate_left
    · exact absurd c5 (by decide)
    refine lv_iconst (v := 0) hx hb dX4_arePorts_20 (by decide) ?_
    exact x_retz S hr hlk hW dX4_arePorts_21 (Or.inl rfl) (.inl ⟨rfl, (by first | exact fun h => h2 h.1 | exact fun h => h10 h.2), rfl⟩)
  · refine lv_if_eq (tgt := 20) hx hb dX4_arePorts_5 (by decide) (fun c5 => ?_) (fun c5 => ?_)
    · exact absurd c5 (by decide)
    refine lv_aload_n hx hb dX4_arePorts_8 rfl (lv_at hl 0 rfl) ?_
    refine lv_iload_n hx hb dX4_arePorts_9 rfl (lv_at hl 2 rfl) ?_
    refine x_Vi (rest := []) S (c_X4_isPort l E n f o Γ hG hR a2) (cwV 1 S.2.2.2.2 gX4_arePorts_X4_isPort rfl rfl rfl (by decide +kernel) ⟨Nat.le_of_ble_eq_true rfl, Nat.le_of_ble_eq_true rfl⟩) hW 40 (xw_40 E _) rfl rfl rfl hl.1 (Nat.le_of_ble_eq_true rfl) dX4_arePorts_10 ⟨Nat.zero_le _, Nat.zero_le _⟩ (fun r10 σ10 H locs hq2 hW => ?_)
    rcases hq2 with ⟨rfl, h10, rfl⟩ | ⟨rfl, h10, rfl⟩
    · refine lv_if_eq (tgt := 20) hx hb dX4_arePorts_13 (by decide) (fun c13 => ?_) (fun c13 => ?_)
      rotate_left
      · exact absurd c13 (by decide)
      refine lv_iconst (v := 0) hx hb dX4_arePorts_20 (by decide) ?_
      exact x_retz S hr hlk hW dX4_arePorts_21 (Or.inl rfl) (.inl ⟨rfl, (by first | exact fun h => h2 h.1 | exact fun h => h10 h.2), rfl⟩)
    · refine lv_if_eq (tgt := 20) hx hb dX4_arePorts_13 (by decide) (fun c13 => ?_) (fun c13 => ?_)
      · exact absurd c13 (by decide)
      refine lv_iconst (v := 1) hx hb dX4_arePorts_16 (by decide) ?_
      refine lv_goto (tgt := 21) hx hb dX4_arePorts_17 (by decide) ?_
      exact x_retz S hr hlk hW dX4_arePorts_21 (Or.inr rfl) (.inr ⟨rfl, ⟨h2, h10⟩, rfl⟩)

abbrev rmX4_panel : Room := { frames := 0, cells := 0, slots := 0, locals := 0 }
set_option maxHeartbeats 4000000 in
set_option maxRecDepth 100000 in
theorem c_X4_panel (l : Launch) (E : xE) (n : Nat → Int32) (f : Nat → Nat → Int32) (o : Nat → Int64) (Γ : xG) (hG : xGood Γ) (hR : xRepR Γ n f) {p1 : Nat} (h1 : p1 < gNo Γ) : xCi l yX4_panel wsX4_panel rmX4_panel E [.ref (E.2.2.2 40), .int (nI p1)] (n, f, o) (fun r σ' => r = nI (gPn Γ p1) ∧ σ' = (n, f, o)) := by
  refine x_starti RX4 (by decide) rfl rfl (Nat.le_of_ble_eq_true rfl) ?_
  intro p e s m args below meth c ls S hr hlk hW hl
  have hx := S.1
  have hb := S.2.1
  have hl : lv_has ls 3 [(0, .ref (E.2.2.2 40)), (1, .int (nI p1))] := hl
  have hinX4 : ∀ w ∈ wsX40, w ∈ wsX4_panel := by decide +kernel
  have w13 : Cond.fieldLink RX4 13 "CableBookModel" "firsts" "[I" ∈ wsX4_panel := by decide +kernel
  have hno := hG.no
  have hnp := hG.np
  have hnt := hG.nt
  have hnm := hG.nm
  obtain ⟨b1, b2, b3⟩ := hG.pn p1 h1
  refine lv_iconst (v := 0) hx hb dX4_panel_0 (by decide) ?_
  refine lv_istore_n (lv' := [(2, .int 0), (0, .ref (E.2.2.2 40)), (1, .int (nI p1))]) hx hb dX4_panel_1 rfl hl (by decide) rfl (fun ls hl => ?_)
  have L2 : ∀ (fu2 : Nat) (i : Nat) (hμ2 : gPn Γ p1 + 1 - i < fu2) (hi : i ≤ gPn Γ p1) (H : Heap) (locs : List Loc) (ls : Array Slot), xSt E (n, f, o) s s.heap H locs → lv_has ls 3 [(0, .ref (E.2.2.2 40)), (1, .int (nI p1)), (2, .int (nI i))] → W p l e rmX4_panel s m args below meth c H locs 0 0 (MQ below (va_Qi (fun r σ' => r = nI (gPn Γ p1) ∧ σ' = (n, f, o)) (xWd E) (xA E)) args s 0 0 (xA E)) (F0 m 2 ls []) := by
    intro fu2
    induction fu2 with
    | zero => intro i hμ2; exact absurd hμ2 (Nat.not_lt_zero _)
    | succ fu2 L2 =>
      intro i hμ2 hi H locs ls hW hl
      refine lv_aload_n hx hb dX4_panel_2 rfl (lv_at hl 0 rfl) ?_
      refine x_get (v := .ref (E.2.2.2 42)) S hW hinX4 40 (xw_40 E _) rfl 6 (by decide) w13 rfl dX4_panel_3 ?_
      refine lv_iload_n hx hb dX4_panel_6 rfl (lv_at hl 2 rfl) ?_
      refine lv_iconst (v := 1) hx hb dX4_panel_7 (by decide) ?_
      refine x_iadd (a := i) (b := 1) hx hb dX4_panel_8 ?_
      refine x_ildN (k := i + 1) (v := ((f 21) (i + 1))) S hW 42 (xw_42 E _) (rfl) (show i + 1 < 13 from (show i + 1 < 13 by omega)) (by decide) rfl dX4_panel_9 ?_
      refine x_topN (gFs Γ (i + 1)) (hR.fs _ (by omega)) ?_
      refine lv_iload_n hx hb dX4_panel_10 rfl (lv_at hl 1 rfl) ?_
      refine x_icmp_gt (a := gFs Γ (i + 1)) (b := p1) (tgt := 20) hx hb dX4_panel_11 (by decide) (by have := hG.fno (k := i + 1) (by omega); omega) (by omega) (fun c11 => ?_) (fun c11 => ?_)
      · refine lv_iload_n hx hb dX4_panel_20 rfl (lv_at hl 2 rfl) ?_
        exact x_reti S hr hlk hW dX4_panel_21 (⟨by rcases Nat.lt_or_ge i (gPn Γ p1) with e | e; exact absurd (hG.fle (gPn Γ p1 - (i + 1)) (i + 1) (by omega)) (by rw [show i + 1 + (gPn Γ p1 - (i + 1)) = gPn Γ p1 by omega]; omega); rw [show i = gPn Γ p1 by omega], rfl⟩)
      · have hnx : i + 1 ≤ gPn Γ p1 := by rcases Nat.lt_or_ge i (gPn Γ p1) with e | e; exact e; exact absurd b3 (by rw [show gPn Γ p1 = i by omega]; omega)
        refine lv_iinc (v := (nI (i + 1))) (lv' := [(2, .int (nI (i + 1))), (0, .ref (E.2.2.2 40)), (1, .int (nI p1))]) hx hb dX4_panel_14 hl (k := 2) rfl (x_inc _) (by decide) rfl (fun ls hl => ?_)
        refine lv_goto (tgt := 2) hx hb dX4_panel_17 (by decide) ?_
        exact L2  (i + 1) (by omega) (hnx) _ _ _ hW (lv_sub hl [1, 2, 0] rfl)
  exact L2 _ (0) (Nat.lt_succ_self _) (by omega) _ _ _ hW (lv_sub hl [1, 2, 0] rfl)

abbrev rmX4_isBehind : Room := { frames := 1, cells := 0, slots := 0, locals := 22 }
set_option maxHeartbeats 4000000 in
set_option maxRecDepth 100000 in
theorem c_X4_isBehind (l : Launch) (E : xE) (n : Nat → Int32) (f : Nat → Nat → Int32) (o : Nat → Int64) (Γ : xG) (hG : xGood Γ) (hR : xRepR Γ n f) {p1 : Nat} (h1 : p1 < gNo Γ) {c9 : Nat} (hc : c9 ≤ 12) : xCi l yX4_isBehind wsX4_isBehind rmX4_isBehind E [.ref (E.2.2.2 40), .int (nI p1), .int (nI c9)] (n, f, o) (fun r σ' => (r = 0 ∧ ¬ (p1 + c9 ≤ gFs Γ (gPn Γ p1 + 1)) ∧ σ' = (n, f, o)) ∨ (r = 1 ∧ (p1 + c9 ≤ gFs Γ (gPn Γ p1 + 1)) ∧ σ' = (n, f, o))) := by
  refine x_starti RX4 (by decide) rfl rfl (Nat.le_of_ble_eq_true rfl) ?_
  intro p e s m args below meth c ls S hr hlk hW hl
  have hx := S.1
  have hb := S.2.1
  have hl : lv_has ls 3 [(0, .ref (E.2.2.2 40)), (1, .int (nI p1)), (2, .int (nI c9))] := hl
  have hinX4 : ∀ w ∈ wsX40, w ∈ wsX4_isBehind := by decide +kernel
  have w13 : Cond.fieldLink RX4 13 "CableBookModel" "firsts" "[I" ∈ wsX4_isBehind := by decide +kernel
  have hno := hG.no
  have hnp := hG.np
  have hnt := hG.nt
  have hnm := hG.nm
  obtain ⟨b1, b2, b3⟩ := hG.pn p1 h1
  have b4 := hG.fno (k := gPn Γ p1 + 1) (by omega)
  refine lv_iload_n hx hb dX4_isBehind_0 rfl (lv_at hl 1 rfl) ?_
  refine lv_iload_n hx hb dX4_isBehind_1 rfl (lv_at hl 2 rfl) ?_
  refine x_iadd (a := p1) (b := c9) hx hb dX4_isBehind_2 ?_
  refine lv_aload_n hx hb dX4_isBehind_3 rfl (lv_at hl 0 rfl) ?_
  refine x_get (v := .ref (E.2.2.2 42)) S hW hinX4 40 (xw_40 E _) rfl 6 (by decide) w13 rfl dX4_isBehind_4 ?_
  refine lv_aload_n hx hb dX4_isBehind_7 rfl (lv_at hl 0 rfl) ?_
  refine lv_iload_n hx hb dX4_isBehind_8 rfl (lv_at hl 1 rfl) ?_
  refine x_Vi (rest := [.ref (E.2.2.2 42), .int (nI (p1 + c9))]) S (c_X4_panel l E n f o Γ hG hR (p1 := p1) h1) (cwV 1 S.2.2.2.2 gX4_isBehind_X4_panel rfl rfl rfl (by decide +kernel) ⟨Nat.le_of_ble_eq_true rfl, Nat.le_of_ble_eq_true rfl⟩) hW 40 (xw_40 E _) rfl rfl rfl hl.1 (Nat.le_of_ble_eq_true rfl) dX4_isBehind_9 ⟨Nat.zero_le _, Nat.zero_le _⟩ (fun r9 σ9 H locs hq1 hW => ?_)
  obtain ⟨rfl, rfl⟩ := hq1
  refine lv_iconst (v := 1) hx hb dX4_isBehind_12 (by decide) ?_
  refine x_iadd (a := gPn Γ p1) (b := 1) hx hb dX4_isBehind_13 ?_
  refine x_ildN (k := (gPn Γ p1) + 1) (v := ((f 21) ((gPn Γ p1) + 1))) S hW 42 (xw_42 E _) (rfl) (show (gPn Γ p1) + 1 < 13 from (show gPn Γ p1 + 1 < 13 by omega)) (by decide) rfl dX4_isBehind_14 ?_
  refine x_topN (gFs Γ (gPn Γ p1 + 1)) (hR.fs _ (by omega)) ?_
  refine x_icmp_gt (a := p1 + c9) (b := gFs Γ (gPn Γ p1 + 1)) (tgt := 22) hx hb dX4_isBehind_15 (by decide) (by omega) (by omega) (fun c15 => ?_) (fun c15 => ?_)
  · refine lv_iconst (v := 0) hx hb dX4_isBehind_22 (by decide) ?_
    exact x_retz S hr hlk hW dX4_isBehind_23 (Or.inl rfl) (.inl ⟨rfl, by omega, rfl⟩)
  · refine lv_iconst (v := 1) hx hb dX4_isBehind_18 (by decide) ?_
    refine lv_goto (tgt := 23) hx hb dX4_isBehind_19 (by decide) ?_
    exact x_retz S hr hlk hW dX4_isBehind_23 (Or.inr rfl) (.inr ⟨rfl, by omega, rfl⟩)

abbrev rmX4_length : Room := { frames := 1, cells := 0, slots := 0, locals := 22 }
set_option maxHeartbeats 4000000 in
set_option maxRecDepth 100000 in
theorem c_X4_length (l : Launch) (E : xE) (n : Nat → Int32) (f : Nat → Nat → Int32) (o : Nat → Int64) (Γ : xG) (hG : xGood Γ) (hR : xRepR Γ n f) {p1 : Nat} (h1 : p1 < gNo Γ) {p2 : Nat} (h2 : p2 < gNo Γ) : xCi l yX4_length wsX4_length rmX4_length E [.ref (E.2.2.2 40), .int (nI p1), .int (nI p2)] (n, f, o) (fun r σ' => r = xlen (gRk Γ) (gPn Γ p1) (gPn Γ p2) ∧ σ' = (n, f, o)) := by
  refine x_starti RX4 (by decide) rfl rfl (Nat.le_of_ble_eq_true rfl) ?_
  intro p e s m args below meth c ls S hr hlk hW hl
  have hx := S.1
  have hb := S.2.1
  have hl : lv_has ls 5 [(0, .ref (E.2.2.2 40)), (1, .int (nI p1)), (2, .int (nI p2))] := hl
  have hinX4 : ∀ w ∈ wsX40, w ∈ wsX4_length := by decide +kernel
  have w7 : Cond.fieldLink RX4 7 "CableBookModel" "racks" "[I" ∈ wsX4_length := by decide +kernel
  have hno := hG.no
  have hnp := hG.np
  have hnt := hG.nt
  have hnm := hG.nm
  obtain ⟨b1, b2, b3⟩ := hG.pn p1 h1
  obtain ⟨d1, d2, d3⟩ := hG.pn p2 h2
  obtain ⟨j1, k1, e1⟩ := hG.rk _ b1
  obtain ⟨j2, k2, e2⟩ := hG.rk _ d1
  have hde := xlen_dec j1 (by omega) j2 (by omega)
  refine lv_aload_n hx hb dX4_length_0 rfl (lv_at hl 0 rfl) ?_
  refine x_get (v := .ref (E.2.2.2 41)) S hW hinX4 40 (xw_40 E _) rfl 5 (by decide) w7 rfl dX4_length_1 ?_
  refine lv_aload_n hx hb dX4_length_4 rfl (lv_at hl 0 rfl) ?_
  refine lv_iload_n hx hb dX4_length_5 rfl (lv_at hl 1 rfl) ?_
  refine x_Vi (rest := [.ref (E.2.2.2 41)]) S (c_X4_panel l E n f o Γ hG hR (p1 := p1) h1) (cwV 1 S.2.2.2.2 gX4_length_X4_panel rfl rfl rfl (by decide +kernel) ⟨Nat.le_of_ble_eq_true rfl, Nat.le_of_ble_eq_true rfl⟩) hW 40 (xw_40 E _) rfl rfl rfl hl.1 (Nat.le_of_ble_eq_true rfl) dX4_length_6 ⟨Nat.zero_le _, Nat.zero_le _⟩ (fun r6 σ6 H locs hq1 hW => ?_)
  obtain ⟨rfl, rfl⟩ := hq1
  refine x_ildN (k := gPn Γ p1) (v := ((f 20) (gPn Γ p1))) S hW 41 (xw_41 E _) (rfl) (show gPn Γ p1 < 12 from by omega) (by decide) rfl dX4_length_9 ?_
  refine x_topN (j1) ((hR.rk _ b1).trans e1) ?_
  refine lv_istore_n (lv' := [(3, .int (nI j1)), (0, .ref (E.2.2.2 40)), (1, .int (nI p1)), (2, .int (nI p2))]) hx hb dX4_length_10 rfl hl (by decide) rfl (fun ls hl => ?_)
  refine lv_aload_n hx hb dX4_length_11 rfl (lv_at hl 1 rfl) ?_
  refine x_get (v := .ref (E.2.2.2 41)) S hW hinX4 40 (xw_40 E _) rfl 5 (by decide) w7 rfl dX4_length_12 ?_
  refine lv_aload_n hx hb dX4_length_15 rfl (lv_at hl 1 rfl) ?_
  refine lv_iload_n hx hb dX4_length_16 rfl (lv_at hl 3 rfl) ?_
  refine x_Vi (rest := [.ref (E.2.2.2 41)]) S (c_X4_panel l E n f o Γ hG hR (p1 := p2) h2) (cwV 1 S.2.2.2.2 gX4_length_X4_panel rfl rfl rfl (by decide +kernel) ⟨Nat.le_of_ble_eq_true rfl, Nat.le_of_ble_eq_true rfl⟩) hW 40 (xw_40 E _) rfl rfl rfl hl.1 (Nat.le_of_ble_eq_true rfl) dX4_length_17 ⟨Nat.zero_le _, Nat.zero_le _⟩ (fun r17 σ17 H locs hq2 hW => ?_)
  obtain ⟨rfl, rfl⟩ := hq2
  refine x_ildN (k := gPn Γ p2) (v := ((f 20) (gPn Γ p2))) S hW 41 (xw_41 E _) (rfl) (show gPn Γ p2 < 12 from by omega) (by decide) rfl dX4_length_20 ?_
  refine x_topN (j2) ((hR.rk _ d1).trans e2) ?_
  refine lv_istore (lv' := [(4, .int (nI j2)), (3, .int (nI j1)), (0, .ref (E.2.2.2 40)), (1, .int (nI p1)), (2, .int (nI p2))]) hx hb dX4_length_21 hl (by decide) rfl (fun ls hl => ?_)
  refine lv_iload_n hx hb dX4_length_23 rfl (lv_at hl 1 rfl) ?_
  refine lv_iload hx hb dX4_length_24 (lv_at hl 0 rfl) ?_
  refine x_icmp_ne (a := j1) (b := j2) (tgt := 48) hx hb dX4_length_26 (by decide) (by omega) (by omega) (fun c26 => ?_) (fun c26 => ?_)
  · refine lv_iconst (v := 3) hx hb dX4_length_48 (by decide) ?_
    refine lv_iconst (v := 2) hx hb dX4_length_49 (by decide) ?_
    refine lv_iload_n hx hb dX4_length_50 rfl (lv_at hl 1 rfl) ?_
    refine lv_iload hx hb dX4_length_51 (lv_at hl 0 rfl) ?_
    refine x_icmp_le (a := j1) (b := j2) (tgt := 63) hx hb dX4_length_53 (by decide) (by omega) (by omega) (fun c53 => ?_) (fun c53 => ?_)
    · refine lv_iload hx hb dX4_length_63 (lv_at hl 0 rfl) ?_
      refine lv_iload_n hx hb dX4_length_65 rfl (lv_at hl 1 rfl) ?_
      refine x_isub (a := j2) (b := j1) hx hb dX4_length_66 (by omega) ?_
      refine x_imul (a := 2) (b := j2 - j1) hx hb dX4_length_67 ?_
      refine x_iadd (a := 3) (b := 2 * (j2 - j1)) hx hb dX4_length_68 ?_
      exact x_reti S hr hlk hW dX4_length_69 (⟨by rw [xlen, if_neg (fun e => c26 (nI_inj (by omega) (by omega) (by rw [← e1, ← e2, e]))), if_neg (by rw [e1, e2]; exact fun e => c26 (nI_inj (by omega) (by omega) (hde.1.mp e)))]; first | (rw [e1, e2, hde.2.1 (by omega), ← nI_add, ← pk_mul]; rfl) | (rw [e1, e2, hde.2.2 (by omega), ← nI_add, ← pk_mul]; rfl), rfl⟩)
    · refine lv_iload_n hx hb dX4_length_56 rfl (lv_at hl 1 rfl) ?_
      refine lv_iload hx hb dX4_length_57 (lv_at hl 0 rfl) ?_
      refine x_isub (a := j1) (b := j2) hx hb dX4_length_59 (by omega) ?_
      refine lv_goto (tgt := 67) hx hb dX4_length_60 (by decide) ?_
      refine x_imul (a := 2) (b := j1 - j2) hx hb dX4_length_67 ?_
      refine x_iadd (a := 3) (b := 2 * (j1 - j2)) hx hb dX4_length_68 ?_
      exact x_reti S hr hlk hW dX4_length_69 (⟨by rw [xlen, if_neg (fun e => c26 (nI_inj (by omega) (by omega) (by rw [← e1, ← e2, e]))), if_neg (by rw [e1, e2]; exact fun e => c26 (nI_inj (by omega) (by omega) (hde.1.mp e)))]; first | (rw [e1, e2, hde.2.1 (by omega), ← nI_add, ← pk_mul]; rfl) | (rw [e1, e2, hde.2.2 (by omega), ← nI_add, ← pk_mul]; rfl), rfl⟩)
  · refine lv_aload_n hx hb dX4_length_29 rfl (lv_at hl 2 rfl) ?_
    refine lv_iload_n hx hb dX4_length_30 rfl (lv_at hl 3 rfl) ?_
    refine x_Vi (rest := []) S (c_X4_panel l E n f o Γ hG hR (p1 := p1) h1) (cwV 1 S.2.2.2.2 gX4_length_X4_panel rfl rfl rfl (by decide +kernel) ⟨Nat.le_of_ble_eq_true rfl, Nat.le_of_ble_eq_true rfl⟩) hW 40 (xw_40 E _) rfl rfl rfl hl.1 (Nat.le_of_ble_eq_true rfl) dX4_length_31 ⟨Nat.zero_le _, Nat.zero_le _⟩ (fun r31 σ31 H locs hq3 hW => ?_)
    obtain ⟨rfl, rfl⟩ := hq3
    refine lv_aload_n hx hb dX4_length_34 rfl (lv_at hl 2 rfl) ?_
    refine lv_iload_n hx hb dX4_length_35 rfl (lv_at hl 4 rfl) ?_
    refine x_Vi (rest := [.int (nI (gPn Γ p1))]) S (c_X4_panel l E n f o Γ hG hR (p1 := p2) h2) (cwV 1 S.2.2.2.2 gX4_length_X4_panel rfl rfl rfl (by decide +kernel) ⟨Nat.le_of_ble_eq_true rfl, Nat.le_of_ble_eq_true rfl⟩) hW 40 (xw_40 E _) rfl rfl rfl hl.1 (Nat.le_of_ble_eq_true rfl) dX4_length_36 ⟨Nat.zero_le _, Nat.zero_le _⟩ (fun r36 σ36 H locs hq4 hW => ?_)
    obtain ⟨rfl, rfl⟩ := hq4
    refine x_icmp_ne (a := gPn Γ p1) (b := gPn Γ p2) (tgt := 46) hx hb dX4_length_39 (by decide) (by omega) (by omega) (fun c39 => ?_) (fun c39 => ?_)
    · refine lv_iconst (v := 2) hx hb dX4_length_46 (by decide) ?_
      exact x_reti S hr hlk hW dX4_length_47 (⟨by rw [xlen, if_neg c39, if_pos (by rw [e1, e2]; exact hde.1.mpr (by rw [c26]))], rfl⟩)
    · refine lv_iconst (v := 1) hx hb dX4_length_42 (by decide) ?_
      refine lv_goto (tgt := 47) hx hb dX4_length_43 (by decide) ?_
      exact x_reti S hr hlk hW dX4_length_47 (⟨by rw [xlen, if_pos c39], rfl⟩)

abbrev rmX4_next : Room := { frames := 0, cells := 0, slots := 0, locals := 0 }
set_option maxHeartbeats 4000000 in
set_option maxRecDepth 100000 in
theorem c_X4_next (l : Launch) (E : xE) (n : Nat → Int32) (f : Nat → Nat → Int32) (o : Nat → Int64) (Γ : xG) (hG : xGood Γ) (hR : xRepR Γ n f) {p1 : Nat} (h1 : p1 < gNo Γ) (b : Bool) : xCi l yX4_next wsX4_next rmX4_next E [.ref (E.2.2.2 40), .int (nI p1), .int (bz b)] (n, f, o) (fun r σ' => r = xnx (gCb Γ) (gOp Γ) b p1 ∧ σ' = (n, f, o)) := by
  refine x_starti RX4 (by decide) rfl rfl (Nat.le_of_ble_eq_true rfl) ?_
  intro p e s m args below meth c ls S hr hlk hW hl
  have hx := S.1
  have hb := S.2.1
  have hl : lv_has ls 3 [(0, .ref (E.2.2.2 40)), (1, .int (nI p1)), (2, .int (bz b))] := hl
  have hinX4 : ∀ w ∈ wsX40, w ∈ wsX4_next := by decide +kernel
  have w16 : Cond.fieldLink RX4 16 "CableBookModel" "cables" "[I" ∈ wsX4_next := by decide +kernel
  have w22 : Cond.fieldLink RX4 22 "CableBookModel" "strands" "[I" ∈ wsX4_next := by decide +kernel
  have w28 : Cond.fieldLink RX4 28 "CableBookModel" "areBroken" "[Z" ∈ wsX4_next := by decide +kernel
  have hno := hG.no
  have hnp := hG.np
  have hnt := hG.nt
  have hnm := hG.nm
  refine lv_iload_n hx hb dX4_next_0 rfl (lv_at hl 2 rfl) ?_
  refine lv_if_eq (tgt := 13) hx hb dX4_next_1 (by decide) (fun c1 => ?_) (fun c1 => ?_)
  · refine lv_aload_n hx hb dX4_next_13 rfl (lv_at hl 0 rfl) ?_
    refine x_get (v := .ref (E.2.2.2 47)) S hW hinX4 40 (xw_40 E _) rfl 11 (by decide) w28 rfl dX4_next_14 ?_
    refine lv_iload_n hx hb dX4_next_17 rfl (lv_at hl 1 rfl) ?_
    refine x_zldN (k := p1) (v := ((f 26) p1)) S hW 47 (xw_47 E _) (rfl) (show p1 < 144 from by omega) (by decide) rfl dX4_next_18 ?_
    refine x_topE (gBk Γ p1) (hR.bk _ (by omega)) ?_
    refine lv_if_eq (tgt := 26) hx hb dX4_next_19 (by decide) (fun c19 => ?_) (fun c19 => ?_)
    · refine lv_aload_n hx hb dX4_next_26 rfl (lv_at hl 0 rfl) ?_
      refine x_get (v := .ref (E.2.2.2 45)) S hW hinX4 40 (xw_40 E _) rfl 9 (by decide) w22 rfl dX4_next_27 ?_
      refine lv_iload_n hx hb dX4_next_30 rfl (lv_at hl 1 rfl) ?_
      refine x_ildN (k := p1) (v := ((f 24) p1)) S hW 45 (xw_45 E _) (rfl) (show p1 < 144 from by omega) (by decide) rfl dX4_next_31 ?_
      refine x_topE (gSt Γ p1) (hR.st _ h1) ?_
      exact x_reti S hr hlk hW dX4_next_32 (⟨by rw [bz_e c1]; exact (if_pos c19).symm, rfl⟩)
    · refine lv_iconst (v := (-1)) hx hb dX4_next_22 (by decide) ?_
      refine lv_goto (tgt := 32) hx hb dX4_next_23 (by decide) ?_
      exact x_reti S hr hlk hW dX4_next_32 (⟨by rw [bz_e c1]; exact (if_neg c19).symm, rfl⟩)
  · refine lv_aload_n hx hb dX4_next_4 rfl (lv_at hl 0 rfl) ?_
    refine x_get (v := .ref (E.2.2.2 43)) S hW hinX4 40 (xw_40 E _) rfl 7 (by decide) w16 rfl dX4_next_5 ?_
    refine lv_iload_n hx hb dX4_next_8 rfl (lv_at hl 1 rfl) ?_
    refine x_ildN (k := p1) (v := ((f 22) p1)) S hW 43 (xw_43 E _) (rfl) (show p1 < 144 from by omega) (by decide) rfl dX4_next_9 ?_
    refine x_topE (gCb Γ p1) (hR.cb _ h1) ?_
    refine lv_goto (tgt := 32) hx hb dX4_next_10 (by decide) ?_
    exact x_reti S hr hlk hW dX4_next_32 (⟨by rw [bz_t c1]; rfl, rfl⟩)

abbrev rmX4_joins : Room := { frames := 0, cells := 0, slots := 0, locals := 0 }
set_option maxHeartbeats 4000000 in
set_option maxRecDepth 100000 in
theorem c_X4_joins (l : Launch) (E : xE) (n : Nat → Int32) (f : Nat → Nat → Int32) (o : Nat → Int64) {nt : Nat} (hnt : n 13 = nI nt) {p1 : Nat} (h1 : p1 < 144) {p2 : Nat} : xCv l yX4_joins wsX4_joins rmX4_joins E [.ref (E.2.2.2 40), .int (nI p1), .int (nI p2)] (n, f, o) (fun σ' => σ' = (n, xu (xu (xu f 24 (upd (f 24) p1 (nI p2))) 25 (upd (f 25) p1 (nI nt))) 26 (upd (f 26) p1 0), o)) := by
  refine x_startv RX4 (by decide) rfl rfl (Nat.le_of_ble_eq_true rfl) ?_
  intro p e s m args below meth c ls S hr hlk hW hl
  have hx := S.1
  have hb := S.2.1
  have hl : lv_has ls 3 [(0, .ref (E.2.2.2 40)), (1, .int (nI p1)), (2, .int (nI p2))] := hl
  have hinX4 : ∀ w ∈ wsX40, w ∈ wsX4_joins := by decide +kernel
  have w22 : Cond.fieldLink RX4 22 "CableBookModel" "strands" "[I" ∈ wsX4_joins := by decide +kernel
  have w25 : Cond.fieldLink RX4 25 "CableBookModel" "trunksOf" "[I" ∈ wsX4_joins := by decide +kernel
  have w28 : Cond.fieldLink RX4 28 "CableBookModel" "areBroken" "[Z" ∈ wsX4_joins := by decide +kernel
  have w94 : Cond.fieldLink RX4 94 "CableBookModel" "trunks" "I" ∈ wsX4_joins := by decide +kernel
  refine lv_aload_n hx hb dX4_joins_0 rfl (lv_at hl 0 rfl) ?_
  refine x_get (v := .ref (E.2.2.2 45)) S hW hinX4 40 (xw_40 E _) rfl 9 (by decide) w22 rfl dX4_joins_1 ?_
  refine lv_iload_n hx hb dX4_joins_4 rfl (lv_at hl 1 rfl) ?_
  refine lv_iload_n hx hb dX4_joins_5 rfl (lv_at hl 2 rfl) ?_
  refine x_istN (k := p1) (σ' := (n, (xu f 24 (upd (f 24) p1 (nI p2))), o)) S hW 45 (xw_45 E _) (rfl) (show p1 < 144 from by omega) (by decide) (xw_S24 E _ _ _ _) dX4_joins_6 (fun H locs hW => ?_)
  refine lv_aload_n hx hb dX4_joins_7 rfl (lv_at hl 0 rfl) ?_
  refine x_get (v := .ref (E.2.2.2 46)) S hW hinX4 40 (xw_40 E _) rfl 10 (by decide) w25 rfl dX4_joins_8 ?_
  refine lv_iload_n hx hb dX4_joins_11 rfl (lv_at hl 1 rfl) ?_
  refine lv_aload_n hx hb dX4_joins_12 rfl (lv_at hl 0 rfl) ?_
  refine x_get (v := .int (n 13)) S hW hinX4 40 (xw_40 E _) rfl 3 (by decide) w94 rfl dX4_joins_13 ?_
  refine x_topN (nt) (hnt) ?_
  refine x_istN (k := p1) (σ' := (n, (xu (xu f 24 (upd (f 24) p1 (nI p2))) 25 (upd (f 25) p1 (nI nt))), o)) S hW 46 (xw_46 E _) (rfl) (show p1 < 144 from by omega) (by decide) (xw_S25 E _ _ _ _) dX4_joins_16 (fun H locs hW => ?_)
  refine lv_aload_n hx hb dX4_joins_17 rfl (lv_at hl 0 rfl) ?_
  refine x_get (v := .ref (E.2.2.2 47)) S hW hinX4 40 (xw_40 E _) rfl 11 (by decide) w28 rfl dX4_joins_18 ?_
  refine lv_iload_n hx hb dX4_joins_21 rfl (lv_at hl 1 rfl) ?_
  refine lv_iconst (v := 0) hx hb dX4_joins_22 (by decide) ?_
  refine x_zstN (k := p1) (σ' := (n, (xu (xu (xu f 24 (upd (f 24) p1 (nI p2))) 25 (upd (f 25) p1 (nI nt))) 26 (upd (f 26) p1 0)), o)) S hW 47 (xw_47 E _) (rfl) (show p1 < 144 from by omega) (by decide) (Or.inl rfl) (xw_S26 E _ _ _ _) dX4_joins_23 (fun H locs hW => ?_)
  exact x_retv S hr hlk hW dX4_joins_24 (rfl)

abbrev rmX4_errorOfTrunk : Room := { frames := 3, cells := 0, slots := 0, locals := 65 }
set_option maxHeartbeats 4000000 in
set_option maxRecDepth 100000 in
theorem c_X4_errorOfTrunk (l : Launch) (E : xE) (n : Nat → Int32) (f : Nat → Nat → Int32) (o : Nat → Int64) (Γ : xG) (hG : xGood Γ) (hR : xRepR Γ n f) (a a2 a3 a4 : Int32) : xCi l yX4_errorOfTrunk wsX4_errorOfTrunk rmX4_errorOfTrunk E [.ref (E.2.2.2 40), .int a, .int a2, .int a3, .int a4] (n, f, o) (fun r σ' => r = nI (ocTrunk Γ a a2 a3 a4) ∧ σ' = (n, f, o)) := by
  refine x_starti RX4 (by decide) rfl rfl (Nat.le_of_ble_eq_true rfl) ?_
  intro p e s m args below meth c ls S hr hlk hW hl
  have hx := S.1
  have hb := S.2.1
  have hl : lv_has ls 7 [(0, .ref (E.2.2.2 40)), (1, .int a), (2, .int a2), (3, .int a3), (4, .int a4)] := hl
  have hinX4 : ∀ w ∈ wsX40, w ∈ wsX4_errorOfTrunk := by decide +kernel
  have w22 : Cond.fieldLink RX4 22 "CableBookModel" "strands" "[I" ∈ wsX4_errorOfTrunk := by decide +kernel
  have w94 : Cond.fieldLink RX4 94 "CableBookModel" "trunks" "I" ∈ wsX4_errorOfTrunk := by decide +kernel
  have hno := hG.no
  have hnp := hG.np
  have hnt := hG.nt
  have hnm := hG.nm
  refine lv_aload_n hx hb dX4_errorOfTrunk_0 rfl (lv_at hl 0 rfl) ?_
  refine lv_iload_n hx hb dX4_errorOfTrunk_1 rfl (lv_at hl 1 rfl) ?_
  refine lv_iload_n hx hb dX4_errorOfTrunk_2 rfl (lv_at hl 2 rfl) ?_
  refine x_Vi (rest := []) S (c_X4_arePorts l E n f o Γ hG hR a a2) (cwV 2 S.2.2.2.2 gX4_errorOfTrunk_X4_arePorts rfl rfl rfl (by decide +kernel) ⟨Nat.le_of_ble_eq_true rfl, Nat.le_of_ble_eq_true rfl⟩) hW 40 (xw_40 E _) rfl rfl rfl hl.1 (Nat.le_of_ble_eq_true rfl) dX4_errorOfTrunk_3 ⟨Nat.zero_le _, Nat.zero_le _⟩ (fun r3 σ3 H locs hq1 hW => ?_)
  rcases hq1 with ⟨rfl, h3, rfl⟩ | ⟨rfl, h3, rfl⟩
  · refine lv_if_ne (tgt := 11) hx hb dX4_errorOfTrunk_6 (by decide) (fun c6 => ?_) (fun c6 => ?_)
    · exact absurd c6 (by decide)
    refine lv_iconst (v := 1) hx hb dX4_errorOfTrunk_9 (by decide) ?_
    exact x_reti S hr hlk hW dX4_errorOfTrunk_10 (⟨by rw [ocTrunk, xif_t h3]; rfl, rfl⟩)
  · obtain ⟨⟨q4, hq4, rfl⟩, q5, hq5, rfl⟩ := h3
    refine lv_if_ne (tgt := 11) hx hb dX4_errorOfTrunk_6 (by decide) (fun c6 => ?_) (fun c6 => ?_)
    rotate_left
    · exact absurd c6 (by decide)
    refine lv_iload_n hx hb dX4_errorOfTrunk_11 rfl (lv_at hl 3 rfl) ?_
    refine lv_iconst (v := 1) hx hb dX4_errorOfTrunk_12 (by decide) ?_
    refine lv_bipush (v := 12) hx hb dX4_errorOfTrunk_13 (by decide) ?_
    refine x_Si (rest := []) S (c_X4_in l E n f o a3 1 12) (cwS 3 S.2.2.2.2 gX4_errorOfTrunk_X4_in rfl rfl rfl (by decide +kernel) ⟨Nat.le_of_ble_eq_true rfl, Nat.le_of_ble_eq_true rfl⟩) hW rfl rfl hl.1 (Nat.le_of_ble_eq_true rfl) dX4_errorOfTrunk_15 ⟨Nat.zero_le _, Nat.zero_le _⟩ (fun r15 σ15 H locs hq2 hW => ?_)
    rcases hq2 with ⟨rfl, h15, rfl⟩ | ⟨rfl, h15, rfl⟩
    · refine lv_if_eq (tgt := 64) hx hb dX4_errorOfTrunk_18 (by decide) (fun c18 => ?_) (fun c18 => ?_)
      rotate_left
      · exact absurd c18 (by decide)
      refine lv_iconst (v := 2) hx hb dX4_errorOfTrunk_64 (by decide) ?_
      exact x_reti S hr hlk hW dX4_errorOfTrunk_65 (⟨by rw [ocTrunk, xif_f (not_not_intro ⟨xPn hq4, xPn hq5⟩), xif_t (by first | exact Or.inl h15 | exact Or.inr (Or.inl h27) | (right; right; rw [xNa_n (by omega), xNa_n (by omega), xNa_n (by omega)]; first | exact Or.inl c43 | (right; omega)))]; rfl, rfl⟩)
    · have h15b := h15
      obtain ⟨c9, hc1, hc2, rfl⟩ := xin112 h15
      refine lv_if_eq (tgt := 64) hx hb dX4_errorOfTrunk_18 (by decide) (fun c18 => ?_) (fun c18 => ?_)
      · exact absurd c18 (by decide)
      refine lv_iload hx hb dX4_errorOfTrunk_21 (lv_at hl 4 rfl) ?_
      refine lv_iconst (v := 1) hx hb dX4_errorOfTrunk_23 (by decide) ?_
      refine lv_sipush (v := 500) hx hb dX4_errorOfTrunk_24 (by decide) ?_
      refine x_Si (rest := []) S (c_X4_in l E n f o a4 1 500) (cwS 3 S.2.2.2.2 gX4_errorOfTrunk_X4_in rfl rfl rfl (by decide +kernel) ⟨Nat.le_of_ble_eq_true rfl, Nat.le_of_ble_eq_true rfl⟩) hW rfl rfl hl.1 (Nat.le_of_ble_eq_true rfl) dX4_errorOfTrunk_27 ⟨Nat.zero_le _, Nat.zero_le _⟩ (fun r27 σ27 H locs hq3 hW => ?_)
      rcases hq3 with ⟨rfl, h27, rfl⟩ | ⟨rfl, h27, rfl⟩
      · refine lv_if_eq (tgt := 64) hx hb dX4_errorOfTrunk_30 (by decide) (fun c30 => ?_) (fun c30 => ?_)
        rotate_left
        · exact absurd c30 (by decide)
        refine lv_iconst (v := 2) hx hb dX4_errorOfTrunk_64 (by decide) ?_
        exact x_reti S hr hlk hW dX4_errorOfTrunk_65 (⟨by rw [ocTrunk, xif_f (not_not_intro ⟨xPn hq4, xPn hq5⟩), xif_t (by first | exact Or.inl h15 | exact Or.inr (Or.inl h27) | (right; right; rw [xNa_n (by omega), xNa_n (by omega), xNa_n (by omega)]; first | exact Or.inl c43 | (right; omega)))]; rfl, rfl⟩)
      · refine lv_if_eq (tgt := 64) hx hb dX4_errorOfTrunk_30 (by decide) (fun c30 => ?_) (fun c30 => ?_)
        · exact absurd c30 (by decide)
        have a1 := hG.pn q4 hq4
        have a2 := hG.fno (k := gPn Γ q4 + 1) (by omega)
        have b1 := hG.pn q5 hq5
        have b2 := hG.fno (k := gPn Γ q5 + 1) (by omega)
        refine lv_aload_n hx hb dX4_errorOfTrunk_33 rfl (lv_at hl 0 rfl) ?_
        refine lv_iload_n hx hb dX4_errorOfTrunk_34 rfl (lv_at hl 1 rfl) ?_
        refine x_Vi (rest := []) S (c_X4_panel l E n f o Γ hG hR (p1 := q4) hq4) (cwV 1 S.2.2.2.2 gX4_errorOfTrunk_X4_panel rfl rfl rfl (by decide +kernel) ⟨Nat.le_of_ble_eq_true rfl, Nat.le_of_ble_eq_true rfl⟩) hW 40 (xw_40 E _) rfl rfl rfl hl.1 (Nat.le_of_ble_eq_true rfl) dX4_errorOfTrunk_35 ⟨Nat.zero_le _, Nat.zero_le _⟩ (fun r35 σ35 H locs hq4 hW => ?_)
        obtain ⟨rfl, rfl⟩ := hq4
        refine lv_aload_n hx hb dX4_errorOfTrunk_38 rfl (lv_at hl 0 rfl) ?_
        refine lv_iload_n hx hb dX4_errorOfTrunk_39 rfl (lv_at hl 2 rfl) ?_
        refine x_Vi (rest := [.int (nI (gPn Γ q4))]) S (c_X4_panel l E n f o Γ hG hR (p1 := q5) hq5) (cwV 1 S.2.2.2.2 gX4_errorOfTrunk_X4_panel rfl rfl rfl (by decide +kernel) ⟨Nat.le_of_ble_eq_true rfl, Nat.le_of_ble_eq_true rfl⟩) hW 40 (xw_40 E _) rfl rfl rfl hl.1 (Nat.le_of_ble_eq_true rfl) dX4_errorOfTrunk_40 ⟨Nat.zero_le _, Nat.zero_le _⟩ (fun r40 σ40 H locs hq5 hW => ?_)
        obtain ⟨rfl, rfl⟩ := hq5
        refine x_icmp_eq (a := gPn Γ q4) (b := gPn Γ q5) (tgt := 64) hx hb dX4_errorOfTrunk_43 (by decide) (by omega) (by omega) (fun c43 => ?_) (fun c43 => ?_)
        · refine lv_iconst (v := 2) hx hb dX4_errorOfTrunk_64 (by decide) ?_
          exact x_reti S hr hlk hW dX4_errorOfTrunk_65 (⟨by rw [ocTrunk, xif_f (not_not_intro ⟨xPn hq4, xPn hq5⟩), xif_t (by first | exact Or.inl h15 | exact Or.inr (Or.inl h27) | (right; right; rw [xNa_n (by omega), xNa_n (by omega), xNa_n (by omega)]; first | exact Or.inl c43 | (right; omega)))]; rfl, rfl⟩)
        · refine lv_aload_n hx hb dX4_errorOfTrunk_46 rfl (lv_at hl 0 rfl) ?_
          refine lv_iload_n hx hb dX4_errorOfTrunk_47 rfl (lv_at hl 1 rfl) ?_
          refine lv_iload_n hx hb dX4_errorOfTrunk_48 rfl (lv_at hl 3 rfl) ?_
          refine x_Vi (rest := []) S (c_X4_isBehind l E n f o Γ hG hR (p1 := q4) hq4 (c9 := c9) (by omega)) (cwV 2 S.2.2.2.2 gX4_errorOfTrunk_X4_isBehind rfl rfl rfl (by decide +kernel) ⟨Nat.le_of_ble_eq_true rfl, Nat.le_of_ble_eq_true rfl⟩) hW 40 (xw_40 E _) rfl rfl rfl hl.1 (Nat.le_of_ble_eq_true rfl) dX4_errorOfTrunk_49 ⟨Nat.zero_le _, Nat.zero_le _⟩ (fun r49 σ49 H locs hq6 hW => ?_)
          rcases hq6 with ⟨rfl, h49, rfl⟩ | ⟨rfl, h49, rfl⟩
          · refine lv_if_eq (tgt := 64) hx hb dX4_errorOfTrunk_52 (by decide) (fun c52 => ?_) (fun c52 => ?_)
            rotate_left
            · exact absurd c52 (by decide)
            refine lv_iconst (v := 2) hx hb dX4_errorOfTrunk_64 (by decide) ?_
            exact x_reti S hr hlk hW dX4_errorOfTrunk_65 (⟨by rw [ocTrunk, xif_f (not_not_intro ⟨xPn hq4, xPn hq5⟩), xif_t (by first | exact Or.inl h15 | exact Or.inr (Or.inl h27) | (right; right; rw [xNa_n (by omega), xNa_n (by omega), xNa_n (by omega)]; first | exact Or.inl c43 | (right; omega)))]; rfl, rfl⟩)
          · refine lv_if_eq (tgt := 64) hx hb dX4_errorOfTrunk_52 (by decide) (fun c52 => ?_) (fun c52 => ?_)
            · exact absurd c52 (by decide)
            refine lv_aload_n hx hb dX4_errorOfTrunk_55 rfl (lv_at hl 0 rfl) ?_
            refine lv_iload_n hx hb dX4_errorOfTrunk_56 rfl (lv_at hl 2 rfl) ?_
            refine lv_iload_n hx hb dX4_errorOfTrunk_57 rfl (lv_at hl 3 rfl) ?_
            refine x_Vi (rest := []) S (c_X4_isBehind l E n f o Γ hG hR (p1 := q5) hq5 (c9 := c9) (by omega)) (cwV 2 S.2.2.2.2 gX4_errorOfTrunk_X4_isBehind rfl rfl rfl (by decide +kernel) ⟨Nat.le_of_ble_eq_true rfl, Nat.le_of_ble_eq_true rfl⟩) hW 40 (xw_40 E _) rfl rfl rfl hl.1 (Nat.le_of_ble_eq_true rfl) dX4_errorOfTrunk_58 ⟨Nat.zero_le _, Nat.zero_le _⟩ (fun r58 σ58 H locs hq7 hW => ?_)
            rcases hq7 with ⟨rfl, h58, rfl⟩ | ⟨rfl, h58, rfl⟩
            · refine lv_if_ne (tgt := 66) hx hb dX4_errorOfTrunk_61 (by decide) (fun c61 => ?_) (fun c61 => ?_)
              · exact absurd c61 (by decide)
              refine lv_iconst (v := 2) hx hb dX4_errorOfTrunk_64 (by decide) ?_
              exact x_reti S hr hlk hW dX4_errorOfTrunk_65 (⟨by rw [ocTrunk, xif_f (not_not_intro ⟨xPn hq4, xPn hq5⟩), xif_t (by first | exact Or.inl h15 | exact Or.inr (Or.inl h27) | (right; right; rw [xNa_n (by omega), xNa_n (by omega), xNa_n (by omega)]; first | exact Or.inl c43 | (right; omega)))]; rfl, rfl⟩)
            · refine lv_if_ne (tgt := 66) hx hb dX4_errorOfTrunk_61 (by decide) (fun c61 => ?_) (fun c61 => ?_)
              rotate_left
              · exact absurd c61 (by decide)
              refine lv_aload_n hx hb dX4_errorOfTrunk_66 rfl (lv_at hl 0 rfl) ?_
              refine x_get (v := .int (n 13)) S hW hinX4 40 (xw_40 E _) rfl 3 (by decide) w94 rfl dX4_errorOfTrunk_67 ?_
              refine x_topN (gNt Γ) (hR.nt) ?_
              refine lv_bipush (v := 10) hx hb dX4_errorOfTrunk_70 (by decide) ?_
              refine x_icmp_ne (a := gNt Γ) (b := 10) (tgt := 79) hx hb dX4_errorOfTrunk_72 (by decide) (by omega) (by omega) (fun c72 => ?_) (fun c72 => ?_)
              · refine lv_iconst (v := 0) hx hb dX4_errorOfTrunk_79 (by decide) ?_
                refine lv_istore (lv' := [(5, .int 0), (0, .ref (E.2.2.2 40)), (1, .int (nI q4)), (2, .int (nI q5)), (3, .int (nI c9)), (4, .int a4)]) hx hb dX4_errorOfTrunk_80 hl (by decide) rfl (fun ls hl => ?_)
                refine lv_iconst (v := 0) hx hb dX4_errorOfTrunk_82 (by decide) ?_
                refine lv_istore (lv' := [(6, .int 0), (5, .int 0), (0, .ref (E.2.2.2 40)), (1, .int (nI q4)), (2, .int (nI q5)), (3, .int (nI c9)), (4, .int a4)]) hx hb dX4_errorOfTrunk_83 hl (by decide) rfl (fun ls hl => ?_)
                have L85 : ∀ (fu85 : Nat) (v5 : Int32) (i : Nat) (hμ85 : c9 + 1 - i < fu85) (hi : i ≤ c9) (hv : (v5 = 1 ∧ (gNt Γ = 10 ∨ ∃ j, j < i ∧ (gSt Γ (q4 + j) ≠ -1 ∨ gSt Γ (q5 + j) ≠ -1))) ∨ (v5 = 0 ∧ ¬ gNt Γ = 10 ∧ ∀ j, j < i → gSt Γ (q4 + j) = -1 ∧ gSt Γ (q5 + j) = -1)) (H : Heap) (locs : List Loc) (ls : Array Slot), xSt E (n, f, o) s s.heap H locs → lv_has ls 7 [(0, .ref (E.2.2.2 40)), (1, .int (nI q4)), (2, .int (nI q5)), (3, .int (nI c9)), (5, .int v5), (6, .int (nI i))] → W p l e rmX4_errorOfTrunk s m args below meth c H locs 0 0 (MQ below (va_Qi (fun r σ' => r = nI (ocTrunk Γ (nI q4) (nI q5) (nI c9) a4) ∧ σ' = (n, f, o)) (xWd E) (xA E)) args s 0 0 (xA E)) (F0 m 85 ls []) := by
                  intro fu85
                  induction fu85 with
                  | zero => intro v5 i hμ85; exact absurd hμ85 (Nat.not_lt_zero _)
                  | succ fu85 L85 =>
                    intro v5 i hμ85 hi hv H locs ls hW hl
                    refine lv_iload hx hb dX4_errorOfTrunk_85 (lv_at hl 5 rfl) ?_
                    refine lv_iload_n hx hb dX4_errorOfTrunk_87 rfl (lv_at hl 3 rfl) ?_
                    refine x_icmp_ge (a := i) (b := c9) (tgt := 135) hx hb dX4_errorOfTrunk_88 (by decide) (by omega) (by omega) (fun c88 => ?_) (fun c88 => ?_)
                    · refine lv_iload hx hb dX4_errorOfTrunk_135 (lv_at hl 4 rfl) ?_
                      refine lv_if_eq (tgt := 144) hx hb dX4_errorOfTrunk_137 (by decide) (fun c137 => ?_) (fun c137 => ?_)
                      · refine lv_iconst (v := 0) hx hb dX4_errorOfTrunk_144 (by decide) ?_
                        exact x_reti S hr hlk hW dX4_errorOfTrunk_145 (⟨by rw [ocTrunk, xif_f (not_not_intro ⟨xPn hq4, xPn hq5⟩), xif_f (not_or.mpr ⟨not_not_intro h15, not_or.mpr ⟨not_not_intro h27, fun h => by rw [xNa_n (by omega), xNa_n (by omega), xNa_n (by omega)] at h; omega⟩⟩), xif_f (by rw [xNa_n (by omega), xNa_n (by omega), xNa_n (by omega)]; rcases hv with ⟨h, -⟩ | ⟨-, h1, h2⟩; exact absurd (h.symm.trans c137) (by decide); exact not_or.mpr ⟨h1, fun ⟨j, hj, e⟩ => e.elim (fun e => e (h2 j (by omega)).1) (fun e => e (h2 j (by omega)).2)⟩)]; rfl, rfl⟩)
                      · refine lv_iconst (v := 3) hx hb dX4_errorOfTrunk_140 (by decide) ?_
                        refine lv_goto (tgt := 145) hx hb dX4_errorOfTrunk_141 (by decide) ?_
                        exact x_reti S hr hlk hW dX4_errorOfTrunk_145 (⟨by rw [ocTrunk, xif_f (not_not_intro ⟨xPn hq4, xPn hq5⟩), xif_f (not_or.mpr ⟨not_not_intro h15, not_or.mpr ⟨not_not_intro h27, fun h => by rw [xNa_n (by omega), xNa_n (by omega), xNa_n (by omega)] at h; omega⟩⟩), xif_t (by rw [xNa_n (by omega), xNa_n (by omega), xNa_n (by omega)]; rcases hv with ⟨-, h⟩ | ⟨h, -⟩; rcases h with h | ⟨j, hj, e⟩; exact Or.inl h; exact Or.inr ⟨j, by omega, e⟩; exact absurd h c137)]; rfl, rfl⟩)
                    · refine lv_iload hx hb dX4_errorOfTrunk_91 (lv_at hl 4 rfl) ?_
                      refine lv_if_ne (tgt := 122) hx hb dX4_errorOfTrunk_93 (by decide) (fun c93 => ?_) (fun c93 => ?_)
                      · refine lv_iconst (v := 1) hx hb dX4_errorOfTrunk_122 (by decide) ?_
                        refine lv_goto (tgt := 127) hx hb dX4_errorOfTrunk_123 (by decide) ?_
                        refine lv_istore (lv' := [(5, .int 1), (0, .ref (E.2.2.2 40)), (1, .int (nI q4)), (2, .int (nI q5)), (3, .int (nI c9)), (6, .int (nI i))]) hx hb dX4_errorOfTrunk_127 hl (by decide) rfl (fun ls hl => ?_)
                        refine lv_iinc (v := (nI (i + 1))) (lv' := [(6, .int (nI (i + 1))), (5, .int 1), (0, .ref (E.2.2.2 40)), (1, .int (nI q4)), (2, .int (nI q5)), (3, .int (nI c9))]) hx hb dX4_errorOfTrunk_129 hl (k := 5) rfl (x_inc _) (by decide) rfl (fun ls hl => ?_)
                        refine lv_goto (tgt := 85) hx hb dX4_errorOfTrunk_132 (by decide) ?_
                        exact L85  (1) (i + 1) (by omega) (by omega) (Or.inl ⟨rfl, by first | exact xer1 hv c93 | exact Or.inr ⟨i, by omega, Or.inl c106⟩ | exact Or.inr ⟨i, by omega, Or.inr c119⟩⟩) _ _ _ hW (lv_sub hl [2, 3, 4, 5, 1, 0] rfl)
                      · refine lv_aload_n hx hb dX4_errorOfTrunk_96 rfl (lv_at hl 0 rfl) ?_
                        refine x_get (v := .ref (E.2.2.2 45)) S hW hinX4 40 (xw_40 E _) rfl 9 (by decide) w22 rfl dX4_errorOfTrunk_97 ?_
                        refine lv_iload_n hx hb dX4_errorOfTrunk_100 rfl (lv_at hl 1 rfl) ?_
                        refine lv_iload hx hb dX4_errorOfTrunk_101 (lv_at hl 5 rfl) ?_
                        refine x_iadd (a := q4) (b := i) hx hb dX4_errorOfTrunk_103 ?_
                        refine x_ildN (k := q4 + i) (v := ((f 24) (q4 + i))) S hW 45 (xw_45 E _) (rfl) (show q4 + i < 144 from by omega) (by decide) rfl dX4_errorOfTrunk_104 ?_
                        refine x_topE (gSt Γ (q4 + i)) (hR.st _ (by omega)) ?_
                        refine lv_iconst (v := (-1)) hx hb dX4_errorOfTrunk_105 (by decide) ?_
                        refine lv_icmp_ne (tgt := 122) hx hb dX4_errorOfTrunk_106 (by decide) (fun c106 => ?_) (fun c106 => ?_)
                        · refine lv_iconst (v := 1) hx hb dX4_errorOfTrunk_122 (by decide) ?_
                          refine lv_goto (tgt := 127) hx hb dX4_errorOfTrunk_123 (by decide) ?_
                          refine lv_istore (lv' := [(5, .int 1), (0, .ref (E.2.2.2 40)), (1, .int (nI q4)), (2, .int (nI q5)), (3, .int (nI c9)), (6, .int (nI i))]) hx hb dX4_errorOfTrunk_127 hl (by decide) rfl (fun ls hl => ?_)
                          refine lv_iinc (v := (nI (i + 1))) (lv' := [(6, .int (nI (i + 1))), (5, .int 1), (0, .ref (E.2.2.2 40)), (1, .int (nI q4)), (2, .int (nI q5)), (3, .int (nI c9))]) hx hb dX4_errorOfTrunk_129 hl (k := 5) rfl (x_inc _) (by decide) rfl (fun ls hl => ?_)
                          refine lv_goto (tgt := 85) hx hb dX4_errorOfTrunk_132 (by decide) ?_
                          exact L85  (1) (i + 1) (by omega) (by omega) (Or.inl ⟨rfl, by first | exact xer1 hv c93 | exact Or.inr ⟨i, by omega, Or.inl c106⟩ | exact Or.inr ⟨i, by omega, Or.inr c119⟩⟩) _ _ _ hW (lv_sub hl [2, 3, 4, 5, 1, 0] rfl)
                        · refine lv_aload_n hx hb dX4_errorOfTrunk_109 rfl (lv_at hl 0 rfl) ?_
                          refine x_get (v := .ref (E.2.2.2 45)) S hW hinX4 40 (xw_40 E _) rfl 9 (by decide) w22 rfl dX4_errorOfTrunk_110 ?_
                          refine lv_iload_n hx hb dX4_errorOfTrunk_113 rfl (lv_at hl 2 rfl) ?_
                          refine lv_iload hx hb dX4_errorOfTrunk_114 (lv_at hl 5 rfl) ?_
                          refine x_iadd (a := q5) (b := i) hx hb dX4_errorOfTrunk_116 ?_
                          refine x_ildN (k := q5 + i) (v := ((f 24) (q5 + i))) S hW 45 (xw_45 E _) (rfl) (show q5 + i < 144 from by omega) (by decide) rfl dX4_errorOfTrunk_117 ?_
                          refine x_topE (gSt Γ (q5 + i)) (hR.st _ (by omega)) ?_
                          refine lv_iconst (v := (-1)) hx hb dX4_errorOfTrunk_118 (by decide) ?_
                          refine lv_icmp_eq (tgt := 126) hx hb dX4_errorOfTrunk_119 (by decide) (fun c119 => ?_) (fun c119 => ?_)
                          · refine lv_iconst (v := 0) hx hb dX4_errorOfTrunk_126 (by decide) ?_
                            refine lv_istore (lv' := [(5, .int 0), (0, .ref (E.2.2.2 40)), (1, .int (nI q4)), (2, .int (nI q5)), (3, .int (nI c9)), (6, .int (nI i))]) hx hb dX4_errorOfTrunk_127 hl (by decide) rfl (fun ls hl => ?_)
                            refine lv_iinc (v := (nI (i + 1))) (lv' := [(6, .int (nI (i + 1))), (5, .int 0), (0, .ref (E.2.2.2 40)), (1, .int (nI q4)), (2, .int (nI q5)), (3, .int (nI c9))]) hx hb dX4_errorOfTrunk_129 hl (k := 5) rfl (x_inc _) (by decide) rfl (fun ls hl => ?_)
                            refine lv_goto (tgt := 85) hx hb dX4_errorOfTrunk_132 (by decide) ?_
                            exact L85  (0) (i + 1) (by omega) (by omega) (Or.inr ⟨rfl, xer2 hv c93 c106 c119⟩) _ _ _ hW (lv_sub hl [2, 3, 4, 5, 1, 0] rfl)
                          · refine lv_iconst (v := 1) hx hb dX4_errorOfTrunk_122 (by decide) ?_
                            refine lv_goto (tgt := 127) hx hb dX4_errorOfTrunk_123 (by decide) ?_
                            refine lv_istore (lv' := [(5, .int 1), (0, .ref (E.2.2.2 40)), (1, .int (nI q4)), (2, .int (nI q5)), (3, .int (nI c9)), (6, .int (nI i))]) hx hb dX4_errorOfTrunk_127 hl (by decide) rfl (fun ls hl => ?_)
                            refine lv_iinc (v := (nI (i + 1))) (lv' := [(6, .int (nI (i + 1))), (5, .int 1), (0, .ref (E.2.2.2 40)), (1, .int (nI q4)), (2, .int (nI q5)), (3, .int (nI c9))]) hx hb dX4_errorOfTrunk_129 hl (k := 5) rfl (x_inc _) (by decide) rfl (fun ls hl => ?_)
                            refine lv_goto (tgt := 85) hx hb dX4_errorOfTrunk_132 (by decide) ?_
                            exact L85  (1) (i + 1) (by omega) (by omega) (Or.inl ⟨rfl, by first | exact xer1 hv c93 | exact Or.inr ⟨i, by omega, Or.inl c106⟩ | exact Or.inr ⟨i, by omega, Or.inr c119⟩⟩) _ _ _ hW (lv_sub hl [2, 3, 4, 5, 1, 0] rfl)
                exact L85 _ (0) (0) (Nat.lt_succ_self _) (by omega) (Or.inr ⟨rfl, c72, fun j hj => absurd hj (Nat.not_lt_zero j)⟩) _ _ _ hW (lv_sub hl [2, 3, 4, 5, 1, 0] rfl)
              · refine lv_iconst (v := 1) hx hb dX4_errorOfTrunk_75 (by decide) ?_
                refine lv_goto (tgt := 80) hx hb dX4_errorOfTrunk_76 (by decide) ?_
                refine lv_istore (lv' := [(5, .int 1), (0, .ref (E.2.2.2 40)), (1, .int (nI q4)), (2, .int (nI q5)), (3, .int (nI c9)), (4, .int a4)]) hx hb dX4_errorOfTrunk_80 hl (by decide) rfl (fun ls hl => ?_)
                refine lv_iconst (v := 0) hx hb dX4_errorOfTrunk_82 (by decide) ?_
                refine lv_istore (lv' := [(6, .int 0), (5, .int 1), (0, .ref (E.2.2.2 40)), (1, .int (nI q4)), (2, .int (nI q5)), (3, .int (nI c9)), (4, .int a4)]) hx hb dX4_errorOfTrunk_83 hl (by decide) rfl (fun ls hl => ?_)
                have L85 : ∀ (fu85 : Nat) (v5 : Int32) (i : Nat) (hμ85 : c9 + 1 - i < fu85) (hi : i ≤ c9) (hv : (v5 = 1 ∧ (gNt Γ = 10 ∨ ∃ j, j < i ∧ (gSt Γ (q4 + j) ≠ -1 ∨ gSt Γ (q5 + j) ≠ -1))) ∨ (v5 = 0 ∧ ¬ gNt Γ = 10 ∧ ∀ j, j < i → gSt Γ (q4 + j) = -1 ∧ gSt Γ (q5 + j) = -1)) (H : Heap) (locs : List Loc) (ls : Array Slot), xSt E (n, f, o) s s.heap H locs → lv_has ls 7 [(0, .ref (E.2.2.2 40)), (1, .int (nI q4)), (2, .int (nI q5)), (3, .int (nI c9)), (5, .int v5), (6, .int (nI i))] → W p l e rmX4_errorOfTrunk s m args below meth c H locs 0 0 (MQ below (va_Qi (fun r σ' => r = nI (ocTrunk Γ (nI q4) (nI q5) (nI c9) a4) ∧ σ' = (n, f, o)) (xWd E) (xA E)) args s 0 0 (xA E)) (F0 m 85 ls []) := by
                  intro fu85
                  induction fu85 with
                  | zero => intro v5 i hμ85; exact absurd hμ85 (Nat.not_lt_zero _)
                  | succ fu85 L85 =>
                    intro v5 i hμ85 hi hv H locs ls hW hl
                    refine lv_iload hx hb dX4_errorOfTrunk_85 (lv_at hl 5 rfl) ?_
                    refine lv_iload_n hx hb dX4_errorOfTrunk_87 rfl (lv_at hl 3 rfl) ?_
                    refine x_icmp_ge (a := i) (b := c9) (tgt := 135) hx hb dX4_errorOfTrunk_88 (by decide) (by omega) (by omega) (fun c88 => ?_) (fun c88 => ?_)
                    · refine lv_iload hx hb dX4_errorOfTrunk_135 (lv_at hl 4 rfl) ?_
                      refine lv_if_eq (tgt := 144) hx hb dX4_errorOfTrunk_137 (by decide) (fun c137 => ?_) (fun c137 => ?_)
                      · refine lv_iconst (v := 0) hx hb dX4_errorOfTrunk_144 (by decide) ?_
                        exact x_reti S hr hlk hW dX4_errorOfTrunk_145 (⟨by rw [ocTrunk, xif_f (not_not_intro ⟨xPn hq4, xPn hq5⟩), xif_f (not_or.mpr ⟨not_not_intro h15, not_or.mpr ⟨not_not_intro h27, fun h => by rw [xNa_n (by omega), xNa_n (by omega), xNa_n (by omega)] at h; omega⟩⟩), xif_f (by rw [xNa_n (by omega), xNa_n (by omega), xNa_n (by omega)]; rcases hv with ⟨h, -⟩ | ⟨-, h1, h2⟩; exact absurd (h.symm.trans c137) (by decide); exact not_or.mpr ⟨h1, fun ⟨j, hj, e⟩ => e.elim (fun e => e (h2 j (by omega)).1) (fun e => e (h2 j (by omega)).2)⟩)]; rfl, rfl⟩)
                      · refine lv_iconst (v := 3) hx hb dX4_errorOfTrunk_140 (by decide) ?_
                        refine lv_goto (tgt := 145) hx hb dX4_errorOfTrunk_141 (by decide) ?_
                        exact x_reti S hr hlk hW dX4_errorOfTrunk_145 (⟨by rw [ocTrunk, xif_f (not_not_intro ⟨xPn hq4, xPn hq5⟩), xif_f (not_or.mpr ⟨not_not_intro h15, not_or.mpr ⟨not_not_intro h27, fun h => by rw [xNa_n (by omega), xNa_n (by omega), xNa_n (by omega)] at h; omega⟩⟩), xif_t (by rw [xNa_n (by omega), xNa_n (by omega), xNa_n (by omega)]; rcases hv with ⟨-, h⟩ | ⟨h, -⟩; rcases h with h | ⟨j, hj, e⟩; exact Or.inl h; exact Or.inr ⟨j, by omega, e⟩; exact absurd h c137)]; rfl, rfl⟩)
                    · refine lv_iload hx hb dX4_errorOfTrunk_91 (lv_at hl 4 rfl) ?_
                      refine lv_if_ne (tgt := 122) hx hb dX4_errorOfTrunk_93 (by decide) (fun c93 => ?_) (fun c93 => ?_)
                      · refine lv_iconst (v := 1) hx hb dX4_errorOfTrunk_122 (by decide) ?_
                        refine lv_goto (tgt := 127) hx hb dX4_errorOfTrunk_123 (by decide) ?_
                        refine lv_istore (lv' := [(5, .int 1), (0, .ref (E.2.2.2 40)), (1, .int (nI q4)), (2, .int (nI q5)), (3, .int (nI c9)), (6, .int (nI i))]) hx hb dX4_errorOfTrunk_127 hl (by decide) rfl (fun ls hl => ?_)
                        refine lv_iinc (v := (nI (i + 1))) (lv' := [(6, .int (nI (i + 1))), (5, .int 1), (0, .ref (E.2.2.2 40)), (1, .int (nI q4)), (2, .int (nI q5)), (3, .int (nI c9))]) hx hb dX4_errorOfTrunk_129 hl (k := 5) rfl (x_inc _) (by decide) rfl (fun ls hl => ?_)
                        refine lv_goto (tgt := 85) hx hb dX4_errorOfTrunk_132 (by decide) ?_
                        exact L85  (1) (i + 1) (by omega) (by omega) (Or.inl ⟨rfl, by first | exact xer1 hv c93 | exact Or.inr ⟨i, by omega, Or.inl c106⟩ | exact Or.inr ⟨i, by omega, Or.inr c119⟩⟩) _ _ _ hW (lv_sub hl [2, 3, 4, 5, 1, 0] rfl)
                      · refine lv_aload_n hx hb dX4_errorOfTrunk_96 rfl (lv_at hl 0 rfl) ?_
                        refine x_get (v := .ref (E.2.2.2 45)) S hW hinX4 40 (xw_40 E _) rfl 9 (by decide) w22 rfl dX4_errorOfTrunk_97 ?_
                        refine lv_iload_n hx hb dX4_errorOfTrunk_100 rfl (lv_at hl 1 rfl) ?_
                        refine lv_iload hx hb dX4_errorOfTrunk_101 (lv_at hl 5 rfl) ?_
                        refine x_iadd (a := q4) (b := i) hx hb dX4_errorOfTrunk_103 ?_
                        refine x_ildN (k := q4 + i) (v := ((f 24) (q4 + i))) S hW 45 (xw_45 E _) (rfl) (show q4 + i < 144 from by omega) (by decide) rfl dX4_errorOfTrunk_104 ?_
                        refine x_topE (gSt Γ (q4 + i)) (hR.st _ (by omega)) ?_
                        refine lv_iconst (v := (-1)) hx hb dX4_errorOfTrunk_105 (by decide) ?_
                        refine lv_icmp_ne (tgt := 122) hx hb dX4_errorOfTrunk_106 (by decide) (fun c106 => ?_) (fun c106 => ?_)
                        · refine lv_iconst (v := 1) hx hb dX4_errorOfTrunk_122 (by decide) ?_
                          refine lv_goto (tgt := 127) hx hb dX4_errorOfTrunk_123 (by decide) ?_
                          refine lv_istore (lv' := [(5, .int 1), (0, .ref (E.2.2.2 40)), (1, .int (nI q4)), (2, .int (nI q5)), (3, .int (nI c9)), (6, .int (nI i))]) hx hb dX4_errorOfTrunk_127 hl (by decide) rfl (fun ls hl => ?_)
                          refine lv_iinc (v := (nI (i + 1))) (lv' := [(6, .int (nI (i + 1))), (5, .int 1), (0, .ref (E.2.2.2 40)), (1, .int (nI q4)), (2, .int (nI q5)), (3, .int (nI c9))]) hx hb dX4_errorOfTrunk_129 hl (k := 5) rfl (x_inc _) (by decide) rfl (fun ls hl => ?_)
                          refine lv_goto (tgt := 85) hx hb dX4_errorOfTrunk_132 (by decide) ?_
                          exact L85  (1) (i + 1) (by omega) (by omega) (Or.inl ⟨rfl, by first | exact xer1 hv c93 | exact Or.inr ⟨i, by omega, Or.inl c106⟩ | exact Or.inr ⟨i, by omega, Or.inr c119⟩⟩) _ _ _ hW (lv_sub hl [2, 3, 4, 5, 1, 0] rfl)
                        · refine lv_aload_n hx hb dX4_errorOfTrunk_109 rfl (lv_at hl 0 rfl) ?_
                          refine x_get (v := .ref (E.2.2.2 45)) S hW hinX4 40 (xw_40 E _) rfl 9 (by decide) w22 rfl dX4_errorOfTrunk_110 ?_
                          refine lv_iload_n hx hb dX4_errorOfTrunk_113 rfl (lv_at hl 2 rfl) ?_
                          refine lv_iload hx hb dX4_errorOfTrunk_114 (lv_at hl 5 rfl) ?_
                          refine x_iadd (a := q5) (b := i) hx hb dX4_errorOfTrunk_116 ?_
                          refine x_ildN (k := q5 + i) (v := ((f 24) (q5 + i))) S hW 45 (xw_45 E _) (rfl) (show q5 + i < 144 from by omega) (by decide) rfl dX4_errorOfTrunk_117 ?_
                          refine x_topE (gSt Γ (q5 + i)) (hR.st _ (by omega)) ?_
                          refine lv_iconst (v := (-1)) hx hb dX4_errorOfTrunk_118 (by decide) ?_
                          refine lv_icmp_eq (tgt := 126) hx hb dX4_errorOfTrunk_119 (by decide) (fun c119 => ?_) (fun c119 => ?_)
                          · refine lv_iconst (v := 0) hx hb dX4_errorOfTrunk_126 (by decide) ?_
                            refine lv_istore (lv' := [(5, .int 0), (0, .ref (E.2.2.2 40)), (1, .int (nI q4)), (2, .int (nI q5)), (3, .int (nI c9)), (6, .int (nI i))]) hx hb dX4_errorOfTrunk_127 hl (by decide) rfl (fun ls hl => ?_)
                            refine lv_iinc (v := (nI (i + 1))) (lv' := [(6, .int (nI (i + 1))), (5, .int 0), (0, .ref (E.2.2.2 40)), (1, .int (nI q4)), (2, .int (nI q5)), (3, .int (nI c9))]) hx hb dX4_errorOfTrunk_129 hl (k := 5) rfl (x_inc _) (by decide) rfl (fun ls hl => ?_)
                            refine lv_goto (tgt := 85) hx hb dX4_errorOfTrunk_132 (by decide) ?_
                            exact L85  (0) (i + 1) (by omega) (by omega) (Or.inr ⟨rfl, xer2 hv c93 c106 c119⟩) _ _ _ hW (lv_sub hl [2, 3, 4, 5, 1, 0] rfl)
                          · refine lv_iconst (v := 1) hx hb dX4_errorOfTrunk_122 (by decide) ?_
                            refine lv_goto (tgt := 127) hx hb dX4_errorOfTrunk_123 (by decide) ?_
                            refine lv_istore (lv' := [(5, .int 1), (0, .ref (E.2.2.2 40)), (1, .int (nI q4)), (2, .int (nI q5)), (3, .int (nI c9)), (6, .int (nI i))]) hx hb dX4_errorOfTrunk_127 hl (by decide) rfl (fun ls hl => ?_)
                            refine lv_iinc (v := (nI (i + 1))) (lv' := [(6, .int (nI (i + 1))), (5, .int 1), (0, .ref (E.2.2.2 40)), (1, .int (nI q4)), (2, .int (nI q5)), (3, .int (nI c9))]) hx hb dX4_errorOfTrunk_129 hl (k := 5) rfl (x_inc _) (by decide) rfl (fun ls hl => ?_)
                            refine lv_goto (tgt := 85) hx hb dX4_errorOfTrunk_132 (by decide) ?_
                            exact L85  (1) (i + 1) (by omega) (by omega) (Or.inl ⟨rfl, by first | exact xer1 hv c93 | exact Or.inr ⟨i, by omega, Or.inl c106⟩ | exact Or.inr ⟨i, by omega, Or.inr c119⟩⟩) _ _ _ hW (lv_sub hl [2, 3, 4, 5, 1, 0] rfl)
                exact L85 _ (1) (0) (Nat.lt_succ_self _) (by omega) (Or.inl ⟨rfl, Or.inl c72⟩) _ _ _ hW (lv_sub hl [2, 3, 4, 5, 1, 0] rfl)

abbrev rmX4_goes : Room := { frames := 2, cells := 0, slots := 0, locals := 46 }
set_option maxHeartbeats 4000000 in
set_option maxRecDepth 100000 in
theorem c_X4_goes (l : Launch) (E : xE) (n : Nat → Int32) (f : Nat → Nat → Int32) (o : Nat → Int64) (Γ : xG) (hG : xGood Γ) (hR : xRepR Γ n f) {p1 : Nat} (h1 : p1 < gNo Γ) (b : Bool) : xCi l yX4_goes wsX4_goes rmX4_goes E [.ref (E.2.2.2 40), .int (nI p1), .int (bz b)] (n, f, o) (fun r σ' => ∃ K N F, r = xw (gCb Γ) (gOp Γ) b p1 K ∧ σ' = (N, F, o) ∧ xStop (gCb Γ) (gOp Γ) b p1 K ∧ N 15 = nI K ∧ N 16 = gLen Γ b p1 K ∧ (∀ k, k < K → F 35 k = xw (gCb Γ) (gOp Γ) b p1 (k + 1)) ∧ (∀ q, q ≠ 15 → q ≠ 16 → N q = n q) ∧ (∀ q, q ≠ 35 → F q = f q)) := by
  refine x_starti RX4 (by decide) rfl rfl (Nat.le_of_ble_eq_true rfl) ?_
  intro p e s m args below meth c ls S hr hlk hW hl
  have hx := S.1
  have hb := S.2.1
  have hl : lv_has ls 6 [(0, .ref (E.2.2.2 40)), (1, .int (nI p1)), (2, .int (bz b))] := hl
  have hinX4 : ∀ w ∈ wsX40, w ∈ wsX4_goes := by decide +kernel
  have w126 : Cond.fieldLink RX4 126 "CableBookModel" "hopCount" "I" ∈ wsX4_goes := by decide +kernel
  have w129 : Cond.fieldLink RX4 129 "CableBookModel" "hopLength" "I" ∈ wsX4_goes := by decide +kernel
  have w25 : Cond.fieldLink RX4 25 "CableBookModel" "trunksOf" "[I" ∈ wsX4_goes := by decide +kernel
  have w41 : Cond.fieldLink RX4 41 "CableBookModel" "trunkLengths" "[I" ∈ wsX4_goes := by decide +kernel
  have w56 : Cond.fieldLink RX4 56 "CableBookModel" "hops" "[I" ∈ wsX4_goes := by decide +kernel
  have hno := hG.no
  have hnp := hG.np
  have hnt := hG.nt
  have hnm := hG.nm
  refine lv_iload_n hx hb dX4_goes_0 rfl (lv_at hl 1 rfl) ?_
  refine lv_istore_n (lv' := [(3, .int (nI p1)), (0, .ref (E.2.2.2 40)), (1, .int (nI p1)), (2, .int (bz b))]) hx hb dX4_goes_1 rfl hl (by decide) rfl (fun ls hl => ?_)
  refine lv_iload_n hx hb dX4_goes_2 rfl (lv_at hl 3 rfl) ?_
  refine lv_istore (lv' := [(4, .int (bz b)), (3, .int (nI p1)), (0, .ref (E.2.2.2 40)), (1, .int (nI p1)), (2, .int (bz b))]) hx hb dX4_goes_3 hl (by decide) rfl (fun ls hl => ?_)
  refine lv_aload_n hx hb dX4_goes_5 rfl (lv_at hl 2 rfl) ?_
  refine lv_iconst (v := 0) hx hb dX4_goes_6 (by decide) ?_
  refine x_put (σ' := ((xu n 15 0), f, o)) S hW hinX4 tyX4 tyX4_ok nmX4 40 (xw_40 E _) rfl 21 (by decide) w126 rfl (by decide +kernel) (Nat.le_of_ble_eq_true rfl) (xw_N15 E _ _ _ _) dX4_goes_7 (fun H locs hW => ?_)
  refine lv_aload_n hx hb dX4_goes_10 rfl (lv_at hl 2 rfl) ?_
  refine lv_iconst (v := 0) hx hb dX4_goes_11 (by decide) ?_
  refine x_put (σ' := ((xu (xu n 15 0) 16 0), f, o)) S hW hinX4 tyX4 tyX4_ok nmX4 40 (xw_40 E _) rfl 22 (by decide) w129 rfl (by decide +kernel) (Nat.le_of_ble_eq_true rfl) (xw_N16 E _ _ _ _) dX4_goes_12 (fun H locs hW => ?_)
  have L15 : ∀ (fu15 : Nat) (i q : Nat) (N : Nat → Int32) (F : Nat → Nat → Int32) (hμ15 : 145 - i < fu15) (hi : i ≤ 144) (hq : q < gNo Γ) (hw : xw (gCb Γ) (gOp Γ) b p1 i = nI q) (hne : ∀ k, k < i → xw (gCb Γ) (gOp Γ) b p1 (k + 1) ≠ -1) (hnr : ∀ k, k + 1 < i → xw (gCb Γ) (gOp Γ) b p1 (k + 1) ≠ nI p1) (hN15 : N 15 = nI i) (hN16 : N 16 = gLen Γ b p1 i) (hg : ∀ k, k < i → F 35 k = xw (gCb Γ) (gOp Γ) b p1 (k + 1)) (hN : ∀ q, q ≠ 15 → q ≠ 16 → N q = n q) (hF : ∀ q, q ≠ 35 → F q = f q) (H : Heap) (locs : List Loc) (ls : Array Slot), xSt E (N, F, o) s s.heap H locs → lv_has ls 6 [(0, .ref (E.2.2.2 40)), (1, .int (nI p1)), (3, .int (nI q)), (4, .int (bz (xdir b i)))] → W p l e rmX4_goes s m args below meth c H locs 0 0 (MQ below (va_Qi (fun r σ' => ∃ K N F, r = xw (gCb Γ) (gOp Γ) b p1 K ∧ σ' = (N, F, o) ∧ xStop (gCb Γ) (gOp Γ) b p1 K ∧ N 15 = nI K ∧ N 16 = gLen Γ b p1 K ∧ (∀ k, k < K → F 35 k = xw (gCb Γ) (gOp Γ) b p1 (k + 1)) ∧ (∀ q, q ≠ 15 → q ≠ 16 → N q = n q) ∧ (∀ q, q ≠ 35 → F q = f q)) (xWd E) (xA E)) args s 0 0 (xA E)) (F0 m 15 ls []) := by
    intro fu15
    induction fu15 with
    | zero => intro i q N F hμ15; exact absurd hμ15 (Nat.not_lt_zero _)
    | succ fu15 L15 =>
      intro i q N F hμ15 hi hq hw hne hnr hN15 hN16 hg hN hF H locs ls hW hl
      have hRF : xRepR Γ N F := hR.eqv (fun q _ h1 h2 => hN q h1 h2) (fun q _ h2 => hF q (by omega))
      refine lv_aload_n hx hb dX4_goes_15 rfl (lv_at hl 0 rfl) ?_
      refine lv_iload_n hx hb dX4_goes_16 rfl (lv_at hl 2 rfl) ?_
      refine lv_iload hx hb dX4_goes_17 (lv_at hl 3 rfl) ?_
      refine x_Vi (rest := []) S (c_X4_next l E N F o Γ hG hRF (p1 := q) hq (xdir b i)) (cwV 2 S.2.2.2.2 gX4_goes_X4_next rfl rfl rfl (by decide +kernel) ⟨Nat.le_of_ble_eq_true rfl, Nat.le_of_ble_eq_true rfl⟩) hW 40 (xw_40 E _) rfl rfl rfl hl.1 (Nat.le_of_ble_eq_true rfl) dX4_goes_19 ⟨Nat.zero_le _, Nat.zero_le _⟩ (fun r19 σ19 H locs hq1 hW => ?_)
      obtain ⟨rfl, rfl⟩ := hq1
      refine x_topE (xw (gCb Γ) (gOp Γ) b p1 (i + 1)) ((xw_step hw (by omega)).symm) ?_
      refine lv_iconst (v := (-1)) hx hb dX4_goes_22 (by decide) ?_
      refine lv_icmp_eq (tgt := 121) hx hb dX4_goes_23 (by decide) (fun c23 => ?_) (fun c23 => ?_)
      · refine lv_iload_n hx hb dX4_goes_121 rfl (lv_at hl 2 rfl) ?_
        exact x_reti S hr hlk hW dX4_goes_122 (⟨i, N, F, hw.symm, rfl, ⟨hne, hnr, by first | exact Or.inl c23 | exact Or.inr ⟨by omega, by rw [hw, c35]⟩⟩, hN15, hN16, hg, hN, hF⟩)
      · refine lv_aload_n hx hb dX4_goes_26 rfl (lv_at hl 0 rfl) ?_
        refine x_get (v := .int (N 15)) S hW hinX4 40 (xw_40 E _) rfl 21 (by decide) w126 rfl dX4_goes_27 ?_
        refine x_topN (i) (hN15) ?_
        refine x_if_eq (tgt := 38) hx hb dX4_goes_30 (by decide) (by omega) (fun c30 => ?_) (fun c30 => ?_)
        · obtain ⟨q2, hq2, e2⟩ := (xw_in (c := b) (by omega) hG.cb hG.op h1 (i + 1)).resolve_left c23
          have hnr2 : ∀ k, k < i → xw (gCb Γ) (gOp Γ) b p1 (k + 1) ≠ nI p1 := (fun k hk => by rcases Nat.lt_or_ge (k + 1) i with e | e; exact hnr k e; rw [show k + 1 = i by omega, hw]; first | omega | exact fun h => c35 (nI_inj (by omega) (by omega) h))
          have hlt := xw_short (c := b) (by omega) hG.cb hG.op h1 hne hnr2
          refine lv_aload_n hx hb dX4_goes_38 rfl (lv_at hl 0 rfl) ?_
          refine lv_iload_n hx hb dX4_goes_39 rfl (lv_at hl 2 rfl) ?_
          refine lv_iload hx hb dX4_goes_40 (lv_at hl 3 rfl) ?_
          refine x_Vi (rest := []) S (c_X4_next l E N F o Γ hG hRF (p1 := q) hq (xdir b i)) (cwV 2 S.2.2.2.2 gX4_goes_X4_next rfl rfl rfl (by decide +kernel) ⟨Nat.le_of_ble_eq_true rfl, Nat.le_of_ble_eq_true rfl⟩) hW 40 (xw_40 E _) rfl rfl rfl hl.1 (Nat.le_of_ble_eq_true rfl) dX4_goes_42 ⟨Nat.zero_le _, Nat.zero_le _⟩ (fun r42 σ42 H locs hq2 hW => ?_)
          obtain ⟨rfl, rfl⟩ := hq2
          refine x_topN (q2) (by rw [← xw_step hw (by omega)]; exact e2) ?_
          refine lv_istore (lv' := [(5, .int (nI q2)), (0, .ref (E.2.2.2 40)), (1, .int (nI p1)), (3, .int (nI q)), (4, .int (bz (xdir b i)))]) hx hb dX4_goes_45 hl (by decide) rfl (fun ls hl => ?_)
          refine lv_aload_n hx hb dX4_goes_47 rfl (lv_at hl 1 rfl) ?_
          refine lv_dup hx hb dX4_goes_48 rfl ?_
          refine x_get (v := .int (N 16)) S hW hinX4 40 (xw_40 E _) rfl 22 (by decide) w129 rfl dX4_goes_49 ?_
          refine x_topE (gLen Γ b p1 i) (hN16) ?_
          refine lv_iload hx hb dX4_goes_52 (lv_at hl 4 rfl) ?_
          refine lv_if_eq (tgt := 67) hx hb dX4_goes_54 (by decide) (fun c54 => ?_) (fun c54 => ?_)
          · have hd9 := bz_e c54
            have hst9 : gSt Γ q ≠ -1 := by intro e9; have := xw_step hw (by omega); rw [hd9, e2] at this; exact absurd (this.trans (by show gOp Γ q = -1; unfold gOp xop; rw [e9]; split <;> rfl)) (nI_m1 (by omega))
            obtain ⟨t9, ht9, et9⟩ := hG.tk q hq hst9
            refine lv_aload_n hx hb dX4_goes_67 rfl (lv_at hl 1 rfl) ?_
            refine x_get (v := .ref (E.2.2.2 51)) S hW hinX4 40 (xw_40 E _) rfl 15 (by decide) w41 rfl dX4_goes_68 ?_
            refine lv_aload_n hx hb dX4_goes_71 rfl (lv_at hl 1 rfl) ?_
            refine x_get (v := .ref (E.2.2.2 46)) S hW hinX4 40 (xw_40 E _) rfl 10 (by decide) w25 rfl dX4_goes_72 ?_
            refine lv_iload_n hx hb dX4_goes_75 rfl (lv_at hl 3 rfl) ?_
            refine x_ildN (k := q) (v := ((F 25) q)) S hW 46 (xw_46 E _) (rfl) (show q < 144 from by omega) (by decide) rfl dX4_goes_76 ?_
            refine x_topN (t9) ((hRF.tk q hq hst9).trans et9) ?_
            refine x_ildN (k := t9) (v := ((F 30) t9)) S hW 51 (xw_51 E _) (rfl) (show t9 < 10 from by omega) (by decide) rfl dX4_goes_77 ?_
            refine x_topE (gTl Γ t9) (hRF.tl_ t9 ht9) ?_
            refine lv_iadd hx hb dX4_goes_78 ?_
            refine x_topE (gLen Γ b p1 (i + 1)) (by rw [gLen, if_neg (by rw [hd9]; decide), hw, xNa_n (by omega), et9, xNa_n (by omega)]) ?_
            refine x_put (σ' := ((xu N 16 (gLen Γ b p1 (i + 1))), F, o)) S hW hinX4 tyX4 tyX4_ok nmX4 40 (xw_40 E _) rfl 22 (by decide) w129 rfl (by decide +kernel) (Nat.le_of_ble_eq_true rfl) (xw_N16 E _ _ _ _) dX4_goes_79 (fun H locs hW => ?_)
            refine lv_aload_n hx hb dX4_goes_82 rfl (lv_at hl 1 rfl) ?_
            refine x_get (v := .ref (E.2.2.2 56)) S hW hinX4 40 (xw_40 E _) rfl 20 (by decide) w56 rfl dX4_goes_83 ?_
            refine lv_aload_n hx hb dX4_goes_86 rfl (lv_at hl 1 rfl) ?_
            refine x_get (v := .int (N 15)) S hW hinX4 40 (xw_40 E _) rfl 21 (by decide) w126 rfl dX4_goes_87 ?_
            refine x_topN (i) (hN15) ?_
            refine lv_iload hx hb dX4_goes_90 (lv_at hl 0 rfl) ?_
            refine x_istN (k := i) (σ' := ((xu N 16 (gLen Γ b p1 (i + 1))), (xu F 35 (upd (F 35) i (nI q2))), o)) S hW 56 (xw_56 E _) (rfl) (show i < 145 from (show i < 145 by omega)) (by decide) (xw_S35 E _ _ _ _) dX4_goes_92 (fun H locs hW => ?_)
            refine lv_aload_n hx hb dX4_goes_93 rfl (lv_at hl 1 rfl) ?_
            refine lv_dup hx hb dX4_goes_94 rfl ?_
            refine x_get (v := .int (N 15)) S hW hinX4 40 (xw_40 E _) rfl 21 (by decide) w126 rfl dX4_goes_95 ?_
            refine x_topN (i) (hN15) ?_
            refine lv_iconst (v := 1) hx hb dX4_goes_98 (by decide) ?_
            refine x_iadd (a := i) (b := 1) hx hb dX4_goes_99 ?_
            refine x_put (σ' := ((xu (xu N 16 (gLen Γ b p1 (i + 1))) 15 (nI (i + 1))), (xu F 35 (upd (F 35) i (nI q2))), o)) S hW hinX4 tyX4 tyX4_ok nmX4 40 (xw_40 E _) rfl 21 (by decide) w126 rfl (by decide +kernel) (Nat.le_of_ble_eq_true rfl) (xw_N15 E _ _ _ _) dX4_goes_100 (fun H locs hW => ?_)
            refine lv_iload hx hb dX4_goes_103 (lv_at hl 0 rfl) ?_
            refine lv_istore_n (lv' := [(3, .int (nI q2)), (5, .int (nI q2)), (0, .ref (E.2.2.2 40)), (1, .int (nI p1)), (4, .int (bz (xdir b i)))]) hx hb dX4_goes_105 rfl hl (by decide) rfl (fun ls hl => ?_)
            refine lv_iload hx hb dX4_goes_106 (lv_at hl 4 rfl) ?_
            refine lv_if_ne (tgt := 115) hx hb dX4_goes_108 (by decide) (fun c108 => ?_) (fun c108 => ?_)
            · refine lv_iconst (v := 0) hx hb dX4_goes_115 (by decide) ?_
              refine x_topE (bz (xdir b (i + 1))) ((by rw [xdir_s]; exact bz_f0 c108)) ?_
              refine lv_istore (lv' := [(4, .int (bz (xdir b (i + 1)))), (3, .int (nI q2)), (5, .int (nI q2)), (0, .ref (E.2.2.2 40)), (1, .int (nI p1))]) hx hb dX4_goes_116 hl (by decide) rfl (fun ls hl => ?_)
              refine lv_goto (tgt := 15) hx hb dX4_goes_118 (by decide) ?_
              exact L15  (i + 1) (q2) ((xu (xu N 16 (gLen Γ b p1 (i + 1))) 15 (nI (i + 1)))) ((xu F 35 (upd (F 35) i (nI q2)))) (by omega) (by omega) (hq2) (e2) (lt_s hne c23) (fun k hk => hnr2 k (by omega)) (rfl) (rfl) (upd_ltP (P := fun k z => z = xw (gCb Γ) (gOp Γ) b p1 (k + 1)) hg e2.symm) (fun q h1 h2 => by rw [xu_n h1, xu_n h2]; exact hN q h1 h2) (xu_keep hF) _ _ _ hW (lv_sub hl [3, 4, 1, 0] rfl)
            · refine lv_iconst (v := 1) hx hb dX4_goes_111 (by decide) ?_
              refine lv_goto (tgt := 116) hx hb dX4_goes_112 (by decide) ?_
              refine x_topE (bz (xdir b (i + 1))) ((by rw [xdir_s]; exact bz_f1 c108)) ?_
              refine lv_istore (lv' := [(4, .int (bz (xdir b (i + 1)))), (3, .int (nI q2)), (5, .int (nI q2)), (0, .ref (E.2.2.2 40)), (1, .int (nI p1))]) hx hb dX4_goes_116 hl (by decide) rfl (fun ls hl => ?_)
              refine lv_goto (tgt := 15) hx hb dX4_goes_118 (by decide) ?_
              exact L15  (i + 1) (q2) ((xu (xu N 16 (gLen Γ b p1 (i + 1))) 15 (nI (i + 1)))) ((xu F 35 (upd (F 35) i (nI q2)))) (by omega) (by omega) (hq2) (e2) (lt_s hne c23) (fun k hk => hnr2 k (by omega)) (rfl) (rfl) (upd_ltP (P := fun k z => z = xw (gCb Γ) (gOp Γ) b p1 (k + 1)) hg e2.symm) (fun q h1 h2 => by rw [xu_n h1, xu_n h2]; exact hN q h1 h2) (xu_keep hF) _ _ _ hW (lv_sub hl [3, 4, 1, 0] rfl)
          · refine lv_aload_n hx hb dX4_goes_57 rfl (lv_at hl 1 rfl) ?_
            refine lv_iload_n hx hb dX4_goes_58 rfl (lv_at hl 3 rfl) ?_
            refine lv_iload hx hb dX4_goes_59 (lv_at hl 0 rfl) ?_
            refine x_Vi (rest := [.int (gLen Γ b p1 i), .ref (E.2.2.2 40)]) S (c_X4_length l E N F o Γ hG hRF (p1 := q) hq (p2 := q2) hq2) (cwV 2 S.2.2.2.2 gX4_goes_X4_length rfl rfl rfl (by decide +kernel) ⟨Nat.le_of_ble_eq_true rfl, Nat.le_of_ble_eq_true rfl⟩) hW 40 (xw_40 E _) rfl rfl rfl hl.1 (Nat.le_of_ble_eq_true rfl) dX4_goes_61 ⟨Nat.zero_le _, Nat.zero_le _⟩ (fun r61 σ61 H locs hq3 hW => ?_)
            obtain ⟨rfl, rfl⟩ := hq3
            refine lv_goto (tgt := 78) hx hb dX4_goes_64 (by decide) ?_
            refine lv_iadd hx hb dX4_goes_78 ?_
            refine x_topE (gLen Γ b p1 (i + 1)) (by rw [gLen, if_pos (bz_t c54), hw, e2, xNa_n (by omega), xNa_n (by omega)]) ?_
            refine x_put (σ' := ((xu N 16 (gLen Γ b p1 (i + 1))), F, o)) S hW hinX4 tyX4 tyX4_ok nmX4 40 (xw_40 E _) rfl 22 (by decide) w129 rfl (by decide +kernel) (Nat.le_of_ble_eq_true rfl) (xw_N16 E _ _ _ _) dX4_goes_79 (fun H locs hW => ?_)
            refine lv_aload_n hx hb dX4_goes_82 rfl (lv_at hl 1 rfl) ?_
            refine x_get (v := .ref (E.2.2.2 56)) S hW hinX4 40 (xw_40 E _) rfl 20 (by decide) w56 rfl dX4_goes_83 ?_
            refine lv_aload_n hx hb dX4_goes_86 rfl (lv_at hl 1 rfl) ?_
            refine x_get (v := .int (N 15)) S hW hinX4 40 (xw_40 E _) rfl 21 (by decide) w126 rfl dX4_goes_87 ?_
            refine x_topN (i) (hN15) ?_
            refine lv_iload hx hb dX4_goes_90 (lv_at hl 0 rfl) ?_
            refine x_istN (k := i) (σ' := ((xu N 16 (gLen Γ b p1 (i + 1))), (xu F 35 (upd (F 35) i (nI q2))), o)) S hW 56 (xw_56 E _) (rfl) (show i < 145 from (show i < 145 by omega)) (by decide) (xw_S35 E _ _ _ _) dX4_goes_92 (fun H locs hW => ?_)
            refine lv_aload_n hx hb dX4_goes_93 rfl (lv_at hl 1 rfl) ?_
            refine lv_dup hx hb dX4_goes_94 rfl ?_
            refine x_get (v := .int (N 15)) S hW hinX4 40 (xw_40 E _) rfl 21 (by decide) w126 rfl dX4_goes_95 ?_
            refine x_topN (i) (hN15) ?_
            refine lv_iconst (v := 1) hx hb dX4_goes_98 (by decide) ?_
            refine x_iadd (a := i) (b := 1) hx hb dX4_goes_99 ?_
            refine x_put (σ' := ((xu (xu N 16 (gLen Γ b p1 (i + 1))) 15 (nI (i + 1))), (xu F 35 (upd (F 35) i (nI q2))), o)) S hW hinX4 tyX4 tyX4_ok nmX4 40 (xw_40 E _) rfl 21 (by decide) w126 rfl (by decide +kernel) (Nat.le_of_ble_eq_true rfl) (xw_N15 E _ _ _ _) dX4_goes_100 (fun H locs hW => ?_)
            refine lv_iload hx hb dX4_goes_103 (lv_at hl 0 rfl) ?_
            refine lv_istore_n (lv' := [(3, .int (nI q2)), (5, .int (nI q2)), (0, .ref (E.2.2.2 40)), (1, .int (nI p1)), (4, .int (bz (xdir b i)))]) hx hb dX4_goes_105 rfl hl (by decide) rfl (fun ls hl => ?_)
            refine lv_iload hx hb dX4_goes_106 (lv_at hl 4 rfl) ?_
            refine lv_if_ne (tgt := 115) hx hb dX4_goes_108 (by decide) (fun c108 => ?_) (fun c108 => ?_)
            · refine lv_iconst (v := 0) hx hb dX4_goes_115 (by decide) ?_
              refine x_topE (bz (xdir b (i + 1))) ((by rw [xdir_s]; exact bz_f0 c108)) ?_
              refine lv_istore (lv' := [(4, .int (bz (xdir b (i + 1)))), (3, .int (nI q2)), (5, .int (nI q2)), (0, .ref (E.2.2.2 40)), (1, .int (nI p1))]) hx hb dX4_goes_116 hl (by decide) rfl (fun ls hl => ?_)
              refine lv_goto (tgt := 15) hx hb dX4_goes_118 (by decide) ?_
              exact L15  (i + 1) (q2) ((xu (xu N 16 (gLen Γ b p1 (i + 1))) 15 (nI (i + 1)))) ((xu F 35 (upd (F 35) i (nI q2)))) (by omega) (by omega) (hq2) (e2) (lt_s hne c23) (fun k hk => hnr2 k (by omega)) (rfl) (rfl) (upd_ltP (P := fun k z => z = xw (gCb Γ) (gOp Γ) b p1 (k + 1)) hg e2.symm) (fun q h1 h2 => by rw [xu_n h1, xu_n h2]; exact hN q h1 h2) (xu_keep hF) _ _ _ hW (lv_sub hl [3, 4, 1, 0] rfl)
            · refine lv_iconst (v := 1) hx hb dX4_goes_111 (by decide) ?_
              refine lv_goto (tgt := 116) hx hb dX4_goes_112 (by decide) ?_
              refine x_topE (bz (xdir b (i + 1))) ((by rw [xdir_s]; exact bz_f1 c108)) ?_
              refine lv_istore (lv' := [(4, .int (bz (xdir b (i + 1)))), (3, .int (nI q2)), (5, .int (nI q2)), (0, .ref (E.2.2.2 40)), (1, .int (nI p1))]) hx hb dX4_goes_116 hl (by decide) rfl (fun ls hl => ?_)
              refine lv_goto (tgt := 15) hx hb dX4_goes_118 (by decide) ?_
              exact L15  (i + 1) (q2) ((xu (xu N 16 (gLen Γ b p1 (i + 1))) 15 (nI (i + 1)))) ((xu F 35 (upd (F 35) i (nI q2)))) (by omega) (by omega) (hq2) (e2) (lt_s hne c23) (fun k hk => hnr2 k (by omega)) (rfl) (rfl) (upd_ltP (P := fun k z => z = xw (gCb Γ) (gOp Γ) b p1 (k + 1)) hg e2.symm) (fun q h1 h2 => by rw [xu_n h1, xu_n h2]; exact hN q h1 h2) (xu_keep hF) _ _ _ hW (lv_sub hl [3, 4, 1, 0] rfl)
        · refine lv_iload_n hx hb dX4_goes_33 rfl (lv_at hl 2 rfl) ?_
          refine lv_iload_n hx hb dX4_goes_34 rfl (lv_at hl 1 rfl) ?_
          refine x_icmp_eq (a := q) (b := p1) (tgt := 121) hx hb dX4_goes_35 (by decide) (by omega) (by omega) (fun c35 => ?_) (fun c35 => ?_)
          · refine lv_iload_n hx hb dX4_goes_121 rfl (lv_at hl 2 rfl) ?_
            exact x_reti S hr hlk hW dX4_goes_122 (⟨i, N, F, hw.symm, rfl, ⟨hne, hnr, by first | exact Or.inl c23 | exact Or.inr ⟨by omega, by rw [hw, c35]⟩⟩, hN15, hN16, hg, hN, hF⟩)
          · obtain ⟨q2, hq2, e2⟩ := (xw_in (c := b) (by omega) hG.cb hG.op h1 (i + 1)).resolve_left c23
            have hnr2 : ∀ k, k < i → xw (gCb Γ) (gOp Γ) b p1 (k + 1) ≠ nI p1 := (fun k hk => by rcases Nat.lt_or_ge (k + 1) i with e | e; exact hnr k e; rw [show k + 1 = i by omega, hw]; first | omega | exact fun h => c35 (nI_inj (by omega) (by omega) h))
            have hlt := xw_short (c := b) (by omega) hG.cb hG.op h1 hne hnr2
            refine lv_aload_n hx hb dX4_goes_38 rfl (lv_at hl 0 rfl) ?_
            refine lv_iload_n hx hb dX4_goes_39 rfl (lv_at hl 2 rfl) ?_
            refine lv_iload hx hb dX4_goes_40 (lv_at hl 3 rfl) ?_
            refine x_Vi (rest := []) S (c_X4_next l E N F o Γ hG hRF (p1 := q) hq (xdir b i)) (cwV 2 S.2.2.2.2 gX4_goes_X4_next rfl rfl rfl (by decide +kernel) ⟨Nat.le_of_ble_eq_true rfl, Nat.le_of_ble_eq_true rfl⟩) hW 40 (xw_40 E _) rfl rfl rfl hl.1 (Nat.le_of_ble_eq_true rfl) dX4_goes_42 ⟨Nat.zero_le _, Nat.zero_le _⟩ (fun r42 σ42 H locs hq4 hW => ?_)
            obtain ⟨rfl, rfl⟩ := hq4
            refine x_topN (q2) (by rw [← xw_step hw (by omega)]; exact e2) ?_
            refine lv_istore (lv' := [(5, .int (nI q2)), (0, .ref (E.2.2.2 40)), (1, .int (nI p1)), (3, .int (nI q)), (4, .int (bz (xdir b i)))]) hx hb dX4_goes_45 hl (by decide) rfl (fun ls hl => ?_)
            refine lv_aload_n hx hb dX4_goes_47 rfl (lv_at hl 1 rfl) ?_
            refine lv_dup hx hb dX4_goes_48 rfl ?_
            refine x_get (v := .int (N 16)) S hW hinX4 40 (xw_40 E _) rfl 22 (by decide) w129 rfl dX4_goes_49 ?_
            refine x_topE (gLen Γ b p1 i) (hN16) ?_
            refine lv_iload hx hb dX4_goes_52 (lv_at hl 4 rfl) ?_
            refine lv_if_eq (tgt := 67) hx hb dX4_goes_54 (by decide) (fun c54 => ?_) (fun c54 => ?_)
            · have hd9 := bz_e c54
              have hst9 : gSt Γ q ≠ -1 := by intro e9; have := xw_step hw (by omega); rw [hd9, e2] at this; exact absurd (this.trans (by show gOp Γ q = -1; unfold gOp xop; rw [e9]; split <;> rfl)) (nI_m1 (by omega))
              obtain ⟨t9, ht9, et9⟩ := hG.tk q hq hst9
              refine lv_aload_n hx hb dX4_goes_67 rfl (lv_at hl 1 rfl) ?_
              refine x_get (v := .ref (E.2.2.2 51)) S hW hinX4 40 (xw_40 E _) rfl 15 (by decide) w41 rfl dX4_goes_68 ?_
              refine lv_aload_n hx hb dX4_goes_71 rfl (lv_at hl 1 rfl) ?_
              refine x_get (v := .ref (E.2.2.2 46)) S hW hinX4 40 (xw_40 E _) rfl 10 (by decide) w25 rfl dX4_goes_72 ?_
              refine lv_iload_n hx hb dX4_goes_75 rfl (lv_at hl 3 rfl) ?_
              refine x_ildN (k := q) (v := ((F 25) q)) S hW 46 (xw_46 E _) (rfl) (show q < 144 from by omega) (by decide) rfl dX4_goes_76 ?_
              refine x_topN (t9) ((hRF.tk q hq hst9).trans et9) ?_
              refine x_ildN (k := t9) (v := ((F 30) t9)) S hW 51 (xw_51 E _) (rfl) (show t9 < 10 from by omega) (by decide) rfl dX4_goes_77 ?_
              refine x_topE (gTl Γ t9) (hRF.tl_ t9 ht9) ?_
              refine lv_iadd hx hb dX4_goes_78 ?_
              refine x_topE (gLen Γ b p1 (i + 1)) (by rw [gLen, if_neg (by rw [hd9]; decide), hw, xNa_n (by omega), et9, xNa_n (by omega)]) ?_
              refine x_put (σ' := ((xu N 16 (gLen Γ b p1 (i + 1))), F, o)) S hW hinX4 tyX4 tyX4_ok nmX4 40 (xw_40 E _) rfl 22 (by decide) w129 rfl (by decide +kernel) (Nat.le_of_ble_eq_true rfl) (xw_N16 E _ _ _ _) dX4_goes_79 (fun H locs hW => ?_)
              refine lv_aload_n hx hb dX4_goes_82 rfl (lv_at hl 1 rfl) ?_
              refine x_get (v := .ref (E.2.2.2 56)) S hW hinX4 40 (xw_40 E _) rfl 20 (by decide) w56 rfl dX4_goes_83 ?_
              refine lv_aload_n hx hb dX4_goes_86 rfl (lv_at hl 1 rfl) ?_
              refine x_get (v := .int (N 15)) S hW hinX4 40 (xw_40 E _) rfl 21 (by decide) w126 rfl dX4_goes_87 ?_
              refine x_topN (i) (hN15) ?_
              refine lv_iload hx hb dX4_goes_90 (lv_at hl 0 rfl) ?_
              refine x_istN (k := i) (σ' := ((xu N 16 (gLen Γ b p1 (i + 1))), (xu F 35 (upd (F 35) i (nI q2))), o)) S hW 56 (xw_56 E _) (rfl) (show i < 145 from (show i < 145 by omega)) (by decide) (xw_S35 E _ _ _ _) dX4_goes_92 (fun H locs hW => ?_)
              refine lv_aload_n hx hb dX4_goes_93 rfl (lv_at hl 1 rfl) ?_
              refine lv_dup hx hb dX4_goes_94 rfl ?_
              refine x_get (v := .int (N 15)) S hW hinX4 40 (xw_40 E _) rfl 21 (by decide) w126 rfl dX4_goes_95 ?_
              refine x_topN (i) (hN15) ?_
              refine lv_iconst (v := 1) hx hb dX4_goes_98 (by decide) ?_
              refine x_iadd (a := i) (b := 1) hx hb dX4_goes_99 ?_
              refine x_put (σ' := ((xu (xu N 16 (gLen Γ b p1 (i + 1))) 15 (nI (i + 1))), (xu F 35 (upd (F 35) i (nI q2))), o)) S hW hinX4 tyX4 tyX4_ok nmX4 40 (xw_40 E _) rfl 21 (by decide) w126 rfl (by decide +kernel) (Nat.le_of_ble_eq_true rfl) (xw_N15 E _ _ _ _) dX4_goes_100 (fun H locs hW => ?_)
              refine lv_iload hx hb dX4_goes_103 (lv_at hl 0 rfl) ?_
              refine lv_istore_n (lv' := [(3, .int (nI q2)), (5, .int (nI q2)), (0, .ref (E.2.2.2 40)), (1, .int (nI p1)), (4, .int (bz (xdir b i)))]) hx hb dX4_goes_105 rfl hl (by decide) rfl (fun ls hl => ?_)
              refine lv_iload hx hb dX4_goes_106 (lv_at hl 4 rfl) ?_
              refine lv_if_ne (tgt := 115) hx hb dX4_goes_108 (by decide) (fun c108 => ?_) (fun c108 => ?_)
              · refine lv_iconst (v := 0) hx hb dX4_goes_115 (by decide) ?_
                refine x_topE (bz (xdir b (i + 1))) ((by rw [xdir_s]; exact bz_f0 c108)) ?_
                refine lv_istore (lv' := [(4, .int (bz (xdir b (i + 1)))), (3, .int (nI q2)), (5, .int (nI q2)), (0, .ref (E.2.2.2 40)), (1, .int (nI p1))]) hx hb dX4_goes_116 hl (by decide) rfl (fun ls hl => ?_)
                refine lv_goto (tgt := 15) hx hb dX4_goes_118 (by decide) ?_
                exact L15  (i + 1) (q2) ((xu (xu N 16 (gLen Γ b p1 (i + 1))) 15 (nI (i + 1)))) ((xu F 35 (upd (F 35) i (nI q2)))) (by omega) (by omega) (hq2) (e2) (lt_s hne c23) (fun k hk => hnr2 k (by omega)) (rfl) (rfl) (upd_ltP (P := fun k z => z = xw (gCb Γ) (gOp Γ) b p1 (k + 1)) hg e2.symm) (fun q h1 h2 => by rw [xu_n h1, xu_n h2]; exact hN q h1 h2) (xu_keep hF) _ _ _ hW (lv_sub hl [3, 4, 1, 0] rfl)
              · refine lv_iconst (v := 1) hx hb dX4_goes_111 (by decide) ?_
                refine lv_goto (tgt := 116) hx hb dX4_goes_112 (by decide) ?_
                refine x_topE (bz (xdir b (i + 1))) ((by rw [xdir_s]; exact bz_f1 c108)) ?_
                refine lv_istore (lv' := [(4, .int (bz (xdir b (i + 1)))), (3, .int (nI q2)), (5, .int (nI q2)), (0, .ref (E.2.2.2 40)), (1, .int (nI p1))]) hx hb dX4_goes_116 hl (by decide) rfl (fun ls hl => ?_)
                refine lv_goto (tgt := 15) hx hb dX4_goes_118 (by decide) ?_
                exact L15  (i + 1) (q2) ((xu (xu N 16 (gLen Γ b p1 (i + 1))) 15 (nI (i + 1)))) ((xu F 35 (upd (F 35) i (nI q2)))) (by omega) (by omega) (hq2) (e2) (lt_s hne c23) (fun k hk => hnr2 k (by omega)) (rfl) (rfl) (upd_ltP (P := fun k z => z = xw (gCb Γ) (gOp Γ) b p1 (k + 1)) hg e2.symm) (fun q h1 h2 => by rw [xu_n h1, xu_n h2]; exact hN q h1 h2) (xu_keep hF) _ _ _ hW (lv_sub hl [3, 4, 1, 0] rfl)
            · refine lv_aload_n hx hb dX4_goes_57 rfl (lv_at hl 1 rfl) ?_
              refine lv_iload_n hx hb dX4_goes_58 rfl (lv_at hl 3 rfl) ?_
              refine lv_iload hx hb dX4_goes_59 (lv_at hl 0 rfl) ?_
              refine x_Vi (rest := [.int (gLen Γ b p1 i), .ref (E.2.2.2 40)]) S (c_X4_length l E N F o Γ hG hRF (p1 := q) hq (p2 := q2) hq2) (cwV 2 S.2.2.2.2 gX4_goes_X4_length rfl rfl rfl (by decide +kernel) ⟨Nat.le_of_ble_eq_true rfl, Nat.le_of_ble_eq_true rfl⟩) hW 40 (xw_40 E _) rfl rfl rfl hl.1 (Nat.le_of_ble_eq_true rfl) dX4_goes_61 ⟨Nat.zero_le _, Nat.zero_le _⟩ (fun r61 σ61 H locs hq5 hW => ?_)
              obtain ⟨rfl, rfl⟩ := hq5
              refine lv_goto (tgt := 78) hx hb dX4_goes_64 (by decide) ?_
              refine lv_iadd hx hb dX4_goes_78 ?_
              refine x_topE (gLen Γ b p1 (i + 1)) (by rw [gLen, if_pos (bz_t c54), hw, e2, xNa_n (by omega), xNa_n (by omega)]) ?_
              refine x_put (σ' := ((xu N 16 (gLen Γ b p1 (i + 1))), F, o)) S hW hinX4 tyX4 tyX4_ok nmX4 40 (xw_40 E _) rfl 22 (by decide) w129 rfl (by decide +kernel) (Nat.le_of_ble_eq_true rfl) (xw_N16 E _ _ _ _) dX4_goes_79 (fun H locs hW => ?_)
              refine lv_aload_n hx hb dX4_goes_82 rfl (lv_at hl 1 rfl) ?_
              refine x_get (v := .ref (E.2.2.2 56)) S hW hinX4 40 (xw_40 E _) rfl 20 (by decide) w56 rfl dX4_goes_83 ?_
              refine lv_aload_n hx hb dX4_goes_86 rfl (lv_at hl 1 rfl) ?_
              refine x_get (v := .int (N 15)) S hW hinX4 40 (xw_40 E _) rfl 21 (by decide) w126 rfl dX4_goes_87 ?_
              refine x_topN (i) (hN15) ?_
              refine lv_iload hx hb dX4_goes_90 (lv_at hl 0 rfl) ?_
              refine x_istN (k := i) (σ' := ((xu N 16 (gLen Γ b p1 (i + 1))), (xu F 35 (upd (F 35) i (nI q2))), o)) S hW 56 (xw_56 E _) (rfl) (show i < 145 from (show i < 145 by omega)) (by decide) (xw_S35 E _ _ _ _) dX4_goes_92 (fun H locs hW => ?_)
              refine lv_aload_n hx hb dX4_goes_93 rfl (lv_at hl 1 rfl) ?_
              refine lv_dup hx hb dX4_goes_94 rfl ?_
              refine x_get (v := .int (N 15)) S hW hinX4 40 (xw_40 E _) rfl 21 (by decide) w126 rfl dX4_goes_95 ?_
              refine x_topN (i) (hN15) ?_
              refine lv_iconst (v := 1) hx hb dX4_goes_98 (by decide) ?_
              refine x_iadd (a := i) (b := 1) hx hb dX4_goes_99 ?_
              refine x_put (σ' := ((xu (xu N 16 (gLen Γ b p1 (i + 1))) 15 (nI (i + 1))), (xu F 35 (upd (F 35) i (nI q2))), o)) S hW hinX4 tyX4 tyX4_ok nmX4 40 (xw_40 E _) rfl 21 (by decide) w126 rfl (by decide +kernel) (Nat.le_of_ble_eq_true rfl) (xw_N15 E _ _ _ _) dX4_goes_100 (fun H locs hW => ?_)
              refine lv_iload hx hb dX4_goes_103 (lv_at hl 0 rfl) ?_
              refine lv_istore_n (lv' := [(3, .int (nI q2)), (5, .int (nI q2)), (0, .ref (E.2.2.2 40)), (1, .int (nI p1)), (4, .int (bz (xdir b i)))]) hx hb dX4_goes_105 rfl hl (by decide) rfl (fun ls hl => ?_)
              refine lv_iload hx hb dX4_goes_106 (lv_at hl 4 rfl) ?_
              refine lv_if_ne (tgt := 115) hx hb dX4_goes_108 (by decide) (fun c108 => ?_) (fun c108 => ?_)
              · refine lv_iconst (v := 0) hx hb dX4_goes_115 (by decide) ?_
                refine x_topE (bz (xdir b (i + 1))) ((by rw [xdir_s]; exact bz_f0 c108)) ?_
                refine lv_istore (lv' := [(4, .int (bz (xdir b (i + 1)))), (3, .int (nI q2)), (5, .int (nI q2)), (0, .ref (E.2.2.2 40)), (1, .int (nI p1))]) hx hb dX4_goes_116 hl (by decide) rfl (fun ls hl => ?_)
                refine lv_goto (tgt := 15) hx hb dX4_goes_118 (by decide) ?_
                exact L15  (i + 1) (q2) ((xu (xu N 16 (gLen Γ b p1 (i + 1))) 15 (nI (i + 1)))) ((xu F 35 (upd (F 35) i (nI q2)))) (by omega) (by omega) (hq2) (e2) (lt_s hne c23) (fun k hk => hnr2 k (by omega)) (rfl) (rfl) (upd_ltP (P := fun k z => z = xw (gCb Γ) (gOp Γ) b p1 (k + 1)) hg e2.symm) (fun q h1 h2 => by rw [xu_n h1, xu_n h2]; exact hN q h1 h2) (xu_keep hF) _ _ _ hW (lv_sub hl [3, 4, 1, 0] rfl)
              · refine lv_iconst (v := 1) hx hb dX4_goes_111 (by decide) ?_
                refine lv_goto (tgt := 116) hx hb dX4_goes_112 (by decide) ?_
                refine x_topE (bz (xdir b (i + 1))) ((by rw [xdir_s]; exact bz_f1 c108)) ?_
                refine lv_istore (lv' := [(4, .int (bz (xdir b (i + 1)))), (3, .int (nI q2)), (5, .int (nI q2)), (0, .ref (E.2.2.2 40)), (1, .int (nI p1))]) hx hb dX4_goes_116 hl (by decide) rfl (fun ls hl => ?_)
                refine lv_goto (tgt := 15) hx hb dX4_goes_118 (by decide) ?_
                exact L15  (i + 1) (q2) ((xu (xu N 16 (gLen Γ b p1 (i + 1))) 15 (nI (i + 1)))) ((xu F 35 (upd (F 35) i (nI q2)))) (by omega) (by omega) (hq2) (e2) (lt_s hne c23) (fun k hk => hnr2 k (by omega)) (rfl) (rfl) (upd_ltP (P := fun k z => z = xw (gCb Γ) (gOp Γ) b p1 (k + 1)) hg e2.symm) (fun q h1 h2 => by rw [xu_n h1, xu_n h2]; exact hN q h1 h2) (xu_keep hF) _ _ _ hW (lv_sub hl [3, 4, 1, 0] rfl)
  exact L15 _ (0) (p1) ((xu (xu n 15 0) 16 0)) (f) (Nat.lt_succ_self _) (by omega) (h1) (rfl) (fun q hq => absurd hq (Nat.not_lt_zero q)) (fun k hk => absurd hk (Nat.not_lt_zero _)) (rfl) (rfl) (fun q hq => absurd hq (Nat.not_lt_zero q)) (fun q h1 h2 => by rw [xu_n h2, xu_n h1]) (fun _ _ => rfl) _ _ _ hW (lv_sub hl [2, 3, 1, 0] rfl)

abbrev rmX4_isMet : Room := { frames := 3, cells := 0, slots := 0, locals := 71 }
set_option maxHeartbeats 4000000 in
set_option maxRecDepth 100000 in
theorem c_X4_isMet (l : Launch) (E : xE) (n : Nat → Int32) (f : Nat → Nat → Int32) (o : Nat → Int64) (Γ : xG) (hG : xGood Γ) (hR : xRepR Γ n f) (v : Int32) {p1 : Nat} (h1 : p1 < gNo Γ) (b : Bool) : xCi l yX4_isMet wsX4_isMet rmX4_isMet E [.ref (E.2.2.2 40), .int v, .int (nI p1), .int (bz b)] (n, f, o) (fun r σ' => ∃ K N F, ((r = 0 ∧ ¬ (v = nI p1 ∨ ∃ k, k < K ∧ xw (gCb Γ) (gOp Γ) b p1 (k + 1) = v)) ∨ (r = 1 ∧ (v = nI p1 ∨ ∃ k, k < K ∧ xw (gCb Γ) (gOp Γ) b p1 (k + 1) = v))) ∧ σ' = (N, F, o) ∧ xStop (gCb Γ) (gOp Γ) b p1 K ∧ (∀ q, q ≠ 15 → q ≠ 16 → N q = n q) ∧ (∀ q, q ≠ 35 → F q = f q)) := by
  refine x_starti RX4 (by decide) rfl rfl (Nat.le_of_ble_eq_true rfl) ?_
  intro p e s m args below meth c ls S hr hlk hW hl
  have hx := S.1
  have hb := S.2.1
  have hl : lv_has ls 5 [(0, .ref (E.2.2.2 40)), (1, .int v), (2, .int (nI p1)), (3, .int (bz b))] := hl
  have hinX4 : ∀ w ∈ wsX40, w ∈ wsX4_isMet := by decide +kernel
  have w126 : Cond.fieldLink RX4 126 "CableBookModel" "hopCount" "I" ∈ wsX4_isMet := by decide +kernel
  have w56 : Cond.fieldLink RX4 56 "CableBookModel" "hops" "[I" ∈ wsX4_isMet := by decide +kernel
  have hno := hG.no
  have hnp := hG.np
  have hnt := hG.nt
  have hnm := hG.nm
  refine lv_aload_n hx hb dX4_isMet_0 rfl (lv_at hl 0 rfl) ?_
  refine lv_iload_n hx hb dX4_isMet_1 rfl (lv_at hl 2 rfl) ?_
  refine lv_iload_n hx hb dX4_isMet_2 rfl (lv_at hl 3 rfl) ?_
  refine x_Vi (rest := []) S (c_X4_goes l E n f o Γ hG hR (p1 := p1) h1 b) (cwV 2 S.2.2.2.2 gX4_isMet_X4_goes rfl rfl rfl (by decide +kernel) ⟨Nat.le_of_ble_eq_true rfl, Nat.le_of_ble_eq_true rfl⟩) hW 40 (xw_40 E _) rfl rfl rfl hl.1 (Nat.le_of_ble_eq_true rfl) dX4_isMet_3 ⟨Nat.zero_le _, Nat.zero_le _⟩ (fun r3 σ3 H locs hq1 hW => ?_)
  obtain ⟨K3, N3, F3, rfl, rfl, hS3, hc3, hl3, hg3, hN3, hF3⟩ := hq1
  have hK3 := hS3.le (by omega) hG.cb hG.op h1
  refine lv_pop hx hb dX4_isMet_6 rfl ?_
  refine lv_iconst (v := 0) hx hb dX4_isMet_7 (by decide) ?_
  refine lv_istore (lv' := [(4, .int 0), (0, .ref (E.2.2.2 40)), (1, .int v), (2, .int (nI p1)), (3, .int (bz b))]) hx hb dX4_isMet_8 hl (by decide) rfl (fun ls hl => ?_)
  have L10 : ∀ (fu10 : Nat) (i : Nat) (hμ10 : K3 + 1 - i < fu10) (hi : i ≤ K3) (h0 : ∀ q, q < i → ¬ xw (gCb Γ) (gOp Γ) b p1 (q + 1) = v) (H : Heap) (locs : List Loc) (ls : Array Slot), xSt E (N3, F3, o) s s.heap H locs → lv_has ls 5 [(0, .ref (E.2.2.2 40)), (1, .int v), (2, .int (nI p1)), (4, .int (nI i))] → W p l e rmX4_isMet s m args below meth c H locs 0 0 (MQ below (va_Qi (fun r σ' => ∃ K N F, ((r = 0 ∧ ¬ (v = nI p1 ∨ ∃ k, k < K ∧ xw (gCb Γ) (gOp Γ) b p1 (k + 1) = v)) ∨ (r = 1 ∧ (v = nI p1 ∨ ∃ k, k < K ∧ xw (gCb Γ) (gOp Γ) b p1 (k + 1) = v))) ∧ σ' = (N, F, o) ∧ xStop (gCb Γ) (gOp Γ) b p1 K ∧ (∀ q, q ≠ 15 → q ≠ 16 → N q = n q) ∧ (∀ q, q ≠ 35 → F q = f q)) (xWd E) (xA E)) args s 0 0 (xA E)) (F0 m 10 ls []) := by
    intro fu10
    induction fu10 with
    | zero => intro i hμ10; exact absurd hμ10 (Nat.not_lt_zero _)
    | succ fu10 L10 =>
      intro i hμ10 hi h0 H locs ls hW hl
      refine lv_iload hx hb dX4_isMet_10 (lv_at hl 3 rfl) ?_
      refine lv_aload_n hx hb dX4_isMet_12 rfl (lv_at hl 0 rfl) ?_
      refine x_get (v := .int (N3 15)) S hW hinX4 40 (xw_40 E _) rfl 21 (by decide) w126 rfl dX4_isMet_13 ?_
      refine x_topN (K3) (hc3) ?_
      refine x_icmp_ge (a := i) (b := K3) (tgt := 38) hx hb dX4_isMet_16 (by decide) (by omega) (by omega) (fun c16 => ?_) (fun c16 => ?_)
      · refine lv_iload_n hx hb dX4_isMet_38 rfl (lv_at hl 1 rfl) ?_
        refine lv_iload_n hx hb dX4_isMet_39 rfl (lv_at hl 2 rfl) ?_
        refine lv_icmp_ne (tgt := 47) hx hb dX4_isMet_40 (by decide) (fun c40 => ?_) (fun c40 => ?_)
        · refine lv_iconst (v := 0) hx hb dX4_isMet_47 (by decide) ?_
          exact x_retz S hr hlk hW dX4_isMet_48 (Or.inl rfl) (⟨K3, N3, F3, Or.inl ⟨rfl, fun h => h.elim c40 (fun ⟨q, hq, e⟩ => h0 q (by omega) e)⟩, rfl, hS3, hN3, hF3⟩)
        · refine lv_iconst (v := 1) hx hb dX4_isMet_43 (by decide) ?_
          refine lv_goto (tgt := 48) hx hb dX4_isMet_44 (by decide) ?_
          exact x_retz S hr hlk hW dX4_isMet_48 (Or.inr rfl) (⟨K3, N3, F3, Or.inr ⟨rfl, Or.inl c40⟩, rfl, hS3, hN3, hF3⟩)
      · refine lv_aload_n hx hb dX4_isMet_19 rfl (lv_at hl 0 rfl) ?_
        refine x_get (v := .ref (E.2.2.2 56)) S hW hinX4 40 (xw_40 E _) rfl 20 (by decide) w56 rfl dX4_isMet_20 ?_
        refine lv_iload hx hb dX4_isMet_23 (lv_at hl 3 rfl) ?_
        refine x_ildN (k := i) (v := ((F3 35) i)) S hW 56 (xw_56 E _) (rfl) (show i < 145 from (show i < 145 by omega)) (by decide) rfl dX4_isMet_25 ?_
        refine x_topE (xw (gCb Γ) (gOp Γ) b p1 (i + 1)) (hg3 i (by omega)) ?_
        refine lv_iload_n hx hb dX4_isMet_26 rfl (lv_at hl 1 rfl) ?_
        refine lv_icmp_ne (tgt := 32) hx hb dX4_isMet_27 (by decide) (fun c27 => ?_) (fun c27 => ?_)
        · refine lv_iinc (v := (nI (i + 1))) (lv' := [(4, .int (nI (i + 1))), (0, .ref (E.2.2.2 40)), (1, .int v), (2, .int (nI p1))]) hx hb dX4_isMet_32 hl (k := 3) rfl (x_inc _) (by decide) rfl (fun ls hl => ?_)
          refine lv_goto (tgt := 10) hx hb dX4_isMet_35 (by decide) ?_
          exact L10  (i + 1) (by omega) (by omega) (lt_s h0 c27) _ _ _ hW (lv_sub hl [1, 2, 3, 0] rfl)
        · refine lv_iconst (v := 1) hx hb dX4_isMet_30 (by decide) ?_
          exact x_retz S hr hlk hW dX4_isMet_31 (Or.inr rfl) (⟨K3, N3, F3, Or.inr ⟨rfl, Or.inr ⟨i, by omega, c27⟩⟩, rfl, hS3, hN3, hF3⟩)
  exact L10 _ (0) (Nat.lt_succ_self _) (by omega) (fun q hq => absurd hq (Nat.not_lt_zero q)) _ _ _ hW (lv_sub hl [1, 2, 3, 0] rfl)

abbrev rmX4_isOnLine : Room := { frames := 4, cells := 0, slots := 0, locals := 95 }
set_option maxHeartbeats 4000000 in
set_option maxRecDepth 100000 in
theorem c_X4_isOnLine (l : Launch) (E : xE) (n : Nat → Int32) (f : Nat → Nat → Int32) (o : Nat → Int64) (Γ : xG) (hG : xGood Γ) (hR : xRepR Γ n f) {p1 : Nat} (h1 : p1 < gNo Γ) {p2 : Nat} (h2 : p2 < gNo Γ) : xCi l yX4_isOnLine wsX4_isOnLine rmX4_isOnLine E [.ref (E.2.2.2 40), .int (nI p2), .int (nI p1)] (n, f, o) (fun r σ' => ∃ N F, ((r = 0 ∧ ¬ xR (gNo Γ) (gCb Γ) (gOp Γ) p1 p2) ∨ (r = 1 ∧ xR (gNo Γ) (gCb Γ) (gOp Γ) p1 p2)) ∧ σ' = (N, F, o) ∧ (∀ q, q ≠ 15 → q ≠ 16 → N q = n q) ∧ (∀ q, q ≠ 35 → F q = f q)) := by
  refine x_starti RX4 (by decide) rfl rfl (Nat.le_of_ble_eq_true rfl) ?_
  intro p e s m args below meth c ls S hr hlk hW hl
  have hx := S.1
  have hb := S.2.1
  have hl : lv_has ls 3 [(0, .ref (E.2.2.2 40)), (1, .int (nI p2)), (2, .int (nI p1))] := hl
  have hno := hG.no
  have hnp := hG.np
  have hnt := hG.nt
  have hnm := hG.nm
  refine lv_aload_n hx hb dX4_isOnLine_0 rfl (lv_at hl 0 rfl) ?_
  refine lv_iload_n hx hb dX4_isOnLine_1 rfl (lv_at hl 1 rfl) ?_
  refine lv_iload_n hx hb dX4_isOnLine_2 rfl (lv_at hl 2 rfl) ?_
  refine lv_iconst (v := 1) hx hb dX4_isOnLine_3 (by decide) ?_
  refine x_Vi (rest := []) S (c_X4_isMet l E n f o Γ hG hR (nI p2) (p1 := p1) h1 true) (cwV 3 S.2.2.2.2 gX4_isOnLine_X4_isMet rfl rfl rfl (by decide +kernel) ⟨Nat.le_of_ble_eq_true rfl, Nat.le_of_ble_eq_true rfl⟩) hW 40 (xw_40 E _) rfl rfl rfl hl.1 (Nat.le_of_ble_eq_true rfl) dX4_isOnLine_4 ⟨Nat.zero_le _, Nat.zero_le _⟩ (fun r4 σ4 H locs hq1 hW => ?_)
  rcases hq1 with ⟨K4, N4, F4, ⟨rfl, h4⟩ | ⟨rfl, h4⟩, rfl, hS4, hN4, hF4⟩
  · refine lv_if_ne (tgt := 20) hx hb dX4_isOnLine_7 (by decide) (fun c7 => ?_) (fun c7 => ?_)
    · exact absurd c7 (by decide)
    refine lv_aload_n hx hb dX4_isOnLine_10 rfl (lv_at hl 0 rfl) ?_
    refine lv_iload_n hx hb dX4_isOnLine_11 rfl (lv_at hl 1 rfl) ?_
    refine lv_iload_n hx hb dX4_isOnLine_12 rfl (lv_at hl 2 rfl) ?_
    refine lv_iconst (v := 0) hx hb dX4_isOnLine_13 (by decide) ?_
    refine x_Vi (rest := []) S (c_X4_isMet l E N4 F4 o Γ hG (hR.eqv (fun q _ h1 h2 => hN4 q h1 h2) (fun q _ h2 => hF4 q (by omega))) (nI p2) (p1 := p1) h1 false) (cwV 3 S.2.2.2.2 gX4_isOnLine_X4_isMet rfl rfl rfl (by decide +kernel) ⟨Nat.le_of_ble_eq_true rfl, Nat.le_of_ble_eq_true rfl⟩) hW 40 (xw_40 E _) rfl rfl rfl hl.1 (Nat.le_of_ble_eq_true rfl) dX4_isOnLine_14 ⟨Nat.zero_le _, Nat.zero_le _⟩ (fun r14 σ14 H locs hq2 hW => ?_)
    rcases hq2 with ⟨K14, N14, F14, ⟨rfl, h14⟩ | ⟨rfl, h14⟩, rfl, hS14, hN14, hF14⟩
    · refine lv_if_eq (tgt := 24) hx hb dX4_isOnLine_17 (by decide) (fun c17 => ?_) (fun c17 => ?_)
      rotate_left
      · exact absurd c17 (by decide)
      refine lv_iconst (v := 0) hx hb dX4_isOnLine_24 (by decide) ?_
      exact x_retz S hr hlk hW dX4_isOnLine_25 (Or.inl rfl) (⟨_, _, Or.inl ⟨rfl, fun hq => by rcases (xline (by omega) hG.cb hG.op h1 hS4 hS14 h2).mp hq with e | ⟨k, hk, e⟩ | ⟨k, hk, e⟩; exact h4 (Or.inl (by rw [e])); exact h4 (Or.inr ⟨k, hk, e⟩); exact h14 (Or.inr ⟨k, hk, e⟩)⟩, rfl, fun q a b => (hN14 q a b).trans (hN4 q a b), fun q a => (hF14 q a).trans (hF4 q a)⟩)
    · refine lv_if_eq (tgt := 24) hx hb dX4_isOnLine_17 (by decide) (fun c17 => ?_) (fun c17 => ?_)
      · exact absurd c17 (by decide)
      refine lv_iconst (v := 1) hx hb dX4_isOnLine_20 (by decide) ?_
      refine lv_goto (tgt := 25) hx hb dX4_isOnLine_21 (by decide) ?_
      exact x_retz S hr hlk hW dX4_isOnLine_25 (Or.inr rfl) (⟨_, _, Or.inr ⟨rfl, (by first | (rcases h4 with e | ⟨k, hk, e⟩; rw [nI_inj (by omega) (by omega) e]; exact xR.rf; exact xw_R (by omega) hG.cb hG.op h1 (k + 1) p2 h2 e) | (rcases h14 with e | ⟨k, hk, e⟩; rw [nI_inj (by omega) (by omega) e]; exact xR.rf; exact xw_R (by omega) hG.cb hG.op h1 (k + 1) p2 h2 e))⟩, rfl, (by first | exact fun q a b => (hN14 q a b).trans (hN4 q a b) | exact hN4), (by first | exact fun q a => (hF14 q a).trans (hF4 q a) | exact hF4)⟩)
  · refine lv_if_ne (tgt := 20) hx hb dX4_isOnLine_7 (by decide) (fun c7 => ?_) (fun c7 => ?_)
    rotate_left
    · exact absurd c7 (by decide)
    refine lv_iconst (v := 1) hx hb dX4_isOnLine_20 (by decide) ?_
    refine lv_goto (tgt := 25) hx hb dX4_isOnLine_21 (by decide) ?_
    exact x_retz S hr hlk hW dX4_isOnLine_25 (Or.inr rfl) (⟨_, _, Or.inr ⟨rfl, (by first | (rcases h4 with e | ⟨k, hk, e⟩; rw [nI_inj (by omega) (by omega) e]; exact xR.rf; exact xw_R (by omega) hG.cb hG.op h1 (k + 1) p2 h2 e) | (rcases h14 with e | ⟨k, hk, e⟩; rw [nI_inj (by omega) (by omega) e]; exact xR.rf; exact xw_R (by omega) hG.cb hG.op h1 (k + 1) p2 h2 e))⟩, rfl, (by first | exact fun q a b => (hN14 q a b).trans (hN4 q a b) | exact hN4), (by first | exact fun q a => (hF14 q a).trans (hF4 q a) | exact hF4)⟩)

abbrev rmX4_searches : Room := { frames := 1, cells := 0, slots := 0, locals := 22 }
set_option maxHeartbeats 4000000 in
set_option maxRecDepth 100000 in
theorem c_X4_searches (l : Launch) (E : xE) (n : Nat → Int32) (f : Nat → Nat → Int32) (o : Nat → Int64) (Γ : xG) (hG : xGood Γ) (hR : xRepR Γ n f) : xCv l yX4_searches wsX4_searches rmX4_searches E [.ref (E.2.2.2 40)] (n, f, o) (fun σ' => ∃ F L, σ' = (n, F, o) ∧ (∀ q, q ≠ 36 → F q = f q) ∧ (∀ z, z < gNo Γ → F 36 z = nI (L z) ∧ L z ≤ z ∧ xR (gNo Γ) (gCb Γ) (gOp Γ) (L z) z) ∧ xClo Γ L) := by
  refine x_startv RX4 (by decide) rfl rfl (Nat.le_of_ble_eq_true rfl) ?_
  intro p e s m args below meth c ls S hr hlk hW hl
  have hx := S.1
  have hb := S.2.1
  have hl : lv_has ls 5 [(0, .ref (E.2.2.2 40))] := hl
  have hinX4 : ∀ w ∈ wsX40, w ∈ wsX4_searches := by decide +kernel
  have w59 : Cond.fieldLink RX4 59 "CableBookModel" "lineOf" "[I" ∈ wsX4_searches := by decide +kernel
  have w66 : Cond.fieldLink RX4 66 "CableBookModel" "ports" "I" ∈ wsX4_searches := by decide +kernel
  have hno := hG.no
  have hnp := hG.np
  have hnt := hG.nt
  have hnm := hG.nm
  refine lv_iconst (v := 0) hx hb dX4_searches_0 (by decide) ?_
  refine lv_istore_n (lv' := [(1, .int 0), (0, .ref (E.2.2.2 40))]) hx hb dX4_searches_1 rfl hl (by decide) rfl (fun ls hl => ?_)
  have L2 : ∀ (fu2 : Nat) (i : Nat) (F : Nat → Nat → Int32) (hμ2 : gNo Γ + 1 - i < fu2) (hi : i ≤ gNo Γ) (hF : ∀ q, q ≠ 36 → F q = f q) (h0 : ∀ z, z < i → F 36 z = nI z) (H : Heap) (locs : List Loc) (ls : Array Slot), xSt E (n, F, o) s s.heap H locs → lv_has ls 5 [(0, .ref (E.2.2.2 40)), (1, .int (nI i))] → W p l e rmX4_searches s m args below meth c H locs 0 0 (MQ below (va_Qv (fun σ' => ∃ F L, σ' = (n, F, o) ∧ (∀ q, q ≠ 36 → F q = f q) ∧ (∀ z, z < gNo Γ → F 36 z = nI (L z) ∧ L z ≤ z ∧ xR (gNo Γ) (gCb Γ) (gOp Γ) (L z) z) ∧ xClo Γ L) (xWd E) (xA E)) args s 0 0 (xA E)) (F0 m 2 ls []) := by
    intro fu2
    induction fu2 with
    | zero => intro i F hμ2; exact absurd hμ2 (Nat.not_lt_zero _)
    | succ fu2 L2 =>
      intro i F hμ2 hi hF h0 H locs ls hW hl
      refine lv_iload_n hx hb dX4_searches_2 rfl (lv_at hl 1 rfl) ?_
      refine lv_aload_n hx hb dX4_searches_3 rfl (lv_at hl 0 rfl) ?_
      refine x_get (v := .int (n 12)) S hW hinX4 40 (xw_40 E _) rfl 2 (by decide) w66 rfl dX4_searches_4 ?_
      refine x_topN (gNo Γ) (hR.no) ?_
      refine x_icmp_ge (a := i) (b := gNo Γ) (tgt := 23) hx hb dX4_searches_7 (by decide) (by omega) (by omega) (fun c7 => ?_) (fun c7 => ?_)
      · refine lv_iconst (v := 1) hx hb dX4_searches_23 (by decide) ?_
        refine lv_istore_n (lv' := [(1, .int 1), (0, .ref (E.2.2.2 40))]) hx hb dX4_searches_24 rfl hl (by decide) rfl (fun ls hl => ?_)
        have L25 : ∀ (fu25 : Nat) (v1 : Int32) (F : Nat → Nat → Int32) (L : Nat → Nat) (hμ25 : xsum L (gNo Γ) + (if v1 = 0 then 0 else 1) < fu25) (hF : ∀ q, q ≠ 36 → F q = f q) (hL : ∀ z, z < gNo Γ → F 36 z = nI (L z) ∧ L z ≤ z ∧ xR (gNo Γ) (gCb Γ) (gOp Γ) (L z) z) (hv : v1 = 1 ∨ (v1 = 0 ∧ xClo Γ L)) (H : Heap) (locs : List Loc) (ls : Array Slot), xSt E (n, F, o) s s.heap H locs → lv_has ls 5 [(0, .ref (E.2.2.2 40)), (1, .int v1)] → W p l e rmX4_searches s m args below meth c H locs 0 0 (MQ below (va_Qv (fun σ' => ∃ F L, σ' = (n, F, o) ∧ (∀ q, q ≠ 36 → F q = f q) ∧ (∀ z, z < gNo Γ → F 36 z = nI (L z) ∧ L z ≤ z ∧ xR (gNo Γ) (gCb Γ) (gOp Γ) (L z) z) ∧ xClo Γ L) (xWd E) (xA E)) args s 0 0 (xA E)) (F0 m 25 ls []) := by
          intro fu25
          induction fu25 with
          | zero => intro v1 F L hμ25; exact absurd hμ25 (Nat.not_lt_zero _)
          | succ fu25 L25 =>
            intro v1 F L hμ25 hF hL hv H locs ls hW hl
            refine lv_iload_n hx hb dX4_searches_25 rfl (lv_at hl 1 rfl) ?_
            refine lv_if_eq (tgt := 111) hx hb dX4_searches_26 (by decide) (fun c26 => ?_) (fun c26 => ?_)
            · exact x_retv S hr hlk hW dX4_searches_111 (⟨F, L, rfl, hF, hL, by rcases hv with h | ⟨-, h⟩; exact absurd (h.symm.trans c26) (by decide); exact h⟩)
            · refine lv_iconst (v := 0) hx hb dX4_searches_29 (by decide) ?_
              refine lv_istore_n (lv' := [(1, .int 0), (0, .ref (E.2.2.2 40))]) hx hb dX4_searches_30 rfl hl (by decide) rfl (fun ls hl => ?_)
              refine lv_iconst (v := 0) hx hb dX4_searches_31 (by decide) ?_
              refine lv_istore_n (lv' := [(2, .int 0), (1, .int 0), (0, .ref (E.2.2.2 40))]) hx hb dX4_searches_32 rfl hl (by decide) rfl (fun ls hl => ?_)
              have L33 : ∀ (fu33 : Nat) (v1 : Int32) (k : Nat) (G : Nat → Nat → Int32) (M : Nat → Nat) (hμ33 : 2 * gNo Γ + 1 - k < fu33) (hk : k ≤ 2 * gNo Γ) (hG9 : ∀ q, q ≠ 36 → G q = f q) (hM : ∀ z, z < gNo Γ → G 36 z = nI (M z) ∧ M z ≤ z ∧ xR (gNo Γ) (gCb Γ) (gOp Γ) (M z) z) (hv2 : (v1 = 1 ∧ xsum M (gNo Γ) < xsum L (gNo Γ)) ∨ (v1 = 0 ∧ M = L ∧ ∀ j, j < k → ∀ w, w < gNo Γ → xnx (gCb Γ) (gOp Γ) (j % 2 == 0) (j / 2) = nI w → L (j / 2) ≤ L w)) (H : Heap) (locs : List Loc) (ls : Array Slot), xSt E (n, G, o) s s.heap H locs → lv_has ls 5 [(0, .ref (E.2.2.2 40)), (1, .int v1), (2, .int (nI k))] → W p l e rmX4_searches s m args below meth c H locs 0 0 (MQ below (va_Qv (fun σ' => ∃ F L, σ' = (n, F, o) ∧ (∀ q, q ≠ 36 → F q = f q) ∧ (∀ z, z < gNo Γ → F 36 z = nI (L z) ∧ L z ≤ z ∧ xR (gNo Γ) (gCb Γ) (gOp Γ) (L z) z) ∧ xClo Γ L) (xWd E) (xA E)) args s 0 0 (xA E)) (F0 m 33 ls []) := by
                intro fu33
                induction fu33 with
                | zero => intro v1 k G M hμ33; exact absurd hμ33 (Nat.not_lt_zero _)
                | succ fu33 L33 =>
                  intro v1 k G M hμ33 hk hG9 hM hv2 H locs ls hW hl
                  have hRG : xRepR Γ n G := hR.eqv (fun _ _ _ _ => rfl) (fun q _ h2 => hG9 q (by omega))
                  refine lv_iload_n hx hb dX4_searches_33 rfl (lv_at hl 2 rfl) ?_
                  refine lv_iconst (v := 2) hx hb dX4_searches_34 (by decide) ?_
                  refine lv_aload_n hx hb dX4_searches_35 rfl (lv_at hl 0 rfl) ?_
                  refine x_get (v := .int (n 12)) S hW hinX4 40 (xw_40 E _) rfl 2 (by decide) w66 rfl dX4_searches_36 ?_
                  refine x_topN (gNo Γ) (hR.no) ?_
                  refine x_imul (a := 2) (b := gNo Γ) hx hb dX4_searches_39 ?_
                  refine x_icmp_ge (a := k) (b := 2 * (gNo Γ)) (tgt := 108) hx hb dX4_searches_40 (by decide) (by omega) (by omega) (fun c40 => ?_) (fun c40 => ?_)
                  · refine lv_goto (tgt := 25) hx hb dX4_searches_108 (by decide) ?_
                    exact L25  (v1) (G) (M) (xms hv2 (fun e => by rw [e]) c26 hμ25) (hG9) (hM) (xclo_of (by rw [show 2 * gNo Γ = k by omega]; exact hv2)) _ _ _ hW (lv_sub hl [0, 1] rfl)
                  · refine lv_iload_n hx hb dX4_searches_43 rfl (lv_at hl 2 rfl) ?_
                    refine lv_iconst (v := 2) hx hb dX4_searches_44 (by decide) ?_
                    refine lv_idiv hx hb dX4_searches_45 (by decide) ?_
                    refine x_topN (k / 2) (pk_div (d := 2) (by omega) (by decide) (by decide)) ?_
                    refine lv_istore_n (lv' := [(3, .int (nI (k / 2))), (0, .ref (E.2.2.2 40)), (1, .int v1), (2, .int (nI k))]) hx hb dX4_searches_46 rfl hl (by decide) rfl (fun ls hl => ?_)
                    have hn9 : gNo Γ < 2 ^ 31 := by omega
                    have hkn : k / 2 < gNo Γ := by omega
                    refine lv_aload_n hx hb dX4_searches_47 rfl (lv_at hl 1 rfl) ?_
                    refine lv_iload_n hx hb dX4_searches_48 rfl (lv_at hl 0 rfl) ?_
                    refine lv_iload_n hx hb dX4_searches_49 rfl (lv_at hl 3 rfl) ?_
                    refine lv_iconst (v := 2) hx hb dX4_searches_50 (by decide) ?_
                    refine lv_irem hx hb dX4_searches_51 (by decide) ?_
                    refine x_topN (k % 2) (pk_rem (d := 2) (by omega) (by decide) (by decide)) ?_
                    refine x_if_ne (tgt := 59) hx hb dX4_searches_52 (by decide) (by omega) (fun c52 => ?_) (fun c52 => ?_)
                    · refine lv_iconst (v := 0) hx hb dX4_searches_59 (by decide) ?_
                      refine x_Vi (rest := []) S (c_X4_next l E n G o Γ hG hRG (p1 := (k / 2)) hkn false) (cwV 2 S.2.2.2.2 gX4_searches_X4_next rfl rfl rfl (by decide +kernel) ⟨Nat.le_of_ble_eq_true rfl, Nat.le_of_ble_eq_true rfl⟩) hW 40 (xw_40 E _) rfl rfl rfl hl.1 (Nat.le_of_ble_eq_true rfl) dX4_searches_60 ⟨Nat.zero_le _, Nat.zero_le _⟩ (fun r60 σ60 H locs hq1 hW => ?_)
                      obtain ⟨rfl, rfl⟩ := hq1
                      refine lv_istore (lv' := [(4, .int (xnx (gCb Γ) (gOp Γ) false (k / 2))), (3, .int (nI (k / 2))), (0, .ref (E.2.2.2 40)), (1, .int v1), (2, .int (nI k))]) hx hb dX4_searches_63 hl (by decide) rfl (fun ls hl => ?_)
                      refine lv_iload hx hb dX4_searches_65 (lv_at hl 0 rfl) ?_
                      refine lv_iconst (v := (-1)) hx hb dX4_searches_67 (by decide) ?_
                      refine lv_icmp_eq (tgt := 102) hx hb dX4_searches_68 (by decide) (fun c68 => ?_) (fun c68 => ?_)
                      · refine lv_iinc (v := (nI (k + 1))) (lv' := [(2, .int (nI (k + 1))), (4, .int (xnx (gCb Γ) (gOp Γ) false (k / 2))), (3, .int (nI (k / 2))), (0, .ref (E.2.2.2 40)), (1, .int v1)]) hx hb dX4_searches_102 hl (k := 4) rfl (x_inc _) (by decide) rfl (fun ls hl => ?_)
                        refine lv_goto (tgt := 33) hx hb dX4_searches_105 (by decide) ?_
                        exact L33  (v1) (k + 1) (G) (M) (by omega) (by omega) (hG9) (hM) (by first | exact xkeep1 hv2 (by intro _ w hw e; exact absurd (e.symm.trans (by first | (rw [show (k % 2 == 0) = false by simp [c52]]; exact c68) | (rw [show (k % 2 == 0) = true by simp [c52]]; exact c68))) (nI_m1 (by omega))) | exact xkeep1 hv2 (by intro hML w hw e; obtain rfl : z = w := nI_inj (by omega) (by omega) (ez.symm.trans (by first | (rw [show (k % 2 == 0) = false by simp [c52]] at e; exact e) | (rw [show (k % 2 == 0) = true by simp [c52]] at e; exact e))); rw [← hML]; exact c84)) _ _ _ hW (lv_sub hl [3, 4, 0] rfl)
                      · obtain ⟨z, hz, -, ez, -⟩ := (xM_nx hG.cb hG.op _ _ hkn).resolve_left c68
                        rw [ez] at hl
                        refine lv_aload_n hx hb dX4_searches_71 rfl (lv_at hl 2 rfl) ?_
                        refine x_get (v := .ref (E.2.2.2 57)) S hW hinX4 40 (xw_40 E _) rfl 23 (by decide) w59 rfl dX4_searches_72 ?_
                        refine lv_iload hx hb dX4_searches_75 (lv_at hl 0 rfl) ?_
                        refine x_ildN (k := z) (v := ((G 36) z)) S hW 57 (xw_57 E _) (rfl) (show z < 144 from (show z < 144 by omega)) (by decide) rfl dX4_searches_77 ?_
                        refine x_topN (M z) ((hM z hz).1) ?_
                        refine lv_aload_n hx hb dX4_searches_78 rfl (lv_at hl 2 rfl) ?_
                        refine x_get (v := .ref (E.2.2.2 57)) S hW hinX4 40 (xw_40 E _) rfl 23 (by decide) w59 rfl dX4_searches_79 ?_
                        refine lv_iload_n hx hb dX4_searches_82 rfl (lv_at hl 1 rfl) ?_
                        refine x_ildN (k := k / 2) (v := ((G 36) (k / 2))) S hW 57 (xw_57 E _) (rfl) (show k / 2 < 144 from (show k / 2 < 144 by omega)) (by decide) rfl dX4_searches_83 ?_
                        refine x_topN (M (k / 2)) ((hM _ hkn).1) ?_
                        refine x_icmp_ge (a := M z) (b := M (k / 2)) (tgt := 102) hx hb dX4_searches_84 (by decide) (by have := (hM z hz).2.1; omega) (by have := (hM _ hkn).2.1; omega) (fun c84 => ?_) (fun c84 => ?_)
                        · refine lv_iinc (v := (nI (k + 1))) (lv' := [(2, .int (nI (k + 1))), (4, .int (nI z)), (3, .int (nI (k / 2))), (0, .ref (E.2.2.2 40)), (1, .int v1)]) hx hb dX4_searches_102 hl (k := 4) rfl (x_inc _) (by decide) rfl (fun ls hl => ?_)
                          refine lv_goto (tgt := 33) hx hb dX4_searches_105 (by decide) ?_
                          exact L33  (v1) (k + 1) (G) (M) (by omega) (by omega) (hG9) (hM) (by first | exact xkeep1 hv2 (by intro _ w hw e; exact absurd (e.symm.trans (by first | (rw [show (k % 2 == 0) = false by simp [c52]]; exact c68) | (rw [show (k % 2 == 0) = true by simp [c52]]; exact c68))) (nI_m1 (by omega))) | exact xkeep1 hv2 (by intro hML w hw e; obtain rfl : z = w := nI_inj (by omega) (by omega) (ez.symm.trans (by first | (rw [show (k % 2 == 0) = false by simp [c52]] at e; exact e) | (rw [show (k % 2 == 0) = true by simp [c52]] at e; exact e))); rw [← hML]; exact c84)) _ _ _ hW (lv_sub hl [3, 4, 0] rfl)
                        · refine lv_aload_n hx hb dX4_searches_87 rfl (lv_at hl 2 rfl) ?_
                          refine x_get (v := .ref (E.2.2.2 57)) S hW hinX4 40 (xw_40 E _) rfl 23 (by decide) w59 rfl dX4_searches_88 ?_
                          refine lv_iload_n hx hb dX4_searches_91 rfl (lv_at hl 1 rfl) ?_
                          refine lv_aload_n hx hb dX4_searches_92 rfl (lv_at hl 2 rfl) ?_
                          refine x_get (v := .ref (E.2.2.2 57)) S hW hinX4 40 (xw_40 E _) rfl 23 (by decide) w59 rfl dX4_searches_93 ?_
                          refine lv_iload hx hb dX4_searches_96 (lv_at hl 0 rfl) ?_
                          refine x_ildN (k := z) (v := ((G 36) z)) S hW 57 (xw_57 E _) (rfl) (show z < 144 from (show z < 144 by omega)) (by decide) rfl dX4_searches_98 ?_
                          refine x_topN (M z) ((hM z hz).1) ?_
                          refine x_istN (k := k / 2) (σ' := (n, (xu G 36 (upd (G 36) (k / 2) (nI (M z)))), o)) S hW 57 (xw_57 E _) (rfl) (show k / 2 < 144 from (show k / 2 < 144 by omega)) (by decide) (xw_S36 E _ _ _ _) dX4_searches_99 (fun H locs hW => ?_)
                          refine lv_iconst (v := 1) hx hb dX4_searches_100 (by decide) ?_
                          refine lv_istore_n (lv' := [(1, .int 1), (4, .int (nI z)), (3, .int (nI (k / 2))), (0, .ref (E.2.2.2 40)), (2, .int (nI k))]) hx hb dX4_searches_101 rfl hl (by decide) rfl (fun ls hl => ?_)
                          refine lv_iinc (v := (nI (k + 1))) (lv' := [(2, .int (nI (k + 1))), (1, .int 1), (4, .int (nI z)), (3, .int (nI (k / 2))), (0, .ref (E.2.2.2 40))]) hx hb dX4_searches_102 hl (k := 4) rfl (x_inc _) (by decide) rfl (fun ls hl => ?_)
                          refine lv_goto (tgt := 33) hx hb dX4_searches_105 (by decide) ?_
                          exact L33  (1) (k + 1) ((xu G 36 (upd (G 36) (k / 2) (nI (M z))))) (xu M (k / 2) (M z)) (by omega) (by omega) (xu_keep hG9) (xlab hM hkn hz c84 (by first | exact xnx_R hn9 hG.cb hG.op hkn hz ez)) (Or.inl ⟨rfl, xms2 hv2 hkn c84⟩) _ _ _ hW (lv_sub hl [4, 1, 0] rfl)
                    · refine lv_iconst (v := 1) hx hb dX4_searches_55 (by decide) ?_
                      refine lv_goto (tgt := 60) hx hb dX4_searches_56 (by decide) ?_
                      refine x_Vi (rest := []) S (c_X4_next l E n G o Γ hG hRG (p1 := (k / 2)) hkn true) (cwV 2 S.2.2.2.2 gX4_searches_X4_next rfl rfl rfl (by decide +kernel) ⟨Nat.le_of_ble_eq_true rfl, Nat.le_of_ble_eq_true rfl⟩) hW 40 (xw_40 E _) rfl rfl rfl hl.1 (Nat.le_of_ble_eq_true rfl) dX4_searches_60 ⟨Nat.zero_le _, Nat.zero_le _⟩ (fun r60 σ60 H locs hq2 hW => ?_)
                      obtain ⟨rfl, rfl⟩ := hq2
                      refine lv_istore (lv' := [(4, .int (xnx (gCb Γ) (gOp Γ) true (k / 2))), (3, .int (nI (k / 2))), (0, .ref (E.2.2.2 40)), (1, .int v1), (2, .int (nI k))]) hx hb dX4_searches_63 hl (by decide) rfl (fun ls hl => ?_)
                      refine lv_iload hx hb dX4_searches_65 (lv_at hl 0 rfl) ?_
                      refine lv_iconst (v := (-1)) hx hb dX4_searches_67 (by decide) ?_
                      refine lv_icmp_eq (tgt := 102) hx hb dX4_searches_68 (by decide) (fun c68 => ?_) (fun c68 => ?_)
                      · refine lv_iinc (v := (nI (k + 1))) (lv' := [(2, .int (nI (k + 1))), (4, .int (xnx (gCb Γ) (gOp Γ) true (k / 2))), (3, .int (nI (k / 2))), (0, .ref (E.2.2.2 40)), (1, .int v1)]) hx hb dX4_searches_102 hl (k := 4) rfl (x_inc _) (by decide) rfl (fun ls hl => ?_)
                        refine lv_goto (tgt := 33) hx hb dX4_searches_105 (by decide) ?_
                        exact L33  (v1) (k + 1) (G) (M) (by omega) (by omega) (hG9) (hM) (by first | exact xkeep1 hv2 (by intro _ w hw e; exact absurd (e.symm.trans (by first | (rw [show (k % 2 == 0) = false by simp [c52]]; exact c68) | (rw [show (k % 2 == 0) = true by simp [c52]]; exact c68))) (nI_m1 (by omega))) | exact xkeep1 hv2 (by intro hML w hw e; obtain rfl : z = w := nI_inj (by omega) (by omega) (ez.symm.trans (by first | (rw [show (k % 2 == 0) = false by simp [c52]] at e; exact e) | (rw [show (k % 2 == 0) = true by simp [c52]] at e; exact e))); rw [← hML]; exact c84)) _ _ _ hW (lv_sub hl [3, 4, 0] rfl)
                      · obtain ⟨z, hz, -, ez, -⟩ := (xM_nx hG.cb hG.op _ _ hkn).resolve_left c68
                        rw [ez] at hl
                        refine lv_aload_n hx hb dX4_searches_71 rfl (lv_at hl 2 rfl) ?_
                        refine x_get (v := .ref (E.2.2.2 57)) S hW hinX4 40 (xw_40 E _) rfl 23 (by decide) w59 rfl dX4_searches_72 ?_
                        refine lv_iload hx hb dX4_searches_75 (lv_at hl 0 rfl) ?_
                        refine x_ildN (k := z) (v := ((G 36) z)) S hW 57 (xw_57 E _) (rfl) (show z < 144 from (show z < 144 by omega)) (by decide) rfl dX4_searches_77 ?_
                        refine x_topN (M z) ((hM z hz).1) ?_
                        refine lv_aload_n hx hb dX4_searches_78 rfl (lv_at hl 2 rfl) ?_
                        refine x_get (v := .ref (E.2.2.2 57)) S hW hinX4 40 (xw_40 E _) rfl 23 (by decide) w59 rfl dX4_searches_79 ?_
                        refine lv_iload_n hx hb dX4_searches_82 rfl (lv_at hl 1 rfl) ?_
                        refine x_ildN (k := k / 2) (v := ((G 36) (k / 2))) S hW 57 (xw_57 E _) (rfl) (show k / 2 < 144 from (show k / 2 < 144 by omega)) (by decide) rfl dX4_searches_83 ?_
                        refine x_topN (M (k / 2)) ((hM _ hkn).1) ?_
                        refine x_icmp_ge (a := M z) (b := M (k / 2)) (tgt := 102) hx hb dX4_searches_84 (by decide) (by have := (hM z hz).2.1; omega) (by have := (hM _ hkn).2.1; omega) (fun c84 => ?_) (fun c84 => ?_)
                        · refine lv_iinc (v := (nI (k + 1))) (lv' := [(2, .int (nI (k + 1))), (4, .int (nI z)), (3, .int (nI (k / 2))), (0, .ref (E.2.2.2 40)), (1, .int v1)]) hx hb dX4_searches_102 hl (k := 4) rfl (x_inc _) (by decide) rfl (fun ls hl => ?_)
                          refine lv_goto (tgt := 33) hx hb dX4_searches_105 (by decide) ?_
                          exact L33  (v1) (k + 1) (G) (M) (by omega) (by omega) (hG9) (hM) (by first | exact xkeep1 hv2 (by intro _ w hw e; exact absurd (e.symm.trans (by first | (rw [show (k % 2 == 0) = false by simp [c52]]; exact c68) | (rw [show (k % 2 == 0) = true by simp [c52]]; exact c68))) (nI_m1 (by omega))) | exact xkeep1 hv2 (by intro hML w hw e; obtain rfl : z = w := nI_inj (by omega) (by omega) (ez.symm.trans (by first | (rw [show (k % 2 == 0) = false by simp [c52]] at e; exact e) | (rw [show (k % 2 == 0) = true by simp [c52]] at e; exact e))); rw [← hML]; exact c84)) _ _ _ hW (lv_sub hl [3, 4, 0] rfl)
                        · refine lv_aload_n hx hb dX4_searches_87 rfl (lv_at hl 2 rfl) ?_
                          refine x_get (v := .ref (E.2.2.2 57)) S hW hinX4 40 (xw_40 E _) rfl 23 (by decide) w59 rfl dX4_searches_88 ?_
                          refine lv_iload_n hx hb dX4_searches_91 rfl (lv_at hl 1 rfl) ?_
                          refine lv_aload_n hx hb dX4_searches_92 rfl (lv_at hl 2 rfl) ?_
                          refine x_get (v := .ref (E.2.2.2 57)) S hW hinX4 40 (xw_40 E _) rfl 23 (by decide) w59 rfl dX4_searches_93 ?_
                          refine lv_iload hx hb dX4_searches_96 (lv_at hl 0 rfl) ?_
                          refine x_ildN (k := z) (v := ((G 36) z)) S hW 57 (xw_57 E _) (rfl) (show z < 144 from (show z < 144 by omega)) (by decide) rfl dX4_searches_98 ?_
                          refine x_topN (M z) ((hM z hz).1) ?_
                          refine x_istN (k := k / 2) (σ' := (n, (xu G 36 (upd (G 36) (k / 2) (nI (M z)))), o)) S hW 57 (xw_57 E _) (rfl) (show k / 2 < 144 from (show k / 2 < 144 by omega)) (by decide) (xw_S36 E _ _ _ _) dX4_searches_99 (fun H locs hW => ?_)
                          refine lv_iconst (v := 1) hx hb dX4_searches_100 (by decide) ?_
                          refine lv_istore_n (lv' := [(1, .int 1), (4, .int (nI z)), (3, .int (nI (k / 2))), (0, .ref (E.2.2.2 40)), (2, .int (nI k))]) hx hb dX4_searches_101 rfl hl (by decide) rfl (fun ls hl => ?_)
                          refine lv_iinc (v := (nI (k + 1))) (lv' := [(2, .int (nI (k + 1))), (1, .int 1), (4, .int (nI z)), (3, .int (nI (k / 2))), (0, .ref (E.2.2.2 40))]) hx hb dX4_searches_102 hl (k := 4) rfl (x_inc _) (by decide) rfl (fun ls hl => ?_)
                          refine lv_goto (tgt := 33) hx hb dX4_searches_105 (by decide) ?_
                          exact L33  (1) (k + 1) ((xu G 36 (upd (G 36) (k / 2) (nI (M z))))) (xu M (k / 2) (M z)) (by omega) (by omega) (xu_keep hG9) (xlab hM hkn hz c84 (by first | exact xnx_R hn9 hG.cb hG.op hkn hz ez)) (Or.inl ⟨rfl, xms2 hv2 hkn c84⟩) _ _ _ hW (lv_sub hl [4, 1, 0] rfl)
              exact L33 _ (0) (0) (F) (L) (Nat.lt_succ_self _) (by omega) (hF) (hL) (Or.inr ⟨rfl, rfl, fun j hj => absurd hj (Nat.not_lt_zero j)⟩) _ _ _ hW (lv_sub hl [2, 1, 0] rfl)
        exact L25 _ (1) (F) ((fun z => z)) (Nat.lt_succ_self _) (hF) (fun z hz => ⟨h0 z (by omega), Nat.le_refl z, xR.rf⟩) (Or.inl rfl) _ _ _ hW (lv_sub hl [1, 0] rfl)
      · refine lv_aload_n hx hb dX4_searches_10 rfl (lv_at hl 0 rfl) ?_
        refine x_get (v := .ref (E.2.2.2 57)) S hW hinX4 40 (xw_40 E _) rfl 23 (by decide) w59 rfl dX4_searches_11 ?_
        refine lv_iload_n hx hb dX4_searches_14 rfl (lv_at hl 1 rfl) ?_
        refine lv_iload_n hx hb dX4_searches_15 rfl (lv_at hl 1 rfl) ?_
        refine x_istN (k := i) (σ' := (n, (xu F 36 (upd (F 36) i (nI i))), o)) S hW 57 (xw_57 E _) (rfl) (show i < 144 from by omega) (by decide) (xw_S36 E _ _ _ _) dX4_searches_16 (fun H locs hW => ?_)
        refine lv_iinc (v := (nI (i + 1))) (lv' := [(1, .int (nI (i + 1))), (0, .ref (E.2.2.2 40))]) hx hb dX4_searches_17 hl (k := 1) rfl (x_inc _) (by decide) rfl (fun ls hl => ?_)
        refine lv_goto (tgt := 2) hx hb dX4_searches_20 (by decide) ?_
        exact L2  (i + 1) ((xu F 36 (upd (F 36) i (nI i)))) (by omega) (by omega) (xu_keep hF) (upd_ltP (P := fun k z => z = nI k) h0 rfl) _ _ _ hW (lv_sub hl [1, 0] rfl)
  exact L2 _ (0) (f) (Nat.lt_succ_self _) (by omega) (fun _ _ => rfl) (fun q hq => absurd hq (Nat.not_lt_zero q)) _ _ _ hW (lv_sub hl [1, 0] rfl)

abbrev rmX4_areUnlike : Room := { frames := 0, cells := 0, slots := 0, locals := 0 }
set_option maxHeartbeats 4000000 in
set_option maxRecDepth 100000 in
theorem c_X4_areUnlike (l : Launch) (E : xE) (n : Nat → Int32) (f : Nat → Nat → Int32) (o : Nat → Int64) (Γ : xG) (hG : xGood Γ) (hR : xRepR Γ n f) {i0 : Nat} (hi0 : i0 = 31 ∨ i0 = 32) : xCi l yX4_areUnlike wsX4_areUnlike rmX4_areUnlike E [.ref (E.2.2.2 40), .ref (E.2.2.2 (21 + i0))] (n, f, o) (fun r σ' => (r = 0 ∧ ¬ ((∀ i, i < gNm Γ → ∀ j, j < i → f i0 i ≠ f i0 j)) ∧ σ' = (n, f, o)) ∨ (r = 1 ∧ ((∀ i, i < gNm Γ → ∀ j, j < i → f i0 i ≠ f i0 j)) ∧ σ' = (n, f, o))) := by
  refine x_starti RX4 (by decide) rfl rfl (Nat.le_of_ble_eq_true rfl) ?_
  intro p e s m args below meth c ls S hr hlk hW hl
  have hx := S.1
  have hb := S.2.1
  have hl : lv_has ls 4 [(0, .ref (E.2.2.2 40)), (1, .ref (E.2.2.2 (21 + i0)))] := hl
  have hinX4 : ∀ w ∈ wsX40, w ∈ wsX4_areUnlike := by decide +kernel
  have w112 : Cond.fieldLink RX4 112 "CableBookModel" "moves" "I" ∈ wsX4_areUnlike := by decide +kernel
  have hno := hG.no
  have hnp := hG.np
  have hnt := hG.nt
  have hnm := hG.nm
  refine lv_iconst (v := 0) hx hb dX4_areUnlike_0 (by decide) ?_
  refine lv_istore_n (lv' := [(2, .int 0), (0, .ref (E.2.2.2 40)), (1, .ref (E.2.2.2 (21 + i0)))]) hx hb dX4_areUnlike_1 rfl hl (by decide) rfl (fun ls hl => ?_)
  have L2 : ∀ (fu2 : Nat) (i : Nat) (hμ2 : gNm Γ + 1 - i < fu2) (hi : i ≤ gNm Γ) (h0 : ∀ q, q < i → ∀ j, j < q → f i0 q ≠ f i0 j) (H : Heap) (locs : List Loc) (ls : Array Slot), xSt E (n, f, o) s s.heap H locs → lv_has ls 4 [(0, .ref (E.2.2.2 40)), (1, .ref (E.2.2.2 (21 + i0))), (2, .int (nI i))] → W p l e rmX4_areUnlike s m args below meth c H locs 0 0 (MQ below (va_Qi (fun r σ' => (r = 0 ∧ ¬ ((∀ i, i < gNm Γ → ∀ j, j < i → f i0 i ≠ f i0 j)) ∧ σ' = (n, f, o)) ∨ (r = 1 ∧ ((∀ i, i < gNm Γ → ∀ j, j < i → f i0 i ≠ f i0 j)) ∧ σ' = (n, f, o))) (xWd E) (xA E)) args s 0 0 (xA E)) (F0 m 2 ls []) := by
    intro fu2
    induction fu2 with
    | zero => intro i hμ2; exact absurd hμ2 (Nat.not_lt_zero _)
    | succ fu2 L2 =>
      intro i hμ2 hi h0 H locs ls hW hl
      refine lv_iload_n hx hb dX4_areUnlike_2 rfl (lv_at hl 2 rfl) ?_
      refine lv_aload_n hx hb dX4_areUnlike_3 rfl (lv_at hl 0 rfl) ?_
      refine x_get (v := .int (n 14)) S hW hinX4 40 (xw_40 E _) rfl 4 (by decide) w112 rfl dX4_areUnlike_4 ?_
      refine x_topN (gNm Γ) (hR.nm) ?_
      refine x_icmp_ge (a := i) (b := gNm Γ) (tgt := 40) hx hb dX4_areUnlike_7 (by decide) (by omega) (by omega) (fun c7 => ?_) (fun c7 => ?_)
      · refine lv_iconst (v := 1) hx hb dX4_areUnlike_40 (by decide) ?_
        exact x_retz S hr hlk hW dX4_areUnlike_41 (Or.inr rfl) (.inr ⟨rfl, fun i hi2 j hj => h0 i (by omega) j hj, rfl⟩)
      · refine lv_iconst (v := 0) hx hb dX4_areUnlike_10 (by decide) ?_
        refine lv_istore_n (lv' := [(3, .int 0), (0, .ref (E.2.2.2 40)), (1, .ref (E.2.2.2 (21 + i0))), (2, .int (nI i))]) hx hb dX4_areUnlike_11 rfl hl (by decide) rfl (fun ls hl => ?_)
        have L12 : ∀ (fu12 : Nat) (j : Nat) (hμ12 : i + 1 - j < fu12) (hj : j ≤ i) (g0 : ∀ q, q < j → f i0 i ≠ f i0 q) (H : Heap) (locs : List Loc) (ls : Array Slot), xSt E (n, f, o) s s.heap H locs → lv_has ls 4 [(0, .ref (E.2.2.2 40)), (1, .ref (E.2.2.2 (21 + i0))), (2, .int (nI i)), (3, .int (nI j))] → W p l e rmX4_areUnlike s m args below meth c H locs 0 0 (MQ below (va_Qi (fun r σ' => (r = 0 ∧ ¬ ((∀ i, i < gNm Γ → ∀ j, j < i → f i0 i ≠ f i0 j)) ∧ σ' = (n, f, o)) ∨ (r = 1 ∧ ((∀ i, i < gNm Γ → ∀ j, j < i → f i0 i ≠ f i0 j)) ∧ σ' = (n, f, o))) (xWd E) (xA E)) args s 0 0 (xA E)) (F0 m 12 ls []) := by
          intro fu12
          induction fu12 with
          | zero => intro j hμ12; exact absurd hμ12 (Nat.not_lt_zero _)
          | succ fu12 L12 =>
            intro j hμ12 hj g0 H locs ls hW hl
            refine lv_iload_n hx hb dX4_areUnlike_12 rfl (lv_at hl 3 rfl) ?_
            refine lv_iload_n hx hb dX4_areUnlike_13 rfl (lv_at hl 2 rfl) ?_
            refine x_icmp_ge (a := j) (b := i) (tgt := 34) hx hb dX4_areUnlike_14 (by decide) (by omega) (by omega) (fun c14 => ?_) (fun c14 => ?_)
            · refine lv_iinc (v := (nI (i + 1))) (lv' := [(2, .int (nI (i + 1))), (0, .ref (E.2.2.2 40)), (1, .ref (E.2.2.2 (21 + i0))), (3, .int (nI j))]) hx hb dX4_areUnlike_34 hl (k := 2) rfl (x_inc _) (by decide) rfl (fun ls hl => ?_)
              refine lv_goto (tgt := 2) hx hb dX4_areUnlike_37 (by decide) ?_
              exact L2  (i + 1) (by omega) (by omega) (lt_s h0 (fun q hq => g0 q (by omega))) _ _ _ hW (lv_sub hl [1, 2, 0] rfl)
            · refine lv_aload_n hx hb dX4_areUnlike_17 rfl (lv_at hl 1 rfl) ?_
              refine lv_iload_n hx hb dX4_areUnlike_18 rfl (lv_at hl 2 rfl) ?_
              refine x_ildN (k := i) (v := ((f i0) i)) S hW (21 + i0) (xw_mv E _ hi0) (rfl) (by omega) (by omega) rfl dX4_areUnlike_19 ?_
              refine lv_aload_n hx hb dX4_areUnlike_20 rfl (lv_at hl 1 rfl) ?_
              refine lv_iload_n hx hb dX4_areUnlike_21 rfl (lv_at hl 3 rfl) ?_
              refine x_ildN (k := j) (v := ((f i0) j)) S hW (21 + i0) (xw_mv E _ hi0) (rfl) (by omega) (by omega) rfl dX4_areUnlike_22 ?_
              refine lv_icmp_ne (tgt := 28) hx hb dX4_areUnlike_23 (by decide) (fun c23 => ?_) (fun c23 => ?_)
              · refine lv_iinc (v := (nI (j + 1))) (lv' := [(3, .int (nI (j + 1))), (0, .ref (E.2.2.2 40)), (1, .ref (E.2.2.2 (21 + i0))), (2, .int (nI i))]) hx hb dX4_areUnlike_28 hl (k := 3) rfl (x_inc _) (by decide) rfl (fun ls hl => ?_)
                refine lv_goto (tgt := 12) hx hb dX4_areUnlike_31 (by decide) ?_
                exact L12  (j + 1) (by omega) (by omega) (lt_s g0 c23) _ _ _ hW (lv_sub hl [1, 2, 3, 0] rfl)
              · refine lv_iconst (v := 0) hx hb dX4_areUnlike_26 (by decide) ?_
                exact x_retz S hr hlk hW dX4_areUnlike_27 (Or.inl rfl) (.inl ⟨rfl, fun h => h i (by omega) j (by omega) c23, rfl⟩)
        exact L12 _ (0) (Nat.lt_succ_self _) (by omega) (fun q hq => absurd hq (Nat.not_lt_zero q)) _ _ _ hW (lv_sub hl [1, 2, 3, 0] rfl)
  exact L2 _ (0) (Nat.lt_succ_self _) (by omega) (fun q hq => absurd hq (Nat.not_lt_zero q)) _ _ _ hW (lv_sub hl [1, 2, 0] rfl)

abbrev rmX4_moved : Room := { frames := 0, cells := 0, slots := 0, locals := 0 }
set_option maxHeartbeats 4000000 in
set_option maxRecDepth 100000 in
theorem c_X4_moved (l : Launch) (E : xE) (n : Nat → Int32) (f : Nat → Nat → Int32) (o : Nat → Int64) (Γ : xG) (hG : xGood Γ) (hR : xRepR Γ n f) {p1 : Nat} (h1 : p1 < gNo Γ) : xCi l yX4_moved wsX4_moved rmX4_moved E [.ref (E.2.2.2 40), .int (nI p1)] (n, f, o) (fun r σ' => xmv (f 31) (f 32) (gNm Γ) (nI p1) r ∧ σ' = (n, f, o)) := by
  refine x_starti RX4 (by decide) rfl rfl (Nat.le_of_ble_eq_true rfl) ?_
  intro p e s m args below meth c ls S hr hlk hW hl
  have hx := S.1
  have hb := S.2.1
  have hl : lv_has ls 3 [(0, .ref (E.2.2.2 40)), (1, .int (nI p1))] := hl
  have hinX4 : ∀ w ∈ wsX40, w ∈ wsX4_moved := by decide +kernel
  have w112 : Cond.fieldLink RX4 112 "CableBookModel" "moves" "I" ∈ wsX4_moved := by decide +kernel
  have w44 : Cond.fieldLink RX4 44 "CableBookModel" "from" "[I" ∈ wsX4_moved := by decide +kernel
  have w47 : Cond.fieldLink RX4 47 "CableBookModel" "to" "[I" ∈ wsX4_moved := by decide +kernel
  have hno := hG.no
  have hnp := hG.np
  have hnt := hG.nt
  have hnm := hG.nm
  refine lv_iconst (v := 0) hx hb dX4_moved_0 (by decide) ?_
  refine lv_istore_n (lv' := [(2, .int 0), (0, .ref (E.2.2.2 40)), (1, .int (nI p1))]) hx hb dX4_moved_1 rfl hl (by decide) rfl (fun ls hl => ?_)
  have L2 : ∀ (fu2 : Nat) (i : Nat) (hμ2 : gNm Γ + 1 - i < fu2) (hi : i ≤ gNm Γ) (h0 : ∀ q, q < i → ¬ f 31 q = nI p1) (H : Heap) (locs : List Loc) (ls : Array Slot), xSt E (n, f, o) s s.heap H locs → lv_has ls 3 [(0, .ref (E.2.2.2 40)), (1, .int (nI p1)), (2, .int (nI i))] → W p l e rmX4_moved s m args below meth c H locs 0 0 (MQ below (va_Qi (fun r σ' => xmv (f 31) (f 32) (gNm Γ) (nI p1) r ∧ σ' = (n, f, o)) (xWd E) (xA E)) args s 0 0 (xA E)) (F0 m 2 ls []) := by
    intro fu2
    induction fu2 with
    | zero => intro i hμ2; exact absurd hμ2 (Nat.not_lt_zero _)
    | succ fu2 L2 =>
      intro i hμ2 hi h0 H locs ls hW hl
      refine lv_iload_n hx hb dX4_moved_2 rfl (lv_at hl 2 rfl) ?_
      refine lv_aload_n hx hb dX4_moved_3 rfl (lv_at hl 0 rfl) ?_
      refine x_get (v := .int (n 14)) S hW hinX4 40 (xw_40 E _) rfl 4 (by decide) w112 rfl dX4_moved_4 ?_
      refine x_topN (gNm Γ) (hR.nm) ?_
      refine x_icmp_ge (a := i) (b := gNm Γ) (tgt := 33) hx hb dX4_moved_7 (by decide) (by omega) (by omega) (fun c7 => ?_) (fun c7 => ?_)
      · refine lv_iload_n hx hb dX4_moved_33 rfl (lv_at hl 1 rfl) ?_
        exact x_reti S hr hlk hW dX4_moved_34 (⟨Or.inr ⟨fun q hq => h0 q (by omega), rfl⟩, rfl⟩)
      · refine lv_aload_n hx hb dX4_moved_10 rfl (lv_at hl 0 rfl) ?_
        refine x_get (v := .ref (E.2.2.2 52)) S hW hinX4 40 (xw_40 E _) rfl 16 (by decide) w44 rfl dX4_moved_11 ?_
        refine lv_iload_n hx hb dX4_moved_14 rfl (lv_at hl 2 rfl) ?_
        refine x_ildN (k := i) (v := ((f 31) i)) S hW 52 (xw_52 E _) (rfl) (show i < 12 from by omega) (by decide) rfl dX4_moved_15 ?_
        refine lv_iload_n hx hb dX4_moved_16 rfl (lv_at hl 1 rfl) ?_
        refine lv_icmp_ne (tgt := 27) hx hb dX4_moved_17 (by decide) (fun c17 => ?_) (fun c17 => ?_)
        · refine lv_iinc (v := (nI (i + 1))) (lv' := [(2, .int (nI (i + 1))), (0, .ref (E.2.2.2 40)), (1, .int (nI p1))]) hx hb dX4_moved_27 hl (k := 2) rfl (x_inc _) (by decide) rfl (fun ls hl => ?_)
          refine lv_goto (tgt := 2) hx hb dX4_moved_30 (by decide) ?_
          exact L2  (i + 1) (by omega) (by omega) (lt_s h0 c17) _ _ _ hW (lv_sub hl [1, 2, 0] rfl)
        · refine lv_aload_n hx hb dX4_moved_20 rfl (lv_at hl 0 rfl) ?_
          refine x_get (v := .ref (E.2.2.2 53)) S hW hinX4 40 (xw_40 E _) rfl 17 (by decide) w47 rfl dX4_moved_21 ?_
          refine lv_iload_n hx hb dX4_moved_24 rfl (lv_at hl 2 rfl) ?_
          refine x_ildN (k := i) (v := ((f 32) i)) S hW 53 (xw_53 E _) (rfl) (show i < 12 from by omega) (by decide) rfl dX4_moved_25 ?_
          exact x_reti S hr hlk hW dX4_moved_26 (⟨Or.inl ⟨i, by omega, c17, h0, rfl⟩, rfl⟩)
  exact L2 _ (0) (Nat.lt_succ_self _) (by omega) (fun q hq => absurd hq (Nat.not_lt_zero q)) _ _ _ hW (lv_sub hl [1, 2, 0] rfl)

abbrev rmX4_lays : Room := { frames := 1, cells := 0, slots := 0, locals := 23 }
set_option maxHeartbeats 4000000 in
set_option maxRecDepth 100000 in
theorem c_X4_lays (l : Launch) (E : xE) (n : Nat → Int32) (f : Nat → Nat → Int32) (o : Nat → Int64) (Γ : xG) (hG : xGood Γ) (hR : xRepR Γ n f) : xCi l yX4_lays wsX4_lays rmX4_lays E [.ref (E.2.2.2 40)] (n, f, o) (fun r σ' => ∃ F, ((r = 0 ∧ ¬ gPos Γ) ∨ (r = 1 ∧ gPos Γ ∧ ∀ z, z < gNo Γ → F 33 z = gNC Γ z ∧ F 34 z = gNK Γ z)) ∧ σ' = (n, F, o) ∧ (∀ q, q ≠ 33 → q ≠ 34 → F q = f q)) := by
  refine x_starti RX4 (by decide) rfl rfl (Nat.le_of_ble_eq_true rfl) ?_
  intro p e s m args below meth c ls S hr hlk hW hl
  have hx := S.1
  have hb := S.2.1
  have hl : lv_has ls 4 [(0, .ref (E.2.2.2 40))] := hl
  have hinX4 : ∀ w ∈ wsX40, w ∈ wsX4_lays := by decide +kernel
  have w112 : Cond.fieldLink RX4 112 "CableBookModel" "moves" "I" ∈ wsX4_lays := by decide +kernel
  have w16 : Cond.fieldLink RX4 16 "CableBookModel" "cables" "[I" ∈ wsX4_lays := by decide +kernel
  have w19 : Cond.fieldLink RX4 19 "CableBookModel" "colours" "[I" ∈ wsX4_lays := by decide +kernel
  have w44 : Cond.fieldLink RX4 44 "CableBookModel" "from" "[I" ∈ wsX4_lays := by decide +kernel
  have w47 : Cond.fieldLink RX4 47 "CableBookModel" "to" "[I" ∈ wsX4_lays := by decide +kernel
  have w50 : Cond.fieldLink RX4 50 "CableBookModel" "newCables" "[I" ∈ wsX4_lays := by decide +kernel
  have w53 : Cond.fieldLink RX4 53 "CableBookModel" "newColours" "[I" ∈ wsX4_lays := by decide +kernel
  have w66 : Cond.fieldLink RX4 66 "CableBookModel" "ports" "I" ∈ wsX4_lays := by decide +kernel
  have hno := hG.no
  have hnp := hG.np
  have hnt := hG.nt
  have hnm := hG.nm
  refine lv_aload_n hx hb dX4_lays_0 rfl (lv_at hl 0 rfl) ?_
  refine lv_aload_n hx hb dX4_lays_1 rfl (lv_at hl 0 rfl) ?_
  refine x_get (v := .ref (E.2.2.2 52)) S hW hinX4 40 (xw_40 E _) rfl 16 (by decide) w44 rfl dX4_lays_2 ?_
  refine x_Vi (rest := []) S (c_X4_areUnlike l E n f o Γ hG hR (i0 := 31) (by decide)) (cwV 1 S.2.2.2.2 gX4_lays_X4_areUnlike rfl rfl rfl (by decide +kernel) ⟨Nat.le_of_ble_eq_true rfl, Nat.le_of_ble_eq_true rfl⟩) hW 40 (xw_40 E _) rfl rfl rfl hl.1 (Nat.le_of_ble_eq_true rfl) dX4_lays_5 ⟨Nat.zero_le _, Nat.zero_le _⟩ (fun r5 σ5 H locs hq1 hW => ?_)
  rcases hq1 with ⟨rfl, h5, rfl⟩ | ⟨rfl, h5, rfl⟩
  · refine lv_if_eq (tgt := 26) hx hb dX4_lays_8 (by decide) (fun c8 => ?_) (fun c8 => ?_)
    rotate_left
    · exact absurd c8 (by decide)
    refine lv_iconst (v := 0) hx hb dX4_lays_26 (by decide) ?_
    refine lv_istore_n (lv' := [(1, .int 0), (0, .ref (E.2.2.2 40))]) hx hb dX4_lays_27 rfl hl (by decide) rfl (fun ls hl => ?_)
    refine lv_iconst (v := 0) hx hb dX4_lays_28 (by decide) ?_
    refine lv_istore_n (lv' := [(2, .int 0), (1, .int 0), (0, .ref (E.2.2.2 40))]) hx hb dX4_lays_29 rfl hl (by decide) rfl (fun ls hl => ?_)
    have L30 : ∀ (fu30 : Nat) (v1 : Int32) (i : Nat) (hμ30 : gNm Γ + 1 - i < fu30) (hi : i ≤ gNm Γ) (hv : (v1 = 1 ∧ gUn Γ ∧ ∀ q, q < i → gCb Γ (gMx Γ q) ≠ -1) ∨ (v1 = 0 ∧ ¬ gPos Γ)) (H : Heap) (locs : List Loc) (ls : Array Slot), xSt E (n, f, o) s s.heap H locs → lv_has ls 4 [(0, .ref (E.2.2.2 40)), (1, .int v1), (2, .int (nI i))] → W p l e rmX4_lays s m args below meth c H locs 0 0 (MQ below (va_Qi (fun r σ' => ∃ F, ((r = 0 ∧ ¬ gPos Γ) ∨ (r = 1 ∧ gPos Γ ∧ ∀ z, z < gNo Γ → F 33 z = gNC Γ z ∧ F 34 z = gNK Γ z)) ∧ σ' = (n, F, o) ∧ (∀ q, q ≠ 33 → q ≠ 34 → F q = f q)) (xWd E) (xA E)) args s 0 0 (xA E)) (F0 m 30 ls []) := by
      intro fu30
      induction fu30 with
      | zero => intro v1 i hμ30; exact absurd hμ30 (Nat.not_lt_zero _)
      | succ fu30 L30 =>
        intro v1 i hμ30 hi hv H locs ls hW hl
        refine lv_iload_n hx hb dX4_lays_30 rfl (lv_at hl 2 rfl) ?_
        refine lv_aload_n hx hb dX4_lays_31 rfl (lv_at hl 0 rfl) ?_
        refine x_get (v := .int (n 14)) S hW hinX4 40 (xw_40 E _) rfl 4 (by decide) w112 rfl dX4_lays_32 ?_
        refine x_topN (gNm Γ) (hR.nm) ?_
        refine x_icmp_ge (a := i) (b := gNm Γ) (tgt := 69) hx hb dX4_lays_35 (by decide) (by omega) (by omega) (fun c35 => ?_) (fun c35 => ?_)
        · refine lv_iconst (v := 0) hx hb dX4_lays_69 (by decide) ?_
          refine lv_istore_n (lv' := [(2, .int 0), (0, .ref (E.2.2.2 40)), (1, .int v1)]) hx hb dX4_lays_70 rfl hl (by decide) rfl (fun ls hl => ?_)
          have L71 : ∀ (fu71 : Nat) (i : Nat) (F : Nat → Nat → Int32) (hμ71 : gNo Γ + 1 - i < fu71) (hi : i ≤ gNo Γ) (hF : ∀ q, q ≠ 33 → q ≠ 34 → F q = f q) (h3 : ∀ z, z < i → F 33 z = -1) (h4 : ∀ z, z < i → F 34 z = 0) (H : Heap) (locs : List Loc) (ls : Array Slot), xSt E (n, F, o) s s.heap H locs → lv_has ls 4 [(0, .ref (E.2.2.2 40)), (1, .int v1), (2, .int (nI i))] → W p l e rmX4_lays s m args below meth c H locs 0 0 (MQ below (va_Qi (fun r σ' => ∃ F, ((r = 0 ∧ ¬ gPos Γ) ∨ (r = 1 ∧ gPos Γ ∧ ∀ z, z < gNo Γ → F 33 z = gNC Γ z ∧ F 34 z = gNK Γ z)) ∧ σ' = (n, F, o) ∧ (∀ q, q ≠ 33 → q ≠ 34 → F q = f q)) (xWd E) (xA E)) args s 0 0 (xA E)) (F0 m 71 ls []) := by
            intro fu71
            induction fu71 with
            | zero => intro i F hμ71; exact absurd hμ71 (Nat.not_lt_zero _)
            | succ fu71 L71 =>
              intro i F hμ71 hi hF h3 h4 H locs ls hW hl
              refine lv_iload_n hx hb dX4_lays_71 rfl (lv_at hl 2 rfl) ?_
              refine lv_aload_n hx hb dX4_lays_72 rfl (lv_at hl 0 rfl) ?_
              refine x_get (v := .int (n 12)) S hW hinX4 40 (xw_40 E _) rfl 2 (by decide) w66 rfl dX4_lays_73 ?_
              refine x_topN (gNo Γ) (hR.no) ?_
              refine x_icmp_ge (a := i) (b := gNo Γ) (tgt := 99) hx hb dX4_lays_76 (by decide) (by omega) (by omega) (fun c76 => ?_) (fun c76 => ?_)
              · refine lv_iconst (v := 0) hx hb dX4_lays_99 (by decide) ?_
                refine lv_istore_n (lv' := [(2, .int 0), (0, .ref (E.2.2.2 40)), (1, .int v1)]) hx hb dX4_lays_100 rfl hl (by decide) rfl (fun ls hl => ?_)
                have L101 : ∀ (fu101 : Nat) (v1 : Int32) (i : Nat) (G : Nat → Nat → Int32) (hμ101 : gNo Γ + 1 - i < fu101) (hi : i ≤ gNo Γ) (hG9 : ∀ q, q ≠ 33 → q ≠ 34 → G q = f q) (hv2 : (v1 = 1 ∧ xLay Γ i (G 33) (G 34)) ∨ (v1 = 0 ∧ ¬ gPos Γ)) (H : Heap) (locs : List Loc) (ls : Array Slot), xSt E (n, G, o) s s.heap H locs → lv_has ls 4 [(0, .ref (E.2.2.2 40)), (1, .int v1), (2, .int (nI i))] → W p l e rmX4_lays s m args below meth c H locs 0 0 (MQ below (va_Qi (fun r σ' => ∃ F, ((r = 0 ∧ ¬ gPos Γ) ∨ (r = 1 ∧ gPos Γ ∧ ∀ z, z < gNo Γ → F 33 z = gNC Γ z ∧ F 34 z = gNK Γ z)) ∧ σ' = (n, F, o) ∧ (∀ q, q ≠ 33 → q ≠ 34 → F q = f q)) (xWd E) (xA E)) args s 0 0 (xA E)) (F0 m 101 ls []) := by
                  intro fu101
                  induction fu101 with
                  | zero => intro v1 i G hμ101; exact absurd hμ101 (Nat.not_lt_zero _)
                  | succ fu101 L101 =>
                    intro v1 i G hμ101 hi hG9 hv2 H locs ls hW hl
                    have hRG : xRepR Γ n G := hR.eqv (fun _ _ _ _ => rfl) (fun q _ h2 => hG9 q (by omega) (by omega))
                    refine lv_iload_n hx hb dX4_lays_101 rfl (lv_at hl 2 rfl) ?_
                    refine lv_aload_n hx hb dX4_lays_102 rfl (lv_at hl 0 rfl) ?_
                    refine x_get (v := .int (n 12)) S hW hinX4 40 (xw_40 E _) rfl 2 (by decide) w66 rfl dX4_lays_103 ?_
                    refine x_topN (gNo Γ) (hR.no) ?_
                    refine x_icmp_ge (a := i) (b := gNo Γ) (tgt := 193) hx hb dX4_lays_106 (by decide) (by omega) (by omega) (fun c106 => ?_) (fun c106 => ?_)
                    · refine lv_iload_n hx hb dX4_lays_193 rfl (lv_at hl 1 rfl) ?_
                      exact x_retz S hr hlk hW dX4_lays_194 (by rcases hv2 with ⟨h, -⟩ | ⟨h, -⟩; exact Or.inr h; exact Or.inl h) (⟨G, by first | exact hv2.elim (fun h => Or.inr ⟨h.1, xlay_e hG (by rw [show gNo Γ = i by omega]; exact h.2)⟩) (fun h => Or.inl ⟨h.1, h.2⟩) | exact Or.inl (hv2.elim (fun h => absurd (h.1.symm.trans c110) (by decide)) (fun h => h)), rfl, hG9⟩)
                    · refine lv_iload_n hx hb dX4_lays_109 rfl (lv_at hl 1 rfl) ?_
                      refine lv_if_eq (tgt := 193) hx hb dX4_lays_110 (by decide) (fun c110 => ?_) (fun c110 => ?_)
                      · refine lv_iload_n hx hb dX4_lays_193 rfl (lv_at hl 1 rfl) ?_
                        exact x_retz S hr hlk hW dX4_lays_194 (by rcases hv2 with ⟨h, -⟩ | ⟨h, -⟩; exact Or.inr h; exact Or.inl h) (⟨G, by first | exact hv2.elim (fun h => Or.inr ⟨h.1, xlay_e hG (by rw [show gNo Γ = i by omega]; exact h.2)⟩) (fun h => Or.inl ⟨h.1, h.2⟩) | exact Or.inl (hv2.elim (fun h => absurd (h.1.symm.trans c110) (by decide)) (fun h => h)), rfl, hG9⟩)
                      · refine lv_aload_n hx hb dX4_lays_113 rfl (lv_at hl 0 rfl) ?_
                        refine x_get (v := .ref (E.2.2.2 43)) S hW hinX4 40 (xw_40 E _) rfl 7 (by decide) w16 rfl dX4_lays_114 ?_
                        refine lv_iload_n hx hb dX4_lays_117 rfl (lv_at hl 2 rfl) ?_
                        refine x_ildN (k := i) (v := ((G 22) i)) S hW 43 (xw_43 E _) (rfl) (show i < 144 from by omega) (by decide) rfl dX4_lays_118 ?_
                        refine x_topE (gCb Γ i) (hRG.cb i (by omega)) ?_
                        refine lv_iconst (v := (-1)) hx hb dX4_lays_119 (by decide) ?_
                        refine lv_icmp_eq (tgt := 187) hx hb dX4_lays_120 (by decide) (fun c120 => ?_) (fun c120 => ?_)
                        · refine lv_iinc (v := (nI (i + 1))) (lv' := [(2, .int (nI (i + 1))), (0, .ref (E.2.2.2 40)), (1, .int v1)]) hx hb dX4_lays_187 hl (k := 2) rfl (x_inc _) (by decide) rfl (fun ls hl => ?_)
                          refine lv_goto (tgt := 101) hx hb dX4_lays_190 (by decide) ?_
                          exact L101  (v1) (i + 1) (G) (by omega) (by omega) (hG9) (Or.inl ⟨xl1 hv2 c110, xlay_s (xl2 hv2 c110) c120⟩) _ _ _ hW (lv_sub hl [1, 2, 0] rfl)
                        · have hlay := xl2 hv2 c110
                          have hun := hlay.1
                          have hi9 : i < gNo Γ := by omega
                          obtain ⟨z, hz, hzi, hoz, hzo⟩ := (hG.cb i hi9).resolve_left c120
                          have hme := gMv_lt hG hi9
                          have hmz := gMv_lt hG hz
                          refine lv_aload_n hx hb dX4_lays_123 rfl (lv_at hl 0 rfl) ?_
                          refine lv_iload_n hx hb dX4_lays_124 rfl (lv_at hl 2 rfl) ?_
                          refine x_Vi (rest := []) S (c_X4_moved l E n G o Γ hG hRG (p1 := i) hi9) (cwV 1 S.2.2.2.2 gX4_lays_X4_moved rfl rfl rfl (by decide +kernel) ⟨Nat.le_of_ble_eq_true rfl, Nat.le_of_ble_eq_true rfl⟩) hW 40 (xw_40 E _) rfl rfl rfl hl.1 (Nat.le_of_ble_eq_true rfl) dX4_lays_125 ⟨Nat.zero_le _, Nat.zero_le _⟩ (fun r125 σ125 H locs hq2 hW => ?_)
                          obtain ⟨h125, rfl⟩ := hq2
                          have h125 : r125 = nI (gMv Γ i) := mv_of hRG hG hi9 (gUn.ix hun) h125
                          subst h125
                          refine lv_istore_n (lv' := [(3, .int (nI (gMv Γ i))), (0, .ref (E.2.2.2 40)), (1, .int v1), (2, .int (nI i))]) hx hb dX4_lays_128 rfl hl (by decide) rfl (fun ls hl => ?_)
                          refine lv_aload_n hx hb dX4_lays_129 rfl (lv_at hl 1 rfl) ?_
                          refine x_get (v := .ref (E.2.2.2 54)) S hW hinX4 40 (xw_40 E _) rfl 18 (by decide) w50 rfl dX4_lays_130 ?_
                          refine lv_iload_n hx hb dX4_lays_133 rfl (lv_at hl 0 rfl) ?_
                          refine x_ildN (k := gMv Γ i) (v := ((G 33) (gMv Γ i))) S hW 54 (xw_54 E _) (rfl) (show gMv Γ i < 144 from by omega) (by decide) rfl dX4_lays_134 ?_
                          refine lv_iconst (v := (-1)) hx hb dX4_lays_135 (by decide) ?_
                          refine lv_icmp_ne (tgt := 157) hx hb dX4_lays_136 (by decide) (fun c136 => ?_) (fun c136 => ?_)
                          · refine lv_iconst (v := 0) hx hb dX4_lays_157 (by decide) ?_
                            refine lv_istore_n (lv' := [(1, .int 0), (3, .int (nI (gMv Γ i))), (0, .ref (E.2.2.2 40)), (2, .int (nI i))]) hx hb dX4_lays_158 rfl hl (by decide) rfl (fun ls hl => ?_)
                            have hre := hRG.cl i hi9 c120
                            refine lv_aload_n hx hb dX4_lays_159 rfl (lv_at hl 2 rfl) ?_
                            refine x_get (v := .ref (E.2.2.2 54)) S hW hinX4 40 (xw_40 E _) rfl 18 (by decide) w50 rfl dX4_lays_160 ?_
                            refine lv_iload_n hx hb dX4_lays_163 rfl (lv_at hl 1 rfl) ?_
                            refine lv_aload_n hx hb dX4_lays_164 rfl (lv_at hl 2 rfl) ?_
                            refine lv_aload_n hx hb dX4_lays_165 rfl (lv_at hl 2 rfl) ?_
                            refine x_get (v := .ref (E.2.2.2 43)) S hW hinX4 40 (xw_40 E _) rfl 7 (by decide) w16 rfl dX4_lays_166 ?_
                            refine lv_iload_n hx hb dX4_lays_169 rfl (lv_at hl 3 rfl) ?_
                            refine x_ildN (k := i) (v := ((G 22) i)) S hW 43 (xw_43 E _) (rfl) (show i < 144 from by omega) (by decide) rfl dX4_lays_170 ?_
                            refine x_topN (z) ((hRG.cb i hi9).trans hoz) ?_
                            refine x_Vi (rest := [.int (nI (gMv Γ i)), .ref (E.2.2.2 54)]) S (c_X4_moved l E n G o Γ hG hRG (p1 := z) hz) (cwV 1 S.2.2.2.2 gX4_lays_X4_moved rfl rfl rfl (by decide +kernel) ⟨Nat.le_of_ble_eq_true rfl, Nat.le_of_ble_eq_true rfl⟩) hW 40 (xw_40 E _) rfl rfl rfl hl.1 (Nat.le_of_ble_eq_true rfl) dX4_lays_171 ⟨Nat.zero_le _, Nat.zero_le _⟩ (fun r171 σ171 H locs hq3 hW => ?_)
                            obtain ⟨h171, rfl⟩ := hq3
                            have h171 : r171 = nI (gMv Γ z) := mv_of hRG hG hz (gUn.ix hun) h171
                            subst h171
                            refine x_istN (k := gMv Γ i) (σ' := (n, (xu G 33 (upd (G 33) (gMv Γ i) (nI (gMv Γ z)))), o)) S hW 54 (xw_54 E _) (rfl) (show gMv Γ i < 144 from by omega) (by decide) (xw_S33 E _ _ _ _) dX4_lays_174 (fun H locs hW => ?_)
                            refine lv_aload_n hx hb dX4_lays_175 rfl (lv_at hl 2 rfl) ?_
                            refine x_get (v := .ref (E.2.2.2 55)) S hW hinX4 40 (xw_40 E _) rfl 19 (by decide) w53 rfl dX4_lays_176 ?_
                            refine lv_iload_n hx hb dX4_lays_179 rfl (lv_at hl 1 rfl) ?_
                            refine lv_aload_n hx hb dX4_lays_180 rfl (lv_at hl 2 rfl) ?_
                            refine x_get (v := .ref (E.2.2.2 44)) S hW hinX4 40 (xw_40 E _) rfl 8 (by decide) w19 rfl dX4_lays_181 ?_
                            refine lv_iload_n hx hb dX4_lays_184 rfl (lv_at hl 3 rfl) ?_
                            refine x_ildN (k := i) (v := ((G 23) i)) S hW 44 (xw_44 E _) (rfl) (show i < 144 from by omega) (by decide) rfl dX4_lays_185 ?_
                            refine x_istN (k := gMv Γ i) (σ' := (n, (xu (xu G 33 (upd (G 33) (gMv Γ i) (nI (gMv Γ z)))) 34 (upd (G 34) (gMv Γ i) ((G 23) i))), o)) S hW 55 (xw_55 E _) (rfl) (show gMv Γ i < 144 from by omega) (by decide) (xw_S34 E _ _ _ _) dX4_lays_186 (fun H locs hW => ?_)
                            refine lv_iinc (v := (nI (i + 1))) (lv' := [(2, .int (nI (i + 1))), (1, .int 0), (3, .int (nI (gMv Γ i))), (0, .ref (E.2.2.2 40))]) hx hb dX4_lays_187 hl (k := 3) rfl (x_inc _) (by decide) rfl (fun ls hl => ?_)
                            refine lv_goto (tgt := 101) hx hb dX4_lays_190 (by decide) ?_
                            exact L101  (0) (i + 1) ((xu (xu G 33 (upd (G 33) (gMv Γ i) (nI (gMv Γ z)))) 34 (upd (G 34) (gMv Γ i) ((G 23) i)))) (by omega) (by omega) (fun q h1 h2 => by rw [xu_n h2, xu_n h1]; exact hG9 q h1 h2) (Or.inr ⟨rfl, by first | exact xlay_n1 hG hlay hi9 c120 c136 | exact xlay_n2 hG hlay hi9 hz c120 hoz c150⟩) _ _ _ hW (lv_sub hl [3, 1, 0] rfl)
                          · refine lv_iload_n hx hb dX4_lays_139 rfl (lv_at hl 0 rfl) ?_
                            refine lv_aload_n hx hb dX4_lays_140 rfl (lv_at hl 1 rfl) ?_
                            refine lv_aload_n hx hb dX4_lays_141 rfl (lv_at hl 1 rfl) ?_
                            refine x_get (v := .ref (E.2.2.2 43)) S hW hinX4 40 (xw_40 E _) rfl 7 (by decide) w16 rfl dX4_lays_142 ?_
                            refine lv_iload_n hx hb dX4_lays_145 rfl (lv_at hl 3 rfl) ?_
                            refine x_ildN (k := i) (v := ((G 22) i)) S hW 43 (xw_43 E _) (rfl) (show i < 144 from by omega) (by decide) rfl dX4_lays_146 ?_
                            refine x_topN (z) ((hRG.cb i hi9).trans hoz) ?_
                            refine x_Vi (rest := [.int (nI (gMv Γ i))]) S (c_X4_moved l E n G o Γ hG hRG (p1 := z) hz) (cwV 1 S.2.2.2.2 gX4_lays_X4_moved rfl rfl rfl (by decide +kernel) ⟨Nat.le_of_ble_eq_true rfl, Nat.le_of_ble_eq_true rfl⟩) hW 40 (xw_40 E _) rfl rfl rfl hl.1 (Nat.le_of_ble_eq_true rfl) dX4_lays_147 ⟨Nat.zero_le _, Nat.zero_le _⟩ (fun r147 σ147 H locs hq4 hW => ?_)
                            obtain ⟨h147, rfl⟩ := hq4
                            have h147 : r147 = nI (gMv Γ z) := mv_of hRG hG hz (gUn.ix hun) h147
                            subst h147
                            refine x_icmp_eq (a := gMv Γ i) (b := gMv Γ z) (tgt := 157) hx hb dX4_lays_150 (by decide) (by omega) (by omega) (fun c150 => ?_) (fun c150 => ?_)
                            · refine lv_iconst (v := 0) hx hb dX4_lays_157 (by decide) ?_
                              refine lv_istore_n (lv' := [(1, .int 0), (3, .int (nI (gMv Γ i))), (0, .ref (E.2.2.2 40)), (2, .int (nI i))]) hx hb dX4_lays_158 rfl hl (by decide) rfl (fun ls hl => ?_)
                              have hre := hRG.cl i hi9 c120
                              refine lv_aload_n hx hb dX4_lays_159 rfl (lv_at hl 2 rfl) ?_
                              refine x_get (v := .ref (E.2.2.2 54)) S hW hinX4 40 (xw_40 E _) rfl 18 (by decide) w50 rfl dX4_lays_160 ?_
                              refine lv_iload_n hx hb dX4_lays_163 rfl (lv_at hl 1 rfl) ?_
                              refine lv_aload_n hx hb dX4_lays_164 rfl (lv_at hl 2 rfl) ?_
                              refine lv_aload_n hx hb dX4_lays_165 rfl (lv_at hl 2 rfl) ?_
                              refine x_get (v := .ref (E.2.2.2 43)) S hW hinX4 40 (xw_40 E _) rfl 7 (by decide) w16 rfl dX4_lays_166 ?_
                              refine lv_iload_n hx hb dX4_lays_169 rfl (lv_at hl 3 rfl) ?_
                              refine x_ildN (k := i) (v := ((G 22) i)) S hW 43 (xw_43 E _) (rfl) (show i < 144 from by omega) (by decide) rfl dX4_lays_170 ?_
                              refine x_topN (z) ((hRG.cb i hi9).trans hoz) ?_
                              refine x_Vi (rest := [.int (nI (gMv Γ i)), .ref (E.2.2.2 54)]) S (c_X4_moved l E n G o Γ hG hRG (p1 := z) hz) (cwV 1 S.2.2.2.2 gX4_lays_X4_moved rfl rfl rfl (by decide +kernel) ⟨Nat.le_of_ble_eq_true rfl, Nat.le_of_ble_eq_true rfl⟩) hW 40 (xw_40 E _) rfl rfl rfl hl.1 (Nat.le_of_ble_eq_true rfl) dX4_lays_171 ⟨Nat.zero_le _, Nat.zero_le _⟩ (fun r171 σ171 H locs hq5 hW => ?_)
                              obtain ⟨h171, rfl⟩ := hq5
                              have h171 : r171 = nI (gMv Γ z) := mv_of hRG hG hz (gUn.ix hun) h171
                              subst h171
                              refine x_istN (k := gMv Γ i) (σ' := (n, (xu G 33 (upd (G 33) (gMv Γ i) (nI (gMv Γ z)))), o)) S hW 54 (xw_54 E _) (rfl) (show gMv Γ i < 144 from by omega) (by decide) (xw_S33 E _ _ _ _) dX4_lays_174 (fun H locs hW => ?_)
                              refine lv_aload_n hx hb dX4_lays_175 rfl (lv_at hl 2 rfl) ?_
                              refine x_get (v := .ref (E.2.2.2 55)) S hW hinX4 40 (xw_40 E _) rfl 19 (by decide) w53 rfl dX4_lays_176 ?_
                              refine lv_iload_n hx hb dX4_lays_179 rfl (lv_at hl 1 rfl) ?_
                              refine lv_aload_n hx hb dX4_lays_180 rfl (lv_at hl 2 rfl) ?_
                              refine x_get (v := .ref (E.2.2.2 44)) S hW hinX4 40 (xw_40 E _) rfl 8 (by decide) w19 rfl dX4_lays_181 ?_
                              refine lv_iload_n hx hb dX4_lays_184 rfl (lv_at hl 3 rfl) ?_
                              refine x_ildN (k := i) (v := ((G 23) i)) S hW 44 (xw_44 E _) (rfl) (show i < 144 from by omega) (by decide) rfl dX4_lays_185 ?_
                              refine x_istN (k := gMv Γ i) (σ' := (n, (xu (xu G 33 (upd (G 33) (gMv Γ i) (nI (gMv Γ z)))) 34 (upd (G 34) (gMv Γ i) ((G 23) i))), o)) S hW 55 (xw_55 E _) (rfl) (show gMv Γ i < 144 from by omega) (by decide) (xw_S34 E _ _ _ _) dX4_lays_186 (fun H locs hW => ?_)
                              refine lv_iinc (v := (nI (i + 1))) (lv' := [(2, .int (nI (i + 1))), (1, .int 0), (3, .int (nI (gMv Γ i))), (0, .ref (E.2.2.2 40))]) hx hb dX4_lays_187 hl (k := 3) rfl (x_inc _) (by decide) rfl (fun ls hl => ?_)
                              refine lv_goto (tgt := 101) hx hb dX4_lays_190 (by decide) ?_
                              exact L101  (0) (i + 1) ((xu (xu G 33 (upd (G 33) (gMv Γ i) (nI (gMv Γ z)))) 34 (upd (G 34) (gMv Γ i) ((G 23) i)))) (by omega) (by omega) (fun q h1 h2 => by rw [xu_n h2, xu_n h1]; exact hG9 q h1 h2) (Or.inr ⟨rfl, by first | exact xlay_n1 hG hlay hi9 c120 c136 | exact xlay_n2 hG hlay hi9 hz c120 hoz c150⟩) _ _ _ hW (lv_sub hl [3, 1, 0] rfl)
                            · refine lv_iconst (v := 1) hx hb dX4_lays_153 (by decide) ?_
                              refine lv_goto (tgt := 158) hx hb dX4_lays_154 (by decide) ?_
                              refine lv_istore_n (lv' := [(1, .int 1), (3, .int (nI (gMv Γ i))), (0, .ref (E.2.2.2 40)), (2, .int (nI i))]) hx hb dX4_lays_158 rfl hl (by decide) rfl (fun ls hl => ?_)
                              have hre := hRG.cl i hi9 c120
                              refine lv_aload_n hx hb dX4_lays_159 rfl (lv_at hl 2 rfl) ?_
                              refine x_get (v := .ref (E.2.2.2 54)) S hW hinX4 40 (xw_40 E _) rfl 18 (by decide) w50 rfl dX4_lays_160 ?_
                              refine lv_iload_n hx hb dX4_lays_163 rfl (lv_at hl 1 rfl) ?_
                              refine lv_aload_n hx hb dX4_lays_164 rfl (lv_at hl 2 rfl) ?_
                              refine lv_aload_n hx hb dX4_lays_165 rfl (lv_at hl 2 rfl) ?_
                              refine x_get (v := .ref (E.2.2.2 43)) S hW hinX4 40 (xw_40 E _) rfl 7 (by decide) w16 rfl dX4_lays_166 ?_
                              refine lv_iload_n hx hb dX4_lays_169 rfl (lv_at hl 3 rfl) ?_
                              refine x_ildN (k := i) (v := ((G 22) i)) S hW 43 (xw_43 E _) (rfl) (show i < 144 from by omega) (by decide) rfl dX4_lays_170 ?_
                              refine x_topN (z) ((hRG.cb i hi9).trans hoz) ?_
                              refine x_Vi (rest := [.int (nI (gMv Γ i)), .ref (E.2.2.2 54)]) S (c_X4_moved l E n G o Γ hG hRG (p1 := z) hz) (cwV 1 S.2.2.2.2 gX4_lays_X4_moved rfl rfl rfl (by decide +kernel) ⟨Nat.le_of_ble_eq_true rfl, Nat.le_of_ble_eq_true rfl⟩) hW 40 (xw_40 E _) rfl rfl rfl hl.1 (Nat.le_of_ble_eq_true rfl) dX4_lays_171 ⟨Nat.zero_le _, Nat.zero_le _⟩ (fun r171 σ171 H locs hq6 hW => ?_)
                              obtain ⟨h171, rfl⟩ := hq6
                              have h171 : r171 = nI (gMv Γ z) := mv_of hRG hG hz (gUn.ix hun) h171
                              subst h171
                              refine x_istN (k := gMv Γ i) (σ' := (n, (xu G 33 (upd (G 33) (gMv Γ i) (nI (gMv Γ z)))), o)) S hW 54 (xw_54 E _) (rfl) (show gMv Γ i < 144 from by omega) (by decide) (xw_S33 E _ _ _ _) dX4_lays_174 (fun H locs hW => ?_)
                              refine lv_aload_n hx hb dX4_lays_175 rfl (lv_at hl 2 rfl) ?_
                              refine x_get (v := .ref (E.2.2.2 55)) S hW hinX4 40 (xw_40 E _) rfl 19 (by decide) w53 rfl dX4_lays_176 ?_
                              refine lv_iload_n hx hb dX4_lays_179 rfl (lv_at hl 1 rfl) ?_
                              refine lv_aload_n hx hb dX4_lays_180 rfl (lv_at hl 2 rfl) ?_
                              refine x_get (v := .ref (E.2.2.2 44)) S hW hinX4 40 (xw_40 E _) rfl 8 (by decide) w19 rfl dX4_lays_181 ?_
                              refine lv_iload_n hx hb dX4_lays_184 rfl (lv_at hl 3 rfl) ?_
                              refine x_ildN (k := i) (v := ((G 23) i)) S hW 44 (xw_44 E _) (rfl) (show i < 144 from by omega) (by decide) rfl dX4_lays_185 ?_
                              refine x_istN (k := gMv Γ i) (σ' := (n, (xu (xu G 33 (upd (G 33) (gMv Γ i) (nI (gMv Γ z)))) 34 (upd (G 34) (gMv Γ i) ((G 23) i))), o)) S hW 55 (xw_55 E _) (rfl) (show gMv Γ i < 144 from by omega) (by decide) (xw_S34 E _ _ _ _) dX4_lays_186 (fun H locs hW => ?_)
                              refine lv_iinc (v := (nI (i + 1))) (lv' := [(2, .int (nI (i + 1))), (1, .int 1), (3, .int (nI (gMv Γ i))), (0, .ref (E.2.2.2 40))]) hx hb dX4_lays_187 hl (k := 3) rfl (x_inc _) (by decide) rfl (fun ls hl => ?_)
                              refine lv_goto (tgt := 101) hx hb dX4_lays_190 (by decide) ?_
                              exact L101  (1) (i + 1) ((xu (xu G 33 (upd (G 33) (gMv Γ i) (nI (gMv Γ z)))) 34 (upd (G 34) (gMv Γ i) ((G 23) i)))) (by omega) (by omega) (fun q h1 h2 => by rw [xu_n h2, xu_n h1]; exact hG9 q h1 h2) (Or.inl ⟨rfl, xlay_t hG hlay hi9 c120 hz hoz c136 hre⟩) _ _ _ hW (lv_sub hl [3, 1, 0] rfl)
                exact L101 _ (v1) (0) (F) (Nat.lt_succ_self _) (by omega) (hF) (by rcases hv with ⟨rfl, a1, a2⟩ | h; exact Or.inl ⟨rfl, a1, fun q hq => a2 q (by omega), fun q hq => absurd hq (Nat.not_lt_zero q), fun w hw _ => ⟨h3 w (by omega), h4 w (by omega)⟩, fun q hq => absurd hq (Nat.not_lt_zero q)⟩; exact Or.inr h) _ _ _ hW (lv_sub hl [1, 2, 0] rfl)
              · refine lv_aload_n hx hb dX4_lays_79 rfl (lv_at hl 0 rfl) ?_
                refine x_get (v := .ref (E.2.2.2 54)) S hW hinX4 40 (xw_40 E _) rfl 18 (by decide) w50 rfl dX4_lays_80 ?_
                refine lv_iload_n hx hb dX4_lays_83 rfl (lv_at hl 2 rfl) ?_
                refine lv_iconst (v := (-1)) hx hb dX4_lays_84 (by decide) ?_
                refine x_istN (k := i) (σ' := (n, (xu F 33 (upd (F 33) i (-1))), o)) S hW 54 (xw_54 E _) (rfl) (show i < 144 from by omega) (by decide) (xw_S33 E _ _ _ _) dX4_lays_85 (fun H locs hW => ?_)
                refine lv_aload_n hx hb dX4_lays_86 rfl (lv_at hl 0 rfl) ?_
                refine x_get (v := .ref (E.2.2.2 55)) S hW hinX4 40 (xw_40 E _) rfl 19 (by decide) w53 rfl dX4_lays_87 ?_
                refine lv_iload_n hx hb dX4_lays_90 rfl (lv_at hl 2 rfl) ?_
                refine lv_iconst (v := 0) hx hb dX4_lays_91 (by decide) ?_
                refine x_istN (k := i) (σ' := (n, (xu (xu F 33 (upd (F 33) i (-1))) 34 (upd (F 34) i 0)), o)) S hW 55 (xw_55 E _) (rfl) (show i < 144 from by omega) (by decide) (xw_S34 E _ _ _ _) dX4_lays_92 (fun H locs hW => ?_)
                refine lv_iinc (v := (nI (i + 1))) (lv' := [(2, .int (nI (i + 1))), (0, .ref (E.2.2.2 40)), (1, .int v1)]) hx hb dX4_lays_93 hl (k := 2) rfl (x_inc _) (by decide) rfl (fun ls hl => ?_)
                refine lv_goto (tgt := 71) hx hb dX4_lays_96 (by decide) ?_
                exact L71  (i + 1) ((xu (xu F 33 (upd (F 33) i (-1))) 34 (upd (F 34) i 0))) (by omega) (by omega) (fun q h1 h2 => by rw [xu_n h2, xu_n h1]; exact hF q h1 h2) (upd_lt h3) (upd_lt h4) _ _ _ hW (lv_sub hl [1, 2, 0] rfl)
          exact L71 _ (0) (f) (Nat.lt_succ_self _) (by omega) (fun _ _ _ => rfl) (fun q hq => absurd hq (Nat.not_lt_zero q)) (fun q hq => absurd hq (Nat.not_lt_zero q)) _ _ _ hW (lv_sub hl [1, 2, 0] rfl)
        · refine lv_iload_n hx hb dX4_lays_38 rfl (lv_at hl 1 rfl) ?_
          refine lv_if_eq (tgt := 61) hx hb dX4_lays_39 (by decide) (fun c39 => ?_) (fun c39 => ?_)
          · refine lv_iconst (v := 0) hx hb dX4_lays_61 (by decide) ?_
            refine lv_istore_n (lv' := [(1, .int 0), (0, .ref (E.2.2.2 40)), (2, .int (nI i))]) hx hb dX4_lays_62 rfl hl (by decide) rfl (fun ls hl => ?_)
            refine lv_iinc (v := (nI (i + 1))) (lv' := [(2, .int (nI (i + 1))), (1, .int 0), (0, .ref (E.2.2.2 40))]) hx hb dX4_lays_63 hl (k := 2) rfl (x_inc _) (by decide) rfl (fun ls hl => ?_)
            refine lv_goto (tgt := 30) hx hb dX4_lays_66 (by decide) ?_
            exact L30  (0) (i + 1) (by omega) (by omega) (Or.inr ⟨rfl, by first | exact xla2 hv c39 | exact fun hp => (hp i (by omega)).1 c54⟩) _ _ _ hW (lv_sub hl [2, 1, 0] rfl)
          · refine lv_aload_n hx hb dX4_lays_42 rfl (lv_at hl 0 rfl) ?_
            refine x_get (v := .ref (E.2.2.2 43)) S hW hinX4 40 (xw_40 E _) rfl 7 (by decide) w16 rfl dX4_lays_43 ?_
            refine lv_aload_n hx hb dX4_lays_46 rfl (lv_at hl 0 rfl) ?_
            refine x_get (v := .ref (E.2.2.2 52)) S hW hinX4 40 (xw_40 E _) rfl 16 (by decide) w44 rfl dX4_lays_47 ?_
            refine lv_iload_n hx hb dX4_lays_50 rfl (lv_at hl 2 rfl) ?_
            refine x_ildN (k := i) (v := ((f 31) i)) S hW 52 (xw_52 E _) (rfl) (show i < 12 from by omega) (by decide) rfl dX4_lays_51 ?_
            refine x_topN (gMx Γ i) (hR.mx i (by omega)) ?_
            refine x_ildN (k := gMx Γ i) (v := ((f 22) (gMx Γ i))) S hW 43 (xw_43 E _) (rfl) (show gMx Γ i < 144 from by have := hG.mm i (by omega); omega) (by decide) rfl dX4_lays_52 ?_
            refine x_topE (gCb Γ (gMx Γ i)) (hR.cb _ (by have := hG.mm i (by omega); omega)) ?_
            refine lv_iconst (v := (-1)) hx hb dX4_lays_53 (by decide) ?_
            refine lv_icmp_eq (tgt := 61) hx hb dX4_lays_54 (by decide) (fun c54 => ?_) (fun c54 => ?_)
            · refine lv_iconst (v := 0) hx hb dX4_lays_61 (by decide) ?_
              refine lv_istore_n (lv' := [(1, .int 0), (0, .ref (E.2.2.2 40)), (2, .int (nI i))]) hx hb dX4_lays_62 rfl hl (by decide) rfl (fun ls hl => ?_)
              refine lv_iinc (v := (nI (i + 1))) (lv' := [(2, .int (nI (i + 1))), (1, .int 0), (0, .ref (E.2.2.2 40))]) hx hb dX4_lays_63 hl (k := 2) rfl (x_inc _) (by decide) rfl (fun ls hl => ?_)
              refine lv_goto (tgt := 30) hx hb dX4_lays_66 (by decide) ?_
              exact L30  (0) (i + 1) (by omega) (by omega) (Or.inr ⟨rfl, by first | exact xla2 hv c39 | exact fun hp => (hp i (by omega)).1 c54⟩) _ _ _ hW (lv_sub hl [2, 1, 0] rfl)
            · refine lv_iconst (v := 1) hx hb dX4_lays_57 (by decide) ?_
              refine lv_goto (tgt := 62) hx hb dX4_lays_58 (by decide) ?_
              refine lv_istore_n (lv' := [(1, .int 1), (0, .ref (E.2.2.2 40)), (2, .int (nI i))]) hx hb dX4_lays_62 rfl hl (by decide) rfl (fun ls hl => ?_)
              refine lv_iinc (v := (nI (i + 1))) (lv' := [(2, .int (nI (i + 1))), (1, .int 1), (0, .ref (E.2.2.2 40))]) hx hb dX4_lays_63 hl (k := 2) rfl (x_inc _) (by decide) rfl (fun ls hl => ?_)
              refine lv_goto (tgt := 30) hx hb dX4_lays_66 (by decide) ?_
              exact L30  (1) (i + 1) (by omega) (by omega) (Or.inl ⟨rfl, xla1 hv c39 c54⟩) _ _ _ hW (lv_sub hl [2, 1, 0] rfl)
    exact L30 _ (0) (0) (Nat.lt_succ_self _) (by omega) (Or.inr ⟨rfl, fun hp => by have := (un_iff hG hR).mpr hp.un; first | exact h5 this.1 | exact h16 this.2⟩) _ _ _ hW (lv_sub hl [2, 1, 0] rfl)
  · refine lv_if_eq (tgt := 26) hx hb dX4_lays_8 (by decide) (fun c8 => ?_) (fun c8 => ?_)
    · exact absurd c8 (by decide)
    refine lv_aload_n hx hb dX4_lays_11 rfl (lv_at hl 0 rfl) ?_
    refine lv_aload_n hx hb dX4_lays_12 rfl (lv_at hl 0 rfl) ?_
    refine x_get (v := .ref (E.2.2.2 53)) S hW hinX4 40 (xw_40 E _) rfl 17 (by decide) w47 rfl dX4_lays_13 ?_
    refine x_Vi (rest := []) S (c_X4_areUnlike l E n f o Γ hG hR (i0 := 32) (by decide)) (cwV 1 S.2.2.2.2 gX4_lays_X4_areUnlike rfl rfl rfl (by decide +kernel) ⟨Nat.le_of_ble_eq_true rfl, Nat.le_of_ble_eq_true rfl⟩) hW 40 (xw_40 E _) rfl rfl rfl hl.1 (Nat.le_of_ble_eq_true rfl) dX4_lays_16 ⟨Nat.zero_le _, Nat.zero_le _⟩ (fun r16 σ16 H locs hq7 hW => ?_)
    rcases hq7 with ⟨rfl, h16, rfl⟩ | ⟨rfl, h16, rfl⟩
    · refine lv_if_eq (tgt := 26) hx hb dX4_lays_19 (by decide) (fun c19 => ?_) (fun c19 => ?_)
      rotate_left
      · exact absurd c19 (by decide)
      refine lv_iconst (v := 0) hx hb dX4_lays_26 (by decide) ?_
      refine lv_istore_n (lv' := [(1, .int 0), (0, .ref (E.2.2.2 40))]) hx hb dX4_lays_27 rfl hl (by decide) rfl (fun ls hl => ?_)
      refine lv_iconst (v := 0) hx hb dX4_lays_28 (by decide) ?_
      refine lv_istore_n (lv' := [(2, .int 0), (1, .int 0), (0, .ref (E.2.2.2 40))]) hx hb dX4_lays_29 rfl hl (by decide) rfl (fun ls hl => ?_)
      have L30 : ∀ (fu30 : Nat) (v1 : Int32) (i : Nat) (hμ30 : gNm Γ + 1 - i < fu30) (hi : i ≤ gNm Γ) (hv : (v1 = 1 ∧ gUn Γ ∧ ∀ q, q < i → gCb Γ (gMx Γ q) ≠ -1) ∨ (v1 = 0 ∧ ¬ gPos Γ)) (H : Heap) (locs : List Loc) (ls : Array Slot), xSt E (n, f, o) s s.heap H locs → lv_has ls 4 [(0, .ref (E.2.2.2 40)), (1, .int v1), (2, .int (nI i))] → W p l e rmX4_lays s m args below meth c H locs 0 0 (MQ below (va_Qi (fun r σ' => ∃ F, ((r = 0 ∧ ¬ gPos Γ) ∨ (r = 1 ∧ gPos Γ ∧ ∀ z, z < gNo Γ → F 33 z = gNC Γ z ∧ F 34 z = gNK Γ z)) ∧ σ' = (n, F, o) ∧ (∀ q, q ≠ 33 → q ≠ 34 → F q = f q)) (xWd E) (xA E)) args s 0 0 (xA E)) (F0 m 30 ls []) := by
        intro fu30
        induction fu30 with
        | zero => intro v1 i hμ30; exact absurd hμ30 (Nat.not_lt_zero _)
        | succ fu30 L30 =>
          intro v1 i hμ30 hi hv H locs ls hW hl
          refine lv_iload_n hx hb dX4_lays_30 rfl (lv_at hl 2 rfl) ?_
          refine lv_aload_n hx hb dX4_lays_31 rfl (lv_at hl 0 rfl) ?_
          refine x_get (v := .int (n 14)) S hW hinX4 40 (xw_40 E _) rfl 4 (by decide) w112 rfl dX4_lays_32 ?_
          refine x_topN (gNm Γ) (hR.nm) ?_
          refine x_icmp_ge (a := i) (b := gNm Γ) (tgt := 69) hx hb dX4_lays_35 (by decide) (by omega) (by omega) (fun c35 => ?_) (fun c35 => ?_)
          · refine lv_iconst (v := 0) hx hb dX4_lays_69 (by decide) ?_
            refine lv_istore_n (lv' := [(2, .int 0), (0, .ref (E.2.2.2 40)), (1, .int v1)]) hx hb dX4_lays_70 rfl hl (by decide) rfl (fun ls hl => ?_)
            have L71 : ∀ (fu71 : Nat) (i : Nat) (F : Nat → Nat → Int32) (hμ71 : gNo Γ + 1 - i < fu71) (hi : i ≤ gNo Γ) (hF : ∀ q, q ≠ 33 → q ≠ 34 → F q = f q) (h3 : ∀ z, z < i → F 33 z = -1) (h4 : ∀ z, z < i → F 34 z = 0) (H : Heap) (locs : List Loc) (ls : Array Slot), xSt E (n, F, o) s s.heap H locs → lv_has ls 4 [(0, .ref (E.2.2.2 40)), (1, .int v1), (2, .int (nI i))] → W p l e rmX4_lays s m args below meth c H locs 0 0 (MQ below (va_Qi (fun r σ' => ∃ F, ((r = 0 ∧ ¬ gPos Γ) ∨ (r = 1 ∧ gPos Γ ∧ ∀ z, z < gNo Γ → F 33 z = gNC Γ z ∧ F 34 z = gNK Γ z)) ∧ σ' = (n, F, o) ∧ (∀ q, q ≠ 33 → q ≠ 34 → F q = f q)) (xWd E) (xA E)) args s 0 0 (xA E)) (F0 m 71 ls []) := by
              intro fu71
              induction fu71 with
              | zero => intro i F hμ71; exact absurd hμ71 (Nat.not_lt_zero _)
              | succ fu71 L71 =>
                intro i F hμ71 hi hF h3 h4 H locs ls hW hl
                refine lv_iload_n hx hb dX4_lays_71 rfl (lv_at hl 2 rfl) ?_
                refine lv_aload_n hx hb dX4_lays_72 rfl (lv_at hl 0 rfl) ?_
                refine x_get (v := .int (n 12)) S hW hinX4 40 (xw_40 E _) rfl 2 (by decide) w66 rfl dX4_lays_73 ?_
                refine x_topN (gNo Γ) (hR.no) ?_
                refine x_icmp_ge (a := i) (b := gNo Γ) (tgt := 99) hx hb dX4_lays_76 (by decide) (by omega) (by omega) (fun c76 => ?_) (fun c76 => ?_)
                · refine lv_iconst (v := 0) hx hb dX4_lays_99 (by decide) ?_
                  refine lv_istore_n (lv' := [(2, .int 0), (0, .ref (E.2.2.2 40)), (1, .int v1)]) hx hb dX4_lays_100 rfl hl (by decide) rfl (fun ls hl => ?_)
                  have L101 : ∀ (fu101 : Nat) (v1 : Int32) (i : Nat) (G : Nat → Nat → Int32) (hμ101 : gNo Γ + 1 - i < fu101) (hi : i ≤ gNo Γ) (hG9 : ∀ q, q ≠ 33 → q ≠ 34 → G q = f q) (hv2 : (v1 = 1 ∧ xLay Γ i (G 33) (G 34)) ∨ (v1 = 0 ∧ ¬ gPos Γ)) (H : Heap) (locs : List Loc) (ls : Array Slot), xSt E (n, G, o) s s.heap H locs → lv_has ls 4 [(0, .ref (E.2.2.2 40)), (1, .int v1), (2, .int (nI i))] → W p l e rmX4_lays s m args below meth c H locs 0 0 (MQ below (va_Qi (fun r σ' => ∃ F, ((r = 0 ∧ ¬ gPos Γ) ∨ (r = 1 ∧ gPos Γ ∧ ∀ z, z < gNo Γ → F 33 z = gNC Γ z ∧ F 34 z = gNK Γ z)) ∧ σ' = (n, F, o) ∧ (∀ q, q ≠ 33 → q ≠ 34 → F q = f q)) (xWd E) (xA E)) args s 0 0 (xA E)) (F0 m 101 ls []) := by
                    intro fu101
                    induction fu101 with
                    | zero => intro v1 i G hμ101; exact absurd hμ101 (Nat.not_lt_zero _)
                    | succ fu101 L101 =>
                      intro v1 i G hμ101 hi hG9 hv2 H locs ls hW hl
                      have hRG : xRepR Γ n G := hR.eqv (fun _ _ _ _ => rfl) (fun q _ h2 => hG9 q (by omega) (by omega))
                      refine lv_iload_n hx hb dX4_lays_101 rfl (lv_at hl 2 rfl) ?_
                      refine lv_aload_n hx hb dX4_lays_102 rfl (lv_at hl 0 rfl) ?_
                      refine x_get (v := .int (n 12)) S hW hinX4 40 (xw_40 E _) rfl 2 (by decide) w66 rfl dX4_lays_103 ?_
                      refine x_topN (gNo Γ) (hR.no) ?_
                      refine x_icmp_ge (a := i) (b := gNo Γ) (tgt := 193) hx hb dX4_lays_106 (by decide) (by omega) (by omega) (fun c106 => ?_) (fun c106 => ?_)
                      · refine lv_iload_n hx hb dX4_lays_193 rfl (lv_at hl 1 rfl) ?_
                        exact x_retz S hr hlk hW dX4_lays_194 (by rcases hv2 with ⟨h, -⟩ | ⟨h, -⟩; exact Or.inr h; exact Or.inl h) (⟨G, by first | exact hv2.elim (fun h => Or.inr ⟨h.1, xlay_e hG (by rw [show gNo Γ = i by omega]; exact h.2)⟩) (fun h => Or.inl ⟨h.1, h.2⟩) | exact Or.inl (hv2.elim (fun h => absurd (h.1.symm.trans c110) (by decide)) (fun h => h)), rfl, hG9⟩)
                      · refine lv_iload_n hx hb dX4_lays_109 rfl (lv_at hl 1 rfl) ?_
                        refine lv_if_eq (tgt := 193) hx hb dX4_lays_110 (by decide) (fun c110 => ?_) (fun c110 => ?_)
                        · refine lv_iload_n hx hb dX4_lays_193 rfl (lv_at hl 1 rfl) ?_
                          exact x_retz S hr hlk hW dX4_lays_194 (by rcases hv2 with ⟨h, -⟩ | ⟨h, -⟩; exact Or.inr h; exact Or.inl h) (⟨G, by first | exact hv2.elim (fun h => Or.inr ⟨h.1, xlay_e hG (by rw [show gNo Γ = i by omega]; exact h.2)⟩) (fun h => Or.inl ⟨h.1, h.2⟩) | exact Or.inl (hv2.elim (fun h => absurd (h.1.symm.trans c110) (by decide)) (fun h => h)), rfl, hG9⟩)
                        · refine lv_aload_n hx hb dX4_lays_113 rfl (lv_at hl 0 rfl) ?_
                          refine x_get (v := .ref (E.2.2.2 43)) S hW hinX4 40 (xw_40 E _) rfl 7 (by decide) w16 rfl dX4_lays_114 ?_
                          refine lv_iload_n hx hb dX4_lays_117 rfl (lv_at hl 2 rfl) ?_
                          refine x_ildN (k := i) (v := ((G 22) i)) S hW 43 (xw_43 E _) (rfl) (show i < 144 from by omega) (by decide) rfl dX4_lays_118 ?_
                          refine x_topE (gCb Γ i) (hRG.cb i (by omega)) ?_
                          refine lv_iconst (v := (-1)) hx hb dX4_lays_119 (by decide) ?_
                          refine lv_icmp_eq (tgt := 187) hx hb dX4_lays_120 (by decide) (fun c120 => ?_) (fun c120 => ?_)
                          · refine lv_iinc (v := (nI (i + 1))) (lv' := [(2, .int (nI (i + 1))), (0, .ref (E.2.2.2 40)), (1, .int v1)]) hx hb dX4_lays_187 hl (k := 2) rfl (x_inc _) (by decide) rfl (fun ls hl => ?_)
                            refine lv_goto (tgt := 101) hx hb dX4_lays_190 (by decide) ?_
                            exact L101  (v1) (i + 1) (G) (by omega) (by omega) (hG9) (Or.inl ⟨xl1 hv2 c110, xlay_s (xl2 hv2 c110) c120⟩) _ _ _ hW (lv_sub hl [1, 2, 0] rfl)
                          · have hlay := xl2 hv2 c110
                            have hun := hlay.1
                            have hi9 : i < gNo Γ := by omega
                            obtain ⟨z, hz, hzi, hoz, hzo⟩ := (hG.cb i hi9).resolve_left c120
                            have hme := gMv_lt hG hi9
                            have hmz := gMv_lt hG hz
                            refine lv_aload_n hx hb dX4_lays_123 rfl (lv_at hl 0 rfl) ?_
                            refine lv_iload_n hx hb dX4_lays_124 rfl (lv_at hl 2 rfl) ?_
                            refine x_Vi (rest := []) S (c_X4_moved l E n G o Γ hG hRG (p1 := i) hi9) (cwV 1 S.2.2.2.2 gX4_lays_X4_moved rfl rfl rfl (by decide +kernel) ⟨Nat.le_of_ble_eq_true rfl, Nat.le_of_ble_eq_true rfl⟩) hW 40 (xw_40 E _) rfl rfl rfl hl.1 (Nat.le_of_ble_eq_true rfl) dX4_lays_125 ⟨Nat.zero_le _, Nat.zero_le _⟩ (fun r125 σ125 H locs hq8 hW => ?_)
                            obtain ⟨h125, rfl⟩ := hq8
                            have h125 : r125 = nI (gMv Γ i) := mv_of hRG hG hi9 (gUn.ix hun) h125
                            subst h125
                            refine lv_istore_n (lv' := [(3, .int (nI (gMv Γ i))), (0, .ref (E.2.2.2 40)), (1, .int v1), (2, .int (nI i))]) hx hb dX4_lays_128 rfl hl (by decide) rfl (fun ls hl => ?_)
                            refine lv_aload_n hx hb dX4_lays_129 rfl (lv_at hl 1 rfl) ?_
                            refine x_get (v := .ref (E.2.2.2 54)) S hW hinX4 40 (xw_40 E _) rfl 18 (by decide) w50 rfl dX4_lays_130 ?_
                            refine lv_iload_n hx hb dX4_lays_133 rfl (lv_at hl 0 rfl) ?_
                            refine x_ildN (k := gMv Γ i) (v := ((G 33) (gMv Γ i))) S hW 54 (xw_54 E _) (rfl) (show gMv Γ i < 144 from by omega) (by decide) rfl dX4_lays_134 ?_
                            refine lv_iconst (v := (-1)) hx hb dX4_lays_135 (by decide) ?_
                            refine lv_icmp_ne (tgt := 157) hx hb dX4_lays_136 (by decide) (fun c136 => ?_) (fun c136 => ?_)
                            · refine lv_iconst (v := 0) hx hb dX4_lays_157 (by decide) ?_
                              refine lv_istore_n (lv' := [(1, .int 0), (3, .int (nI (gMv Γ i))), (0, .ref (E.2.2.2 40)), (2, .int (nI i))]) hx hb dX4_lays_158 rfl hl (by decide) rfl (fun ls hl => ?_)
                              have hre := hRG.cl i hi9 c120
                              refine lv_aload_n hx hb dX4_lays_159 rfl (lv_at hl 2 rfl) ?_
                              refine x_get (v := .ref (E.2.2.2 54)) S hW hinX4 40 (xw_40 E _) rfl 18 (by decide) w50 rfl dX4_lays_160 ?_
                              refine lv_iload_n hx hb dX4_lays_163 rfl (lv_at hl 1 rfl) ?_
                              refine lv_aload_n hx hb dX4_lays_164 rfl (lv_at hl 2 rfl) ?_
                              refine lv_aload_n hx hb dX4_lays_165 rfl (lv_at hl 2 rfl) ?_
                              refine x_get (v := .ref (E.2.2.2 43)) S hW hinX4 40 (xw_40 E _) rfl 7 (by decide) w16 rfl dX4_lays_166 ?_
                              refine lv_iload_n hx hb dX4_lays_169 rfl (lv_at hl 3 rfl) ?_
                              refine x_ildN (k := i) (v := ((G 22) i)) S hW 43 (xw_43 E _) (rfl) (show i < 144 from by omega) (by decide) rfl dX4_lays_170 ?_
                              refine x_topN (z) ((hRG.cb i hi9).trans hoz) ?_
                              refine x_Vi (rest := [.int (nI (gMv Γ i)), .ref (E.2.2.2 54)]) S (c_X4_moved l E n G o Γ hG hRG (p1 := z) hz) (cwV 1 S.2.2.2.2 gX4_lays_X4_moved rfl rfl rfl (by decide +kernel) ⟨Nat.le_of_ble_eq_true rfl, Nat.le_of_ble_eq_true rfl⟩) hW 40 (xw_40 E _) rfl rfl rfl hl.1 (Nat.le_of_ble_eq_true rfl) dX4_lays_171 ⟨Nat.zero_le _, Nat.zero_le _⟩ (fun r171 σ171 H locs hq9 hW => ?_)
                              obtain ⟨h171, rfl⟩ := hq9
                              have h171 : r171 = nI (gMv Γ z) := mv_of hRG hG hz (gUn.ix hun) h171
                              subst h171
                              refine x_istN (k := gMv Γ i) (σ' := (n, (xu G 33 (upd (G 33) (gMv Γ i) (nI (gMv Γ z)))), o)) S hW 54 (xw_54 E _) (rfl) (show gMv Γ i < 144 from by omega) (by decide) (xw_S33 E _ _ _ _) dX4_lays_174 (fun H locs hW => ?_)
                              refine lv_aload_n hx hb dX4_lays_175 rfl (lv_at hl 2 rfl) ?_
                              refine x_get (v := .ref (E.2.2.2 55)) S hW hinX4 40 (xw_40 E _) rfl 19 (by decide) w53 rfl dX4_lays_176 ?_
                              refine lv_iload_n hx hb dX4_lays_179 rfl (lv_at hl 1 rfl) ?_
                              refine lv_aload_n hx hb dX4_lays_180 rfl (lv_at hl 2 rfl) ?_
                              refine x_get (v := .ref (E.2.2.2 44)) S hW hinX4 40 (xw_40 E _) rfl 8 (by decide) w19 rfl dX4_lays_181 ?_
                              refine lv_iload_n hx hb dX4_lays_184 rfl (lv_at hl 3 rfl) ?_
                              refine x_ildN (k := i) (v := ((G 23) i)) S hW 44 (xw_44 E _) (rfl) (show i < 144 from by omega) (by decide) rfl dX4_lays_185 ?_
                              refine x_istN (k := gMv Γ i) (σ' := (n, (xu (xu G 33 (upd (G 33) (gMv Γ i) (nI (gMv Γ z)))) 34 (upd (G 34) (gMv Γ i) ((G 23) i))), o)) S hW 55 (xw_55 E _) (rfl) (show gMv Γ i < 144 from by omega) (by decide) (xw_S34 E _ _ _ _) dX4_lays_186 (fun H locs hW => ?_)
                              refine lv_iinc (v := (nI (i + 1))) (lv' := [(2, .int (nI (i + 1))), (1, .int 0), (3, .int (nI (gMv Γ i))), (0, .ref (E.2.2.2 40))]) hx hb dX4_lays_187 hl (k := 3) rfl (x_inc _) (by decide) rfl (fun ls hl => ?_)
                              refine lv_goto (tgt := 101) hx hb dX4_lays_190 (by decide) ?_
                              exact L101  (0) (i + 1) ((xu (xu G 33 (upd (G 33) (gMv Γ i) (nI (gMv Γ z)))) 34 (upd (G 34) (gMv Γ i) ((G 23) i)))) (by omega) (by omega) (fun q h1 h2 => by rw [xu_n h2, xu_n h1]; exact hG9 q h1 h2) (Or.inr ⟨rfl, by first | exact xlay_n1 hG hlay hi9 c120 c136 | exact xlay_n2 hG hlay hi9 hz c120 hoz c150⟩) _ _ _ hW (lv_sub hl [3, 1, 0] rfl)
                            · refine lv_iload_n hx hb dX4_lays_139 rfl (lv_at hl 0 rfl) ?_
                              refine lv_aload_n hx hb dX4_lays_140 rfl (lv_at hl 1 rfl) ?_
                              refine lv_aload_n hx hb dX4_lays_141 rfl (lv_at hl 1 rfl) ?_
                              refine x_get (v := .ref (E.2.2.2 43)) S hW hinX4 40 (xw_40 E _) rfl 7 (by decide) w16 rfl dX4_lays_142 ?_
                              refine lv_iload_n hx hb dX4_lays_145 rfl (lv_at hl 3 rfl) ?_
                              refine x_ildN (k := i) (v := ((G 22) i)) S hW 43 (xw_43 E _) (rfl) (show i < 144 from by omega) (by decide) rfl dX4_lays_146 ?_
                              refine x_topN (z) ((hRG.cb i hi9).trans hoz) ?_
                              refine x_Vi (rest := [.int (nI (gMv Γ i))]) S (c_X4_moved l E n G o Γ hG hRG (p1 := z) hz) (cwV 1 S.2.2.2.2 gX4_lays_X4_moved rfl rfl rfl (by decide +kernel) ⟨Nat.le_of_ble_eq_true rfl, Nat.le_of_ble_eq_true rfl⟩) hW 40 (xw_40 E _) rfl rfl rfl hl.1 (Nat.le_of_ble_eq_true rfl) dX4_lays_147 ⟨Nat.zero_le _, Nat.zero_le _⟩ (fun r147 σ147 H locs hq10 hW => ?_)
                              obtain ⟨h147, rfl⟩ := hq10
                              have h147 : r147 = nI (gMv Γ z) := mv_of hRG hG hz (gUn.ix hun) h147
                              subst h147
                              refine x_icmp_eq (a := gMv Γ i) (b := gMv Γ z) (tgt := 157) hx hb dX4_lays_150 (by decide) (by omega) (by omega) (fun c150 => ?_) (fun c150 => ?_)
                              · refine lv_iconst (v := 0) hx hb dX4_lays_157 (by decide) ?_
                                refine lv_istore_n (lv' := [(1, .int 0), (3, .int (nI (gMv Γ i))), (0, .ref (E.2.2.2 40)), (2, .int (nI i))]) hx hb dX4_lays_158 rfl hl (by decide) rfl (fun ls hl => ?_)
                                have hre := hRG.cl i hi9 c120
                                refine lv_aload_n hx hb dX4_lays_159 rfl (lv_at hl 2 rfl) ?_
                                refine x_get (v := .ref (E.2.2.2 54)) S hW hinX4 40 (xw_40 E _) rfl 18 (by decide) w50 rfl dX4_lays_160 ?_
                                refine lv_iload_n hx hb dX4_lays_163 rfl (lv_at hl 1 rfl) ?_
                                refine lv_aload_n hx hb dX4_lays_164 rfl (lv_at hl 2 rfl) ?_
                                refine lv_aload_n hx hb dX4_lays_165 rfl (lv_at hl 2 rfl) ?_
                                refine x_get (v := .ref (E.2.2.2 43)) S hW hinX4 40 (xw_40 E _) rfl 7 (by decide) w16 rfl dX4_lays_166 ?_
                                refine lv_iload_n hx hb dX4_lays_169 rfl (lv_at hl 3 rfl) ?_
                                refine x_ildN (k := i) (v := ((G 22) i)) S hW 43 (xw_43 E _) (rfl) (show i < 144 from by omega) (by decide) rfl dX4_lays_170 ?_
                                refine x_topN (z) ((hRG.cb i hi9).trans hoz) ?_
                                refine x_Vi (rest := [.int (nI (gMv Γ i)), .ref (E.2.2.2 54)]) S (c_X4_moved l E n G o Γ hG hRG (p1 := z) hz) (cwV 1 S.2.2.2.2 gX4_lays_X4_moved rfl rfl rfl (by decide +kernel) ⟨Nat.le_of_ble_eq_true rfl, Nat.le_of_ble_eq_true rfl⟩) hW 40 (xw_40 E _) rfl rfl rfl hl.1 (Nat.le_of_ble_eq_true rfl) dX4_lays_171 ⟨Nat.zero_le _, Nat.zero_le _⟩ (fun r171 σ171 H locs hq11 hW => ?_)
                                obtain ⟨h171, rfl⟩ := hq11
                                have h171 : r171 = nI (gMv Γ z) := mv_of hRG hG hz (gUn.ix hun) h171
                                subst h171
                                refine x_istN (k := gMv Γ i) (σ' := (n, (xu G 33 (upd (G 33) (gMv Γ i) (nI (gMv Γ z)))), o)) S hW 54 (xw_54 E _) (rfl) (show gMv Γ i < 144 from by omega) (by decide) (xw_S33 E _ _ _ _) dX4_lays_174 (fun H locs hW => ?_)
                                refine lv_aload_n hx hb dX4_lays_175 rfl (lv_at hl 2 rfl) ?_
                                refine x_get (v := .ref (E.2.2.2 55)) S hW hinX4 40 (xw_40 E _) rfl 19 (by decide) w53 rfl dX4_lays_176 ?_
                                refine lv_iload_n hx hb dX4_lays_179 rfl (lv_at hl 1 rfl) ?_
                                refine lv_aload_n hx hb dX4_lays_180 rfl (lv_at hl 2 rfl) ?_
                                refine x_get (v := .ref (E.2.2.2 44)) S hW hinX4 40 (xw_40 E _) rfl 8 (by decide) w19 rfl dX4_lays_181 ?_
                                refine lv_iload_n hx hb dX4_lays_184 rfl (lv_at hl 3 rfl) ?_
                                refine x_ildN (k := i) (v := ((G 23) i)) S hW 44 (xw_44 E _) (rfl) (show i < 144 from by omega) (by decide) rfl dX4_lays_185 ?_
                                refine x_istN (k := gMv Γ i) (σ' := (n, (xu (xu G 33 (upd (G 33) (gMv Γ i) (nI (gMv Γ z)))) 34 (upd (G 34) (gMv Γ i) ((G 23) i))), o)) S hW 55 (xw_55 E _) (rfl) (show gMv Γ i < 144 from by omega) (by decide) (xw_S34 E _ _ _ _) dX4_lays_186 (fun H locs hW => ?_)
                                refine lv_iinc (v := (nI (i + 1))) (lv' := [(2, .int (nI (i + 1))), (1, .int 0), (3, .int (nI (gMv Γ i))), (0, .ref (E.2.2.2 40))]) hx hb dX4_lays_187 hl (k := 3) rfl (x_inc _) (by decide) rfl (fun ls hl => ?_)
                                refine lv_goto (tgt := 101) hx hb dX4_lays_190 (by decide) ?_
                                exact L101  (0) (i + 1) ((xu (xu G 33 (upd (G 33) (gMv Γ i) (nI (gMv Γ z)))) 34 (upd (G 34) (gMv Γ i) ((G 23) i)))) (by omega) (by omega) (fun q h1 h2 => by rw [xu_n h2, xu_n h1]; exact hG9 q h1 h2) (Or.inr ⟨rfl, by first | exact xlay_n1 hG hlay hi9 c120 c136 | exact xlay_n2 hG hlay hi9 hz c120 hoz c150⟩) _ _ _ hW (lv_sub hl [3, 1, 0] rfl)
                              · refine lv_iconst (v := 1) hx hb dX4_lays_153 (by decide) ?_
                                refine lv_goto (tgt := 158) hx hb dX4_lays_154 (by decide) ?_
                                refine lv_istore_n (lv' := [(1, .int 1), (3, .int (nI (gMv Γ i))), (0, .ref (E.2.2.2 40)), (2, .int (nI i))]) hx hb dX4_lays_158 rfl hl (by decide) rfl (fun ls hl => ?_)
                                have hre := hRG.cl i hi9 c120
                                refine lv_aload_n hx hb dX4_lays_159 rfl (lv_at hl 2 rfl) ?_
                                refine x_get (v := .ref (E.2.2.2 54)) S hW hinX4 40 (xw_40 E _) rfl 18 (by decide) w50 rfl dX4_lays_160 ?_
                                refine lv_iload_n hx hb dX4_lays_163 rfl (lv_at hl 1 rfl) ?_
                                refine lv_aload_n hx hb dX4_lays_164 rfl (lv_at hl 2 rfl) ?_
                                refine lv_aload_n hx hb dX4_lays_165 rfl (lv_at hl 2 rfl) ?_
                                refine x_get (v := .ref (E.2.2.2 43)) S hW hinX4 40 (xw_40 E _) rfl 7 (by decide) w16 rfl dX4_lays_166 ?_
                                refine lv_iload_n hx hb dX4_lays_169 rfl (lv_at hl 3 rfl) ?_
                                refine x_ildN (k := i) (v := ((G 22) i)) S hW 43 (xw_43 E _) (rfl) (show i < 144 from by omega) (by decide) rfl dX4_lays_170 ?_
                                refine x_topN (z) ((hRG.cb i hi9).trans hoz) ?_
                                refine x_Vi (rest := [.int (nI (gMv Γ i)), .ref (E.2.2.2 54)]) S (c_X4_moved l E n G o Γ hG hRG (p1 := z) hz) (cwV 1 S.2.2.2.2 gX4_lays_X4_moved rfl rfl rfl (by decide +kernel) ⟨Nat.le_of_ble_eq_true rfl, Nat.le_of_ble_eq_true rfl⟩) hW 40 (xw_40 E _) rfl rfl rfl hl.1 (Nat.le_of_ble_eq_true rfl) dX4_lays_171 ⟨Nat.zero_le _, Nat.zero_le _⟩ (fun r171 σ171 H locs hq12 hW => ?_)
                                obtain ⟨h171, rfl⟩ := hq12
                                have h171 : r171 = nI (gMv Γ z) := mv_of hRG hG hz (gUn.ix hun) h171
                                subst h171
                                refine x_istN (k := gMv Γ i) (σ' := (n, (xu G 33 (upd (G 33) (gMv Γ i) (nI (gMv Γ z)))), o)) S hW 54 (xw_54 E _) (rfl) (show gMv Γ i < 144 from by omega) (by decide) (xw_S33 E _ _ _ _) dX4_lays_174 (fun H locs hW => ?_)
                                refine lv_aload_n hx hb dX4_lays_175 rfl (lv_at hl 2 rfl) ?_
                                refine x_get (v := .ref (E.2.2.2 55)) S hW hinX4 40 (xw_40 E _) rfl 19 (by decide) w53 rfl dX4_lays_176 ?_
                                refine lv_iload_n hx hb dX4_lays_179 rfl (lv_at hl 1 rfl) ?_
                                refine lv_aload_n hx hb dX4_lays_180 rfl (lv_at hl 2 rfl) ?_
                                refine x_get (v := .ref (E.2.2.2 44)) S hW hinX4 40 (xw_40 E _) rfl 8 (by decide) w19 rfl dX4_lays_181 ?_
                                refine lv_iload_n hx hb dX4_lays_184 rfl (lv_at hl 3 rfl) ?_
                                refine x_ildN (k := i) (v := ((G 23) i)) S hW 44 (xw_44 E _) (rfl) (show i < 144 from by omega) (by decide) rfl dX4_lays_185 ?_
                                refine x_istN (k := gMv Γ i) (σ' := (n, (xu (xu G 33 (upd (G 33) (gMv Γ i) (nI (gMv Γ z)))) 34 (upd (G 34) (gMv Γ i) ((G 23) i))), o)) S hW 55 (xw_55 E _) (rfl) (show gMv Γ i < 144 from by omega) (by decide) (xw_S34 E _ _ _ _) dX4_lays_186 (fun H locs hW => ?_)
                                refine lv_iinc (v := (nI (i + 1))) (lv' := [(2, .int (nI (i + 1))), (1, .int 1), (3, .int (nI (gMv Γ i))), (0, .ref (E.2.2.2 40))]) hx hb dX4_lays_187 hl (k := 3) rfl (x_inc _) (by decide) rfl (fun ls hl => ?_)
                                refine lv_goto (tgt := 101) hx hb dX4_lays_190 (by decide) ?_
                                exact L101  (1) (i + 1) ((xu (xu G 33 (upd (G 33) (gMv Γ i) (nI (gMv Γ z)))) 34 (upd (G 34) (gMv Γ i) ((G 23) i)))) (by omega) (by omega) (fun q h1 h2 => by rw [xu_n h2, xu_n h1]; exact hG9 q h1 h2) (Or.inl ⟨rfl, xlay_t hG hlay hi9 c120 hz hoz c136 hre⟩) _ _ _ hW (lv_sub hl [3, 1, 0] rfl)
                  exact L101 _ (v1) (0) (F) (Nat.lt_succ_self _) (by omega) (hF) (by rcases hv with ⟨rfl, a1, a2⟩ | h; exact Or.inl ⟨rfl, a1, fun q hq => a2 q (by omega), fun q hq => absurd hq (Nat.not_lt_zero q), fun w hw _ => ⟨h3 w (by omega), h4 w (by omega)⟩, fun q hq => absurd hq (Nat.not_lt_zero q)⟩; exact Or.inr h) _ _ _ hW (lv_sub hl [1, 2, 0] rfl)
                · refine lv_aload_n hx hb dX4_lays_79 rfl (lv_at hl 0 rfl) ?_
                  refine x_get (v := .ref (E.2.2.2 54)) S hW hinX4 40 (xw_40 E _) rfl 18 (by decide) w50 rfl dX4_lays_80 ?_
                  refine lv_iload_n hx hb dX4_lays_83 rfl (lv_at hl 2 rfl) ?_
                  refine lv_iconst (v := (-1)) hx hb dX4_lays_84 (by decide) ?_
                  refine x_istN (k := i) (σ' := (n, (xu F 33 (upd (F 33) i (-1))), o)) S hW 54 (xw_54 E _) (rfl) (show i < 144 from by omega) (by decide) (xw_S33 E _ _ _ _) dX4_lays_85 (fun H locs hW => ?_)
                  refine lv_aload_n hx hb dX4_lays_86 rfl (lv_at hl 0 rfl) ?_
                  refine x_get (v := .ref (E.2.2.2 55)) S hW hinX4 40 (xw_40 E _) rfl 19 (by decide) w53 rfl dX4_lays_87 ?_
                  refine lv_iload_n hx hb dX4_lays_90 rfl (lv_at hl 2 rfl) ?_
                  refine lv_iconst (v := 0) hx hb dX4_lays_91 (by decide) ?_
                  refine x_istN (k := i) (σ' := (n, (xu (xu F 33 (upd (F 33) i (-1))) 34 (upd (F 34) i 0)), o)) S hW 55 (xw_55 E _) (rfl) (show i < 144 from by omega) (by decide) (xw_S34 E _ _ _ _) dX4_lays_92 (fun H locs hW => ?_)
                  refine lv_iinc (v := (nI (i + 1))) (lv' := [(2, .int (nI (i + 1))), (0, .ref (E.2.2.2 40)), (1, .int v1)]) hx hb dX4_lays_93 hl (k := 2) rfl (x_inc _) (by decide) rfl (fun ls hl => ?_)
                  refine lv_goto (tgt := 71) hx hb dX4_lays_96 (by decide) ?_
                  exact L71  (i + 1) ((xu (xu F 33 (upd (F 33) i (-1))) 34 (upd (F 34) i 0))) (by omega) (by omega) (fun q h1 h2 => by rw [xu_n h2, xu_n h1]; exact hF q h1 h2) (upd_lt h3) (upd_lt h4) _ _ _ hW (lv_sub hl [1, 2, 0] rfl)
            exact L71 _ (0) (f) (Nat.lt_succ_self _) (by omega) (fun _ _ _ => rfl) (fun q hq => absurd hq (Nat.not_lt_zero q)) (fun q hq => absurd hq (Nat.not_lt_zero q)) _ _ _ hW (lv_sub hl [1, 2, 0] rfl)
          · refine lv_iload_n hx hb dX4_lays_38 rfl (lv_at hl 1 rfl) ?_
            refine lv_if_eq (tgt := 61) hx hb dX4_lays_39 (by decide) (fun c39 => ?_) (fun c39 => ?_)
            · refine lv_iconst (v := 0) hx hb dX4_lays_61 (by decide) ?_
              refine lv_istore_n (lv' := [(1, .int 0), (0, .ref (E.2.2.2 40)), (2, .int (nI i))]) hx hb dX4_lays_62 rfl hl (by decide) rfl (fun ls hl => ?_)
              refine lv_iinc (v := (nI (i + 1))) (lv' := [(2, .int (nI (i + 1))), (1, .int 0), (0, .ref (E.2.2.2 40))]) hx hb dX4_lays_63 hl (k := 2) rfl (x_inc _) (by decide) rfl (fun ls hl => ?_)
              refine lv_goto (tgt := 30) hx hb dX4_lays_66 (by decide) ?_
              exact L30  (0) (i + 1) (by omega) (by omega) (Or.inr ⟨rfl, by first | exact xla2 hv c39 | exact fun hp => (hp i (by omega)).1 c54⟩) _ _ _ hW (lv_sub hl [2, 1, 0] rfl)
            · refine lv_aload_n hx hb dX4_lays_42 rfl (lv_at hl 0 rfl) ?_
              refine x_get (v := .ref (E.2.2.2 43)) S hW hinX4 40 (xw_40 E _) rfl 7 (by decide) w16 rfl dX4_lays_43 ?_
              refine lv_aload_n hx hb dX4_lays_46 rfl (lv_at hl 0 rfl) ?_
              refine x_get (v := .ref (E.2.2.2 52)) S hW hinX4 40 (xw_40 E _) rfl 16 (by decide) w44 rfl dX4_lays_47 ?_
              refine lv_iload_n hx hb dX4_lays_50 rfl (lv_at hl 2 rfl) ?_
              refine x_ildN (k := i) (v := ((f 31) i)) S hW 52 (xw_52 E _) (rfl) (show i < 12 from by omega) (by decide) rfl dX4_lays_51 ?_
              refine x_topN (gMx Γ i) (hR.mx i (by omega)) ?_
              refine x_ildN (k := gMx Γ i) (v := ((f 22) (gMx Γ i))) S hW 43 (xw_43 E _) (rfl) (show gMx Γ i < 144 from by have := hG.mm i (by omega); omega) (by decide) rfl dX4_lays_52 ?_
              refine x_topE (gCb Γ (gMx Γ i)) (hR.cb _ (by have := hG.mm i (by omega); omega)) ?_
              refine lv_iconst (v := (-1)) hx hb dX4_lays_53 (by decide) ?_
              refine lv_icmp_eq (tgt := 61) hx hb dX4_lays_54 (by decide) (fun c54 => ?_) (fun c54 => ?_)
              · refine lv_iconst (v := 0) hx hb dX4_lays_61 (by decide) ?_
                refine lv_istore_n (lv' := [(1, .int 0), (0, .ref (E.2.2.2 40)), (2, .int (nI i))]) hx hb dX4_lays_62 rfl hl (by decide) rfl (fun ls hl => ?_)
                refine lv_iinc (v := (nI (i + 1))) (lv' := [(2, .int (nI (i + 1))), (1, .int 0), (0, .ref (E.2.2.2 40))]) hx hb dX4_lays_63 hl (k := 2) rfl (x_inc _) (by decide) rfl (fun ls hl => ?_)
                refine lv_goto (tgt := 30) hx hb dX4_lays_66 (by decide) ?_
                exact L30  (0) (i + 1) (by omega) (by omega) (Or.inr ⟨rfl, by first | exact xla2 hv c39 | exact fun hp => (hp i (by omega)).1 c54⟩) _ _ _ hW (lv_sub hl [2, 1, 0] rfl)
              · refine lv_iconst (v := 1) hx hb dX4_lays_57 (by decide) ?_
                refine lv_goto (tgt := 62) hx hb dX4_lays_58 (by decide) ?_
                refine lv_istore_n (lv' := [(1, .int 1), (0, .ref (E.2.2.2 40)), (2, .int (nI i))]) hx hb dX4_lays_62 rfl hl (by decide) rfl (fun ls hl => ?_)
                refine lv_iinc (v := (nI (i + 1))) (lv' := [(2, .int (nI (i + 1))), (1, .int 1), (0, .ref (E.2.2.2 40))]) hx hb dX4_lays_63 hl (k := 2) rfl (x_inc _) (by decide) rfl (fun ls hl => ?_)
                refine lv_goto (tgt := 30) hx hb dX4_lays_66 (by decide) ?_
                exact L30  (1) (i + 1) (by omega) (by omega) (Or.inl ⟨rfl, xla1 hv c39 c54⟩) _ _ _ hW (lv_sub hl [2, 1, 0] rfl)
      exact L30 _ (0) (0) (Nat.lt_succ_self _) (by omega) (Or.inr ⟨rfl, fun hp => by have := (un_iff hG hR).mpr hp.un; first | exact h5 this.1 | exact h16 this.2⟩) _ _ _ hW (lv_sub hl [2, 1, 0] rfl)
    · refine lv_if_eq (tgt := 26) hx hb dX4_lays_19 (by decide) (fun c19 => ?_) (fun c19 => ?_)
      · exact absurd c19 (by decide)
      refine lv_iconst (v := 1) hx hb dX4_lays_22 (by decide) ?_
      refine lv_goto (tgt := 27) hx hb dX4_lays_23 (by decide) ?_
      refine lv_istore_n (lv' := [(1, .int 1), (0, .ref (E.2.2.2 40))]) hx hb dX4_lays_27 rfl hl (by decide) rfl (fun ls hl => ?_)
      refine lv_iconst (v := 0) hx hb dX4_lays_28 (by decide) ?_
      refine lv_istore_n (lv' := [(2, .int 0), (1, .int 1), (0, .ref (E.2.2.2 40))]) hx hb dX4_lays_29 rfl hl (by decide) rfl (fun ls hl => ?_)
      have L30 : ∀ (fu30 : Nat) (v1 : Int32) (i : Nat) (hμ30 : gNm Γ + 1 - i < fu30) (hi : i ≤ gNm Γ) (hv : (v1 = 1 ∧ gUn Γ ∧ ∀ q, q < i → gCb Γ (gMx Γ q) ≠ -1) ∨ (v1 = 0 ∧ ¬ gPos Γ)) (H : Heap) (locs : List Loc) (ls : Array Slot), xSt E (n, f, o) s s.heap H locs → lv_has ls 4 [(0, .ref (E.2.2.2 40)), (1, .int v1), (2, .int (nI i))] → W p l e rmX4_lays s m args below meth c H locs 0 0 (MQ below (va_Qi (fun r σ' => ∃ F, ((r = 0 ∧ ¬ gPos Γ) ∨ (r = 1 ∧ gPos Γ ∧ ∀ z, z < gNo Γ → F 33 z = gNC Γ z ∧ F 34 z = gNK Γ z)) ∧ σ' = (n, F, o) ∧ (∀ q, q ≠ 33 → q ≠ 34 → F q = f q)) (xWd E) (xA E)) args s 0 0 (xA E)) (F0 m 30 ls []) := by
        intro fu30
        induction fu30 with
        | zero => intro v1 i hμ30; exact absurd hμ30 (Nat.not_lt_zero _)
        | succ fu30 L30 =>
          intro v1 i hμ30 hi hv H locs ls hW hl
          refine lv_iload_n hx hb dX4_lays_30 rfl (lv_at hl 2 rfl) ?_
          refine lv_aload_n hx hb dX4_lays_31 rfl (lv_at hl 0 rfl) ?_
          refine x_get (v := .int (n 14)) S hW hinX4 40 (xw_40 E _) rfl 4 (by decide) w112 rfl dX4_lays_32 ?_
          refine x_topN (gNm Γ) (hR.nm) ?_
          refine x_icmp_ge (a := i) (b := gNm Γ) (tgt := 69) hx hb dX4_lays_35 (by decide) (by omega) (by omega) (fun c35 => ?_) (fun c35 => ?_)
          · refine lv_iconst (v := 0) hx hb dX4_lays_69 (by decide) ?_
            refine lv_istore_n (lv' := [(2, .int 0), (0, .ref (E.2.2.2 40)), (1, .int v1)]) hx hb dX4_lays_70 rfl hl (by decide) rfl (fun ls hl => ?_)
            have L71 : ∀ (fu71 : Nat) (i : Nat) (F : Nat → Nat → Int32) (hμ71 : gNo Γ + 1 - i < fu71) (hi : i ≤ gNo Γ) (hF : ∀ q, q ≠ 33 → q ≠ 34 → F q = f q) (h3 : ∀ z, z < i → F 33 z = -1) (h4 : ∀ z, z < i → F 34 z = 0) (H : Heap) (locs : List Loc) (ls : Array Slot), xSt E (n, F, o) s s.heap H locs → lv_has ls 4 [(0, .ref (E.2.2.2 40)), (1, .int v1), (2, .int (nI i))] → W p l e rmX4_lays s m args below meth c H locs 0 0 (MQ below (va_Qi (fun r σ' => ∃ F, ((r = 0 ∧ ¬ gPos Γ) ∨ (r = 1 ∧ gPos Γ ∧ ∀ z, z < gNo Γ → F 33 z = gNC Γ z ∧ F 34 z = gNK Γ z)) ∧ σ' = (n, F, o) ∧ (∀ q, q ≠ 33 → q ≠ 34 → F q = f q)) (xWd E) (xA E)) args s 0 0 (xA E)) (F0 m 71 ls []) := by
              intro fu71
              induction fu71 with
              | zero => intro i F hμ71; exact absurd hμ71 (Nat.not_lt_zero _)
              | succ fu71 L71 =>
                intro i F hμ71 hi hF h3 h4 H locs ls hW hl
                refine lv_iload_n hx hb dX4_lays_71 rfl (lv_at hl 2 rfl) ?_
                refine lv_aload_n hx hb dX4_lays_72 rfl (lv_at hl 0 rfl) ?_
                refine x_get (v := .int (n 12)) S hW hinX4 40 (xw_40 E _) rfl 2 (by decide) w66 rfl dX4_lays_73 ?_
                refine x_topN (gNo Γ) (hR.no) ?_
                refine x_icmp_ge (a := i) (b := gNo Γ) (tgt := 99) hx hb dX4_lays_76 (by decide) (by omega) (by omega) (fun c76 => ?_) (fun c76 => ?_)
                · refine lv_iconst (v := 0) hx hb dX4_lays_99 (by decide) ?_
                  refine lv_istore_n (lv' := [(2, .int 0), (0, .ref (E.2.2.2 40)), (1, .int v1)]) hx hb dX4_lays_100 rfl hl (by decide) rfl (fun ls hl => ?_)
                  have L101 : ∀ (fu101 : Nat) (v1 : Int32) (i : Nat) (G : Nat → Nat → Int32) (hμ101 : gNo Γ + 1 - i < fu101) (hi : i ≤ gNo Γ) (hG9 : ∀ q, q ≠ 33 → q ≠ 34 → G q = f q) (hv2 : (v1 = 1 ∧ xLay Γ i (G 33) (G 34)) ∨ (v1 = 0 ∧ ¬ gPos Γ)) (H : Heap) (locs : List Loc) (ls : Array Slot), xSt E (n, G, o) s s.heap H locs → lv_has ls 4 [(0, .ref (E.2.2.2 40)), (1, .int v1), (2, .int (nI i))] → W p l e rmX4_lays s m args below meth c H locs 0 0 (MQ below (va_Qi (fun r σ' => ∃ F, ((r = 0 ∧ ¬ gPos Γ) ∨ (r = 1 ∧ gPos Γ ∧ ∀ z, z < gNo Γ → F 33 z = gNC Γ z ∧ F 34 z = gNK Γ z)) ∧ σ' = (n, F, o) ∧ (∀ q, q ≠ 33 → q ≠ 34 → F q = f q)) (xWd E) (xA E)) args s 0 0 (xA E)) (F0 m 101 ls []) := by
                    intro fu101
                    induction fu101 with
                    | zero => intro v1 i G hμ101; exact absurd hμ101 (Nat.not_lt_zero _)
                    | succ fu101 L101 =>
                      intro v1 i G hμ101 hi hG9 hv2 H locs ls hW hl
                      have hRG : xRepR Γ n G := hR.eqv (fun _ _ _ _ => rfl) (fun q _ h2 => hG9 q (by omega) (by omega))
                      refine lv_iload_n hx hb dX4_lays_101 rfl (lv_at hl 2 rfl) ?_
                      refine lv_aload_n hx hb dX4_lays_102 rfl (lv_at hl 0 rfl) ?_
                      refine x_get (v := .int (n 12)) S hW hinX4 40 (xw_40 E _) rfl 2 (by decide) w66 rfl dX4_lays_103 ?_
                      refine x_topN (gNo Γ) (hR.no) ?_
                      refine x_icmp_ge (a := i) (b := gNo Γ) (tgt := 193) hx hb dX4_lays_106 (by decide) (by omega) (by omega) (fun c106 => ?_) (fun c106 => ?_)
                      · refine lv_iload_n hx hb dX4_lays_193 rfl (lv_at hl 1 rfl) ?_
                        exact x_retz S hr hlk hW dX4_lays_194 (by rcases hv2 with ⟨h, -⟩ | ⟨h, -⟩; exact Or.inr h; exact Or.inl h) (⟨G, by first | exact hv2.elim (fun h => Or.inr ⟨h.1, xlay_e hG (by rw [show gNo Γ = i by omega]; exact h.2)⟩) (fun h => Or.inl ⟨h.1, h.2⟩) | exact Or.inl (hv2.elim (fun h => absurd (h.1.symm.trans c110) (by decide)) (fun h => h)), rfl, hG9⟩)
                      · refine lv_iload_n hx hb dX4_lays_109 rfl (lv_at hl 1 rfl) ?_
                        refine lv_if_eq (tgt := 193) hx hb dX4_lays_110 (by decide) (fun c110 => ?_) (fun c110 => ?_)
                        · refine lv_iload_n hx hb dX4_lays_193 rfl (lv_at hl 1 rfl) ?_
                          exact x_retz S hr hlk hW dX4_lays_194 (by rcases hv2 with ⟨h, -⟩ | ⟨h, -⟩; exact Or.inr h; exact Or.inl h) (⟨G, by first | exact hv2.elim (fun h => Or.inr ⟨h.1, xlay_e hG (by rw [show gNo Γ = i by omega]; exact h.2)⟩) (fun h => Or.inl ⟨h.1, h.2⟩) | exact Or.inl (hv2.elim (fun h => absurd (h.1.symm.trans c110) (by decide)) (fun h => h)), rfl, hG9⟩)
                        · refine lv_aload_n hx hb dX4_lays_113 rfl (lv_at hl 0 rfl) ?_
                          refine x_get (v := .ref (E.2.2.2 43)) S hW hinX4 40 (xw_40 E _) rfl 7 (by decide) w16 rfl dX4_lays_114 ?_
                          refine lv_iload_n hx hb dX4_lays_117 rfl (lv_at hl 2 rfl) ?_
                          refine x_ildN (k := i) (v := ((G 22) i)) S hW 43 (xw_43 E _) (rfl) (show i < 144 from by omega) (by decide) rfl dX4_lays_118 ?_
                          refine x_topE (gCb Γ i) (hRG.cb i (by omega)) ?_
                          refine lv_iconst (v := (-1)) hx hb dX4_lays_119 (by decide) ?_
                          refine lv_icmp_eq (tgt := 187) hx hb dX4_lays_120 (by decide) (fun c120 => ?_) (fun c120 => ?_)
                          · refine lv_iinc (v := (nI (i + 1))) (lv' := [(2, .int (nI (i + 1))), (0, .ref (E.2.2.2 40)), (1, .int v1)]) hx hb dX4_lays_187 hl (k := 2) rfl (x_inc _) (by decide) rfl (fun ls hl => ?_)
                            refine lv_goto (tgt := 101) hx hb dX4_lays_190 (by decide) ?_
                            exact L101  (v1) (i + 1) (G) (by omega) (by omega) (hG9) (Or.inl ⟨xl1 hv2 c110, xlay_s (xl2 hv2 c110) c120⟩) _ _ _ hW (lv_sub hl [1, 2, 0] rfl)
                          · have hlay := xl2 hv2 c110
                            have hun := hlay.1
                            have hi9 : i < gNo Γ := by omega
                            obtain ⟨z, hz, hzi, hoz, hzo⟩ := (hG.cb i hi9).resolve_left c120
                            have hme := gMv_lt hG hi9
                            have hmz := gMv_lt hG hz
                            refine lv_aload_n hx hb dX4_lays_123 rfl (lv_at hl 0 rfl) ?_
                            refine lv_iload_n hx hb dX4_lays_124 rfl (lv_at hl 2 rfl) ?_
                            refine x_Vi (rest := []) S (c_X4_moved l E n G o Γ hG hRG (p1 := i) hi9) (cwV 1 S.2.2.2.2 gX4_lays_X4_moved rfl rfl rfl (by decide +kernel) ⟨Nat.le_of_ble_eq_true rfl, Nat.le_of_ble_eq_true rfl⟩) hW 40 (xw_40 E _) rfl rfl rfl hl.1 (Nat.le_of_ble_eq_true rfl) dX4_lays_125 ⟨Nat.zero_le _, Nat.zero_le _⟩ (fun r125 σ125 H locs hq13 hW => ?_)
                            obtain ⟨h125, rfl⟩ := hq13
                            have h125 : r125 = nI (gMv Γ i) := mv_of hRG hG hi9 (gUn.ix hun) h125
                            subst h125
                            refine lv_istore_n (lv' := [(3, .int (nI (gMv Γ i))), (0, .ref (E.2.2.2 40)), (1, .int v1), (2, .int (nI i))]) hx hb dX4_lays_128 rfl hl (by decide) rfl (fun ls hl => ?_)
                            refine lv_aload_n hx hb dX4_lays_129 rfl (lv_at hl 1 rfl) ?_
                            refine x_get (v := .ref (E.2.2.2 54)) S hW hinX4 40 (xw_40 E _) rfl 18 (by decide) w50 rfl dX4_lays_130 ?_
                            refine lv_iload_n hx hb dX4_lays_133 rfl (lv_at hl 0 rfl) ?_
                            refine x_ildN (k := gMv Γ i) (v := ((G 33) (gMv Γ i))) S hW 54 (xw_54 E _) (rfl) (show gMv Γ i < 144 from by omega) (by decide) rfl dX4_lays_134 ?_
                            refine lv_iconst (v := (-1)) hx hb dX4_lays_135 (by decide) ?_
                            refine lv_icmp_ne (tgt := 157) hx hb dX4_lays_136 (by decide) (fun c136 => ?_) (fun c136 => ?_)
                            · refine lv_iconst (v := 0) hx hb dX4_lays_157 (by decide) ?_
                              refine lv_istore_n (lv' := [(1, .int 0), (3, .int (nI (gMv Γ i))), (0, .ref (E.2.2.2 40)), (2, .int (nI i))]) hx hb dX4_lays_158 rfl hl (by decide) rfl (fun ls hl => ?_)
                              have hre := hRG.cl i hi9 c120
                              refine lv_aload_n hx hb dX4_lays_159 rfl (lv_at hl 2 rfl) ?_
                              refine x_get (v := .ref (E.2.2.2 54)) S hW hinX4 40 (xw_40 E _) rfl 18 (by decide) w50 rfl dX4_lays_160 ?_
                              refine lv_iload_n hx hb dX4_lays_163 rfl (lv_at hl 1 rfl) ?_
                              refine lv_aload_n hx hb dX4_lays_164 rfl (lv_at hl 2 rfl) ?_
                              refine lv_aload_n hx hb dX4_lays_165 rfl (lv_at hl 2 rfl) ?_
                              refine x_get (v := .ref (E.2.2.2 43)) S hW hinX4 40 (xw_40 E _) rfl 7 (by decide) w16 rfl dX4_lays_166 ?_
                              refine lv_iload_n hx hb dX4_lays_169 rfl (lv_at hl 3 rfl) ?_
                              refine x_ildN (k := i) (v := ((G 22) i)) S hW 43 (xw_43 E _) (rfl) (show i < 144 from by omega) (by decide) rfl dX4_lays_170 ?_
                              refine x_topN (z) ((hRG.cb i hi9).trans hoz) ?_
                              refine x_Vi (rest := [.int (nI (gMv Γ i)), .ref (E.2.2.2 54)]) S (c_X4_moved l E n G o Γ hG hRG (p1 := z) hz) (cwV 1 S.2.2.2.2 gX4_lays_X4_moved rfl rfl rfl (by decide +kernel) ⟨Nat.le_of_ble_eq_true rfl, Nat.le_of_ble_eq_true rfl⟩) hW 40 (xw_40 E _) rfl rfl rfl hl.1 (Nat.le_of_ble_eq_true rfl) dX4_lays_171 ⟨Nat.zero_le _, Nat.zero_le _⟩ (fun r171 σ171 H locs hq14 hW => ?_)
                              obtain ⟨h171, rfl⟩ := hq14
                              have h171 : r171 = nI (gMv Γ z) := mv_of hRG hG hz (gUn.ix hun) h171
                              subst h171
                              refine x_istN (k := gMv Γ i) (σ' := (n, (xu G 33 (upd (G 33) (gMv Γ i) (nI (gMv Γ z)))), o)) S hW 54 (xw_54 E _) (rfl) (show gMv Γ i < 144 from by omega) (by decide) (xw_S33 E _ _ _ _) dX4_lays_174 (fun H locs hW => ?_)
                              refine lv_aload_n hx hb dX4_lays_175 rfl (lv_at hl 2 rfl) ?_
                              refine x_get (v := .ref (E.2.2.2 55)) S hW hinX4 40 (xw_40 E _) rfl 19 (by decide) w53 rfl dX4_lays_176 ?_
                              refine lv_iload_n hx hb dX4_lays_179 rfl (lv_at hl 1 rfl) ?_
                              refine lv_aload_n hx hb dX4_lays_180 rfl (lv_at hl 2 rfl) ?_
                              refine x_get (v := .ref (E.2.2.2 44)) S hW hinX4 40 (xw_40 E _) rfl 8 (by decide) w19 rfl dX4_lays_181 ?_
                              refine lv_iload_n hx hb dX4_lays_184 rfl (lv_at hl 3 rfl) ?_
                              refine x_ildN (k := i) (v := ((G 23) i)) S hW 44 (xw_44 E _) (rfl) (show i < 144 from by omega) (by decide) rfl dX4_lays_185 ?_
                              refine x_istN (k := gMv Γ i) (σ' := (n, (xu (xu G 33 (upd (G 33) (gMv Γ i) (nI (gMv Γ z)))) 34 (upd (G 34) (gMv Γ i) ((G 23) i))), o)) S hW 55 (xw_55 E _) (rfl) (show gMv Γ i < 144 from by omega) (by decide) (xw_S34 E _ _ _ _) dX4_lays_186 (fun H locs hW => ?_)
                              refine lv_iinc (v := (nI (i + 1))) (lv' := [(2, .int (nI (i + 1))), (1, .int 0), (3, .int (nI (gMv Γ i))), (0, .ref (E.2.2.2 40))]) hx hb dX4_lays_187 hl (k := 3) rfl (x_inc _) (by decide) rfl (fun ls hl => ?_)
                              refine lv_goto (tgt := 101) hx hb dX4_lays_190 (by decide) ?_
                              exact L101  (0) (i + 1) ((xu (xu G 33 (upd (G 33) (gMv Γ i) (nI (gMv Γ z)))) 34 (upd (G 34) (gMv Γ i) ((G 23) i)))) (by omega) (by omega) (fun q h1 h2 => by rw [xu_n h2, xu_n h1]; exact hG9 q h1 h2) (Or.inr ⟨rfl, by first | exact xlay_n1 hG hlay hi9 c120 c136 | exact xlay_n2 hG hlay hi9 hz c120 hoz c150⟩) _ _ _ hW (lv_sub hl [3, 1, 0] rfl)
                            · refine lv_iload_n hx hb dX4_lays_139 rfl (lv_at hl 0 rfl) ?_
                              refine lv_aload_n hx hb dX4_lays_140 rfl (lv_at hl 1 rfl) ?_
                              refine lv_aload_n hx hb dX4_lays_141 rfl (lv_at hl 1 rfl) ?_
                              refine x_get (v := .ref (E.2.2.2 43)) S hW hinX4 40 (xw_40 E _) rfl 7 (by decide) w16 rfl dX4_lays_142 ?_
                              refine lv_iload_n hx hb dX4_lays_145 rfl (lv_at hl 3 rfl) ?_
                              refine x_ildN (k := i) (v := ((G 22) i)) S hW 43 (xw_43 E _) (rfl) (show i < 144 from by omega) (by decide) rfl dX4_lays_146 ?_
                              refine x_topN (z) ((hRG.cb i hi9).trans hoz) ?_
                              refine x_Vi (rest := [.int (nI (gMv Γ i))]) S (c_X4_moved l E n G o Γ hG hRG (p1 := z) hz) (cwV 1 S.2.2.2.2 gX4_lays_X4_moved rfl rfl rfl (by decide +kernel) ⟨Nat.le_of_ble_eq_true rfl, Nat.le_of_ble_eq_true rfl⟩) hW 40 (xw_40 E _) rfl rfl rfl hl.1 (Nat.le_of_ble_eq_true rfl) dX4_lays_147 ⟨Nat.zero_le _, Nat.zero_le _⟩ (fun r147 σ147 H locs hq15 hW => ?_)
                              obtain ⟨h147, rfl⟩ := hq15
                              have h147 : r147 = nI (gMv Γ z) := mv_of hRG hG hz (gUn.ix hun) h147
                              subst h147
                              refine x_icmp_eq (a := gMv Γ i) (b := gMv Γ z) (tgt := 157) hx hb dX4_lays_150 (by decide) (by omega) (by omega) (fun c150 => ?_) (fun c150 => ?_)
                              · refine lv_iconst (v := 0) hx hb dX4_lays_157 (by decide) ?_
                                refine lv_istore_n (lv' := [(1, .int 0), (3, .int (nI (gMv Γ i))), (0, .ref (E.2.2.2 40)), (2, .int (nI i))]) hx hb dX4_lays_158 rfl hl (by decide) rfl (fun ls hl => ?_)
                                have hre := hRG.cl i hi9 c120
                                refine lv_aload_n hx hb dX4_lays_159 rfl (lv_at hl 2 rfl) ?_
                                refine x_get (v := .ref (E.2.2.2 54)) S hW hinX4 40 (xw_40 E _) rfl 18 (by decide) w50 rfl dX4_lays_160 ?_
                                refine lv_iload_n hx hb dX4_lays_163 rfl (lv_at hl 1 rfl) ?_
                                refine lv_aload_n hx hb dX4_lays_164 rfl (lv_at hl 2 rfl) ?_
                                refine lv_aload_n hx hb dX4_lays_165 rfl (lv_at hl 2 rfl) ?_
                                refine x_get (v := .ref (E.2.2.2 43)) S hW hinX4 40 (xw_40 E _) rfl 7 (by decide) w16 rfl dX4_lays_166 ?_
                                refine lv_iload_n hx hb dX4_lays_169 rfl (lv_at hl 3 rfl) ?_
                                refine x_ildN (k := i) (v := ((G 22) i)) S hW 43 (xw_43 E _) (rfl) (show i < 144 from by omega) (by decide) rfl dX4_lays_170 ?_
                                refine x_topN (z) ((hRG.cb i hi9).trans hoz) ?_
                                refine x_Vi (rest := [.int (nI (gMv Γ i)), .ref (E.2.2.2 54)]) S (c_X4_moved l E n G o Γ hG hRG (p1 := z) hz) (cwV 1 S.2.2.2.2 gX4_lays_X4_moved rfl rfl rfl (by decide +kernel) ⟨Nat.le_of_ble_eq_true rfl, Nat.le_of_ble_eq_true rfl⟩) hW 40 (xw_40 E _) rfl rfl rfl hl.1 (Nat.le_of_ble_eq_true rfl) dX4_lays_171 ⟨Nat.zero_le _, Nat.zero_le _⟩ (fun r171 σ171 H locs hq16 hW => ?_)
                                obtain ⟨h171, rfl⟩ := hq16
                                have h171 : r171 = nI (gMv Γ z) := mv_of hRG hG hz (gUn.ix hun) h171
                                subst h171
                                refine x_istN (k := gMv Γ i) (σ' := (n, (xu G 33 (upd (G 33) (gMv Γ i) (nI (gMv Γ z)))), o)) S hW 54 (xw_54 E _) (rfl) (show gMv Γ i < 144 from by omega) (by decide) (xw_S33 E _ _ _ _) dX4_lays_174 (fun H locs hW => ?_)
                                refine lv_aload_n hx hb dX4_lays_175 rfl (lv_at hl 2 rfl) ?_
                                refine x_get (v := .ref (E.2.2.2 55)) S hW hinX4 40 (xw_40 E _) rfl 19 (by decide) w53 rfl dX4_lays_176 ?_
                                refine lv_iload_n hx hb dX4_lays_179 rfl (lv_at hl 1 rfl) ?_
                                refine lv_aload_n hx hb dX4_lays_180 rfl (lv_at hl 2 rfl) ?_
                                refine x_get (v := .ref (E.2.2.2 44)) S hW hinX4 40 (xw_40 E _) rfl 8 (by decide) w19 rfl dX4_lays_181 ?_
                                refine lv_iload_n hx hb dX4_lays_184 rfl (lv_at hl 3 rfl) ?_
                                refine x_ildN (k := i) (v := ((G 23) i)) S hW 44 (xw_44 E _) (rfl) (show i < 144 from by omega) (by decide) rfl dX4_lays_185 ?_
                                refine x_istN (k := gMv Γ i) (σ' := (n, (xu (xu G 33 (upd (G 33) (gMv Γ i) (nI (gMv Γ z)))) 34 (upd (G 34) (gMv Γ i) ((G 23) i))), o)) S hW 55 (xw_55 E _) (rfl) (show gMv Γ i < 144 from by omega) (by decide) (xw_S34 E _ _ _ _) dX4_lays_186 (fun H locs hW => ?_)
                                refine lv_iinc (v := (nI (i + 1))) (lv' := [(2, .int (nI (i + 1))), (1, .int 0), (3, .int (nI (gMv Γ i))), (0, .ref (E.2.2.2 40))]) hx hb dX4_lays_187 hl (k := 3) rfl (x_inc _) (by decide) rfl (fun ls hl => ?_)
                                refine lv_goto (tgt := 101) hx hb dX4_lays_190 (by decide) ?_
                                exact L101  (0) (i + 1) ((xu (xu G 33 (upd (G 33) (gMv Γ i) (nI (gMv Γ z)))) 34 (upd (G 34) (gMv Γ i) ((G 23) i)))) (by omega) (by omega) (fun q h1 h2 => by rw [xu_n h2, xu_n h1]; exact hG9 q h1 h2) (Or.inr ⟨rfl, by first | exact xlay_n1 hG hlay hi9 c120 c136 | exact xlay_n2 hG hlay hi9 hz c120 hoz c150⟩) _ _ _ hW (lv_sub hl [3, 1, 0] rfl)
                              · refine lv_iconst (v := 1) hx hb dX4_lays_153 (by decide) ?_
                                refine lv_goto (tgt := 158) hx hb dX4_lays_154 (by decide) ?_
                                refine lv_istore_n (lv' := [(1, .int 1), (3, .int (nI (gMv Γ i))), (0, .ref (E.2.2.2 40)), (2, .int (nI i))]) hx hb dX4_lays_158 rfl hl (by decide) rfl (fun ls hl => ?_)
                                have hre := hRG.cl i hi9 c120
                                refine lv_aload_n hx hb dX4_lays_159 rfl (lv_at hl 2 rfl) ?_
                                refine x_get (v := .ref (E.2.2.2 54)) S hW hinX4 40 (xw_40 E _) rfl 18 (by decide) w50 rfl dX4_lays_160 ?_
                                refine lv_iload_n hx hb dX4_lays_163 rfl (lv_at hl 1 rfl) ?_
                                refine lv_aload_n hx hb dX4_lays_164 rfl (lv_at hl 2 rfl) ?_
                                refine lv_aload_n hx hb dX4_lays_165 rfl (lv_at hl 2 rfl) ?_
                                refine x_get (v := .ref (E.2.2.2 43)) S hW hinX4 40 (xw_40 E _) rfl 7 (by decide) w16 rfl dX4_lays_166 ?_
                                refine lv_iload_n hx hb dX4_lays_169 rfl (lv_at hl 3 rfl) ?_
                                refine x_ildN (k := i) (v := ((G 22) i)) S hW 43 (xw_43 E _) (rfl) (show i < 144 from by omega) (by decide) rfl dX4_lays_170 ?_
                                refine x_topN (z) ((hRG.cb i hi9).trans hoz) ?_
                                refine x_Vi (rest := [.int (nI (gMv Γ i)), .ref (E.2.2.2 54)]) S (c_X4_moved l E n G o Γ hG hRG (p1 := z) hz) (cwV 1 S.2.2.2.2 gX4_lays_X4_moved rfl rfl rfl (by decide +kernel) ⟨Nat.le_of_ble_eq_true rfl, Nat.le_of_ble_eq_true rfl⟩) hW 40 (xw_40 E _) rfl rfl rfl hl.1 (Nat.le_of_ble_eq_true rfl) dX4_lays_171 ⟨Nat.zero_le _, Nat.zero_le _⟩ (fun r171 σ171 H locs hq17 hW => ?_)
                                obtain ⟨h171, rfl⟩ := hq17
                                have h171 : r171 = nI (gMv Γ z) := mv_of hRG hG hz (gUn.ix hun) h171
                                subst h171
                                refine x_istN (k := gMv Γ i) (σ' := (n, (xu G 33 (upd (G 33) (gMv Γ i) (nI (gMv Γ z)))), o)) S hW 54 (xw_54 E _) (rfl) (show gMv Γ i < 144 from by omega) (by decide) (xw_S33 E _ _ _ _) dX4_lays_174 (fun H locs hW => ?_)
                                refine lv_aload_n hx hb dX4_lays_175 rfl (lv_at hl 2 rfl) ?_
                                refine x_get (v := .ref (E.2.2.2 55)) S hW hinX4 40 (xw_40 E _) rfl 19 (by decide) w53 rfl dX4_lays_176 ?_
                                refine lv_iload_n hx hb dX4_lays_179 rfl (lv_at hl 1 rfl) ?_
                                refine lv_aload_n hx hb dX4_lays_180 rfl (lv_at hl 2 rfl) ?_
                                refine x_get (v := .ref (E.2.2.2 44)) S hW hinX4 40 (xw_40 E _) rfl 8 (by decide) w19 rfl dX4_lays_181 ?_
                                refine lv_iload_n hx hb dX4_lays_184 rfl (lv_at hl 3 rfl) ?_
                                refine x_ildN (k := i) (v := ((G 23) i)) S hW 44 (xw_44 E _) (rfl) (show i < 144 from by omega) (by decide) rfl dX4_lays_185 ?_
                                refine x_istN (k := gMv Γ i) (σ' := (n, (xu (xu G 33 (upd (G 33) (gMv Γ i) (nI (gMv Γ z)))) 34 (upd (G 34) (gMv Γ i) ((G 23) i))), o)) S hW 55 (xw_55 E _) (rfl) (show gMv Γ i < 144 from by omega) (by decide) (xw_S34 E _ _ _ _) dX4_lays_186 (fun H locs hW => ?_)
                                refine lv_iinc (v := (nI (i + 1))) (lv' := [(2, .int (nI (i + 1))), (1, .int 1), (3, .int (nI (gMv Γ i))), (0, .ref (E.2.2.2 40))]) hx hb dX4_lays_187 hl (k := 3) rfl (x_inc _) (by decide) rfl (fun ls hl => ?_)
                                refine lv_goto (tgt := 101) hx hb dX4_lays_190 (by decide) ?_
                                exact L101  (1) (i + 1) ((xu (xu G 33 (upd (G 33) (gMv Γ i) (nI (gMv Γ z)))) 34 (upd (G 34) (gMv Γ i) ((G 23) i)))) (by omega) (by omega) (fun q h1 h2 => by rw [xu_n h2, xu_n h1]; exact hG9 q h1 h2) (Or.inl ⟨rfl, xlay_t hG hlay hi9 c120 hz hoz c136 hre⟩) _ _ _ hW (lv_sub hl [3, 1, 0] rfl)
                  exact L101 _ (v1) (0) (F) (Nat.lt_succ_self _) (by omega) (hF) (by rcases hv with ⟨rfl, a1, a2⟩ | h; exact Or.inl ⟨rfl, a1, fun q hq => a2 q (by omega), fun q hq => absurd hq (Nat.not_lt_zero q), fun w hw _ => ⟨h3 w (by omega), h4 w (by omega)⟩, fun q hq => absurd hq (Nat.not_lt_zero q)⟩; exact Or.inr h) _ _ _ hW (lv_sub hl [1, 2, 0] rfl)
                · refine lv_aload_n hx hb dX4_lays_79 rfl (lv_at hl 0 rfl) ?_
                  refine x_get (v := .ref (E.2.2.2 54)) S hW hinX4 40 (xw_40 E _) rfl 18 (by decide) w50 rfl dX4_lays_80 ?_
                  refine lv_iload_n hx hb dX4_lays_83 rfl (lv_at hl 2 rfl) ?_
                  refine lv_iconst (v := (-1)) hx hb dX4_lays_84 (by decide) ?_
                  refine x_istN (k := i) (σ' := (n, (xu F 33 (upd (F 33) i (-1))), o)) S hW 54 (xw_54 E _) (rfl) (show i < 144 from by omega) (by decide) (xw_S33 E _ _ _ _) dX4_lays_85 (fun H locs hW => ?_)
                  refine lv_aload_n hx hb dX4_lays_86 rfl (lv_at hl 0 rfl) ?_
                  refine x_get (v := .ref (E.2.2.2 55)) S hW hinX4 40 (xw_40 E _) rfl 19 (by decide) w53 rfl dX4_lays_87 ?_
                  refine lv_iload_n hx hb dX4_lays_90 rfl (lv_at hl 2 rfl) ?_
                  refine lv_iconst (v := 0) hx hb dX4_lays_91 (by decide) ?_
                  refine x_istN (k := i) (σ' := (n, (xu (xu F 33 (upd (F 33) i (-1))) 34 (upd (F 34) i 0)), o)) S hW 55 (xw_55 E _) (rfl) (show i < 144 from by omega) (by decide) (xw_S34 E _ _ _ _) dX4_lays_92 (fun H locs hW => ?_)
                  refine lv_iinc (v := (nI (i + 1))) (lv' := [(2, .int (nI (i + 1))), (0, .ref (E.2.2.2 40)), (1, .int v1)]) hx hb dX4_lays_93 hl (k := 2) rfl (x_inc _) (by decide) rfl (fun ls hl => ?_)
                  refine lv_goto (tgt := 71) hx hb dX4_lays_96 (by decide) ?_
                  exact L71  (i + 1) ((xu (xu F 33 (upd (F 33) i (-1))) 34 (upd (F 34) i 0))) (by omega) (by omega) (fun q h1 h2 => by rw [xu_n h2, xu_n h1]; exact hF q h1 h2) (upd_lt h3) (upd_lt h4) _ _ _ hW (lv_sub hl [1, 2, 0] rfl)
            exact L71 _ (0) (f) (Nat.lt_succ_self _) (by omega) (fun _ _ _ => rfl) (fun q hq => absurd hq (Nat.not_lt_zero q)) (fun q hq => absurd hq (Nat.not_lt_zero q)) _ _ _ hW (lv_sub hl [1, 2, 0] rfl)
          · refine lv_iload_n hx hb dX4_lays_38 rfl (lv_at hl 1 rfl) ?_
            refine lv_if_eq (tgt := 61) hx hb dX4_lays_39 (by decide) (fun c39 => ?_) (fun c39 => ?_)
            · refine lv_iconst (v := 0) hx hb dX4_lays_61 (by decide) ?_
              refine lv_istore_n (lv' := [(1, .int 0), (0, .ref (E.2.2.2 40)), (2, .int (nI i))]) hx hb dX4_lays_62 rfl hl (by decide) rfl (fun ls hl => ?_)
              refine lv_iinc (v := (nI (i + 1))) (lv' := [(2, .int (nI (i + 1))), (1, .int 0), (0, .ref (E.2.2.2 40))]) hx hb dX4_lays_63 hl (k := 2) rfl (x_inc _) (by decide) rfl (fun ls hl => ?_)
              refine lv_goto (tgt := 30) hx hb dX4_lays_66 (by decide) ?_
              exact L30  (0) (i + 1) (by omega) (by omega) (Or.inr ⟨rfl, by first | exact xla2 hv c39 | exact fun hp => (hp i (by omega)).1 c54⟩) _ _ _ hW (lv_sub hl [2, 1, 0] rfl)
            · refine lv_aload_n hx hb dX4_lays_42 rfl (lv_at hl 0 rfl) ?_
              refine x_get (v := .ref (E.2.2.2 43)) S hW hinX4 40 (xw_40 E _) rfl 7 (by decide) w16 rfl dX4_lays_43 ?_
              refine lv_aload_n hx hb dX4_lays_46 rfl (lv_at hl 0 rfl) ?_
              refine x_get (v := .ref (E.2.2.2 52)) S hW hinX4 40 (xw_40 E _) rfl 16 (by decide) w44 rfl dX4_lays_47 ?_
              refine lv_iload_n hx hb dX4_lays_50 rfl (lv_at hl 2 rfl) ?_
              refine x_ildN (k := i) (v := ((f 31) i)) S hW 52 (xw_52 E _) (rfl) (show i < 12 from by omega) (by decide) rfl dX4_lays_51 ?_
              refine x_topN (gMx Γ i) (hR.mx i (by omega)) ?_
              refine x_ildN (k := gMx Γ i) (v := ((f 22) (gMx Γ i))) S hW 43 (xw_43 E _) (rfl) (show gMx Γ i < 144 from by have := hG.mm i (by omega); omega) (by decide) rfl dX4_lays_52 ?_
              refine x_topE (gCb Γ (gMx Γ i)) (hR.cb _ (by have := hG.mm i (by omega); omega)) ?_
              refine lv_iconst (v := (-1)) hx hb dX4_lays_53 (by decide) ?_
              refine lv_icmp_eq (tgt := 61) hx hb dX4_lays_54 (by decide) (fun c54 => ?_) (fun c54 => ?_)
              · refine lv_iconst (v := 0) hx hb dX4_lays_61 (by decide) ?_
                refine lv_istore_n (lv' := [(1, .int 0), (0, .ref (E.2.2.2 40)), (2, .int (nI i))]) hx hb dX4_lays_62 rfl hl (by decide) rfl (fun ls hl => ?_)
                refine lv_iinc (v := (nI (i + 1))) (lv' := [(2, .int (nI (i + 1))), (1, .int 0), (0, .ref (E.2.2.2 40))]) hx hb dX4_lays_63 hl (k := 2) rfl (x_inc _) (by decide) rfl (fun ls hl => ?_)
                refine lv_goto (tgt := 30) hx hb dX4_lays_66 (by decide) ?_
                exact L30  (0) (i + 1) (by omega) (by omega) (Or.inr ⟨rfl, by first | exact xla2 hv c39 | exact fun hp => (hp i (by omega)).1 c54⟩) _ _ _ hW (lv_sub hl [2, 1, 0] rfl)
              · refine lv_iconst (v := 1) hx hb dX4_lays_57 (by decide) ?_
                refine lv_goto (tgt := 62) hx hb dX4_lays_58 (by decide) ?_
                refine lv_istore_n (lv' := [(1, .int 1), (0, .ref (E.2.2.2 40)), (2, .int (nI i))]) hx hb dX4_lays_62 rfl hl (by decide) rfl (fun ls hl => ?_)
                refine lv_iinc (v := (nI (i + 1))) (lv' := [(2, .int (nI (i + 1))), (1, .int 1), (0, .ref (E.2.2.2 40))]) hx hb dX4_lays_63 hl (k := 2) rfl (x_inc _) (by decide) rfl (fun ls hl => ?_)
                refine lv_goto (tgt := 30) hx hb dX4_lays_66 (by decide) ?_
                exact L30  (1) (i + 1) (by omega) (by omega) (Or.inl ⟨rfl, xla1 hv c39 c54⟩) _ _ _ hW (lv_sub hl [2, 1, 0] rfl)
      exact L30 _ (1) (0) (Nat.lt_succ_self _) (by omega) (Or.inl ⟨rfl, (un_iff hG hR).mp ⟨h5, h16⟩, fun q hq => absurd hq (Nat.not_lt_zero q)⟩) _ _ _ hW (lv_sub hl [2, 1, 0] rfl)
