/-! what the law asks, of a good book: no machine here -/
theorem xif_c {P Q : Prop} {α : Type} {a b : α} (h : P ↔ Q) : xif P a b = xif Q a b := by
  by_cases hp : P
  · rw [xif_t hp, xif_t (h.mp hp)]
  · rw [xif_f hp, xif_f (fun z => hp (h.mpr z))]
/-- the panels of ports one after the other -/
def xpv (Γ : xG) (i : Nat) : Nat := if i = 0 then 0 else gPn Γ (i - 1)
theorem xpv_s (Γ : xG) (i : Nat) : xpv Γ (i + 1) = gPn Γ i := by
  unfold xpv
  rw [if_neg (Nat.succ_ne_zero i), Nat.add_sub_cancel]
theorem xpn_ok {Γ : xG} (h : xGood Γ) {i : Nat} (hi : i < gNo Γ) : gPn Γ i = xpv Γ i ∨ gPn Γ i = xpv Γ i + 1 := by
  have hn := h.pn i hi
  have h0 := h.f0
  have hfn := h.fn
  unfold xpv
  by_cases e : i = 0
  · rw [if_pos e]
    left
    have h1 := h.fs 0 (by omega)
    exact h.pu (by omega) (by omega) (by rw [Nat.zero_add] at h1 ⊢; omega)
  · rw [if_neg e]
    have hm := h.pn (i - 1) (by omega)
    by_cases c : i < gFs Γ (gPn Γ (i - 1) + 1)
    · left
      exact h.pu hm.1 (by omega) c
    · right
      have e2 : i = gFs Γ (gPn Γ (i - 1) + 1) := by omega
      have hlt : gPn Γ (i - 1) + 1 < gNp Γ := by
        rcases Nat.lt_or_ge (gPn Γ (i - 1) + 1) (gNp Γ) with d | d
        · exact d
        · have e3 : gPn Γ (i - 1) + 1 = gNp Γ := by omega
          rw [e3, hfn] at e2
          omega
      have h2 := h.fs (gPn Γ (i - 1) + 1) hlt
      exact h.pu hlt (by omega) (by omega)
theorem xpn_lt {Γ : xG} (h : xGood Γ) (i : Nat) (hi : i ≤ gNo Γ) : xpv Γ i ≤ 12 := by
  unfold xpv
  by_cases e : i = 0
  · rw [if_pos e]; omega
  · rw [if_neg e]
    have := (h.pn (i - 1) (by omega)).1
    have := h.np
    omega
theorem xmatch2 {no : Nat} {C : Nat → Int32} (hn : no < 2 ^ 31) (h : xM no C) : xcnt (fun q => C q ≠ -1) no = 2 * xcnt (fun q => nI q < C q) no := by
  have sym : ∀ q z, q < no → z < no → (C q = nI z ↔ C z = nI q) := fun q z hq hz => ⟨fun e => (h.inv hn hq (by omega) e).2.2, fun e => (h.inv hn hz (by omega) e).2.2⟩
  have e1 : xcnt (fun q => nI q < C q) no = xdc (fun q z => C q = nI z ∧ q < z) no no := by
    refine (xdc_x (fun q hq => ?_)).symm
    rcases h q hq with e | ⟨z, hz, hne, e, -⟩
    · have hlt : ¬ nI q < C q := by
        rw [e]; intro hh
        have h1 := Int32.lt_iff_toInt_lt.mp hh
        have h2 : (nI q).toInt = (q : Int) := by unfold nI; exact Int32.toInt_ofNat_of_lt (by omega)
        rw [h2, show (-1 : Int32).toInt = -1 from rfl] at h1
        omega
      rw [xif_f hlt]
      exact xcnt_z (fun k hk hh => by
        have h1 : (-1 : Int32) = nI k := e.symm.trans hh.1
        have h2 : (nI k).toInt = (k : Int) := by unfold nI; exact Int32.toInt_ofNat_of_lt (by omega)
        rw [← h1, show (-1 : Int32).toInt = -1 from rfl] at h2
        omega)
    · by_cases hl : q < z
      · rw [xif_t (by rw [e]; exact (nI_lt_iff (by omega) (by omega)).mpr hl)]
        exact xcnt_1 ⟨e, hl⟩ hz (fun k hk hh => nI_inj (by omega) (by omega) (hh.1.symm.trans e))
      · rw [xif_f (by rw [e]; exact fun hh => hl ((nI_lt_iff (by omega) (by omega)).mp hh))]
        exact xcnt_z (fun k hk hh => hl (by have := nI_inj (by omega) (by omega) (hh.1.symm.trans e); omega))
  have e2 : xcnt (fun q => C q ≠ -1 ∧ ¬ nI q < C q) no = xdc (fun q z => C q = nI z ∧ z < q) no no := by
    refine (xdc_x (fun q hq => ?_)).symm
    rcases h q hq with e | ⟨z, hz, hne, e, -⟩
    · rw [xif_f (fun hh => hh.1 e)]
      exact xcnt_z (fun k hk hh => by
        have h1 : (-1 : Int32) = nI k := e.symm.trans hh.1
        have h2 : (nI k).toInt = (k : Int) := by unfold nI; exact Int32.toInt_ofNat_of_lt (by omega)
        rw [← h1, show (-1 : Int32).toInt = -1 from rfl] at h2
        omega)
    · have hm : C q ≠ -1 := by
        intro h1
        have h1 : (-1 : Int32) = nI z := h1.symm.trans e
        have h2 : (nI z).toInt = (z : Int) := by unfold nI; exact Int32.toInt_ofNat_of_lt (by omega)
        rw [← h1, show (-1 : Int32).toInt = -1 from rfl] at h2
        omega
      by_cases hl : z < q
      · rw [xif_t ⟨hm, by rw [e]; exact fun hh => by have := (nI_lt_iff (by omega) (by omega)).mp hh; omega⟩]
        exact xcnt_1 ⟨e, hl⟩ hz (fun k hk hh => nI_inj (by omega) (by omega) (hh.1.symm.trans e))
      · rw [xif_f (fun hh => hh.2 (by rw [e]; exact (nI_lt_iff (by omega) (by omega)).mpr (by omega)))]
        exact xcnt_z (fun k hk hh => hl (by have := nI_inj (by omega) (by omega) (hh.1.symm.trans e); omega))
  have e3 : xdc (fun q z => C q = nI z ∧ q < z) no no = xdc (fun q z => C q = nI z ∧ z < q) no no := by
    rw [xdc_swap]
    exact xdc_c (fun q hq z hz => ⟨fun hh => ⟨(sym z q hz hq).mp hh.1, hh.2⟩, fun hh => ⟨(sym z q hz hq).mpr hh.1, hh.2⟩⟩)
  have e4 := xcnt_sp (P := fun q => C q ≠ -1) (Q := fun q => nI q < C q) no
  have e5 : xcnt (fun q => C q ≠ -1 ∧ nI q < C q) no = xcnt (fun q => nI q < C q) no := by
    refine xcnt_c (fun q hq => ⟨fun hh => hh.2, fun hh => ⟨fun e => ?_, hh⟩⟩)
    rw [e] at hh
    have h1 := Int32.lt_iff_toInt_lt.mp hh
    have h2 : (nI q).toInt = (q : Int) := by unfold nI; exact Int32.toInt_ofNat_of_lt (by omega)
    rw [h2, show (-1 : Int32).toInt = -1 from rfl] at h1
    omega
  omega
/-- lengths of cables -/
theorem xlen_t : ∀ i j : Fin 10, ∃ k : Fin 22, 1 ≤ k.1 ∧ (if xabs (nI i.1 - nI j.1) = 0 then (2 : Int32) else 3 + 2 * xabs (nI i.1 - nI j.1)) = nI k.1 := by decide +kernel
theorem xlen_u : ∀ i j : Fin 10, xabs (nI i.1 - nI j.1) = xabs (nI j.1 - nI i.1) := by decide +kernel
theorem xlen_b {Γ : xG} (h : xGood Γ) {a b : Nat} (ha : a < gNp Γ) (hb : b < gNp Γ) : ∃ k, 1 ≤ k ∧ k ≤ 21 ∧ xlen (gRk Γ) a b = nI k := by
  obtain ⟨i, hi, ei⟩ := h.rk a ha
  obtain ⟨j, hj, ej⟩ := h.rk b hb
  unfold xlen
  by_cases e : a = b
  · rw [if_pos e]; exact ⟨1, by omega, by omega, rfl⟩
  · rw [if_neg e, ei, ej]
    obtain ⟨k, h1, h2⟩ := xlen_t ⟨i, by omega⟩ ⟨j, by omega⟩
    exact ⟨k.1, h1, by omega, h2⟩
theorem xlen_s {Γ : xG} (h : xGood Γ) {a b : Nat} (ha : a < gNp Γ) (hb : b < gNp Γ) : xlen (gRk Γ) a b = xlen (gRk Γ) b a := by
  obtain ⟨i, hi, ei⟩ := h.rk a ha
  obtain ⟨j, hj, ej⟩ := h.rk b hb
  have hu := xlen_u ⟨i, by omega⟩ ⟨j, by omega⟩
  unfold xlen
  by_cases e : a = b
  · rw [if_pos e, if_pos e.symm]
  · rw [if_neg e, if_neg (show ¬ b = a from fun z => e z.symm), ei, ej, show xabs (nI i - nI j) = xabs (nI j - nI i) from hu]
theorem gSum_b {Γ : xG} (h : xGood Γ) : ∀ k, k ≤ gNo Γ → ∃ s, gSum Γ k = nI s ∧ xcnt (fun q => nI q < gCb Γ q) k ≤ s ∧ s ≤ 21 * xcnt (fun q => nI q < gCb Γ q) k := by
  have hno := h.no
  intro k
  induction k with
  | zero => intro _; exact ⟨0, rfl, Nat.zero_le _, Nat.zero_le _⟩
  | succ k ih =>
    intro hk
    obtain ⟨s, h1, h2, h3⟩ := ih (by omega)
    by_cases c : nI k < gCb Γ k
    · rcases h.cb k (by omega) with e | ⟨z, hz, hne, e, -⟩
      · exact absurd c (by rw [e]; intro hh; have h1 := Int32.lt_iff_toInt_lt.mp hh; have h2 : (nI k).toInt = (k : Int) := by { unfold nI; exact Int32.toInt_ofNat_of_lt (by omega) }; rw [h2, show (-1 : Int32).toInt = -1 from rfl] at h1; omega)
      · obtain ⟨m, m1, m2, m3⟩ := xlen_b h (h.pn k (by omega)).1 (h.pn z hz).1
        refine ⟨s + m, ?_, ?_, ?_⟩
        · rw [gSum, xif_t c, h1, e, xNa_n (by omega), m3, nI_add]
        · rw [xcnt_t (P := fun q => nI q < gCb Γ q) c]; omega
        · rw [xcnt_t (P := fun q => nI q < gCb Γ q) c]; omega
    · refine ⟨s, ?_, ?_, ?_⟩
      · rw [gSum, xif_f c, h1]; exact Int32.add_zero _
      · rw [xcnt_f (P := fun q => nI q < gCb Γ q) c]; exact h2
      · rw [xcnt_f (P := fun q => nI q < gCb Γ q) c]; exact h3
/-- a free port lies in its panel -/
theorem xfp_ok {Γ : xG} (h : xGood Γ) {k : Nat} {r : Int32} (hk : k < 2 ^ 31) (hp : (ocPanel Γ (nI k) = 0 ∧ xFF (fun q => gCb Γ q = -1 ∧ gSt Γ q = -1) (gFs Γ (xNa (nI k))) (gFs Γ (xNa (nI k) + 1) - gFs Γ (xNa (nI k))) r) ∨ r = -99999) : r = -1 ∨ r = -99999 ∨ ∃ q, q < gNo Γ ∧ r = nI q ∧ gCb Γ q = -1 ∧ gSt Γ q = -1 ∧ gPn Γ q = k := by
  rcases hp with ⟨h1, h2⟩ | h1
  · rw [xNa_n hk] at h2
    rcases h2 with ⟨i, hi, ⟨a1, a2⟩, -, e⟩ | ⟨-, e⟩
    · have hkp : k < gNp Γ := by
        obtain ⟨h3, -⟩ := xif_0 (k := 0) h1
        obtain ⟨z, hz, ez⟩ := Classical.byContradiction h3
        have := h.np
        rw [nI_inj hk (by omega) ez]; exact hz
      have hf := h.fno (k := k + 1) (by omega)
      exact Or.inr (Or.inr ⟨gFs Γ k + i, by omega, e, a1, a2, h.pu hkp (by omega) (by omega)⟩)
    · exact Or.inl e
  · exact Or.inr (Or.inl h1)
/-! lines -/
theorem xStop_ex {no : Nat} {C S : Nat → Int32} {c : Bool} {p : Nat} (hn : no < 2 ^ 31) (hC : xM no C) (hS : xM no S) (hp : p < no) : ∃ K, xStop C S c p K := by
  apply Classical.byContradiction
  intro hno
  have all : ∀ K, (∀ k, k < K → xw C S c p (k + 1) ≠ -1) ∧ (∀ k, k < K → xw C S c p (k + 1) ≠ nI p) := by
    intro K
    induction K with
    | zero => exact ⟨fun k hk => absurd hk (Nat.not_lt_zero k), fun k hk => absurd hk (Nat.not_lt_zero k)⟩
    | succ K ih =>
      have n1 : xw C S c p (K + 1) ≠ -1 := fun e => hno ⟨K, ih.1, fun k hk => ih.2 k (by omega), Or.inl e⟩
      have n2 : xw C S c p (K + 1) ≠ nI p := fun e => hno ⟨K + 1, fun k hk => by
        by_cases z : k = K
        · rw [z]; exact n1
        · exact ih.1 k (by omega), fun k hk => ih.2 k (by omega), Or.inr ⟨by omega, e⟩⟩
      constructor
      · intro k hk
        by_cases z : k = K
        · rw [z]; exact n1
        · exact ih.1 k (by omega)
      · intro k hk
        by_cases z : k = K
        · rw [z]; exact n2
        · exact ih.2 k (by omega)
  have := xw_short (c := c) hn hC hS hp (all no).1 (all no).2
  omega
/-- the first h hops of a trace are no lower than p -/
def xlow (C S : Nat → Int32) (c : Bool) (p h : Nat) : Prop := ∀ k, k < h → ∀ q, xw C S c p (k + 1) = nI q → q < 2 ^ 31 → p ≤ q
theorem xlow_0 {C S : Nat → Int32} {c : Bool} {p : Nat} : xlow C S c p 0 := fun k hk => absurd hk (Nat.not_lt_zero k)
theorem xlow_s {C S : Nat → Int32} {c : Bool} {p h z : Nat} (e : xw C S c p (h + 1) = nI z) (hz : z < 2 ^ 31) : xlow C S c p (h + 1) ↔ (xlow C S c p h ∧ p ≤ z) := by
  constructor
  · intro l
    exact ⟨fun k hk => l k (by omega), l h (by omega) z e hz⟩
  · rintro ⟨l, hl⟩ k hk q eq hq
    by_cases c : k = h
    · rw [c, e] at eq
      rw [← nI_inj hz hq eq]; exact hl
    · exact l k (by omega) q eq hq
theorem xlowest {no : Nat} {C S : Nat → Int32} {p K0 K1 : Nat} (hn : no < 2 ^ 31) (hC : xM no C) (hS : xM no S) (hp : p < no) (h0 : xStop C S false p K0) (h1 : xStop C S true p K1) : (∀ z, z < p → ¬ xR no C S z p) ↔ (xlow C S false p K0 ∧ xlow C S true p K1) := by
  constructor
  · intro h
    have key : ∀ (c : Bool) (K : Nat), xStop C S c p K → xlow C S c p K := by
      intro c K hK k hk q e hq
      obtain ⟨z, hz, ez⟩ := hK.get hn hC hS hp (k := k + 1) (by omega)
      have : z = q := nI_inj (by omega) hq (ez.symm.trans e)
      subst this
      rcases Nat.lt_or_ge z p with d | d
      · exact absurd ((xw_R hn hC hS hp _ z hz ez).symm hn hC hS) (h z d)
      · exact d
    exact ⟨key false K0 h0, key true K1 h1⟩
  · rintro ⟨l0, l1⟩ z hz hr
    have hr := hr.symm hn hC hS
    rcases (xline hn hC hS hp h1 h0 (by omega)).mp hr with e | ⟨k, hk, e⟩ | ⟨k, hk, e⟩
    · omega
    · have := l1 k hk z e (by omega); omega
    · have := l0 k hk z e (by omega); omega
/-! rings -/
theorem xring {no : Nat} {C S : Nat → Int32} {p K : Nat} (hn : no < 2 ^ 31) (hC : xM no C) (hS : xM no S) (hp : p < no) (h : xStop C S true p K) (h0 : 0 < K) (e : xw C S true p K = nI p) : K % 2 = 0 ∧ (∀ j, j ≤ K → xw C S false p j = xw C S true p (K - j)) ∧ xStop C S false p K := by
  have hev : K % 2 = 0 := by
    apply Classical.byContradiction
    intro hodd
    obtain ⟨m, rfl⟩ : ∃ m, K = m + 1 := ⟨K - 1, by omega⟩
    obtain ⟨q, hq, eq⟩ := h.get hn hC hS hp (k := m) (by omega)
    have hd : xdir true m = true := by unfold xdir; rw [if_pos (by omega)]
    have e1 : C q = nI p := by
      have := xw_step eq (by omega)
      rw [hd] at this
      exact this.symm.trans e
    have i1 := hC.inv hn hq (by omega) e1
    have e2 : xw C S true p (0 + 1) = nI q := by
      rw [xw_step (k := 0) (q := p) rfl (by omega)]
      exact i1.2.2
    by_cases hm : m = 0
    · subst hm
      exact i1.2.1 (nI_inj (by omega) (by omega) (eq.symm.trans rfl)).symm
    · by_cases hm1 : m = 1
      · omega
      · exact xw_ne (K := m) hn hC hS hp (fun k hk => h.1 k (by omega)) (fun k hk => h.2.1 k (by omega)) m (Nat.le_refl m) 1 (by omega) (e2.trans eq.symm)
  have rev : ∀ j, j ≤ K → xw C S false p j = xw C S true p (K - j) := by
    intro j
    induction j with
    | zero => intro _; exact e.symm
    | succ j ih =>
      intro hj
      have ih := ih (by omega)
      obtain ⟨q, hq, eq⟩ := h.get hn hC hS hp (k := K - j) (by omega)
      obtain ⟨r, hr, er⟩ := h.get hn hC hS hp (k := K - (j + 1)) (by omega)
      have hs := xw_step er (by omega)
      rw [show K - (j + 1) + 1 = K - j by omega, eq] at hs
      have i1 := (xM_nx hC hS (xdir true (K - (j + 1)))).inv hn hr (by omega) hs.symm
      have hd : xdir false j = xdir true (K - (j + 1)) := by
        unfold xdir
        by_cases c : j % 2 = 0
        · rw [if_pos c, if_neg (by omega)]; rfl
        · rw [if_neg c, if_pos (by omega)]; rfl
      rw [xw_step (ih.trans eq) (by omega), hd, i1.2.2, er]
  refine ⟨hev, rev, ?_, ?_, ?_⟩
  · intro k hk
    rw [rev (k + 1) (by omega)]
    obtain ⟨q, hq, eq⟩ := h.get hn hC hS hp (k := K - (k + 1)) (by omega)
    rw [eq]; exact nI_m1 (by omega)
  · intro k hk
    rw [rev (k + 1) (by omega)]
    have := h.2.1 (K - (k + 1) - 1) (by omega)
    rw [show K - (k + 1) - 1 + 1 = K - (k + 1) by omega] at this
    exact this
  · right
    refine ⟨h0, ?_⟩
    rw [rev K (Nat.le_refl K), Nat.sub_self]
    rfl
/-- the length of a hop -/
def gHop (Γ : xG) (b : Bool) (p k : Nat) : Int32 := if xdir b k = true then xlen (gRk Γ) (gPn Γ (xNa (xw (gCb Γ) (gOp Γ) b p k))) (gPn Γ (xNa (xw (gCb Γ) (gOp Γ) b p (k + 1)))) else gTl Γ (xNa (gTk Γ (xNa (xw (gCb Γ) (gOp Γ) b p k))))
theorem gLen_s (Γ : xG) (b : Bool) (p k : Nat) : gLen Γ b p (k + 1) = gLen Γ b p k + gHop Γ b p k := rfl
theorem gOp_st {Γ : xG} {q r : Nat} (hr : r < 2 ^ 31) (e : gOp Γ q = nI r) : gSt Γ q = nI r := by
  unfold gOp xop at e
  by_cases h : gBk Γ q = 0
  · rw [if_pos h] at e; exact e
  · rw [if_neg h] at e; exact absurd e.symm (nI_m1 hr)
theorem gHop_b {Γ : xG} (h : xGd Γ) {b : Bool} {p k q r : Nat} (hq : q < gNo Γ) (hr : r < gNo Γ) (e1 : xw (gCb Γ) (gOp Γ) b p k = nI q) (e2 : xw (gCb Γ) (gOp Γ) b p (k + 1) = nI r) : ∃ m, 1 ≤ m ∧ m ≤ 500 ∧ gHop Γ b p k = nI m := by
  have hno := h.1.no
  unfold gHop
  rw [e1, e2, xNa_n (by omega), xNa_n (by omega)]
  by_cases d : xdir b k = true
  · rw [if_pos d]
    obtain ⟨m, m1, m2, m3⟩ := xlen_b h.1 (h.1.pn q hq).1 (h.1.pn r hr).1
    exact ⟨m, m1, by omega, m3⟩
  · rw [if_neg d]
    have hd : xdir b k = false := by revert d; cases xdir b k <;> simp
    have hs := xw_step e1 (by omega)
    rw [hd, e2] at hs
    have es := gOp_st (by omega) hs.symm
    obtain ⟨t, ht, et⟩ := h.1.tk q hq (by rw [es]; exact nI_m1 (by omega))
    have hnt := h.1.nt
    rw [et, xNa_n (by omega)]
    exact h.tl t ht
theorem gLen_b {Γ : xG} (h : xGd Γ) {b : Bool} {p K : Nat} (hp : p < gNo Γ) (hK : xStop (gCb Γ) (gOp Γ) b p K) : ∀ k, k ≤ K → ∃ m, k ≤ m ∧ m ≤ 500 * k ∧ gLen Γ b p k = nI m := by
  have hno := h.1.no
  intro k
  induction k with
  | zero => intro _; exact ⟨0, Nat.le_refl 0, Nat.le_refl 0, rfl⟩
  | succ k ih =>
    intro hk
    obtain ⟨m, m1, m2, m3⟩ := ih (by omega)
    obtain ⟨q, hq, eq⟩ := hK.get (by omega) h.1.cb h.1.op hp (k := k) (by omega)
    obtain ⟨r, hr, er⟩ := hK.get (by omega) h.1.cb h.1.op hp (k := k + 1) (by omega)
    obtain ⟨t, t1, t2, t3⟩ := gHop_b h hq hr eq er
    exact ⟨m + t, by omega, by omega, by rw [gLen_s, m3, t3, nI_add]⟩
theorem gLen_r {Γ : xG} (h : xGd Γ) {p K : Nat} (hp : p < gNo Γ) (hK : xStop (gCb Γ) (gOp Γ) true p K) (h0 : 0 < K) (e : xw (gCb Γ) (gOp Γ) true p K = nI p) : gLen Γ false p K = gLen Γ true p K := by
  have hno := h.1.no
  obtain ⟨hev, rev, -⟩ := xring (by omega) h.1.cb h.1.op hp hK h0 e
  have hop : ∀ j, j < K → gHop Γ false p j = gHop Γ true p (K - (j + 1)) := by
    intro j hj
    obtain ⟨q, hq, eq⟩ := hK.get (by omega) h.1.cb h.1.op hp (k := K - j) (by omega)
    obtain ⟨r, hr, er⟩ := hK.get (by omega) h.1.cb h.1.op hp (k := K - (j + 1)) (by omega)
    have hd : xdir false j = xdir true (K - (j + 1)) := by
      unfold xdir
      by_cases c : j % 2 = 0
      · rw [if_pos c, if_neg (by omega)]; rfl
      · rw [if_neg c, if_pos (by omega)]; rfl
    have hs := xw_step er (by omega)
    unfold gHop
    rw [rev j (by omega), rev (j + 1) (by omega), show K - (j + 1) + 1 = K - j by omega] at *
    rw [eq, er, xNa_n (by omega), xNa_n (by omega), hd]
    by_cases d : xdir true (K - (j + 1)) = true
    · rw [if_pos d, if_pos d]
      exact xlen_s h.1 (h.1.pn q hq).1 (h.1.pn r hr).1
    · rw [if_neg d, if_neg d]
      have hd2 : xdir true (K - (j + 1)) = false := by revert d; cases xdir true (K - (j + 1)) <;> simp
      rw [hd2, eq] at hs
      rw [h.tk r q hr hq (gOp_st (by omega) hs.symm)]
  have sum : ∀ j, j ≤ K → gLen Γ false p j + gLen Γ true p (K - j) = gLen Γ true p K := by
    intro j
    induction j with
    | zero => intro _; exact Int32.zero_add _
    | succ j ih =>
      intro hj
      have ih := ih (by omega)
      rw [show K - j = K - (j + 1) + 1 by omega, gLen_s, ← hop j (by omega)] at ih
      rw [gLen_s, ← ih, Int32.add_assoc, Int32.add_comm (gHop Γ false p j)]
  have := sum K (Nat.le_refl K)
  rw [Nat.sub_self] at this
  rw [← this]
  exact (Int32.add_zero _).symm
/-! one move -/
theorem xcnt_mv {P P' : Nat → Prop} {n a b : Nat} (ha : a < n) (hb : b < n) (pa : P a) (pb : ¬ P b) (h : ∀ q, q < n → (P' q ↔ (q = b ∨ (P q ∧ q ≠ a)))) : xcnt P' n = xcnt P n := by
  have e1 := xcnt_sp (P := P) (Q := fun q => q = a) n
  have e2 := xcnt_sp (P := P') (Q := fun q => q = b) n
  have e3 : xcnt (fun q => P q ∧ q = a) n = 1 := xcnt_1 (z := a) ⟨pa, rfl⟩ ha (fun k _ hk => hk.2)
  have e4 : xcnt (fun q => P' q ∧ q = b) n = 1 := xcnt_1 (z := b) ⟨(h b hb).mpr (Or.inl rfl), rfl⟩ hb (fun k _ hk => hk.2)
  have e5 : xcnt (fun q => P' q ∧ ¬ q = b) n = xcnt (fun q => P q ∧ ¬ q = a) n := by
    refine xcnt_c (fun q hq => ⟨fun z => ?_, fun z => ⟨(h q hq).mpr (Or.inr z), fun e => pb (e ▸ z.1)⟩⟩)
    rcases (h q hq).mp z.1 with c | c
    · exact absurd c z.2
    · exact c
  omega
