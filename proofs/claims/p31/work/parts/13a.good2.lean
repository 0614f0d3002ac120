/-! counting, and what keeps the book good -/
theorem xif_0 {P : Prop} {k m : Nat} (h : xif P (k + 1) m = 0) : ¬ P ∧ m = 0 := by
  by_cases hp : P
  · rw [xif_t hp] at h; omega
  · rw [xif_f hp] at h; exact ⟨hp, h⟩
theorem ocTrunk_0 {Γ : xG} {a b s t : Int32} (hG : xGood Γ) (h : ocTrunk Γ a b s t = 0) : ∃ p q k, a = nI p ∧ b = nI q ∧ s = nI k ∧ p < gNo Γ ∧ q < gNo Γ ∧ 1 ≤ k ∧ k ≤ 12 ∧ gPn Γ p ≠ gPn Γ q ∧ p + k ≤ gFs Γ (gPn Γ p + 1) ∧ q + k ≤ gFs Γ (gPn Γ q + 1) ∧ gNt Γ ≠ 10 ∧ (∀ j, j < k → gSt Γ (p + j) = -1 ∧ gSt Γ (q + j) = -1) ∧ (1 ≤ t ∧ t ≤ 500) := by
  · have hno := hG.no
    unfold ocTrunk at h
    obtain ⟨h1, h⟩ := xif_0 h
    obtain ⟨h2, h⟩ := xif_0 h
    obtain ⟨h3, -⟩ := xif_0 h
    obtain ⟨⟨p, hp, rfl⟩, q, hq, rfl⟩ := Classical.not_not.mp h1
    obtain ⟨h21, h22⟩ := not_or.mp h2
    obtain ⟨k, k1, k2, rfl⟩ := xin112 (Classical.not_not.mp h21)
    rw [xNa_n (by omega), xNa_n (by omega), xNa_n (by omega)] at h22 h3
    obtain ⟨h23, h24⟩ := not_or.mp h22
    obtain ⟨h31, h32⟩ := not_or.mp h3
    refine ⟨p, q, k, rfl, rfl, rfl, hp, hq, k1, k2, by omega, by omega, by omega, h31, fun j hj => ⟨?_, ?_⟩, Classical.not_not.mp h23⟩
    · exact Classical.not_not.mp (fun e => h32 ⟨j, hj, Or.inl e⟩)
    · exact Classical.not_not.mp (fun e => h32 ⟨j, hj, Or.inr e⟩)
/-- counting a matching -/
theorem xcnt_z {P : Nat → Prop} : ∀ {n : Nat}, (∀ k, k < n → ¬ P k) → xcnt P n = 0
  | 0, _ => rfl
  | n + 1, h => by rw [xcnt_f (h n (by omega))]; exact xcnt_z (fun k hk => h k (by omega))
theorem xcnt_c {P Q : Nat → Prop} : ∀ {n : Nat}, (∀ k, k < n → (P k ↔ Q k)) → xcnt P n = xcnt Q n
  | 0, _ => rfl
  | n + 1, h => by
    have ih := xcnt_c (P := P) (Q := Q) (n := n) (fun k hk => h k (by omega))
    by_cases hp : P n
    · rw [xcnt_t hp, xcnt_t ((h n (by omega)).mp hp), ih]
    · rw [xcnt_f hp, xcnt_f (fun z => hp ((h n (by omega)).mpr z)), ih]
theorem xcnt_1 {P : Nat → Prop} {z : Nat} (hz : P z) : ∀ {n : Nat}, z < n → (∀ k, k < n → P k → k = z) → xcnt P n = 1
  | 0, h, _ => absurd h (Nat.not_lt_zero z)
  | n + 1, h, hu => by
    by_cases e : z = n
    · rw [← e, xcnt_t hz, xcnt_z (fun k hk hp => by have := hu k (by omega) hp; omega)]
    · rw [xcnt_f (fun hp => e (hu n (by omega) hp).symm)]
      exact xcnt_1 hz (by omega) (fun k hk hp => hu k (by omega) hp)
theorem xcnt_sp {P Q : Nat → Prop} : ∀ n : Nat, xcnt P n = xcnt (fun k => P k ∧ Q k) n + xcnt (fun k => P k ∧ ¬ Q k) n
  | 0 => rfl
  | n + 1 => by
    have ih := xcnt_sp (P := P) (Q := Q) n
    by_cases hp : P n
    · by_cases hq : Q n
      · rw [xcnt_t hp, xcnt_t (P := fun k => P k ∧ Q k) ⟨hp, hq⟩, xcnt_f (P := fun k => P k ∧ ¬ Q k) (fun z => z.2 hq), ih]; omega
      · rw [xcnt_t hp, xcnt_f (P := fun k => P k ∧ Q k) (fun z => hq z.2), xcnt_t (P := fun k => P k ∧ ¬ Q k) ⟨hp, hq⟩, ih]; omega
    · rw [xcnt_f hp, xcnt_f (P := fun k => P k ∧ Q k) (fun z => hp z.1), xcnt_f (P := fun k => P k ∧ ¬ Q k) (fun z => hp z.1), ih]
noncomputable def xdc (R : Nat → Nat → Prop) (m : Nat) : Nat → Nat
  | 0 => 0
  | k + 1 => xdc R m k + xcnt (R k) m
theorem xdc_0 (R : Nat → Nat → Prop) : ∀ n, xdc R 0 n = 0
  | 0 => rfl
  | n + 1 => by rw [xdc, xdc_0 R n]; rfl
theorem xdc_s (R : Nat → Nat → Prop) (m : Nat) : ∀ n, xdc R (m + 1) n = xdc R m n + xcnt (fun k => R k m) n
  | 0 => rfl
  | n + 1 => by
    rw [xdc, xdc, xdc_s R m n]
    by_cases h : R n m
    · rw [xcnt_t h, xcnt_t (P := fun k => R k m) h]; omega
    · rw [xcnt_f h, xcnt_f (P := fun k => R k m) h]; omega
theorem xdc_swap (R : Nat → Nat → Prop) (m : Nat) : ∀ n, xdc R m n = xdc (fun a b => R b a) n m
  | 0 => (xdc_0 _ m).symm
  | n + 1 => by rw [xdc, xdc_swap R m n, xdc_s (fun a b => R b a) n m]
theorem xdc_c {R R' : Nat → Nat → Prop} {m : Nat} : ∀ {n : Nat}, (∀ q, q < n → ∀ z, z < m → (R q z ↔ R' q z)) → xdc R m n = xdc R' m n
  | 0, _ => rfl
  | n + 1, h => by rw [xdc, xdc, xdc_c (fun q hq => h q (by omega)), xcnt_c (h n (by omega))]
theorem xdc_x {R : Nat → Nat → Prop} {P : Nat → Prop} {m : Nat} : ∀ {n : Nat}, (∀ q, q < n → xcnt (R q) m = xif (P q) 1 0) → xdc R m n = xcnt P n
  | 0, _ => rfl
  | n + 1, h => by rw [xdc, xdc_x (fun q hq => h q (by omega)), h n (by omega)]; rfl
theorem nI_lt_iff {a b : Nat} (ha : a < 2 ^ 31) (hb : b < 2 ^ 31) : nI a < nI b ↔ a < b := Int32.ofNat_lt_ofNat ha hb
theorem xmatch {no : Nat} {C : Nat → Int32} (hn : no < 2 ^ 31) (h : xM no C) : xcnt (fun q => nI q < C q) no = xcnt (fun q => C q ≠ -1) no / 2 := by
  have sym : ∀ q z, q < no → z < no → (C q = nI z ↔ C z = nI q) := fun q z hq hz => ⟨fun e => (h.inv hn hq (by omega) e).2.2, fun e => (h.inv hn hz (by omega) e).2.2⟩
  have e1 : xcnt (fun q => nI q < C q) no = xdc (fun q z => C q = nI z ∧ q < z) no no := by
    refine (xdc_x (fun q hq => ?_)).symm
    rcases h q hq with e | ⟨z, hz, hne, e, -⟩
    · have hlt : ¬ nI q < C q := by
        rw [e]; intro hh
        have h1 := Int32.lt_iff_toInt_lt.mp hh
        have h2 : (nI q).toInt = (q : Int) := by unfold nI; exact Int32.toInt_ofNat_of_lt (by omega)
        rw [h2, show (-1 : Int32).toInt = -1 from rfl] at h1
        omega
      rw [xif_f hlt]
      exact xcnt_z (fun k hk hh => by
        have h1 : (-1 : Int32) = nI k := e.symm.trans hh.1
        have h2 : (nI k).toInt = (k : Int) := by unfold nI; exact Int32.toInt_ofNat_of_lt (by omega)
        rw [← h1, show (-1 : Int32).toInt = -1 from rfl] at h2
        omega)
    · by_cases hl : q < z
      · rw [xif_t (by rw [e]; exact (nI_lt_iff (by omega) (by omega)).mpr hl)]
        exact xcnt_1 ⟨e, hl⟩ hz (fun k hk hh => nI_inj (by omega) (by omega) (hh.1.symm.trans e))
      · rw [xif_f (by rw [e]; exact fun hh => hl ((nI_lt_iff (by omega) (by omega)).mp hh))]
        exact xcnt_z (fun k hk hh => hl (by have := nI_inj (by omega) (by omega) (hh.1.symm.trans e); omega))
  have e2 : xcnt (fun q => C q ≠ -1 ∧ ¬ nI q < C q) no = xdc (fun q z => C q = nI z ∧ z < q) no no := by
    refine (xdc_x (fun q hq => ?_)).symm
    rcases h q hq with e | ⟨z, hz, hne, e, -⟩
    · rw [xif_f (fun hh => hh.1 e)]
      exact xcnt_z (fun k hk hh => by
        have h1 : (-1 : Int32) = nI k := e.symm.trans hh.1
        have h2 : (nI k).toInt = (k : Int) := by unfold nI; exact Int32.toInt_ofNat_of_lt (by omega)
        rw [← h1, show (-1 : Int32).toInt = -1 from rfl] at h2
        omega)
    · have hm : C q ≠ -1 := by
        intro h1
        have h1 : (-1 : Int32) = nI z := h1.symm.trans e
        have h2 : (nI z).toInt = (z : Int) := by unfold nI; exact Int32.toInt_ofNat_of_lt (by omega)
        rw [← h1, show (-1 : Int32).toInt = -1 from rfl] at h2
        omega
      by_cases hl : z < q
      · rw [xif_t ⟨hm, by rw [e]; exact fun hh => by have := (nI_lt_iff (by omega) (by omega)).mp hh; omega⟩]
        exact xcnt_1 ⟨e, hl⟩ hz (fun k hk hh => nI_inj (by omega) (by omega) (hh.1.symm.trans e))
      · rw [xif_f (fun hh => hh.2 (by rw [e]; exact (nI_lt_iff (by omega) (by omega)).mpr (by omega)))]
        exact xcnt_z (fun k hk hh => hl (by have := nI_inj (by omega) (by omega) (hh.1.symm.trans e); omega))
  have e3 : xdc (fun q z => C q = nI z ∧ q < z) no no = xdc (fun q z => C q = nI z ∧ z < q) no no := by
    rw [xdc_swap]
    exact xdc_c (fun q hq z hz => ⟨fun hh => ⟨(sym z q hz hq).mp hh.1, hh.2⟩, fun hh => ⟨(sym z q hz hq).mpr hh.1, hh.2⟩⟩)
  have e4 := xcnt_sp (P := fun q => C q ≠ -1) (Q := fun q => nI q < C q) no
  have e5 : xcnt (fun q => C q ≠ -1 ∧ nI q < C q) no = xcnt (fun q => nI q < C q) no := by
    refine xcnt_c (fun q hq => ⟨fun hh => hh.2, fun hh => ⟨fun e => ?_, hh⟩⟩)
    rw [e] at hh
    have h1 := Int32.lt_iff_toInt_lt.mp hh
    have h2 : (nI q).toInt = (q : Int) := by unfold nI; exact Int32.toInt_ofNat_of_lt (by omega)
    rw [h2, show (-1 : Int32).toInt = -1 from rfl] at h1
    omega
  omega
/-- what a method that throws nothing does keeps the book good -/
theorem og_panel {Γ : xG} {a b : Int32} (h : xGood Γ) (e : ocAddPanel Γ a b = 0) : xGood (gPanel Γ a (xNa b)) := by
  obtain ⟨h1, e2⟩ := xif_0 e
  obtain ⟨h2, -⟩ := xif_0 (k := 1) e2
  have h3 : 0 ≤ a ∧ a ≤ 9 := Classical.byContradiction fun z => h1 (Or.inl z)
  have h4 : 1 ≤ b ∧ b ≤ 12 := Classical.byContradiction fun z => h1 (Or.inr z)
  have i1 := Int32.le_iff_toInt_le.mp h3.1
  have i2 := Int32.le_iff_toInt_le.mp h3.2
  have i3 := Int32.le_iff_toInt_le.mp h4.1
  have i4 := Int32.le_iff_toInt_le.mp h4.2
  rw [show (0 : Int32).toInt = 0 from rfl] at i1
  rw [show (9 : Int32).toInt = 9 from rfl] at i2
  rw [show (1 : Int32).toInt = 1 from rfl] at i3
  rw [show (12 : Int32).toInt = 12 from rfl] at i4
  have ea : a = nI a.toInt.toNat := by
    apply Int32.toInt_inj.mp
    rw [show (nI a.toInt.toNat).toInt = (a.toInt.toNat : Int) from by unfold nI; exact Int32.toInt_ofNat_of_lt (by omega)]
    omega
  have eb : b = nI b.toInt.toNat := by
    apply Int32.toInt_inj.mp
    rw [show (nI b.toInt.toNat).toInt = (b.toInt.toNat : Int) from by unfold nI; exact Int32.toInt_ofNat_of_lt (by omega)]
    omega
  have e5 : xNa b = b.toInt.toNat := by rw [eb, xNa_n (by omega), ← eb]
  exact good_panel h h2 (by rw [e5]; omega) (by rw [e5]; omega) ea (by omega)
theorem og_trunk {Γ : xG} {a b s t : Int32} (h : xGood Γ) (e : ocTrunk Γ a b s t = 0) : xGood (gTrunk Γ (xNa a) (xNa b) (xNa s) t) := by
  obtain ⟨p, q, k, rfl, rfl, rfl, h1, h2, h3, h4, h5, h6, h7, h8, h9, -⟩ := ocTrunk_0 h e
  have hno := h.no
  rw [xNa_n (by omega), xNa_n (by omega), xNa_n (by omega)]
  have p1 := h.pn p h1
  have p2 := h.pn q h2
  have f1 := h.fle (gNp Γ - (gPn Γ p + 1)) (gPn Γ p + 1) (by omega)
  have f2 := h.fle (gNp Γ - (gPn Γ q + 1)) (gPn Γ q + 1) (by omega)
  rw [show gPn Γ p + 1 + (gNp Γ - (gPn Γ p + 1)) = gNp Γ by omega, h.fn] at f1
  rw [show gPn Γ q + 1 + (gNp Γ - (gPn Γ q + 1)) = gNp Γ by omega, h.fn] at f2
  exact good_trunk h h3 h4 (by omega) (by omega) (xdisj h h1 h2 h5 h6 h7) h8 h9
theorem og_brk {Γ : xG} {a b : Int32} {v : Bool} (h : xGood Γ) (e : ocBrk Γ a b = 0) : xGood (gBrk Γ (gTa Γ (xNa a) + xNa b) (gTb Γ (xNa a) + xNa b) (bz v)) := by
  by_cases hp : xP (gNt Γ) a ∧ xP (gTc Γ (xNa a)) b
  · obtain ⟨⟨p, h1, rfl⟩, ⟨q, h2, rfl⟩⟩ := hp
    have hnt := h.nt
    rw [xNa_n (by omega)] at h2 ⊢
    have := h.tt p h1
    rw [xNa_n (by omega)]
    obtain ⟨i1, i2, i3⟩ := h.ts p h1 q h2
    exact good_brk h i1 i2 i3 (by cases v <;> simp [bz])
  · unfold ocBrk at e; rw [xif_f hp] at e; omega
theorem og_plug {Γ : xG} {a b t : Int32} (h : xGood Γ) (e : ocPlug Γ a b t = 0) : xGood (gPlug Γ (xNa a) (xNa b) t) := by
  obtain ⟨h1, e2⟩ := xif_0 e
  obtain ⟨h2, e3⟩ := xif_0 (k := 1) e2
  obtain ⟨h3, -⟩ := xif_0 (k := 2) e3
  obtain ⟨⟨p, i1, rfl⟩, ⟨q, i2, rfl⟩⟩ := Classical.byContradiction h1
  have hno := h.no
  rw [xNa_n (by omega), xNa_n (by omega)] at h3 ⊢
  refine good_plug h i1 i2 (fun z => h2 (Or.inr (by rw [z]))) (Classical.byContradiction fun z => h3 (Or.inl z)) (Classical.byContradiction fun z => h3 (Or.inr z))
theorem og_pull {Γ : xG} {a : Int32} (h : xGood Γ) (e : ocPull Γ a = 0) : xGood (gPull Γ (xNa a) (xNa (gCb Γ (xNa a)))) := by
  obtain ⟨h1, e2⟩ := xif_0 e
  obtain ⟨h2, -⟩ := xif_0 (k := 1) e2
  obtain ⟨p, i1, rfl⟩ := Classical.byContradiction h1
  have hno := h.no
  rw [xNa_n (by omega)] at h2 ⊢
  rcases h.cb p i1 with e | ⟨z, j1, j2, j3, j4⟩
  · exact absurd e h2
  · rw [j3, xNa_n (by omega)]
    exact good_pull h i1 j1 j3 j4
theorem og_move {Γ : xG} {a b : Int32} (h : xGood Γ) (e : ocMove Γ a b = 0) : xGood (gMove Γ (xNa a) (xNa b)) := by
  obtain ⟨h1, e2⟩ := xif_0 e
  obtain ⟨h2, e3⟩ := xif_0 (k := 1) e2
  obtain ⟨h3, -⟩ := xif_0 (k := 2) e3
  obtain ⟨⟨p, i1, rfl⟩, ⟨q, i2, rfl⟩⟩ := Classical.byContradiction h1
  have hno := h.no
  rw [xNa_n (by omega), xNa_n (by omega)]
  exact good_move h i1 i2 (fun z => h2 (by rw [z])) h3
theorem og_carry {Γ : xG} (h : xGood Γ) (e : ocCarry Γ = 0) : xGood (gCarry Γ) := by
  by_cases hp : gPos Γ
  · exact good_carry h hp
  · unfold ocCarry at e; rw [xif_f hp] at e; omega
/-! with colours, lengths of trunks and panels of strands -/
theorem xinb {v hi : Int32} {k : Nat} (hk : k < 2 ^ 31) (h1 : 1 ≤ v) (h2 : v ≤ hi) (e : hi.toInt = (k : Int)) : ∃ j, 1 ≤ j ∧ j ≤ k ∧ v = nI j := by
  have i1 := Int32.le_iff_toInt_le.mp h1
  have i2 := Int32.le_iff_toInt_le.mp h2
  rw [show (1 : Int32).toInt = 1 from rfl] at i1
  rw [e] at i2
  refine ⟨v.toInt.toNat, by omega, by omega, ?_⟩
  apply Int32.toInt_inj.mp
  rw [show (nI v.toInt.toNat).toInt = (v.toInt.toNat : Int) from by unfold nI; exact Int32.toInt_ofNat_of_lt (by omega)]
  omega
def xGd (Γ : xG) : Prop := xGood Γ ∧ (∀ q, q < gNo Γ → gCb Γ q ≠ -1 → ∃ k, 1 ≤ k ∧ k ≤ 9 ∧ gCl Γ q = nI k) ∧ (∀ q r, q < gNo Γ → r < gNo Γ → gSt Γ q = nI r → gPn Γ q ≠ gPn Γ r) ∧ (∀ t, t < gNt Γ → ∃ k, 1 ≤ k ∧ k ≤ 500 ∧ gTl Γ t = nI k) ∧ (∀ q r, q < gNo Γ → r < gNo Γ → gSt Γ q = nI r → gTk Γ q = gTk Γ r)
theorem xGd.g {Γ : xG} (h : xGd Γ) : xGood Γ := h.1
theorem xGd.co {Γ : xG} (h : xGd Γ) : ∀ q, q < gNo Γ → gCb Γ q ≠ -1 → ∃ k, 1 ≤ k ∧ k ≤ 9 ∧ gCl Γ q = nI k := h.2.1
theorem xGd.sp {Γ : xG} (h : xGd Γ) : ∀ q r, q < gNo Γ → r < gNo Γ → gSt Γ q = nI r → gPn Γ q ≠ gPn Γ r := h.2.2.1
theorem xGd.tl {Γ : xG} (h : xGd Γ) : ∀ t, t < gNt Γ → ∃ k, 1 ≤ k ∧ k ≤ 500 ∧ gTl Γ t = nI k := h.2.2.2.1
theorem xGd.tk {Γ : xG} (h : xGd Γ) : ∀ q r, q < gNo Γ → r < gNo Γ → gSt Γ q = nI r → gTk Γ q = gTk Γ r := h.2.2.2.2
theorem gd_panel {Γ : xG} {a b : Int32} (h : xGd Γ) (e : ocAddPanel Γ a b = 0) : xGd (gPanel Γ a (xNa b)) := by
  have hg := og_panel h.1 e
  have hn2 : gNo Γ + xNa b ≤ 144 := hg.no
  have key : ∀ q r, r < gNo Γ + xNa b → gSt Γ q = nI r → q < gNo Γ ∧ r < gNo Γ := by
    intro q r hr er
    have hqn : q < gNo Γ := Nat.lt_of_not_le (fun z => nI_m1 (q := r) (by omega) (er.symm.trans (h.1.out q z).2))
    exact ⟨hqn, (h.1.st.inv (by omega) hqn (by omega) er).1⟩
  refine ⟨hg, ?_, ?_, h.tl, ?_⟩
  · intro q hq hc
    exact h.co q (Nat.lt_of_not_le (fun z => hc (h.1.out q z).1)) hc
  · intro q r hq hr er
    obtain ⟨k1, k2⟩ := key q r hr er
    show (if gNo Γ ≤ q then gNp Γ else gPn Γ q) ≠ (if gNo Γ ≤ r then gNp Γ else gPn Γ r)
    rw [if_neg (by omega), if_neg (by omega)]
    exact h.sp q r k1 k2 er
  · intro q r hq hr er
    obtain ⟨k1, k2⟩ := key q r hr er
    exact h.tk q r k1 k2 er
theorem gd_trunk {Γ : xG} {a b s t : Int32} (h : xGd Γ) (e : ocTrunk Γ a b s t = 0) : xGd (gTrunk Γ (xNa a) (xNa b) (xNa s) t) := by
  have hg := og_trunk h.1 e
  obtain ⟨p, q, k, rfl, rfl, rfl, h1, h2, h3, h4, h5, h6, h7, h8, h9, h10⟩ := ocTrunk_0 h.1 e
  have hno := h.1.no
  rw [xNa_n (by omega), xNa_n (by omega), xNa_n (by omega)] at hg ⊢
  have p1 := h.1.pn p h1
  have p2 := h.1.pn q h2
  have pa : ∀ z, p ≤ z → z < p + k → gPn Γ z = gPn Γ p := fun z z1 z2 => h.1.pu p1.1 (by omega) (by omega)
  have pb : ∀ z, q ≤ z → z < q + k → gPn Γ z = gPn Γ q := fun z z1 z2 => h.1.pu p2.1 (by omega) (by omega)
  have fa : ∀ z, p ≤ z → z < p + k → gSt Γ z = -1 := fun z z1 z2 => by have := (h9 (z - p) (by omega)).1; rw [show p + (z - p) = z by omega] at this; exact this
  have fb : ∀ z, q ≤ z → z < q + k → gSt Γ z = -1 := fun z z1 z2 => by have := (h9 (z - q) (by omega)).2; rw [show q + (z - q) = z by omega] at this; exact this
  have key : ∀ x y, x < gNo Γ → y < gNo Γ → xjs (gSt Γ) p q k x = nI y → (p ≤ x ∧ x < p + k ∧ y = q + (x - p)) ∨ (q ≤ x ∧ x < q + k ∧ y = p + (x - q)) ∨ (¬ (p ≤ x ∧ x < p + k) ∧ ¬ (q ≤ x ∧ x < q + k) ∧ ¬ (p ≤ y ∧ y < p + k) ∧ ¬ (q ≤ y ∧ y < q + k) ∧ gSt Γ x = nI y) := by
    intro x y hx hy exy
    unfold xjs at exy
    by_cases c1 : p ≤ x ∧ x < p + k
    · rw [if_pos c1] at exy
      exact Or.inl ⟨c1.1, c1.2, (nI_inj (by omega) (by omega) exy).symm⟩
    · rw [if_neg c1] at exy
      by_cases c2 : q ≤ x ∧ x < q + k
      · rw [if_pos c2] at exy
        exact Or.inr (Or.inl ⟨c2.1, c2.2, (nI_inj (by omega) (by omega) exy).symm⟩)
      · rw [if_neg c2] at exy
        have e4 := (h.1.st.inv (by omega) hx (by omega) exy).2.2
        exact Or.inr (Or.inr ⟨c1, c2, fun c => nI_m1 (q := x) (by omega) (e4.symm.trans (fa y c.1 c.2)), fun c => nI_m1 (q := x) (by omega) (e4.symm.trans (fb y c.1 c.2)), exy⟩)
  refine ⟨hg, h.co, ?_, ?_, ?_⟩
  · intro x y hx hy exy
    have hx : x < gNo Γ := hx
    have hy : y < gNo Γ := hy
    show gPn Γ x ≠ gPn Γ y
    rcases key x y hx hy exy with ⟨a1, a2, rfl⟩ | ⟨a1, a2, rfl⟩ | ⟨-, -, -, -, c⟩
    · rw [pa x a1 a2, pb (q + (x - p)) (by omega) (by omega)]; exact h5
    · rw [pb x a1 a2, pa (p + (x - q)) (by omega) (by omega)]; exact fun z => h5 z.symm
    · exact h.sp x y hx hy c
  · intro z hz
    show ∃ k, 1 ≤ k ∧ k ≤ 500 ∧ upd (gTl Γ) (gNt Γ) t z = nI k
    have hz : z < gNt Γ + 1 := hz
    by_cases ez : z = gNt Γ
    · rw [ez, upd_s]; exact xinb (k := 500) (by decide) h10.1 h10.2 rfl
    · rw [upd_n ez]; exact h.tl z (by omega)
  · intro x y hx hy exy
    have hx : x < gNo Γ := hx
    have hy : y < gNo Γ := hy
    show xjt (gTk Γ) p q k (nI (gNt Γ)) x = xjt (gTk Γ) p q k (nI (gNt Γ)) y
    unfold xjt
    rcases key x y hx hy exy with ⟨a1, a2, rfl⟩ | ⟨a1, a2, rfl⟩ | ⟨c1, c2, c3, c4, c⟩
    · rw [if_pos (Or.inl ⟨a1, a2⟩), if_pos (Or.inr (by omega))]
    · rw [if_pos (Or.inr ⟨a1, a2⟩), if_pos (Or.inl (by omega))]
    · rw [if_neg (fun z => z.elim c1 c2), if_neg (fun z => z.elim c3 c4)]
      exact h.tk x y hx hy c
theorem gd_brk {Γ : xG} {a b : Int32} {v : Bool} (h : xGd Γ) (e : ocBrk Γ a b = 0) : xGd (gBrk Γ (gTa Γ (xNa a) + xNa b) (gTb Γ (xNa a) + xNa b) (bz v)) := ⟨og_brk h.1 e, h.co, h.sp, h.tl, h.tk⟩
theorem gd_plug {Γ : xG} {a b t : Int32} (h : xGd Γ) (e : ocPlug Γ a b t = 0) : xGd (gPlug Γ (xNa a) (xNa b) t) := by
  refine ⟨og_plug h.1 e, ?_, h.sp, h.tl, h.tk⟩
  obtain ⟨h1, e2⟩ := xif_0 e
  obtain ⟨h2, -⟩ := xif_0 (k := 1) e2
  have ht : ∃ k, 1 ≤ k ∧ k ≤ 9 ∧ t = nI k := by
    have h3 : 1 ≤ t ∧ t ≤ 9 := Classical.byContradiction fun z => h2 (Or.inl z)
    exact xinb (k := 9) (by decide) h3.1 h3.2 rfl
  intro q hq hc
  have hc : upd (upd (gCb Γ) (xNa a) (nI (xNa b))) (xNa b) (nI (xNa a)) q ≠ -1 := hc
  show ∃ k, 1 ≤ k ∧ k ≤ 9 ∧ upd (upd (gCl Γ) (xNa a) t) (xNa b) t q = nI k
  by_cases e1 : q = xNa b
  · rw [e1, upd_s]; exact ht
  · rw [upd_n e1] at hc ⊢
    by_cases e2 : q = xNa a
    · rw [e2, upd_s]; exact ht
    · rw [upd_n e2] at hc ⊢
      exact h.co q hq hc
theorem gd_pull {Γ : xG} {a : Int32} (h : xGd Γ) (e : ocPull Γ a = 0) : xGd (gPull Γ (xNa a) (xNa (gCb Γ (xNa a)))) := by
  refine ⟨og_pull h.1 e, ?_, h.sp, h.tl, h.tk⟩
  intro q hq hc
  have hc : upd (upd (gCb Γ) (xNa a) (-1)) (xNa (gCb Γ (xNa a))) (-1) q ≠ -1 := hc
  show ∃ k, 1 ≤ k ∧ k ≤ 9 ∧ upd (upd (gCl Γ) (xNa a) 0) (xNa (gCb Γ (xNa a))) 0 q = nI k
  by_cases e1 : q = xNa (gCb Γ (xNa a))
  · rw [e1, upd_s] at hc; exact absurd rfl hc
  · rw [upd_n e1] at hc ⊢
    by_cases e2 : q = xNa a
    · rw [e2, upd_s] at hc; exact absurd rfl hc
    · rw [upd_n e2] at hc ⊢; exact h.co q hq hc
theorem gd_move {Γ : xG} {a b : Int32} (h : xGd Γ) (e : ocMove Γ a b = 0) : xGd (gMove Γ (xNa a) (xNa b)) := ⟨og_move h.1 e, h.co, h.sp, h.tl, h.tk⟩
theorem gd_drop {Γ : xG} (h : xGd Γ) : xGd (gDrop Γ) := ⟨good_drop h.1, h.co, h.sp, h.tl, h.tk⟩
theorem ocCarry_0 {Γ : xG} (e : ocCarry Γ = 0) : gPos Γ := Classical.byContradiction fun z => by unfold ocCarry at e; rw [xif_f z] at e; omega
theorem gd_carry {Γ : xG} (h : xGd Γ) (e : ocCarry Γ = 0) : xGd (gCarry Γ) := by
  have hp := ocCarry_0 e
  refine ⟨good_carry h.1 hp, ?_, h.sp, h.tl, h.tk⟩
  intro w hw hc
  obtain ⟨q, hq, hcq, rfl⟩ := gNC_src h.1 hp (w := w) hc
  show ∃ k, 1 ≤ k ∧ k ≤ 9 ∧ gNK Γ (gMv Γ q) = nI k
  rw [(gNC_at hp hcq).2]
  exact h.co q hq hcq
/-! what the law's calls answer and do -/
noncomputable def fOp (c : Nat) (r : Int32) (Γ Γ' : xG) : Int32 × xG := xif (c = 0) (r, Γ') (-99999, Γ)
theorem fOp_0 {c : Nat} {r : Int32} {Γ Γ' : xG} (h : c = 0) : fOp c r Γ Γ' = (r, Γ') := xif_t h
theorem fOp_n {c : Nat} {r : Int32} {Γ Γ' : xG} (h : c ≠ 0) : fOp c r Γ Γ' = (-99999, Γ) := xif_f h
noncomputable def fPanel (Γ : xG) (a b : Int32) : Int32 × xG := fOp (ocAddPanel Γ a b) (nI (gNo Γ)) Γ (gPanel Γ a (xNa b))
noncomputable def fTrunk (Γ : xG) (a b s t : Int32) : Int32 × xG := fOp (ocTrunk Γ a b s t) (nI (gNt Γ)) Γ (gTrunk Γ (xNa a) (xNa b) (xNa s) t)
noncomputable def fBrk (Γ : xG) (a b : Int32) (v : Bool) : Int32 × xG := fOp (ocBrk Γ a b) (gBk Γ (gTa Γ (xNa a) + xNa b)) Γ (gBrk Γ (gTa Γ (xNa a) + xNa b) (gTb Γ (xNa a) + xNa b) (bz v))
noncomputable def fPlug (Γ : xG) (a b t : Int32) : Int32 × xG := fOp (ocPlug Γ a b t) (xlen (gRk Γ) (gPn Γ (xNa a)) (gPn Γ (xNa b))) Γ (gPlug Γ (xNa a) (xNa b) t)
noncomputable def fPull (Γ : xG) (a : Int32) : Int32 × xG := fOp (ocPull Γ a) (gCb Γ (xNa a)) Γ (gPull Γ (xNa a) (xNa (gCb Γ (xNa a))))
noncomputable def fMove (Γ : xG) (a b : Int32) : Int32 × xG := fOp (ocMove Γ a b) (nI (gNm Γ + 1)) Γ (gMove Γ (xNa a) (xNa b))
noncomputable def fCarry (Γ : xG) : Int32 × xG := fOp (ocCarry Γ) (nI (gNm Γ)) Γ (gCarry Γ)
/-- the answer tells a throw apart, and the book stays good -/
def fOk (Γ : xG) (x : Int32 × xG) : Prop := xGd x.2 ∧ (x.1 = -99999 → x.2 = Γ)
theorem fOp_ok {c : Nat} {r : Int32} {Γ Γ' : xG} (h : xGd Γ) (h' : c = 0 → xGd Γ') (hr : c = 0 → r ≠ -99999) : fOk Γ (fOp c r Γ Γ') := by
  by_cases e : c = 0
  · rw [fOp_0 e]; exact ⟨h' e, fun z => absurd z (hr e)⟩
  · rw [fOp_n e]; exact ⟨h, fun _ => rfl⟩
theorem nI_n9 {q : Nat} (h : q < 2 ^ 31) : nI q ≠ -99999 := fun e => absurd (show nI q < 0 by rw [e]; decide) (nI_pos h)
