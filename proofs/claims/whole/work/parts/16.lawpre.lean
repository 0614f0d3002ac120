/-! the law: helpers -/
/-- counting a matching -/
theorem xcnt_z {P : Nat → Prop} : ∀ {n : Nat}, (∀ k, k < n → ¬ P k) → xcnt P n = 0
  | 0, _ => rfl
  | n + 1, h => by rw [xcnt_f (h n (by omega))]; exact xcnt_z (fun k hk => h k (by omega))
theorem xcnt_c {P Q : Nat → Prop} : ∀ {n : Nat}, (∀ k, k < n → (P k ↔ Q k)) → xcnt P n = xcnt Q n
  | 0, _ => rfl
  | n + 1, h => by
    have ih := xcnt_c (P := P) (Q := Q) (n := n) (fun k hk => h k (by omega))
    by_cases hp : P n
    · rw [xcnt_t hp, xcnt_t ((h n (by omega)).mp hp), ih]
    · rw [xcnt_f hp, xcnt_f (fun z => hp ((h n (by omega)).mpr z)), ih]
theorem xcnt_1 {P : Nat → Prop} {z : Nat} (hz : P z) : ∀ {n : Nat}, z < n → (∀ k, k < n → P k → k = z) → xcnt P n = 1
  | 0, h, _ => absurd h (Nat.not_lt_zero z)
  | n + 1, h, hu => by
    by_cases e : z = n
    · rw [← e, xcnt_t hz, xcnt_z (fun k hk hp => by have := hu k (by omega) hp; omega)]
    · rw [xcnt_f (fun hp => e (hu n (by omega) hp).symm)]
      exact xcnt_1 hz (by omega) (fun k hk hp => hu k (by omega) hp)
theorem xcnt_sp {P Q : Nat → Prop} : ∀ n : Nat, xcnt P n = xcnt (fun k => P k ∧ Q k) n + xcnt (fun k => P k ∧ ¬ Q k) n
  | 0 => rfl
  | n + 1 => by
    have ih := xcnt_sp (P := P) (Q := Q) n
    by_cases hp : P n
    · by_cases hq : Q n
      · rw [xcnt_t hp, xcnt_t (P := fun k => P k ∧ Q k) ⟨hp, hq⟩, xcnt_f (P := fun k => P k ∧ ¬ Q k) (fun z => z.2 hq), ih]; omega
      · rw [xcnt_t hp, xcnt_f (P := fun k => P k ∧ Q k) (fun z => hq z.2), xcnt_t (P := fun k => P k ∧ ¬ Q k) ⟨hp, hq⟩, ih]; omega
    · rw [xcnt_f hp, xcnt_f (P := fun k => P k ∧ Q k) (fun z => hp z.1), xcnt_f (P := fun k => P k ∧ ¬ Q k) (fun z => hp z.1), ih]
noncomputable def xdc (R : Nat → Nat → Prop) (m : Nat) : Nat → Nat
  | 0 => 0
  | k + 1 => xdc R m k + xcnt (R k) m
theorem xdc_0 (R : Nat → Nat → Prop) : ∀ n, xdc R 0 n = 0
  | 0 => rfl
  | n + 1 => by rw [xdc, xdc_0 R n]; rfl
theorem xdc_s (R : Nat → Nat → Prop) (m : Nat) : ∀ n, xdc R (m + 1) n = xdc R m n + xcnt (fun k => R k m) n
  | 0 => rfl
  | n + 1 => by
    rw [xdc, xdc, xdc_s R m n]
    by_cases h : R n m
    · rw [xcnt_t h, xcnt_t (P := fun k => R k m) h]; omega
    · rw [xcnt_f h, xcnt_f (P := fun k => R k m) h]; omega
theorem xdc_swap (R : Nat → Nat → Prop) (m : Nat) : ∀ n, xdc R m n = xdc (fun a b => R b a) n m
  | 0 => (xdc_0 _ m).symm
  | n + 1 => by rw [xdc, xdc_swap R m n, xdc_s (fun a b => R b a) n m]
theorem xdc_c {R R' : Nat → Nat → Prop} {m : Nat} : ∀ {n : Nat}, (∀ q, q < n → ∀ z, z < m → (R q z ↔ R' q z)) → xdc R m n = xdc R' m n
  | 0, _ => rfl
  | n + 1, h => by rw [xdc, xdc, xdc_c (fun q hq => h q (by omega)), xcnt_c (h n (by omega))]
theorem xdc_x {R : Nat → Nat → Prop} {P : Nat → Prop} {m : Nat} : ∀ {n : Nat}, (∀ q, q < n → xcnt (R q) m = xif (P q) 1 0) → xdc R m n = xcnt P n
  | 0, _ => rfl
  | n + 1, h => by rw [xdc, xdc_x (fun q hq => h q (by omega)), h n (by omega)]; rfl
theorem nI_lt_iff {a b : Nat} (ha : a < 2 ^ 31) (hb : b < 2 ^ 31) : nI a < nI b ↔ a < b := Int32.ofNat_lt_ofNat ha hb
theorem xmatch {no : Nat} {C : Nat → Int32} (hn : no < 2 ^ 31) (h : xM no C) : xcnt (fun q => nI q < C q) no = xcnt (fun q => C q ≠ -1) no / 2 := by
  have sym : ∀ q z, q < no → z < no → (C q = nI z ↔ C z = nI q) := fun q z hq hz => ⟨fun e => (h.inv hn hq (by omega) e).2.2, fun e => (h.inv hn hz (by omega) e).2.2⟩
  have e1 : xcnt (fun q => nI q < C q) no = xdc (fun q z => C q = nI z ∧ q < z) no no := by
    refine (xdc_x (fun q hq => ?_)).symm
    rcases h q hq with e | ⟨z, hz, hne, e, -⟩
    · have hlt : ¬ nI q < C q := by
        rw [e]; intro hh
        have h1 := Int32.lt_iff_toInt_lt.mp hh
        have h2 : (nI q).toInt = (q : Int) := by unfold nI; exact Int32.toInt_ofNat_of_lt (by omega)
        rw [h2, show (-1 : Int32).toInt = -1 from rfl] at h1
        omega
      rw [xif_f hlt]
      exact xcnt_z (fun k hk hh => by
        have h1 : (-1 : Int32) = nI k := e.symm.trans hh.1
        have h2 : (nI k).toInt = (k : Int) := by unfold nI; exact Int32.toInt_ofNat_of_lt (by omega)
        rw [← h1, show (-1 : Int32).toInt = -1 from rfl] at h2
        omega)
    · by_cases hl : q < z
      · rw [xif_t (by rw [e]; exact (nI_lt_iff (by omega) (by omega)).mpr hl)]
        exact xcnt_1 ⟨e, hl⟩ hz (fun k hk hh => nI_inj (by omega) (by omega) (hh.1.symm.trans e))
      · rw [xif_f (by rw [e]; exact fun hh => hl ((nI_lt_iff (by omega) (by omega)).mp hh))]
        exact xcnt_z (fun k hk hh => hl (by have := nI_inj (by omega) (by omega) (hh.1.symm.trans e); omega))
  have e2 : xcnt (fun q => C q ≠ -1 ∧ ¬ nI q < C q) no = xdc (fun q z => C q = nI z ∧ z < q) no no := by
    refine (xdc_x (fun q hq => ?_)).symm
    rcases h q hq with e | ⟨z, hz, hne, e, -⟩
    · rw [xif_f (fun hh => hh.1 e)]
      exact xcnt_z (fun k hk hh => by
        have h1 : (-1 : Int32) = nI k := e.symm.trans hh.1
        have h2 : (nI k).toInt = (k : Int) := by unfold nI; exact Int32.toInt_ofNat_of_lt (by omega)
        rw [← h1, show (-1 : Int32).toInt = -1 from rfl] at h2
        omega)
    · have hm : C q ≠ -1 := by
        intro h1
        have h1 : (-1 : Int32) = nI z := h1.symm.trans e
        have h2 : (nI z).toInt = (z : Int) := by unfold nI; exact Int32.toInt_ofNat_of_lt (by omega)
        rw [← h1, show (-1 : Int32).toInt = -1 from rfl] at h2
        omega
      by_cases hl : z < q
      · rw [xif_t ⟨hm, by rw [e]; exact fun hh => by have := (nI_lt_iff (by omega) (by omega)).mp hh; omega⟩]
        exact xcnt_1 ⟨e, hl⟩ hz (fun k hk hh => nI_inj (by omega) (by omega) (hh.1.symm.trans e))
      · rw [xif_f (fun hh => hh.2 (by rw [e]; exact (nI_lt_iff (by omega) (by omega)).mpr (by omega)))]
        exact xcnt_z (fun k hk hh => hl (by have := nI_inj (by omega) (by omega) (hh.1.symm.trans e); omega))
  have e3 : xdc (fun q z => C q = nI z ∧ q < z) no no = xdc (fun q z => C q = nI z ∧ z < q) no no := by
    rw [xdc_swap]
    exact xdc_c (fun q hq z hz => ⟨fun hh => ⟨(sym z q hz hq).mp hh.1, hh.2⟩, fun hh => ⟨(sym z q hz hq).mpr hh.1, hh.2⟩⟩)
  have e4 := xcnt_sp (P := fun q => C q ≠ -1) (Q := fun q => nI q < C q) no
  have e5 : xcnt (fun q => C q ≠ -1 ∧ nI q < C q) no = xcnt (fun q => nI q < C q) no := by
    refine xcnt_c (fun q hq => ⟨fun hh => hh.2, fun hh => ⟨fun e => ?_, hh⟩⟩)
    rw [e] at hh
    have h1 := Int32.lt_iff_toInt_lt.mp hh
    have h2 : (nI q).toInt = (q : Int) := by unfold nI; exact Int32.toInt_ofNat_of_lt (by omega)
    rw [h2, show (-1 : Int32).toInt = -1 from rfl] at h1
    omega
  omega
/-- what a method that throws nothing does keeps the book good -/
theorem og_panel {Γ : xG} {a b : Int32} (h : xGood Γ) (e : ocAddPanel Γ a b = 0) : xGood (gPanel Γ a (xNa b)) := by
  obtain ⟨h1, e2⟩ := xif_0 e
  obtain ⟨h2, -⟩ := xif_0 (k := 1) e2
  have h3 : 0 ≤ a ∧ a ≤ 9 := Classical.byContradiction fun z => h1 (Or.inl z)
  have h4 : 1 ≤ b ∧ b ≤ 12 := Classical.byContradiction fun z => h1 (Or.inr z)
  have i1 := Int32.le_iff_toInt_le.mp h3.1
  have i2 := Int32.le_iff_toInt_le.mp h3.2
  have i3 := Int32.le_iff_toInt_le.mp h4.1
  have i4 := Int32.le_iff_toInt_le.mp h4.2
  rw [show (0 : Int32).toInt = 0 from rfl] at i1
  rw [show (9 : Int32).toInt = 9 from rfl] at i2
  rw [show (1 : Int32).toInt = 1 from rfl] at i3
  rw [show (12 : Int32).toInt = 12 from rfl] at i4
  have ea : a = nI a.toInt.toNat := by
    apply Int32.toInt_inj.mp
    rw [show (nI a.toInt.toNat).toInt = (a.toInt.toNat : Int) from by unfold nI; exact Int32.toInt_ofNat_of_lt (by omega)]
    omega
  have eb : b = nI b.toInt.toNat := by
    apply Int32.toInt_inj.mp
    rw [show (nI b.toInt.toNat).toInt = (b.toInt.toNat : Int) from by unfold nI; exact Int32.toInt_ofNat_of_lt (by omega)]
    omega
  have e5 : xNa b = b.toInt.toNat := by rw [eb, xNa_n (by omega), ← eb]
  exact good_panel h h2 (by rw [e5]; omega) (by rw [e5]; omega) ea (by omega)
theorem og_trunk {Γ : xG} {a b s t : Int32} (h : xGood Γ) (e : ocTrunk Γ a b s t = 0) : xGood (gTrunk Γ (xNa a) (xNa b) (xNa s) t) := by
  obtain ⟨p, q, k, rfl, rfl, rfl, h1, h2, h3, h4, h5, h6, h7, h8, h9, -⟩ := ocTrunk_0 h e
  have hno := h.no
  rw [xNa_n (by omega), xNa_n (by omega), xNa_n (by omega)]
  have p1 := h.pn p h1
  have p2 := h.pn q h2
  have f1 := h.fle (gNp Γ - (gPn Γ p + 1)) (gPn Γ p + 1) (by omega)
  have f2 := h.fle (gNp Γ - (gPn Γ q + 1)) (gPn Γ q + 1) (by omega)
  rw [show gPn Γ p + 1 + (gNp Γ - (gPn Γ p + 1)) = gNp Γ by omega, h.fn] at f1
  rw [show gPn Γ q + 1 + (gNp Γ - (gPn Γ q + 1)) = gNp Γ by omega, h.fn] at f2
  exact good_trunk h h3 h4 (by omega) (by omega) (xdisj h h1 h2 h5 h6 h7) h8 h9
theorem og_brk {Γ : xG} {a b : Int32} {v : Bool} (h : xGood Γ) (e : ocBrk Γ a b = 0) : xGood (gBrk Γ (gTa Γ (xNa a) + xNa b) (gTb Γ (xNa a) + xNa b) (bz v)) := by
  by_cases hp : xP (gNt Γ) a ∧ xP (gTc Γ (xNa a)) b
  · obtain ⟨⟨p, h1, rfl⟩, ⟨q, h2, rfl⟩⟩ := hp
    have hnt := h.nt
    rw [xNa_n (by omega)] at h2 ⊢
    have := h.tt p h1
    rw [xNa_n (by omega)]
    obtain ⟨i1, i2, i3⟩ := h.ts p h1 q h2
    exact good_brk h i1 i2 i3 (by cases v <;> simp [bz])
  · unfold ocBrk at e; rw [xif_f hp] at e; omega
theorem og_plug {Γ : xG} {a b t : Int32} (h : xGood Γ) (e : ocPlug Γ a b t = 0) : xGood (gPlug Γ (xNa a) (xNa b) t) := by
  obtain ⟨h1, e2⟩ := xif_0 e
  obtain ⟨h2, e3⟩ := xif_0 (k := 1) e2
  obtain ⟨h3, -⟩ := xif_0 (k := 2) e3
  obtain ⟨⟨p, i1, rfl⟩, ⟨q, i2, rfl⟩⟩ := Classical.byContradiction h1
  have hno := h.no
  rw [xNa_n (by omega), xNa_n (by omega)] at h3 ⊢
  refine good_plug h i1 i2 (fun z => h2 (Or.inr (by rw [z]))) (Classical.byContradiction fun z => h3 (Or.inl z)) (Classical.byContradiction fun z => h3 (Or.inr z))
theorem og_pull {Γ : xG} {a : Int32} (h : xGood Γ) (e : ocPull Γ a = 0) : xGood (gPull Γ (xNa a) (xNa (gCb Γ (xNa a)))) := by
  obtain ⟨h1, e2⟩ := xif_0 e
  obtain ⟨h2, -⟩ := xif_0 (k := 1) e2
  obtain ⟨p, i1, rfl⟩ := Classical.byContradiction h1
  have hno := h.no
  rw [xNa_n (by omega)] at h2 ⊢
  rcases h.cb p i1 with e | ⟨z, j1, j2, j3, j4⟩
  · exact absurd e h2
  · rw [j3, xNa_n (by omega)]
    exact good_pull h i1 j1 j3 j4
theorem og_move {Γ : xG} {a b : Int32} (h : xGood Γ) (e : ocMove Γ a b = 0) : xGood (gMove Γ (xNa a) (xNa b)) := by
  obtain ⟨h1, e2⟩ := xif_0 e
  obtain ⟨h2, e3⟩ := xif_0 (k := 1) e2
  obtain ⟨h3, -⟩ := xif_0 (k := 2) e3
  obtain ⟨⟨p, i1, rfl⟩, ⟨q, i2, rfl⟩⟩ := Classical.byContradiction h1
  have hno := h.no
  rw [xNa_n (by omega), xNa_n (by omega)]
  exact good_move h i1 i2 (fun z => h2 (by rw [z])) h3
theorem og_carry {Γ : xG} (h : xGood Γ) (e : ocCarry Γ = 0) : xGood (gCarry Γ) := by
  by_cases hp : gPos Γ
  · exact good_carry h hp
  · unfold ocCarry at e; rw [xif_f hp] at e; omega
theorem oc_le1 {P : Prop} : xif P 1 0 ≤ 3 := by
  by_cases h : P
  · rw [xif_t h]; decide
  · rw [xif_f h]; decide
/-- the book of the class and of the reference, side by side -/
def xLv (E : xE) (s : State) (H : Heap) (locs : List Loc) : Prop := ∃ (Γ : xG) (n : Nat → Int32) (f : Nat → Nat → Int32) (o : Nat → Int64), xGood Γ ∧ xRepC Γ n f ∧ xRepR Γ n f ∧ xSt E (n, f, o) s s.heap H locs
theorem xRepR.fr {Γ : xG} {n N : Nat → Int32} {f F : Nat → Nat → Int32} (h : xRepR Γ n f) (hF : xFrR n f N F) : xRepR Γ N F := by
  unfold xRepR at h ⊢
  simp only [hF.1 _ (show 10 ≤ 11 by decide), hF.1 _ (show 10 ≤ 12 by decide), hF.1 _ (show 10 ≤ 13 by decide), hF.1 _ (show 10 ≤ 14 by decide), hF.2 _ (show 20 ≤ 20 by decide), hF.2 _ (show 20 ≤ 21 by decide), hF.2 _ (show 20 ≤ 22 by decide), hF.2 _ (show 20 ≤ 23 by decide), hF.2 _ (show 20 ≤ 24 by decide), hF.2 _ (show 20 ≤ 25 by decide), hF.2 _ (show 20 ≤ 26 by decide), hF.2 _ (show 20 ≤ 27 by decide), hF.2 _ (show 20 ≤ 28 by decide), hF.2 _ (show 20 ≤ 29 by decide), hF.2 _ (show 20 ≤ 30 by decide), hF.2 _ (show 20 ≤ 31 by decide), hF.2 _ (show 20 ≤ 32 by decide), hF.2 _ (show 20 ≤ 33 by decide), hF.2 _ (show 20 ≤ 34 by decide), hF.2 _ (show 20 ≤ 35 by decide), hF.2 _ (show 20 ≤ 36 by decide)]
  exact h
theorem xRepC.fr {Γ : xG} {n N : Nat → Int32} {f F : Nat → Nat → Int32} (h : xRepC Γ n f) (hF : xFrC n f N F) : xRepC Γ N F := h.eqv (fun q hq => hF.1 q hq) (fun q hq _ _ _ _ _ => hF.2 q hq)
