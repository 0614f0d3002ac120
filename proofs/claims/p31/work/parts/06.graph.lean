/-! matchings, traces and lines: no machine here -/
theorem nI_m1 {q : Nat} (h : q < 2 ^ 31) : ¬ nI q = -1 := fun e => absurd (show nI q < 0 by rw [e]; decide) (nI_pos h)
theorem nI_inj {a b : Nat} (ha : a < 2 ^ 31) (hb : b < 2 ^ 31) (h : nI a = nI b) : a = b := (nI_eq ha hb).mp h
/-- every port has no mate, or one other, that has it for its own -/
def xM (no : Nat) (g : Nat → Int32) : Prop := ∀ p, p < no → g p = -1 ∨ ∃ q, q < no ∧ q ≠ p ∧ g p = nI q ∧ g q = nI p
theorem xM.inv {no : Nat} {g : Nat → Int32} (hn : no < 2 ^ 31) (h : xM no g) {p q : Nat} (hp : p < no) (hq : q < 2 ^ 31) (e : g p = nI q) : q < no ∧ q ≠ p ∧ g q = nI p := by
  rcases h p hp with h1 | ⟨r, h1, h2, h3, h4⟩
  · exact absurd (e.symm.trans h1) (nI_m1 hq)
  · have : r = q := nI_inj (by omega) hq (h3.symm.trans e)
    subst this
    exact ⟨h1, h2, h4⟩
theorem xM_op {no : Nat} {g b : Nat → Int32} (hM : xM no g) (hb : ∀ p q, p < no → q < no → g p = nI q → b p = b q) : xM no (xop g b) := by
  intro p hp
  unfold xop
  by_cases h : b p = 0
  · rw [if_pos h]
    rcases hM p hp with h1 | ⟨q, h1, h2, h3, h4⟩
    · exact Or.inl h1
    · refine Or.inr ⟨q, h1, h2, h3, ?_⟩
      rw [if_pos (by rw [← hb p q hp h1 h3]; exact h)]
      exact h4
  · left; rw [if_neg h]
def xnx (C S : Nat → Int32) (c : Bool) : Nat → Int32 := match c with
  | true => C
  | false => S
theorem xM_nx {no : Nat} {C S : Nat → Int32} (hC : xM no C) (hS : xM no S) (c : Bool) : xM no (xnx C S c) := by
  cases c
  · exact hS
  · exact hC
def xdir (c : Bool) (k : Nat) : Bool := if k % 2 = 0 then c else !c
theorem xdir_s (c : Bool) (k : Nat) : xdir c (k + 1) = !xdir c k := by
  unfold xdir
  by_cases h : k % 2 = 0
  · rw [if_pos h, if_neg (by omega)]
  · rw [if_neg h, if_pos (by omega)]
    cases c <;> rfl
/-- where a trace from p, beginning with the cable or not, is behind k hops; -1 behind its end -/
def xw (C S : Nat → Int32) (c : Bool) (p : Nat) : Nat → Int32
  | 0 => nI p
  | k + 1 => if xw C S c p k = -1 then -1 else xnx C S (xdir c k) (xw C S c p k).toNatClampNeg
theorem xw_step {C S : Nat → Int32} {c : Bool} {p k q : Nat} (h : xw C S c p k = nI q) (hq : q < 2 ^ 31) : xw C S c p (k + 1) = xnx C S (xdir c k) q := by
  rw [xw, h, if_neg (nI_m1 hq), nI_clamp hq]
theorem xw_in {no : Nat} {C S : Nat → Int32} {c : Bool} {p : Nat} (hn : no < 2 ^ 31) (hC : xM no C) (hS : xM no S) (hp : p < no) : ∀ k, xw C S c p k = -1 ∨ ∃ q, q < no ∧ xw C S c p k = nI q := by
  intro k
  induction k with
  | zero => exact Or.inr ⟨p, hp, rfl⟩
  | succ k ih =>
    rcases ih with h | ⟨q, hq, h⟩
    · left; rw [xw, if_pos h]
    · rw [xw_step h (by omega)]
      rcases xM_nx hC hS (xdir c k) q hq with h1 | ⟨r, h1, -, h3, -⟩
      · exact Or.inl h1
      · exact Or.inr ⟨r, h1, h3⟩
theorem xw_ne {no : Nat} {C S : Nat → Int32} {c : Bool} {p K : Nat} (hn : no < 2 ^ 31) (hC : xM no C) (hS : xM no S) (hp : p < no) (h : ∀ k, k < K → xw C S c p (k + 1) ≠ -1) (hr : ∀ k, k < K → xw C S c p (k + 1) ≠ nI p) :
    ∀ j, j ≤ K → ∀ i, i < j → xw C S c p i ≠ xw C S c p j := by
  have get : ∀ k, k ≤ K → ∃ q, q < no ∧ xw C S c p k = nI q := by
    intro k hk
    rcases xw_in (c := c) hn hC hS hp k with h1 | h1
    · cases k with
      | zero => exact ⟨p, hp, rfl⟩
      | succ k => exact absurd h1 (h k (by omega))
    · exact h1
  intro j
  induction j using Nat.strongRecOn with
  | _ j ih =>
    intro hj i hi heq
    obtain ⟨j', rfl⟩ : ∃ j', j = j' + 1 := ⟨j - 1, by omega⟩
    cases i with
    | zero => exact hr j' (by omega) heq.symm
    | succ i' =>
      obtain ⟨a, ha, ea⟩ := get i' (by omega)
      obtain ⟨b, hb, eb⟩ := get j' (by omega)
      obtain ⟨r, hr', er⟩ := get (i' + 1) (by omega)
      have e1 : xnx C S (xdir c i') a = nI r := by rw [← xw_step ea (by omega)]; exact er
      have e2 : xnx C S (xdir c j') b = nI r := by rw [← xw_step eb (by omega), ← heq]; exact er
      have i1 := (xM_nx hC hS (xdir c i')).inv hn ha (by omega) e1
      have i2 := (xM_nx hC hS (xdir c j')).inv hn hb (by omega) e2
      by_cases hd : xdir c i' = xdir c j'
      · have : a = b := nI_inj (by omega) (by omega) (by rw [← i1.2.2, hd]; exact i2.2.2)
        subst this
        exact ih j' (by omega) (by omega) i' (by omega) (ea.trans eb.symm)
      · by_cases h1 : i' + 1 = j'
        · have : b = r := nI_inj (by omega) (by omega) (by rw [← eb, ← h1]; exact er)
          exact i2.2.1 this.symm
        · have hd2 : xdir c (i' + 1) = xdir c j' := by
            rw [xdir_s]
            revert hd
            cases xdir c i' <;> cases xdir c j' <;> simp
          have e3 : xw C S c p (i' + 1 + 1) = nI b := by rw [xw_step er (by omega), hd2]; exact i2.2.2
          by_cases h2 : i' + 1 + 1 = j'
          · exact hd (by rw [← h2, xdir_s, xdir_s]; cases xdir c i' <;> rfl)
          · exact ih j' (by omega) (by omega) (i' + 1 + 1) (by omega) (e3.trans eb.symm)
theorem xpig : ∀ (n : Nat) (g : Nat → Nat), (∀ i, i ≤ n → g i < n) → ∃ i j, i < j ∧ j ≤ n ∧ g i = g j := by
  intro n
  induction n with
  | zero => intro g h; exact absurd (h 0 (Nat.le_refl 0)) (Nat.not_lt_zero _)
  | succ n ih =>
    intro g h
    by_cases hx : ∃ i, i ≤ n ∧ g i = g (n + 1)
    · obtain ⟨i, h1, h2⟩ := hx
      exact ⟨i, n + 1, by omega, Nat.le_refl _, h2⟩
    · have hne : ∀ i, i ≤ n → g i ≠ g (n + 1) := fun i hi e => hx ⟨i, hi, e⟩
      obtain ⟨i, j, h1, h2, h3⟩ := ih (fun i => if g i = n then g (n + 1) else g i) (by
        intro i hi
        have a1 := h i (by omega)
        have a2 := h (n + 1) (Nat.le_refl _)
        have a3 := hne i hi
        by_cases e : g i = n
        · simp only [if_pos e]; omega
        · simp only [if_neg e]; omega)
      refine ⟨i, j, h1, by omega, ?_⟩
      have a1 := hne i (by omega)
      have a2 := hne j h2
      by_cases ei : g i = n <;> by_cases ej : g j = n
      · rw [ei, ej]
      · simp only [if_pos ei, if_neg ej] at h3; exact absurd h3.symm a2
      · simp only [if_neg ei, if_pos ej] at h3; exact absurd h3 a1
      · simp only [if_neg ei, if_neg ej] at h3; exact h3
theorem xw_short {no : Nat} {C S : Nat → Int32} {c : Bool} {p K : Nat} (hn : no < 2 ^ 31) (hC : xM no C) (hS : xM no S) (hp : p < no) (h : ∀ k, k < K → xw C S c p (k + 1) ≠ -1) (hr : ∀ k, k < K → xw C S c p (k + 1) ≠ nI p) : K < no := by
  apply Classical.byContradiction
  intro hK
  have get : ∀ k, k ≤ K → ∃ q, q < no ∧ xw C S c p k = nI q := by
    intro k hk
    rcases xw_in (c := c) hn hC hS hp k with h1 | h1
    · cases k with
      | zero => exact ⟨p, hp, rfl⟩
      | succ k => exact absurd h1 (h k (by omega))
    · exact h1
  obtain ⟨i, j, h1, h2, h3⟩ := xpig no (fun i => (xw C S c p i).toNatClampNeg) (by
    intro i hi
    obtain ⟨q, hq, e⟩ := get i (by omega)
    show (xw C S c p i).toNatClampNeg < no
    rw [e, nI_clamp (by omega)]; exact hq)
  obtain ⟨q1, hq1, e1⟩ := get i (by omega)
  obtain ⟨q2, hq2, e2⟩ := get j (by omega)
  have h4 : (xw C S c p i).toNatClampNeg = (xw C S c p j).toNatClampNeg := h3
  rw [e1, e2, nI_clamp (by omega), nI_clamp (by omega)] at h4
  exact xw_ne hn hC hS hp h hr j (by omega) i h1 (by rw [e1, e2, h4])
/-- K is how many hops the trace has -/
def xStop (C S : Nat → Int32) (c : Bool) (p K : Nat) : Prop := (∀ k, k < K → xw C S c p (k + 1) ≠ -1) ∧ (∀ k, k + 1 < K → xw C S c p (k + 1) ≠ nI p) ∧ (xw C S c p (K + 1) = -1 ∨ (0 < K ∧ xw C S c p K = nI p))
theorem xStop.lt {C S : Nat → Int32} {c : Bool} {p K K' : Nat} (h : xStop C S c p K) (h' : xStop C S c p K') : ¬ K < K' := by
  intro hk
  rcases h.2.2 with h1 | ⟨h1, h2⟩
  · exact h'.1 K hk h1
  · obtain ⟨k, rfl⟩ : ∃ k, K = k + 1 := ⟨K - 1, by omega⟩
    exact h'.2.1 k hk h2
theorem xStop.uniq {C S : Nat → Int32} {c : Bool} {p K K' : Nat} (h : xStop C S c p K) (h' : xStop C S c p K') : K = K' := by
  have a := h.lt h'
  have b := h'.lt h
  omega
theorem xStop.le {no : Nat} {C S : Nat → Int32} {c : Bool} {p K : Nat} (hn : no < 2 ^ 31) (hC : xM no C) (hS : xM no S) (hp : p < no) (h : xStop C S c p K) : K ≤ no := by
  cases K with
  | zero => exact Nat.zero_le _
  | succ K => exact xw_short (c := c) hn hC hS hp (K := K) (fun k hk => h.1 k (by omega)) (fun k hk => h.2.1 k (by omega))
theorem xStop.get {no : Nat} {C S : Nat → Int32} {c : Bool} {p K : Nat} (hn : no < 2 ^ 31) (hC : xM no C) (hS : xM no S) (hp : p < no) (h : xStop C S c p K) {k : Nat} (hk : k ≤ K) : ∃ q, q < no ∧ xw C S c p k = nI q := by
  rcases xw_in (c := c) hn hC hS hp k with h1 | h1
  · cases k with
    | zero => exact ⟨p, hp, rfl⟩
    | succ k => exact absurd h1 (h.1 k (by omega))
  · exact h1
/-- b is found from a -/
def xR (no : Nat) (C S : Nat → Int32) (a b : Nat) : Prop := ∀ P : Nat → Prop, P a → (∀ x y, x < no → y < no → P x → (C x = nI y ∨ S x = nI y) → P y) → P b
theorem xR.rf {no : Nat} {C S : Nat → Int32} {a : Nat} : xR no C S a a := fun _ h _ => h
theorem xR.step {no : Nat} {C S : Nat → Int32} {a x y : Nat} (h : xR no C S a x) (hx : x < no) (hy : y < no) (e : C x = nI y ∨ S x = nI y) : xR no C S a y := fun P h0 h1 => h1 x y hx hy (h P h0 h1) e
theorem xR.trans {no : Nat} {C S : Nat → Int32} {a b c : Nat} (h : xR no C S a b) (h' : xR no C S b c) : xR no C S a c := fun P h0 h1 => h' P (h P h0 h1) h1
theorem xR.symm {no : Nat} {C S : Nat → Int32} (hn : no < 2 ^ 31) (hC : xM no C) (hS : xM no S) {a b : Nat} (h : xR no C S a b) : xR no C S b a := by
  refine h (fun z => xR no C S z a) xR.rf ?_
  intro x y hx hy hz e
  refine xR.trans (b := x) ?_ hz
  refine xR.rf.step hy hx ?_
  rcases e with e | e
  · exact Or.inl (hC.inv hn hx (by omega) e).2.2
  · exact Or.inr (hS.inv hn hx (by omega) e).2.2
/-- b lies on the line of p: p itself, or a port of one of its two traces -/
def xL (C S : Nat → Int32) (p K1 K2 b : Nat) : Prop := b = p ∨ (∃ k, k < K1 ∧ xw C S true p (k + 1) = nI b) ∨ (∃ k, k < K2 ∧ xw C S false p (k + 1) = nI b)
theorem xw_R {no : Nat} {C S : Nat → Int32} {c : Bool} {p : Nat} (hn : no < 2 ^ 31) (hC : xM no C) (hS : xM no S) (hp : p < no) : ∀ k b, b < no → xw C S c p k = nI b → xR no C S p b := by
  intro k
  induction k with
  | zero => intro b hb e; rw [show p = b from nI_inj (by omega) (by omega) e]; exact xR.rf
  | succ k ih =>
    intro b hb e
    rcases xw_in (c := c) hn hC hS hp k with h1 | ⟨q, hq, h1⟩
    · rw [xw, if_pos h1] at e
      exact absurd e.symm (nI_m1 (by omega))
    · rw [xw_step h1 (by omega)] at e
      refine (ih q hq h1).step hq hb ?_
      revert e
      cases xdir c k
      · exact fun e => Or.inr e
      · exact fun e => Or.inl e
theorem xL_closed1 {no : Nat} {C S : Nat → Int32} {c : Bool} {p K : Nat} (hn : no < 2 ^ 31) (hC : xM no C) (hS : xM no S) (hp : p < no) (hK : xStop C S c p K) {k x y : Nat} (hk : k < K) (hx : x < no) (hy : y < no) (e : xw C S c p (k + 1) = nI x) (d : Bool) (hxy : xnx C S d x = nI y) (hxp : x ≠ p) :
    (∃ j, j ≤ K ∧ xw C S c p j = nI y) := by
  obtain ⟨q, hq, eq⟩ := hK.get hn hC hS hp (k := k) (by omega)
  have e1 : xnx C S (xdir c k) q = nI x := by rw [← xw_step eq (by omega)]; exact e
  have i1 := (xM_nx hC hS (xdir c k)).inv hn hq (by omega) e1
  by_cases hd : d = xdir c k
  · have : q = y := nI_inj (by omega) (by omega) (by rw [← i1.2.2, ← hd]; exact hxy)
    exact ⟨k, by omega, by rw [← this]; exact eq⟩
  · have hd2 : xdir c (k + 1) = d := by
      rw [xdir_s]
      revert hd
      cases xdir c k <;> cases d <;> simp
    have e2 : xw C S c p (k + 1 + 1) = nI y := by rw [xw_step e (by omega), hd2]; exact hxy
    by_cases hk2 : k + 1 < K
    · exact ⟨k + 1 + 1, by omega, e2⟩
    · have hkK : K = k + 1 := by omega
      rcases hK.2.2 with h1 | ⟨-, h1⟩
      · rw [hkK] at h1
        exact absurd (e2.symm.trans h1) (nI_m1 (by omega))
      · rw [hkK, e] at h1
        exact absurd (nI_inj (by omega) (by omega) h1) hxp
theorem xline {no : Nat} {C S : Nat → Int32} {p K1 K2 : Nat} (hn : no < 2 ^ 31) (hC : xM no C) (hS : xM no S) (hp : p < no) (h1 : xStop C S true p K1) (h2 : xStop C S false p K2) {b : Nat} (hb : b < no) : xR no C S p b ↔ xL C S p K1 K2 b := by
  constructor
  · intro h
    have first : ∀ (c : Bool) (K : Nat), xStop C S c p K → ∀ y, y < no → xnx C S c p = nI y → ∃ k, k < K ∧ xw C S c p (k + 1) = nI y := by
      intro c K hK y hy e
      have e1 : xw C S c p (0 + 1) = nI y := by rw [xw_step (k := 0) (q := p) rfl (by omega)]; exact e
      by_cases hz : 0 < K
      · exact ⟨0, hz, e1⟩
      · rcases hK.2.2 with h3 | ⟨h3, -⟩
        · rw [show K = 0 by omega] at h3
          exact absurd (e1.symm.trans h3) (nI_m1 (by omega))
        · omega
    have lift : ∀ (c : Bool) (K : Nat), ∀ y, y < no → (∃ j, j ≤ K ∧ xw C S c p j = nI y) → y = p ∨ ∃ k, k < K ∧ xw C S c p (k + 1) = nI y := by
      intro c K y hy ⟨j, hj, e⟩
      cases j with
      | zero => exact Or.inl (nI_inj (by omega) (by omega) e).symm
      | succ j => exact Or.inr ⟨j, by omega, e⟩
    have res : b < no → xL C S p K1 K2 b := by
      refine h (fun z => z < no → xL C S p K1 K2 z) (fun _ => Or.inl rfl) ?_
      intro x y hx hy hz e _
      have hz := hz hx
      have hd : ∃ d, xnx C S d x = nI y := by
        rcases e with e | e
        · exact ⟨true, e⟩
        · exact ⟨false, e⟩
      obtain ⟨d, hd⟩ := hd
      by_cases hxp : x = p
      · subst hxp
        cases d
        · exact Or.inr (Or.inr (first false K2 h2 y hy hd))
        · exact Or.inr (Or.inl (first true K1 h1 y hy hd))
      · rcases hz with hz | ⟨k, hk, ek⟩ | ⟨k, hk, ek⟩
        · exact absurd hz hxp
        · rcases lift true K1 y hy (xL_closed1 hn hC hS hp h1 hk hx hy ek d hd hxp) with q | q
          · exact Or.inl q
          · exact Or.inr (Or.inl q)
        · rcases lift false K2 y hy (xL_closed1 hn hC hS hp h2 hk hx hy ek d hd hxp) with q | q
          · exact Or.inl q
          · exact Or.inr (Or.inr q)
    exact res hb
  · rintro (rfl | ⟨k, -, e⟩ | ⟨k, -, e⟩)
    · exact xR.rf
    · exact xw_R hn hC hS hp _ b hb e
    · exact xw_R hn hC hS hp _ b hb e
