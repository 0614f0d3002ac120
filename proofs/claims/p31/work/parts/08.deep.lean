/-! pure words of searches, plans and checks -/
def bz (b : Bool) : Int32 := match b with
  | true => 1
  | false => 0
theorem bz_t {b : Bool} (h : ¬ bz b = 0) : b = true := by cases b; exact absurd rfl h; rfl
theorem bz_e {b : Bool} (h : bz b = 0) : b = false := by cases b; rfl; exact absurd h (by decide)
theorem bz_f0 {b : Bool} (h : ¬ bz b = 0) : 0 = bz (!b) := by rw [bz_t h]; rfl
theorem bz_f1 {b : Bool} (h : bz b = 0) : 1 = bz (!b) := by rw [bz_e h]; rfl
theorem bz_01 (b : Bool) : bz b = 0 ∨ bz b = 1 := by cases b; exact Or.inl rfl; exact Or.inr rfl
theorem upd_ltP {P : Nat → Int32 → Prop} {g : Nat → Int32} {k : Nat} {v : Int32} (h : ∀ q, q < k → P q (g q)) (hv : P k v) : ∀ q, q < k + 1 → P q (upd g k v q) := by
  intro q hq
  by_cases e : q = k
  · rw [e, upd_s]; exact hv
  · rw [upd_n e]; exact h q (by omega)
theorem xu_base {α : Type} {F f : Nat → α} {k : Nat} {v : α} (h : ∀ j, j ≠ k → F j = f j) : xu F k v = xu f k v := by
  funext j
  by_cases hj : j = k
  · rw [hj, xu_s, xu_s]
  · rw [xu_n hj, xu_n hj, h j hj]
def xP (k : Nat) (a : Int32) : Prop := ∃ q, q < k ∧ a = nI q
theorem xP_iff {k : Nat} {a : Int32} (hk : k ≤ 1000) : (0 ≤ a ∧ a ≤ nI k - 1) ↔ xP k a := by
  constructor
  · rintro ⟨h1, h2⟩
    obtain ⟨j, hj, rfl⟩ := nI_of (x := a) (fun h => absurd h (Int32.not_lt.mpr h1))
    cases k with
    | zero => exact absurd (Int32.le_trans h1 h2) (by decide)
    | succ k =>
      rw [nI_pred] at h2
      exact ⟨j, Nat.lt_succ_of_le ((nI_leI hj (by omega)).mp h2), rfl⟩
  · rintro ⟨q, hq, rfl⟩
    cases k with
    | zero => exact absurd hq (Nat.not_lt_zero q)
    | succ k =>
      rw [nI_pred]
      exact ⟨nI_pos' (by omega), (nI_leI (by omega) (by omega)).mpr (Nat.le_of_lt_succ hq)⟩
/-- a move that the class takes for possible -/
def xpos (C A B : Nat → Int32) (x y : Nat → Nat) (nm i : Nat) : Prop := C (x i) ≠ -1 ∧ (¬ ∃ q, q < i ∧ (A q = A i ∨ B q = B i)) ∧ ¬ (C (y i) ≠ -1 ∧ ¬ ∃ q, q < nm ∧ A q = nI (y i))
theorem xcl1 {g4 g5 : Nat → Int32} {x : Nat → Nat} {j : Nat} (h : ∀ q, q < j → g4 (x q) = -1 ∧ g5 (x q) = 0) : ∀ q, q < j + 1 → upd g4 (x j) (-1) (x q) = -1 ∧ upd g5 (x j) 0 (x q) = 0 := by
  intro q hq
  by_cases e : x q = x j
  · rw [e, upd_s, upd_s]; exact ⟨rfl, rfl⟩
  · rw [upd_n e, upd_n e]; exact h q (by rcases Nat.lt_or_ge q j with a | a; exact a; exact absurd (congrArg x (show q = j by omega)) e)
theorem xcl2 {g4 g5 f4 f5 : Nat → Int32} {x : Nat → Nat} {j : Nat} {v w : Int32} (h : ∀ z, (∀ q, q < j → x q ≠ z) → g4 z = f4 z ∧ g5 z = f5 z) : ∀ z, (∀ q, q < j + 1 → x q ≠ z) → upd g4 (x j) v z = f4 z ∧ upd g5 (x j) w z = f5 z := by
  intro z hz
  have e : z ≠ x j := fun e => hz j (Nat.lt_succ_self j) e.symm
  rw [upd_n e, upd_n e]
  exact h z (fun q hq => hz q (Nat.lt_succ_of_lt hq))
theorem xpl1 {g4 g5 NC NK : Nat → Int32} {y z : Nat → Nat} {i : Nat} {cv kv : Int32} (h : ∀ q, q < i → (g4 (y q) = NC (y q) ∧ g4 (z q) = NC (z q)) ∧ g5 (y q) = NK (y q) ∧ g5 (z q) = NK (z q)) (hc : (NC (y i) = nI (z i) ∧ NC (z i) = nI (y i)) ∧ NK (y i) = kv ∧ NK (z i) = kv) (hcv : cv = kv) :
    ∀ q, q < i + 1 → (upd (upd g4 (y i) (nI (z i))) (z i) (nI (y i)) (y q) = NC (y q) ∧ upd (upd g4 (y i) (nI (z i))) (z i) (nI (y i)) (z q) = NC (z q)) ∧ upd (upd g5 (y i) cv) (z i) cv (y q) = NK (y q) ∧ upd (upd g5 (y i) cv) (z i) cv (z q) = NK (z q) := by
  subst hcv
  obtain ⟨⟨c1, c2⟩, c3, c4⟩ := hc
  have key : ∀ w, (w = y i ∨ w = z i ∨ (g4 w = NC w ∧ g5 w = NK w)) → upd (upd g4 (y i) (nI (z i))) (z i) (nI (y i)) w = NC w ∧ upd (upd g5 (y i) cv) (z i) cv w = NK w := by
    intro w hw
    by_cases e1 : w = z i
    · rw [e1, upd_s, upd_s]; exact ⟨c2.symm, c4.symm⟩
    · rw [upd_n e1, upd_n e1]
      by_cases e2 : w = y i
      · rw [e2, upd_s, upd_s]; exact ⟨c1.symm, c3.symm⟩
      · rw [upd_n e2, upd_n e2]
        rcases hw with a | a | a
        · exact absurd a e2
        · exact absurd a e1
        · exact a
  intro q hq
  by_cases e : q = i
  · rw [e]
    have a := key (y i) (Or.inl rfl)
    have b := key (z i) (Or.inr (Or.inl rfl))
    exact ⟨⟨a.1, b.1⟩, a.2, b.2⟩
  · obtain ⟨⟨h1, h2⟩, h3, h4⟩ := h q (by omega)
    have a := key (y q) (Or.inr (Or.inr ⟨h1, h3⟩))
    have b := key (z q) (Or.inr (Or.inr ⟨h2, h4⟩))
    exact ⟨⟨a.1, b.1⟩, a.2, b.2⟩
theorem xpl2 {g4 g5 f4 f5 : Nat → Int32} {y z : Nat → Nat} {i : Nat} {v w cv : Int32} (h : ∀ w, (∀ q, q < i → y q ≠ w ∧ z q ≠ w) → g4 w = f4 w ∧ g5 w = f5 w) : ∀ a, (∀ q, q < i + 1 → y q ≠ a ∧ z q ≠ a) → upd (upd g4 (y i) v) (z i) w a = f4 a ∧ upd (upd g5 (y i) cv) (z i) cv a = f5 a := by
  intro a ha
  have e1 : a ≠ y i := fun e => (ha i (Nat.lt_succ_self i)).1 e.symm
  have e2 : a ≠ z i := fun e => (ha i (Nat.lt_succ_self i)).2 e.symm
  rw [upd_n e2, upd_n e1, upd_n e2, upd_n e1]
  exact h a (fun q hq => ha q (Nat.lt_succ_of_lt hq))
theorem xmk1 {g : Nat → Int32} {t : Nat → Nat} {i : Nat} (h : ∀ q, q < i → g (t q) = 1) : ∀ q, q < i + 1 → upd g (t i) 1 (t q) = 1 := by
  intro q hq
  by_cases e : t q = t i
  · rw [e, upd_s]
  · rw [upd_n e]; exact h q (by rcases Nat.lt_or_ge q i with a | a; exact a; exact absurd (congrArg t (show q = i by omega)) e)
theorem xmk2 {g f : Nat → Int32} {t : Nat → Nat} {i : Nat} {v : Int32} (h : ∀ w, (∀ q, q < i → t q ≠ w) → g w = f w) : ∀ w, (∀ q, q < i + 1 → t q ≠ w) → upd g (t i) v w = f w := by
  intro w hw
  rw [upd_n (fun e => hw i (Nat.lt_succ_self i) e.symm)]
  exact h w (fun q hq => hw q (Nat.lt_succ_of_lt hq))
/-- the queue holds r ports u 0 .. , apart, all found, all reached from p -/
def xBF (no : Nat) (C S : Nat → Int32) (p : Nat) (q12 q18 : Nat → Int32) (r : Nat) (u : Nat → Nat) : Prop := (∀ k, k < r → q12 k = nI (u k) ∧ u k < no ∧ xR no C S p (u k)) ∧ (∀ w, w < no → (q18 w ≠ 0 ↔ ∃ k, k < r ∧ u k = w)) ∧ ∀ a b, a < b → b < r → u a ≠ u b
theorem xBF.le {no : Nat} {C S : Nat → Int32} {p : Nat} {q12 q18 : Nat → Int32} {r : Nat} {u : Nat → Nat} (h : xBF no C S p q12 q18 r u) (hn : no < 2 ^ 31) : r ≤ no := by
  apply Classical.byContradiction
  intro hr
  obtain ⟨a, b, h1, h2, h3⟩ := xpig no u (fun i hi => (h.1 i (by omega)).2.1)
  exact h.2.2 a b h1 (by omega) h3
theorem xBF_0 {no : Nat} {C S : Nat → Int32} {p : Nat} {q12 q18 : Nat → Int32} {u : Nat → Nat} (h : ∀ k, k < no → q18 k = 0) : xBF no C S p q12 q18 0 u :=
  ⟨fun k hk => absurd hk (Nat.not_lt_zero k), fun w hw => ⟨fun e => absurd (h w hw) e, fun ⟨k, hk, _⟩ => absurd hk (Nat.not_lt_zero k)⟩, fun _ b _ hb => absurd hb (Nat.not_lt_zero b)⟩
theorem xBF.push {no : Nat} {C S : Nat → Int32} {p : Nat} {q12 q18 : Nat → Int32} {r z : Nat} {u : Nat → Nat} (h : xBF no C S p q12 q18 r u) (hn : no < 2 ^ 31) (hz : z < no) (h0 : q18 z = 0) (hR : xR no C S p z) : xBF no C S p (upd q12 r (nI z)) (upd q18 z 1) (r + 1) (fun k => if k = r then z else u k) := by
  have hno : ∀ k, k < r → u k ≠ z := fun k hk e => ((h.2.1 z hz).mpr ⟨k, hk, e⟩) h0
  refine ⟨?_, ?_, ?_⟩
  · intro k hk
    by_cases e : k = r
    · simp only [if_pos e]
      rw [e, upd_s]
      exact ⟨rfl, hz, hR⟩
    · simp only [if_neg e]
      rw [upd_n e]
      exact h.1 k (by omega)
  · intro w hw
    by_cases e : w = z
    · rw [e, upd_s]
      exact ⟨fun _ => ⟨r, Nat.lt_succ_self r, if_pos rfl⟩, fun _ => by decide⟩
    · rw [upd_n e, h.2.1 w hw]
      constructor
      · rintro ⟨k, hk, e2⟩
        exact ⟨k, by omega, (if_neg (by omega)).trans e2⟩
      · rintro ⟨k, hk, e2⟩
        have e2 : (if k = r then z else u k) = w := e2
        by_cases e3 : k = r
        · rw [if_pos e3] at e2
          exact absurd e2.symm e
        · rw [if_neg e3] at e2
          exact ⟨k, by omega, e2⟩
  · intro a b hab hb
    by_cases e : b = r
    · simp only [if_pos e]
      rw [if_neg (by omega)]
      exact hno a (by omega)
    · simp only [if_neg e]
      rw [if_neg (by omega)]
      exact h.2.2 a b hab (by omega)
theorem xBF.lt {no : Nat} {C S : Nat → Int32} {p : Nat} {q12 q18 : Nat → Int32} {r z : Nat} {u : Nat → Nat} (h : xBF no C S p q12 q18 r u) (hn : no < 2 ^ 31) (hz : z < no) (h0 : q18 z = 0) : r < no := by
  have h2 : xBF no (fun _ => -1) (fun _ => -1) z (upd q12 r (nI z)) (upd q18 z 1) (r + 1) (fun k => if k = r then z else u k) → True := fun _ => trivial
  apply Classical.byContradiction
  intro hr
  have hle := h.le hn
  have e : r = no := by omega
  have hno : ∀ k, k < r → u k ≠ z := fun k hk e => ((h.2.1 z hz).mpr ⟨k, hk, e⟩) h0
  obtain ⟨a, b, h1, h2, h3⟩ := xpig no (fun k => if k = r then z else u k) (fun i hi => by
    by_cases ei : i = r
    · simp only [if_pos ei]; exact hz
    · simp only [if_neg ei]; exact (h.1 i (by omega)).2.1)
  by_cases eb : b = r
  · simp only [if_pos eb] at h3
    rw [if_neg (by omega)] at h3
    exact hno a (by omega) h3
  · simp only [if_neg eb] at h3
    rw [if_neg (by omega)] at h3
    exact h.2.2 a b h1 (by omega) h3
theorem xBF_next {no : Nat} {C S G : Nat → Int32} {p x : Nat} (hn : no < 2 ^ 31) (hG : xM no G) (hx : x < no) (hR : xR no C S p x) (h : ∀ z, G x = nI z → C x = nI z ∨ S x = nI z) : G x = -1 ∨ ∃ z, z < no ∧ G x = nI z ∧ xR no C S p z := by
  rcases hG x hx with h1 | ⟨q, h1, -, h3, -⟩
  · exact Or.inl h1
  · exact Or.inr ⟨q, h1, h3, hR.step hx h1 (h q h3)⟩
theorem xBF.done {no : Nat} {C S : Nat → Int32} {p : Nat} {q12 q18 : Nat → Int32} {r : Nat} {u : Nat → Nat} (h : xBF no C S p q12 q18 r u) (hn : no < 2 ^ 31) (hp : p < no) (h0 : ∃ k, k < r ∧ u k = p) (hcl : ∀ k, k < r → ∀ w, w < no → (C (u k) = nI w ∨ S (u k) = nI w) → ∃ j, j < r ∧ u j = w) : ∀ w, w < no → (q18 w ≠ 0 ↔ xR no C S p w) := by
  intro w hw
  rw [h.2.1 w hw]
  constructor
  · rintro ⟨k, hk, rfl⟩
    exact (h.1 k hk).2.2
  · intro hR
    refine hR (fun z => ∃ k, k < r ∧ u k = z) h0 ?_
    rintro x y hx hy ⟨k, hk, rfl⟩ e
    exact hcl k hk y hy e

abbrev rmX3_checkPort : Room := { frames := 6, cells := 1, slots := 6, locals := 82 }
set_option maxHeartbeats 4000000 in
set_option maxRecDepth 100000 in
theorem c_X3_checkPort (l : Launch) (E : xE) (n : Nat → Int32) (f : Nat → Nat → Int32) (o : Nat → Int64) (hfl : l.stackTraces = false) {no : Nat} (hn : n 1 = nI no) (hno : no ≤ 1000) (a : Int32) : xXv l yX3_checkPort wsX3_checkPort rmX3_checkPort E [.ref (E.2.2.2 0), .int a] (n, f, o) 1 (fun σ' => xP no a ∧ σ' = (n, f, o)) (fun X σ' => X = xIO ∧ ¬ xP no a ∧ σ' = (n, f, o)) := by
  refine x_startXv RX3 (by decide) rfl rfl (Nat.le_of_ble_eq_true rfl) ?_
  intro p e s m args below meth c ls S hr hlk htab hTh hW hl
  have hx := S.1
  have hb := S.2.1
  have hl : lv_has ls 2 [(0, .ref (E.2.2.2 0)), (1, .int a)] := hl
  have hinX3 : ∀ w ∈ wsX30, w ∈ wsX3_checkPort := by decide +kernel
  have w133 : Cond.classLink RX3 133 "java/lang/IndexOutOfBoundsException" ∈ wsX3_checkPort := by decide +kernel
  have w77 : Cond.fieldLink RX3 77 "CableBook" "portCount" "I" ∈ wsX3_checkPort := by decide +kernel
  have wiIO : Cond.initialized "java/lang/IndexOutOfBoundsException" ∈ wsX3_checkPort := by decide +kernel
  refine lv_iload_n hx hb dX3_checkPort_0 rfl (lv_at hl 1 rfl) ?_
  refine lv_iconst (v := 0) hx hb dX3_checkPort_1 (by decide) ?_
  refine lv_aload_n hx hb dX3_checkPort_2 rfl (lv_at hl 0 rfl) ?_
  refine x_get (v := .int (n 1)) S hW hinX3 0 (xw_0 E _) rfl 4 (by decide) w77 rfl dX3_checkPort_3 ?_
  refine x_topN (no) (hn) ?_
  refine lv_iconst (v := 1) hx hb dX3_checkPort_6 (by decide) ?_
  refine lv_isub hx hb dX3_checkPort_7 ?_
  refine x_Si (rest := []) S (c_X3_isWithin l E n f o a 0 ((nI no) - 1)) (cwS 3 S.2.2.2.2 gX3_checkPort_X3_isWithin rfl rfl rfl (by decide +kernel) ⟨Nat.le_of_ble_eq_true rfl, Nat.le_of_ble_eq_true rfl⟩) hW rfl rfl hl.1 (Nat.le_of_ble_eq_true rfl) dX3_checkPort_8 ⟨Nat.le_of_ble_eq_true rfl, Nat.le_of_ble_eq_true rfl⟩ (fun r8 σ8 H locs hp1 hW => ?_)
  rcases hp1 with ⟨rfl, h8, rfl⟩ | ⟨rfl, h8, rfl⟩
  · refine lv_if_ne (tgt := 24) hx hb dX3_checkPort_11 (by decide) (fun c11 => ?_) (fun c11 => ?_)
    · exact absurd c11 (by decide)
    exact x_throw (cls := xIO) (text := "no such port") S hfl hTh hW htab hlk (by decide +kernel) w133 wiIO (by decide +kernel) (fun w hw => List.mem_cons_of_mem _ (List.mem_append_right _ hw)) xng_IO xgd_IO hl.1 dX3_checkPort_14 dX3_checkPort_17 dX3_checkPort_18 dX3_checkPort_20 dX3_checkPort_23 ⟨⟨Nat.le_of_ble_eq_true rfl, Nat.le_of_ble_eq_true rfl⟩, Nat.le_of_ble_eq_true rfl, Nat.le_of_ble_eq_true rfl⟩ (Nat.le_of_ble_eq_true rfl) (Nat.le_of_ble_eq_true rfl) (⟨rfl, fun h => h8 ((xP_iff hno).mpr h), rfl⟩)
  · refine lv_if_ne (tgt := 24) hx hb dX3_checkPort_11 (by decide) (fun c11 => ?_) (fun c11 => ?_)
    rotate_left
    · exact absurd c11 (by decide)
    exact x_Xretv S hr hlk hW (Nat.le_of_ble_eq_true rfl) (Nat.le_of_ble_eq_true rfl) dX3_checkPort_24 (⟨(xP_iff hno).mp h8, rfl⟩)

abbrev rmX3_checkPanel : Room := { frames := 6, cells := 1, slots := 6, locals := 82 }
set_option maxHeartbeats 4000000 in
set_option maxRecDepth 100000 in
theorem c_X3_checkPanel (l : Launch) (E : xE) (n : Nat → Int32) (f : Nat → Nat → Int32) (o : Nat → Int64) (hfl : l.stackTraces = false) {np : Nat} (hn : n 0 = nI np) (hno : np ≤ 1000) (a : Int32) : xXv l yX3_checkPanel wsX3_checkPanel rmX3_checkPanel E [.ref (E.2.2.2 0), .int a] (n, f, o) 1 (fun σ' => xP np a ∧ σ' = (n, f, o)) (fun X σ' => X = xIO ∧ ¬ xP np a ∧ σ' = (n, f, o)) := by
  refine x_startXv RX3 (by decide) rfl rfl (Nat.le_of_ble_eq_true rfl) ?_
  intro p e s m args below meth c ls S hr hlk htab hTh hW hl
  have hx := S.1
  have hb := S.2.1
  have hl : lv_has ls 2 [(0, .ref (E.2.2.2 0)), (1, .int a)] := hl
  have hinX3 : ∀ w ∈ wsX30, w ∈ wsX3_checkPanel := by decide +kernel
  have w133 : Cond.classLink RX3 133 "java/lang/IndexOutOfBoundsException" ∈ wsX3_checkPanel := by decide +kernel
  have w73 : Cond.fieldLink RX3 73 "CableBook" "panelCount" "I" ∈ wsX3_checkPanel := by decide +kernel
  have wiIO : Cond.initialized "java/lang/IndexOutOfBoundsException" ∈ wsX3_checkPanel := by decide +kernel
  refine lv_iload_n hx hb dX3_checkPanel_0 rfl (lv_at hl 1 rfl) ?_
  refine lv_iconst (v := 0) hx hb dX3_checkPanel_1 (by decide) ?_
  refine lv_aload_n hx hb dX3_checkPanel_2 rfl (lv_at hl 0 rfl) ?_
  refine x_get (v := .int (n 0)) S hW hinX3 0 (xw_0 E _) rfl 0 (by decide) w73 rfl dX3_checkPanel_3 ?_
  refine x_topN (np) (hn) ?_
  refine lv_iconst (v := 1) hx hb dX3_checkPanel_6 (by decide) ?_
  refine lv_isub hx hb dX3_checkPanel_7 ?_
  refine x_Si (rest := []) S (c_X3_isWithin l E n f o a 0 ((nI np) - 1)) (cwS 3 S.2.2.2.2 gX3_checkPanel_X3_isWithin rfl rfl rfl (by decide +kernel) ⟨Nat.le_of_ble_eq_true rfl, Nat.le_of_ble_eq_true rfl⟩) hW rfl rfl hl.1 (Nat.le_of_ble_eq_true rfl) dX3_checkPanel_8 ⟨Nat.le_of_ble_eq_true rfl, Nat.le_of_ble_eq_true rfl⟩ (fun r8 σ8 H locs hp1 hW => ?_)
  rcases hp1 with ⟨rfl, h8, rfl⟩ | ⟨rfl, h8, rfl⟩
  · refine lv_if_ne (tgt := 24) hx hb dX3_checkPanel_11 (by decide) (fun c11 => ?_) (fun c11 => ?_)
    · exact absurd c11 (by decide)
    exact x_throw (cls := xIO) (text := "no such panel") S hfl hTh hW htab hlk (by decide +kernel) w133 wiIO (by decide +kernel) (fun w hw => List.mem_cons_of_mem _ (List.mem_append_right _ hw)) xng_IO xgd_IO hl.1 dX3_checkPanel_14 dX3_checkPanel_17 dX3_checkPanel_18 dX3_checkPanel_20 dX3_checkPanel_23 ⟨⟨Nat.le_of_ble_eq_true rfl, Nat.le_of_ble_eq_true rfl⟩, Nat.le_of_ble_eq_true rfl, Nat.le_of_ble_eq_true rfl⟩ (Nat.le_of_ble_eq_true rfl) (Nat.le_of_ble_eq_true rfl) (⟨rfl, fun h => h8 ((xP_iff hno).mpr h), rfl⟩)
  · refine lv_if_ne (tgt := 24) hx hb dX3_checkPanel_11 (by decide) (fun c11 => ?_) (fun c11 => ?_)
    rotate_left
    · exact absurd c11 (by decide)
    exact x_Xretv S hr hlk hW (Nat.le_of_ble_eq_true rfl) (Nat.le_of_ble_eq_true rfl) dX3_checkPanel_24 (⟨(xP_iff hno).mp h8, rfl⟩)

abbrev rmX3_checkTrunk : Room := { frames := 6, cells := 1, slots := 6, locals := 82 }
set_option maxHeartbeats 4000000 in
set_option maxRecDepth 100000 in
theorem c_X3_checkTrunk (l : Launch) (E : xE) (n : Nat → Int32) (f : Nat → Nat → Int32) (o : Nat → Int64) (hfl : l.stackTraces = false) {nt : Nat} (hn : n 2 = nI nt) (hno : nt ≤ 1000) (a : Int32) : xXv l yX3_checkTrunk wsX3_checkTrunk rmX3_checkTrunk E [.ref (E.2.2.2 0), .int a] (n, f, o) 1 (fun σ' => xP nt a ∧ σ' = (n, f, o)) (fun X σ' => X = xIO ∧ ¬ xP nt a ∧ σ' = (n, f, o)) := by
  refine x_startXv RX3 (by decide) rfl rfl (Nat.le_of_ble_eq_true rfl) ?_
  intro p e s m args below meth c ls S hr hlk htab hTh hW hl
  have hx := S.1
  have hb := S.2.1
  have hl : lv_has ls 2 [(0, .ref (E.2.2.2 0)), (1, .int a)] := hl
  have hinX3 : ∀ w ∈ wsX30, w ∈ wsX3_checkTrunk := by decide +kernel
  have w133 : Cond.classLink RX3 133 "java/lang/IndexOutOfBoundsException" ∈ wsX3_checkTrunk := by decide +kernel
  have w80 : Cond.fieldLink RX3 80 "CableBook" "trunkCount" "I" ∈ wsX3_checkTrunk := by decide +kernel
  have wiIO : Cond.initialized "java/lang/IndexOutOfBoundsException" ∈ wsX3_checkTrunk := by decide +kernel
  refine lv_iload_n hx hb dX3_checkTrunk_0 rfl (lv_at hl 1 rfl) ?_
  refine lv_iconst (v := 0) hx hb dX3_checkTrunk_1 (by decide) ?_
  refine lv_aload_n hx hb dX3_checkTrunk_2 rfl (lv_at hl 0 rfl) ?_
  refine x_get (v := .int (n 2)) S hW hinX3 0 (xw_0 E _) rfl 11 (by decide) w80 rfl dX3_checkTrunk_3 ?_
  refine x_topN (nt) (hn) ?_
  refine lv_iconst (v := 1) hx hb dX3_checkTrunk_6 (by decide) ?_
  refine lv_isub hx hb dX3_checkTrunk_7 ?_
  refine x_Si (rest := []) S (c_X3_isWithin l E n f o a 0 ((nI nt) - 1)) (cwS 3 S.2.2.2.2 gX3_checkTrunk_X3_isWithin rfl rfl rfl (by decide +kernel) ⟨Nat.le_of_ble_eq_true rfl, Nat.le_of_ble_eq_true rfl⟩) hW rfl rfl hl.1 (Nat.le_of_ble_eq_true rfl) dX3_checkTrunk_8 ⟨Nat.le_of_ble_eq_true rfl, Nat.le_of_ble_eq_true rfl⟩ (fun r8 σ8 H locs hp1 hW => ?_)
  rcases hp1 with ⟨rfl, h8, rfl⟩ | ⟨rfl, h8, rfl⟩
  · refine lv_if_ne (tgt := 24) hx hb dX3_checkTrunk_11 (by decide) (fun c11 => ?_) (fun c11 => ?_)
    · exact absurd c11 (by decide)
    exact x_throw (cls := xIO) (text := "no such trunk") S hfl hTh hW htab hlk (by decide +kernel) w133 wiIO (by decide +kernel) (fun w hw => List.mem_cons_of_mem _ (List.mem_append_right _ hw)) xng_IO xgd_IO hl.1 dX3_checkTrunk_14 dX3_checkTrunk_17 dX3_checkTrunk_18 dX3_checkTrunk_20 dX3_checkTrunk_23 ⟨⟨Nat.le_of_ble_eq_true rfl, Nat.le_of_ble_eq_true rfl⟩, Nat.le_of_ble_eq_true rfl, Nat.le_of_ble_eq_true rfl⟩ (Nat.le_of_ble_eq_true rfl) (Nat.le_of_ble_eq_true rfl) (⟨rfl, fun h => h8 ((xP_iff hno).mpr h), rfl⟩)
  · refine lv_if_ne (tgt := 24) hx hb dX3_checkTrunk_11 (by decide) (fun c11 => ?_) (fun c11 => ?_)
    rotate_left
    · exact absurd c11 (by decide)
    exact x_Xretv S hr hlk hW (Nat.le_of_ble_eq_true rfl) (Nat.le_of_ble_eq_true rfl) dX3_checkTrunk_24 (⟨(xP_iff hno).mp h8, rfl⟩)

abbrev rmX3_staysTaken : Room := { frames := 3, cells := 0, slots := 0, locals := 64 }
set_option maxHeartbeats 4000000 in
set_option maxRecDepth 100000 in
theorem c_X3_staysTaken (l : Launch) (E : xE) (n : Nat → Int32) (f : Nat → Nat → Int32) (o : Nat → Int64) {p1 : Nat} (h1 : p1 < 144) {nm : Nat} (hn3 : n 3 = nI nm) (hm : nm ≤ 12) : xCi l yX3_staysTaken wsX3_staysTaken rmX3_staysTaken E [.ref (E.2.2.2 0), .int (nI p1)] (n, f, o) (fun r σ' => (r = 0 ∧ ¬ (f 4 p1 ≠ -1 ∧ ¬ ∃ q, q < nm ∧ f 13 q = nI p1) ∧ σ' = (n, f, o)) ∨ (r = 1 ∧ (f 4 p1 ≠ -1 ∧ ¬ ∃ q, q < nm ∧ f 13 q = nI p1) ∧ σ' = (n, f, o))) := by
  refine x_starti RX3 (by decide) rfl rfl (Nat.le_of_ble_eq_true rfl) ?_
  intro p e s m args below meth c ls S hr hlk hW hl
  have hx := S.1
  have hb := S.2.1
  have hl : lv_has ls 2 [(0, .ref (E.2.2.2 0)), (1, .int (nI p1))] := hl
  have hinX3 : ∀ w ∈ wsX30, w ∈ wsX3_staysTaken := by decide +kernel
  have w60 : Cond.fieldLink RX3 60 "CableBook" "plan" "LCableBook$Plan;" ∈ wsX3_staysTaken := by decide +kernel
  refine lv_aload_n hx hb dX3_staysTaken_0 rfl (lv_at hl 0 rfl) ?_
  refine lv_iload_n hx hb dX3_staysTaken_1 rfl (lv_at hl 1 rfl) ?_
  refine x_Vi (rest := []) S (c_X3_hasCable l E n f o (p1 := p1) (by omega)) (cwV 1 S.2.2.2.2 gX3_staysTaken_X3_hasCable rfl rfl rfl (by decide +kernel) ⟨Nat.le_of_ble_eq_true rfl, Nat.le_of_ble_eq_true rfl⟩) hW 0 (xw_0 E _) rfl rfl rfl hl.1 (Nat.le_of_ble_eq_true rfl) dX3_staysTaken_2 ⟨Nat.zero_le _, Nat.zero_le _⟩ (fun r2 σ2 H locs hp1 hW => ?_)
  rcases hp1 with ⟨rfl, h2, rfl⟩ | ⟨rfl, h2, rfl⟩
  · refine lv_if_eq (tgt := 23) hx hb dX3_staysTaken_5 (by decide) (fun c5 => ?_) (fun c5 => ?_)
    rotate_left
    · exact absurd c5 (by decide)
    refine lv_iconst (v := 0) hx hb dX3_staysTaken_23 (by decide) ?_
    exact x_retz S hr hlk hW dX3_staysTaken_24 (Or.inl rfl) (.inl ⟨rfl, (by first | exact fun h => h2 h.1 | exact fun h => h.2 h13), rfl⟩)
  · refine lv_if_eq (tgt := 23) hx hb dX3_staysTaken_5 (by decide) (fun c5 => ?_) (fun c5 => ?_)
    · exact absurd c5 (by decide)
    refine lv_aload_n hx hb dX3_staysTaken_8 rfl (lv_at hl 0 rfl) ?_
    refine x_get (v := .ref (E.2.2.2 39)) S hW hinX3 0 (xw_0 E _) rfl 15 (by decide) w60 rfl dX3_staysTaken_9 ?_
    refine lv_iload_n hx hb dX3_staysTaken_12 rfl (lv_at hl 1 rfl) ?_
    refine x_Vi (rest := []) S (c_X1_pulls l E n f o (nI p1) hn3 hm) (cwV 1 S.2.2.2.2 gX3_staysTaken_X1_pulls rfl rfl rfl (by decide +kernel) ⟨Nat.le_of_ble_eq_true rfl, Nat.le_of_ble_eq_true rfl⟩) hW 39 (xw_39 E _) rfl rfl rfl hl.1 (Nat.le_of_ble_eq_true rfl) dX3_staysTaken_13 ⟨Nat.zero_le _, Nat.zero_le _⟩ (fun r13 σ13 H locs hp2 hW => ?_)
    rcases hp2 with ⟨rfl, h13, rfl⟩ | ⟨rfl, h13, rfl⟩
    · refine lv_if_ne (tgt := 23) hx hb dX3_staysTaken_16 (by decide) (fun c16 => ?_) (fun c16 => ?_)
      · exact absurd c16 (by decide)
      refine lv_iconst (v := 1) hx hb dX3_staysTaken_19 (by decide) ?_
      refine lv_goto (tgt := 24) hx hb dX3_staysTaken_20 (by decide) ?_
      exact x_retz S hr hlk hW dX3_staysTaken_24 (Or.inr rfl) (.inr ⟨rfl, ⟨h2, h13⟩, rfl⟩)
    · refine lv_if_ne (tgt := 23) hx hb dX3_staysTaken_16 (by decide) (fun c16 => ?_) (fun c16 => ?_)
      rotate_left
      · exact absurd c16 (by decide)
      refine lv_iconst (v := 0) hx hb dX3_staysTaken_23 (by decide) ?_
      exact x_retz S hr hlk hW dX3_staysTaken_24 (Or.inl rfl) (.inl ⟨rfl, (by first | exact fun h => h2 h.1 | exact fun h => h.2 h13), rfl⟩)

abbrev rmX3_planIsPossible : Room := { frames := 4, cells := 0, slots := 0, locals := 85 }
set_option maxHeartbeats 4000000 in
set_option maxRecDepth 100000 in
theorem c_X3_planIsPossible (l : Launch) (E : xE) (n : Nat → Int32) (f : Nat → Nat → Int32) (o : Nat → Int64) {nm : Nat} (hn3 : n 3 = nI nm) (hm : nm ≤ 12) (x y : Nat → Nat) (hxx : ∀ i, i < nm → f 13 i = nI (x i) ∧ x i < 144) (hyy : ∀ i, i < nm → f 14 i = nI (y i) ∧ y i < 144) : xCi l yX3_planIsPossible wsX3_planIsPossible rmX3_planIsPossible E [.ref (E.2.2.2 0)] (n, f, o) (fun r σ' => (r = 0 ∧ ¬ (∀ i, i < nm → xpos (f 4) (f 13) (f 14) x y nm i) ∧ σ' = (n, f, o)) ∨ (r = 1 ∧ (∀ i, i < nm → xpos (f 4) (f 13) (f 14) x y nm i) ∧ σ' = (n, f, o))) := by
  refine x_starti RX3 (by decide) rfl rfl (Nat.le_of_ble_eq_true rfl) ?_
  intro p e s m args below meth c ls S hr hlk hW hl
  have hx := S.1
  have hb := S.2.1
  have hl : lv_has ls 3 [(0, .ref (E.2.2.2 0))] := hl
  have hinX3 : ∀ w ∈ wsX30, w ∈ wsX3_planIsPossible := by decide +kernel
  have w60 : Cond.fieldLink RX3 60 "CableBook" "plan" "LCableBook$Plan;" ∈ wsX3_planIsPossible := by decide +kernel
  refine lv_aload_n hx hb dX3_planIsPossible_0 rfl (lv_at hl 0 rfl) ?_
  refine x_get (v := .ref (E.2.2.2 39)) S hW hinX3 0 (xw_0 E _) rfl 15 (by decide) w60 rfl dX3_planIsPossible_1 ?_
  refine x_Vi (rest := []) S (c_X1_size l E n f o ) (cwV 0 S.2.2.2.2 gX3_planIsPossible_X1_size rfl rfl rfl (by decide +kernel) ⟨Nat.le_of_ble_eq_true rfl, Nat.le_of_ble_eq_true rfl⟩) hW 39 (xw_39 E _) rfl rfl rfl hl.1 (Nat.le_of_ble_eq_true rfl) dX3_planIsPossible_4 ⟨Nat.zero_le _, Nat.zero_le _⟩ (fun r4 σ4 H locs hp1 hW => ?_)
  obtain ⟨rfl, rfl⟩ := hp1
  refine x_topN (nm) (hn3) ?_
  refine lv_istore_n (lv' := [(1, .int (nI nm)), (0, .ref (E.2.2.2 0))]) hx hb dX3_planIsPossible_7 rfl hl (by decide) rfl (fun ls hl => ?_)
  refine lv_iconst (v := 0) hx hb dX3_planIsPossible_8 (by decide) ?_
  refine lv_istore_n (lv' := [(2, .int 0), (1, .int (nI nm)), (0, .ref (E.2.2.2 0))]) hx hb dX3_planIsPossible_9 rfl hl (by decide) rfl (fun ls hl => ?_)
  have L10 : ∀ (fu10 : Nat) (i : Nat) (hμ : nm + 1 - i < fu10) (hi : i ≤ nm) (h0 : ∀ q, q < i → xpos (f 4) (f 13) (f 14) x y nm q) (H : Heap) (locs : List Loc) (ls : Array Slot), xSt E (n, f, o) s s.heap H locs → lv_has ls 3 [(0, .ref (E.2.2.2 0)), (1, .int (nI nm)), (2, .int (nI i))] → W p l e rmX3_planIsPossible s m args below meth c H locs 0 0 (MQ below (va_Qi (fun r σ' => (r = 0 ∧ ¬ (∀ i, i < nm → xpos (f 4) (f 13) (f 14) x y nm i) ∧ σ' = (n, f, o)) ∨ (r = 1 ∧ (∀ i, i < nm → xpos (f 4) (f 13) (f 14) x y nm i) ∧ σ' = (n, f, o))) (xWd E) (xA E)) args s 0 0 (xA E)) (F0 m 10 ls []) := by
    intro fu10
    induction fu10 with
    | zero => intro i hμ; exact absurd hμ (Nat.not_lt_zero _)
    | succ fu10 L10 =>
      intro i hμ hi h0 H locs ls hW hl
      refine lv_iload_n hx hb dX3_planIsPossible_10 rfl (lv_at hl 2 rfl) ?_
      refine lv_iload_n hx hb dX3_planIsPossible_11 rfl (lv_at hl 1 rfl) ?_
      refine x_icmp_ge (a := i) (b := nm) (tgt := 64) hx hb dX3_planIsPossible_12 (by decide) (by omega) (by omega) (fun c12 => ?_) (fun c12 => ?_)
      · refine lv_iconst (v := 1) hx hb dX3_planIsPossible_64 (by decide) ?_
        exact x_retz S hr hlk hW dX3_planIsPossible_65 (Or.inr rfl) (.inr ⟨rfl, fun q hq => h0 q (by omega), rfl⟩)
      · refine lv_aload_n hx hb dX3_planIsPossible_15 rfl (lv_at hl 0 rfl) ?_
        refine lv_aload_n hx hb dX3_planIsPossible_16 rfl (lv_at hl 0 rfl) ?_
        refine x_get (v := .ref (E.2.2.2 39)) S hW hinX3 0 (xw_0 E _) rfl 15 (by decide) w60 rfl dX3_planIsPossible_17 ?_
        refine lv_iload_n hx hb dX3_planIsPossible_20 rfl (lv_at hl 2 rfl) ?_
        refine x_Vi (rest := [.ref (E.2.2.2 0)]) S (c_X1_from l E n f o (j := i) (by omega)) (cwV 1 S.2.2.2.2 gX3_planIsPossible_X1_from rfl rfl rfl (by decide +kernel) ⟨Nat.le_of_ble_eq_true rfl, Nat.le_of_ble_eq_true rfl⟩) hW 39 (xw_39 E _) rfl rfl rfl hl.1 (Nat.le_of_ble_eq_true rfl) dX3_planIsPossible_21 ⟨Nat.zero_le _, Nat.zero_le _⟩ (fun r21 σ21 H locs hp2 hW => ?_)
        obtain ⟨rfl, rfl⟩ := hp2
        refine x_topN (x i) ((hxx i (by omega)).1) ?_
        refine x_Vi (rest := []) S (c_X3_hasCable l E n f o (p1 := (x i)) ((hxx i (by omega)).2)) (cwV 1 S.2.2.2.2 gX3_planIsPossible_X3_hasCable rfl rfl rfl (by decide +kernel) ⟨Nat.le_of_ble_eq_true rfl, Nat.le_of_ble_eq_true rfl⟩) hW 0 (xw_0 E _) rfl rfl rfl hl.1 (Nat.le_of_ble_eq_true rfl) dX3_planIsPossible_24 ⟨Nat.zero_le _, Nat.zero_le _⟩ (fun r24 σ24 H locs hp3 hW => ?_)
        rcases hp3 with ⟨rfl, h24, rfl⟩ | ⟨rfl, h24, rfl⟩
        · refine lv_if_eq (tgt := 56) hx hb dX3_planIsPossible_27 (by decide) (fun c27 => ?_) (fun c27 => ?_)
          rotate_left
          · exact absurd c27 (by decide)
          refine lv_iconst (v := 0) hx hb dX3_planIsPossible_56 (by decide) ?_
          exact x_retz S hr hlk hW dX3_planIsPossible_57 (Or.inl rfl) (.inl ⟨rfl, fun h => (by first | exact h24 (h i (by omega)).1 | exact (h i (by omega)).2.1 h35 | exact (h i (by omega)).2.2 h50), rfl⟩)
        · refine lv_if_eq (tgt := 56) hx hb dX3_planIsPossible_27 (by decide) (fun c27 => ?_) (fun c27 => ?_)
          · exact absurd c27 (by decide)
          refine lv_aload_n hx hb dX3_planIsPossible_30 rfl (lv_at hl 0 rfl) ?_
          refine x_get (v := .ref (E.2.2.2 39)) S hW hinX3 0 (xw_0 E _) rfl 15 (by decide) w60 rfl dX3_planIsPossible_31 ?_
          refine lv_iload_n hx hb dX3_planIsPossible_34 rfl (lv_at hl 2 rfl) ?_
          refine x_Vi (rest := []) S (c_X1_repeatsEarlier l E n f o (j := i) (by omega)) (cwV 1 S.2.2.2.2 gX3_planIsPossible_X1_repeatsEarlier rfl rfl rfl (by decide +kernel) ⟨Nat.le_of_ble_eq_true rfl, Nat.le_of_ble_eq_true rfl⟩) hW 39 (xw_39 E _) rfl rfl rfl hl.1 (Nat.le_of_ble_eq_true rfl) dX3_planIsPossible_35 ⟨Nat.zero_le _, Nat.zero_le _⟩ (fun r35 σ35 H locs hp4 hW => ?_)
          rcases hp4 with ⟨rfl, h35, rfl⟩ | ⟨rfl, h35, rfl⟩
          · refine lv_if_ne (tgt := 56) hx hb dX3_planIsPossible_38 (by decide) (fun c38 => ?_) (fun c38 => ?_)
            · exact absurd c38 (by decide)
            refine lv_aload_n hx hb dX3_planIsPossible_41 rfl (lv_at hl 0 rfl) ?_
            refine lv_aload_n hx hb dX3_planIsPossible_42 rfl (lv_at hl 0 rfl) ?_
            refine x_get (v := .ref (E.2.2.2 39)) S hW hinX3 0 (xw_0 E _) rfl 15 (by decide) w60 rfl dX3_planIsPossible_43 ?_
            refine lv_iload_n hx hb dX3_planIsPossible_46 rfl (lv_at hl 2 rfl) ?_
            refine x_Vi (rest := [.ref (E.2.2.2 0)]) S (c_X1_to l E n f o (j := i) (by omega)) (cwV 1 S.2.2.2.2 gX3_planIsPossible_X1_to rfl rfl rfl (by decide +kernel) ⟨Nat.le_of_ble_eq_true rfl, Nat.le_of_ble_eq_true rfl⟩) hW 39 (xw_39 E _) rfl rfl rfl hl.1 (Nat.le_of_ble_eq_true rfl) dX3_planIsPossible_47 ⟨Nat.zero_le _, Nat.zero_le _⟩ (fun r47 σ47 H locs hp5 hW => ?_)
            obtain ⟨rfl, rfl⟩ := hp5
            refine x_topN (y i) ((hyy i (by omega)).1) ?_
            refine x_Vi (rest := []) S (c_X3_staysTaken l E n f o (p1 := (y i)) ((hyy i (by omega)).2) hn3 hm) (cwV 1 S.2.2.2.2 gX3_planIsPossible_X3_staysTaken rfl rfl rfl (by decide +kernel) ⟨Nat.le_of_ble_eq_true rfl, Nat.le_of_ble_eq_true rfl⟩) hW 0 (xw_0 E _) rfl rfl rfl hl.1 (Nat.le_of_ble_eq_true rfl) dX3_planIsPossible_50 ⟨Nat.zero_le _, Nat.zero_le _⟩ (fun r50 σ50 H locs hp6 hW => ?_)
            rcases hp6 with ⟨rfl, h50, rfl⟩ | ⟨rfl, h50, rfl⟩
            · refine lv_if_eq (tgt := 58) hx hb dX3_planIsPossible_53 (by decide) (fun c53 => ?_) (fun c53 => ?_)
              rotate_left
              · exact absurd c53 (by decide)
              refine lv_iinc (v := (nI (i + 1))) (lv' := [(2, .int (nI (i + 1))), (0, .ref (E.2.2.2 0)), (1, .int (nI nm))]) hx hb dX3_planIsPossible_58 hl (k := 2) rfl (x_inc _) (by decide) rfl (fun ls hl => ?_)
              refine lv_goto (tgt := 10) hx hb dX3_planIsPossible_61 (by decide) ?_
              exact L10  (i + 1) (by omega) (by omega) (lt_s h0 ⟨h24, h35, h50⟩) _ _ _ hW (lv_sub hl [1, 2, 0] rfl)
            · refine lv_if_eq (tgt := 58) hx hb dX3_planIsPossible_53 (by decide) (fun c53 => ?_) (fun c53 => ?_)
              · exact absurd c53 (by decide)
              refine lv_iconst (v := 0) hx hb dX3_planIsPossible_56 (by decide) ?_
              exact x_retz S hr hlk hW dX3_planIsPossible_57 (Or.inl rfl) (.inl ⟨rfl, fun h => (by first | exact h24 (h i (by omega)).1 | exact (h i (by omega)).2.1 h35 | exact (h i (by omega)).2.2 h50), rfl⟩)
          · refine lv_if_ne (tgt := 56) hx hb dX3_planIsPossible_38 (by decide) (fun c38 => ?_) (fun c38 => ?_)
            rotate_left
            · exact absurd c38 (by decide)
            refine lv_iconst (v := 0) hx hb dX3_planIsPossible_56 (by decide) ?_
            exact x_retz S hr hlk hW dX3_planIsPossible_57 (Or.inl rfl) (.inl ⟨rfl, fun h => (by first | exact h24 (h i (by omega)).1 | exact (h i (by omega)).2.1 h35 | exact (h i (by omega)).2.2 h50), rfl⟩)
  exact L10 _ (0) (Nat.lt_succ_self _) (by omega) (fun q hq => absurd hq (Nat.not_lt_zero q)) _ _ _ hW (lv_sub hl [2, 1, 0] rfl)

abbrev rmX3_pullPlannedEnds : Room := { frames := 2, cells := 0, slots := 0, locals := 45 }
set_option maxHeartbeats 4000000 in
set_option maxRecDepth 100000 in
theorem c_X3_pullPlannedEnds (l : Launch) (E : xE) (n : Nat → Int32) (f : Nat → Nat → Int32) (o : Nat → Int64) {nm : Nat} (hn3 : n 3 = nI nm) (hm : nm ≤ 12) (x : Nat → Nat) (hxx : ∀ i, i < nm → f 13 i = nI (x i) ∧ x i < 144) : xCv l yX3_pullPlannedEnds wsX3_pullPlannedEnds rmX3_pullPlannedEnds E [.ref (E.2.2.2 0)] (n, f, o) (fun σ' => ∃ G, σ' = (n, G, o) ∧ (∀ q, q ≠ 15 → q ≠ 16 → q ≠ 4 → q ≠ 5 → G q = f q) ∧ (∀ q, q < nm → G 15 q = f 4 (x q) ∧ G 16 q = f 5 (x q)) ∧ (∀ q, q < nm → G 4 (x q) = -1 ∧ G 5 (x q) = 0) ∧ (∀ z, (∀ q, q < nm → x q ≠ z) → G 4 z = f 4 z ∧ G 5 z = f 5 z)) := by
  refine x_startv RX3 (by decide) rfl rfl (Nat.le_of_ble_eq_true rfl) ?_
  intro p e s m args below meth c ls S hr hlk hW hl
  have hx := S.1
  have hb := S.2.1
  have hl : lv_has ls 4 [(0, .ref (E.2.2.2 0))] := hl
  have hinX3 : ∀ w ∈ wsX30, w ∈ wsX3_pullPlannedEnds := by decide +kernel
  have w27 : Cond.fieldLink RX3 27 "CableBook" "cableTo" "LCableBook$Row;" ∈ wsX3_pullPlannedEnds := by decide +kernel
  have w30 : Cond.fieldLink RX3 30 "CableBook" "colourAt" "LCableBook$Row;" ∈ wsX3_pullPlannedEnds := by decide +kernel
  have w60 : Cond.fieldLink RX3 60 "CableBook" "plan" "LCableBook$Plan;" ∈ wsX3_pullPlannedEnds := by decide +kernel
  refine lv_aload_n hx hb dX3_pullPlannedEnds_0 rfl (lv_at hl 0 rfl) ?_
  refine x_get (v := .ref (E.2.2.2 39)) S hW hinX3 0 (xw_0 E _) rfl 15 (by decide) w60 rfl dX3_pullPlannedEnds_1 ?_
  refine x_Vi (rest := []) S (c_X1_size l E n f o ) (cwV 0 S.2.2.2.2 gX3_pullPlannedEnds_X1_size rfl rfl rfl (by decide +kernel) ⟨Nat.le_of_ble_eq_true rfl, Nat.le_of_ble_eq_true rfl⟩) hW 39 (xw_39 E _) rfl rfl rfl hl.1 (Nat.le_of_ble_eq_true rfl) dX3_pullPlannedEnds_4 ⟨Nat.zero_le _, Nat.zero_le _⟩ (fun r4 σ4 H locs hp1 hW => ?_)
  obtain ⟨rfl, rfl⟩ := hp1
  refine x_topN (nm) (hn3) ?_
  refine lv_istore_n (lv' := [(1, .int (nI nm)), (0, .ref (E.2.2.2 0))]) hx hb dX3_pullPlannedEnds_7 rfl hl (by decide) rfl (fun ls hl => ?_)
  refine lv_iconst (v := 0) hx hb dX3_pullPlannedEnds_8 (by decide) ?_
  refine lv_istore_n (lv' := [(2, .int 0), (1, .int (nI nm)), (0, .ref (E.2.2.2 0))]) hx hb dX3_pullPlannedEnds_9 rfl hl (by decide) rfl (fun ls hl => ?_)
  have L10 : ∀ (fu10 : Nat) (i : Nat) (F : Nat → Nat → Int32) (hμ : nm + 1 - i < fu10) (hi : i ≤ nm) (hF : ∀ q, q ≠ 15 → q ≠ 16 → F q = f q) (h15 : ∀ q, q < i → F 15 q = f 4 (x q)) (h16 : ∀ q, q < i → F 16 q = f 5 (x q)) (H : Heap) (locs : List Loc) (ls : Array Slot), xSt E (n, F, o) s s.heap H locs → lv_has ls 4 [(0, .ref (E.2.2.2 0)), (1, .int (nI nm)), (2, .int (nI i))] → W p l e rmX3_pullPlannedEnds s m args below meth c H locs 0 0 (MQ below (va_Qv (fun σ' => ∃ G, σ' = (n, G, o) ∧ (∀ q, q ≠ 15 → q ≠ 16 → q ≠ 4 → q ≠ 5 → G q = f q) ∧ (∀ q, q < nm → G 15 q = f 4 (x q) ∧ G 16 q = f 5 (x q)) ∧ (∀ q, q < nm → G 4 (x q) = -1 ∧ G 5 (x q) = 0) ∧ (∀ z, (∀ q, q < nm → x q ≠ z) → G 4 z = f 4 z ∧ G 5 z = f 5 z)) (xWd E) (xA E)) args s 0 0 (xA E)) (F0 m 10 ls []) := by
    intro fu10
    induction fu10 with
    | zero => intro i F hμ; exact absurd hμ (Nat.not_lt_zero _)
    | succ fu10 L10 =>
      intro i F hμ hi hF h15 h16 H locs ls hW hl
      refine lv_iload_n hx hb dX3_pullPlannedEnds_10 rfl (lv_at hl 2 rfl) ?_
      refine lv_iload_n hx hb dX3_pullPlannedEnds_11 rfl (lv_at hl 1 rfl) ?_
      refine x_icmp_ge (a := i) (b := nm) (tgt := 54) hx hb dX3_pullPlannedEnds_12 (by decide) (by omega) (by omega) (fun c12 => ?_) (fun c12 => ?_)
      · refine lv_iconst (v := 0) hx hb dX3_pullPlannedEnds_54 (by decide) ?_
        refine lv_istore_n (lv' := [(2, .int 0), (0, .ref (E.2.2.2 0)), (1, .int (nI nm))]) hx hb dX3_pullPlannedEnds_55 rfl hl (by decide) rfl (fun ls hl => ?_)
        have L56 : ∀ (fu56 : Nat) (j : Nat) (G : Nat → Nat → Int32) (hμ : nm + 1 - j < fu56) (hj : j ≤ nm) (hG : ∀ q, q ≠ 15 → q ≠ 16 → q ≠ 4 → q ≠ 5 → G q = f q) (g15 : ∀ q, q < nm → G 15 q = f 4 (x q) ∧ G 16 q = f 5 (x q)) (g4 : ∀ q, q < j → G 4 (x q) = -1 ∧ G 5 (x q) = 0) (g5 : ∀ z, (∀ q, q < j → x q ≠ z) → G 4 z = f 4 z ∧ G 5 z = f 5 z) (H : Heap) (locs : List Loc) (ls : Array Slot), xSt E (n, G, o) s s.heap H locs → lv_has ls 4 [(0, .ref (E.2.2.2 0)), (1, .int (nI nm)), (2, .int (nI j))] → W p l e rmX3_pullPlannedEnds s m args below meth c H locs 0 0 (MQ below (va_Qv (fun σ' => ∃ G, σ' = (n, G, o) ∧ (∀ q, q ≠ 15 → q ≠ 16 → q ≠ 4 → q ≠ 5 → G q = f q) ∧ (∀ q, q < nm → G 15 q = f 4 (x q) ∧ G 16 q = f 5 (x q)) ∧ (∀ q, q < nm → G 4 (x q) = -1 ∧ G 5 (x q) = 0) ∧ (∀ z, (∀ q, q < nm → x q ≠ z) → G 4 z = f 4 z ∧ G 5 z = f 5 z)) (xWd E) (xA E)) args s 0 0 (xA E)) (F0 m 56 ls []) := by
          intro fu56
          induction fu56 with
          | zero => intro j G hμ; exact absurd hμ (Nat.not_lt_zero _)
          | succ fu56 L56 =>
            intro j G hμ hj hG g15 g4 g5 H locs ls hW hl
            refine lv_iload_n hx hb dX3_pullPlannedEnds_56 rfl (lv_at hl 2 rfl) ?_
            refine lv_iload_n hx hb dX3_pullPlannedEnds_57 rfl (lv_at hl 1 rfl) ?_
            refine x_icmp_ge (a := j) (b := nm) (tgt := 79) hx hb dX3_pullPlannedEnds_58 (by decide) (by omega) (by omega) (fun c58 => ?_) (fun c58 => ?_)
            · exact x_retv S hr hlk hW dX3_pullPlannedEnds_79 (⟨G, rfl, hG, g15, fun q hq => g4 q (by omega), fun z hz => g5 z (fun q hq => hz q (by omega))⟩)
            · refine lv_aload_n hx hb dX3_pullPlannedEnds_61 rfl (lv_at hl 0 rfl) ?_
              refine lv_aload_n hx hb dX3_pullPlannedEnds_62 rfl (lv_at hl 0 rfl) ?_
              refine x_get (v := .ref (E.2.2.2 39)) S hW hinX3 0 (xw_0 E _) rfl 15 (by decide) w60 rfl dX3_pullPlannedEnds_63 ?_
              refine lv_iload_n hx hb dX3_pullPlannedEnds_66 rfl (lv_at hl 2 rfl) ?_
              refine x_Vi (rest := [.ref (E.2.2.2 0)]) S (c_X1_from l E n G o (j := j) (by omega)) (cwV 1 S.2.2.2.2 gX3_pullPlannedEnds_X1_from rfl rfl rfl (by decide +kernel) ⟨Nat.le_of_ble_eq_true rfl, Nat.le_of_ble_eq_true rfl⟩) hW 39 (xw_39 E _) rfl rfl rfl hl.1 (Nat.le_of_ble_eq_true rfl) dX3_pullPlannedEnds_67 ⟨Nat.zero_le _, Nat.zero_le _⟩ (fun r67 σ67 H locs hp2 hW => ?_)
              obtain ⟨rfl, rfl⟩ := hp2
              refine x_topN (x j) (by rw [hG 13 (by decide) (by decide) (by decide) (by decide)]; exact (hxx j (by omega)).1) ?_
              refine x_Vv (rest := []) S (c_X3_clearCable l E n G o (p1 := (x j)) ((hxx j (by omega)).2)) (cwV 1 S.2.2.2.2 gX3_pullPlannedEnds_X3_clearCable rfl rfl rfl (by decide +kernel) ⟨Nat.le_of_ble_eq_true rfl, Nat.le_of_ble_eq_true rfl⟩) hW 0 (xw_0 E _) rfl rfl rfl hl.1 (Nat.le_of_ble_eq_true rfl) dX3_pullPlannedEnds_70 ⟨Nat.zero_le _, Nat.zero_le _⟩ (fun σ70 H locs hp3 hW => ?_)
              obtain rfl := hp3
              refine lv_iinc (v := (nI (j + 1))) (lv' := [(2, .int (nI (j + 1))), (0, .ref (E.2.2.2 0)), (1, .int (nI nm))]) hx hb dX3_pullPlannedEnds_73 hl (k := 2) rfl (x_inc _) (by decide) rfl (fun ls hl => ?_)
              refine lv_goto (tgt := 56) hx hb dX3_pullPlannedEnds_76 (by decide) ?_
              exact L56  (j + 1) ((xu (xu G 4 (upd (G 4) (x j) (-1))) 5 (upd (G 5) (x j) 0))) (by omega) (by omega) (fun q h1 h2 h3 h4 => by rw [xu_n h4, xu_n h3]; exact hG q h1 h2 h3 h4) (g15) (xcl1 g4) (xcl2 g5) _ _ _ hW (lv_sub hl [1, 2, 0] rfl)
        exact L56 _ (0) (F) (Nat.lt_succ_self _) (by omega) (fun q h1 h2 _ _ => hF q h1 h2) (fun q hq => ⟨h15 q (by omega), h16 q (by omega)⟩) (fun q hq => absurd hq (Nat.not_lt_zero q)) (fun z _ => ⟨by rw [hF 4 (by decide) (by decide)], by rw [hF 5 (by decide) (by decide)]⟩) _ _ _ hW (lv_sub hl [1, 2, 0] rfl)
      · refine lv_aload_n hx hb dX3_pullPlannedEnds_15 rfl (lv_at hl 0 rfl) ?_
        refine x_get (v := .ref (E.2.2.2 39)) S hW hinX3 0 (xw_0 E _) rfl 15 (by decide) w60 rfl dX3_pullPlannedEnds_16 ?_
        refine lv_iload_n hx hb dX3_pullPlannedEnds_19 rfl (lv_at hl 2 rfl) ?_
        refine x_Vi (rest := []) S (c_X1_from l E n F o (j := i) (by omega)) (cwV 1 S.2.2.2.2 gX3_pullPlannedEnds_X1_from rfl rfl rfl (by decide +kernel) ⟨Nat.le_of_ble_eq_true rfl, Nat.le_of_ble_eq_true rfl⟩) hW 39 (xw_39 E _) rfl rfl rfl hl.1 (Nat.le_of_ble_eq_true rfl) dX3_pullPlannedEnds_20 ⟨Nat.zero_le _, Nat.zero_le _⟩ (fun r20 σ20 H locs hp4 hW => ?_)
        obtain ⟨rfl, rfl⟩ := hp4
        refine x_topN (x i) (by rw [hF 13 (by decide) (by decide)]; exact (hxx i (by omega)).1) ?_
        refine lv_istore_n (lv' := [(3, .int (nI (x i))), (0, .ref (E.2.2.2 0)), (1, .int (nI nm)), (2, .int (nI i))]) hx hb dX3_pullPlannedEnds_23 rfl hl (by decide) rfl (fun ls hl => ?_)
        refine lv_aload_n hx hb dX3_pullPlannedEnds_24 rfl (lv_at hl 1 rfl) ?_
        refine x_get (v := .ref (E.2.2.2 39)) S hW hinX3 0 (xw_0 E _) rfl 15 (by decide) w60 rfl dX3_pullPlannedEnds_25 ?_
        refine lv_iload_n hx hb dX3_pullPlannedEnds_28 rfl (lv_at hl 3 rfl) ?_
        refine lv_aload_n hx hb dX3_pullPlannedEnds_29 rfl (lv_at hl 1 rfl) ?_
        refine x_get (v := .ref (E.2.2.2 9)) S hW hinX3 0 (xw_0 E _) rfl 6 (by decide) w27 rfl dX3_pullPlannedEnds_30 ?_
        refine lv_iload_n hx hb dX3_pullPlannedEnds_33 rfl (lv_at hl 0 rfl) ?_
        refine x_Vi (rest := [.int (nI i), .ref (E.2.2.2 39)]) S (c_X2_at l E n F o (i := 4) (by decide) (k := x i) (show _ < 144 from (hxx i (by omega)).2)) (cwV 1 S.2.2.2.2 gX3_pullPlannedEnds_X2_at rfl rfl rfl (by decide +kernel) ⟨Nat.le_of_ble_eq_true rfl, Nat.le_of_ble_eq_true rfl⟩) hW 9 (xw_9 E _) rfl rfl rfl hl.1 (Nat.le_of_ble_eq_true rfl) dX3_pullPlannedEnds_34 ⟨Nat.zero_le _, Nat.zero_le _⟩ (fun r34 σ34 H locs hp5 hW => ?_)
        obtain ⟨rfl, rfl⟩ := hp5
        refine lv_aload_n hx hb dX3_pullPlannedEnds_37 rfl (lv_at hl 1 rfl) ?_
        refine x_get (v := .ref (E.2.2.2 11)) S hW hinX3 0 (xw_0 E _) rfl 7 (by decide) w30 rfl dX3_pullPlannedEnds_38 ?_
        refine lv_iload_n hx hb dX3_pullPlannedEnds_41 rfl (lv_at hl 0 rfl) ?_
        refine x_Vi (rest := [.int ((F 4) (x i)), .int (nI i), .ref (E.2.2.2 39)]) S (c_X2_at l E n F o (i := 5) (by decide) (k := x i) (show _ < 144 from (hxx i (by omega)).2)) (cwV 1 S.2.2.2.2 gX3_pullPlannedEnds_X2_at rfl rfl rfl (by decide +kernel) ⟨Nat.le_of_ble_eq_true rfl, Nat.le_of_ble_eq_true rfl⟩) hW 11 (xw_11 E _) rfl rfl rfl hl.1 (Nat.le_of_ble_eq_true rfl) dX3_pullPlannedEnds_42 ⟨Nat.zero_le _, Nat.zero_le _⟩ (fun r42 σ42 H locs hp6 hW => ?_)
        obtain ⟨rfl, rfl⟩ := hp6
        refine x_Vv (rest := []) S (c_X1_keepCable l E n F o (j := i) (by omega) ((F 4) (x i)) ((F 5) (x i))) (cwV 3 S.2.2.2.2 gX3_pullPlannedEnds_X1_keepCable rfl rfl rfl (by decide +kernel) ⟨Nat.le_of_ble_eq_true rfl, Nat.le_of_ble_eq_true rfl⟩) hW 39 (xw_39 E _) rfl rfl rfl hl.1 (Nat.le_of_ble_eq_true rfl) dX3_pullPlannedEnds_45 ⟨Nat.zero_le _, Nat.zero_le _⟩ (fun σ45 H locs hp7 hW => ?_)
        obtain rfl := hp7
        refine lv_iinc (v := (nI (i + 1))) (lv' := [(2, .int (nI (i + 1))), (3, .int (nI (x i))), (0, .ref (E.2.2.2 0)), (1, .int (nI nm))]) hx hb dX3_pullPlannedEnds_48 hl (k := 3) rfl (x_inc _) (by decide) rfl (fun ls hl => ?_)
        refine lv_goto (tgt := 10) hx hb dX3_pullPlannedEnds_51 (by decide) ?_
        exact L10  (i + 1) ((xu (xu F 15 (upd (F 15) i ((F 4) (x i)))) 16 (upd (F 16) i ((F 5) (x i))))) (by omega) (by omega) (fun q h1 h2 => by rw [xu_n h2, xu_n h1]; exact hF q h1 h2) (upd_ltP (P := fun q z => z = f 4 (x q)) h15 (by rw [hF 4 (by decide) (by decide)])) (upd_ltP (P := fun q z => z = f 5 (x q)) h16 (by rw [hF 5 (by decide) (by decide)])) _ _ _ hW (lv_sub hl [2, 3, 0] rfl)
  exact L10 _ (0) (f) (Nat.lt_succ_self _) (by omega) (fun _ _ _ => rfl) (fun q hq => absurd hq (Nat.not_lt_zero q)) (fun q hq => absurd hq (Nat.not_lt_zero q)) _ _ _ hW (lv_sub hl [2, 1, 0] rfl)

abbrev rmX3_plugPlannedEnds : Room := { frames := 3, cells := 0, slots := 0, locals := 64 }
set_option maxHeartbeats 4000000 in
set_option maxRecDepth 100000 in
theorem c_X3_plugPlannedEnds (l : Launch) (E : xE) (n : Nat → Int32) (f : Nat → Nat → Int32) (o : Nat → Int64) {nm : Nat} (hn3 : n 3 = nI nm) (hm : nm ≤ 12) (y z : Nat → Nat) (hyy : ∀ i, i < nm → f 14 i = nI (y i) ∧ y i < 144) (hzz : ∀ i, i < nm → ∀ r, xmv (f 13) (f 14) nm (f 15 i) r → r = nI (z i) ∧ z i < 144) (NC NK : Nat → Int32) (hco : ∀ q, q < nm → (NC (y q) = nI (z q) ∧ NC (z q) = nI (y q)) ∧ NK (y q) = f 16 q ∧ NK (z q) = f 16 q) : xCv l yX3_plugPlannedEnds wsX3_plugPlannedEnds rmX3_plugPlannedEnds E [.ref (E.2.2.2 0)] (n, f, o) (fun σ' => ∃ G, σ' = (n, G, o) ∧ (∀ q, q ≠ 4 → q ≠ 5 → G q = f q) ∧ (∀ q, q < nm → (G 4 (y q) = NC (y q) ∧ G 4 (z q) = NC (z q)) ∧ G 5 (y q) = NK (y q) ∧ G 5 (z q) = NK (z q)) ∧ (∀ w, (∀ q, q < nm → y q ≠ w ∧ z q ≠ w) → G 4 w = f 4 w ∧ G 5 w = f 5 w)) := by
  refine x_startv RX3 (by decide) rfl rfl (Nat.le_of_ble_eq_true rfl) ?_
  intro p e s m args below meth c ls S hr hlk hW hl
  have hx := S.1
  have hb := S.2.1
  have hl : lv_has ls 4 [(0, .ref (E.2.2.2 0))] := hl
  have hinX3 : ∀ w ∈ wsX30, w ∈ wsX3_plugPlannedEnds := by decide +kernel
  have w60 : Cond.fieldLink RX3 60 "CableBook" "plan" "LCableBook$Plan;" ∈ wsX3_plugPlannedEnds := by decide +kernel
  refine lv_aload_n hx hb dX3_plugPlannedEnds_0 rfl (lv_at hl 0 rfl) ?_
  refine x_get (v := .ref (E.2.2.2 39)) S hW hinX3 0 (xw_0 E _) rfl 15 (by decide) w60 rfl dX3_plugPlannedEnds_1 ?_
  refine x_Vi (rest := []) S (c_X1_size l E n f o ) (cwV 0 S.2.2.2.2 gX3_plugPlannedEnds_X1_size rfl rfl rfl (by decide +kernel) ⟨Nat.le_of_ble_eq_true rfl, Nat.le_of_ble_eq_true rfl⟩) hW 39 (xw_39 E _) rfl rfl rfl hl.1 (Nat.le_of_ble_eq_true rfl) dX3_plugPlannedEnds_4 ⟨Nat.zero_le _, Nat.zero_le _⟩ (fun r4 σ4 H locs hp1 hW => ?_)
  obtain ⟨rfl, rfl⟩ := hp1
  refine x_topN (nm) (hn3) ?_
  refine lv_istore_n (lv' := [(1, .int (nI nm)), (0, .ref (E.2.2.2 0))]) hx hb dX3_plugPlannedEnds_7 rfl hl (by decide) rfl (fun ls hl => ?_)
  refine lv_iconst (v := 0) hx hb dX3_plugPlannedEnds_8 (by decide) ?_
  refine lv_istore_n (lv' := [(2, .int 0), (1, .int (nI nm)), (0, .ref (E.2.2.2 0))]) hx hb dX3_plugPlannedEnds_9 rfl hl (by decide) rfl (fun ls hl => ?_)
  have L10 : ∀ (fu10 : Nat) (i : Nat) (G : Nat → Nat → Int32) (hμ : nm + 1 - i < fu10) (hi : i ≤ nm) (hG : ∀ q, q ≠ 4 → q ≠ 5 → G q = f q) (g4 : ∀ q, q < i → (G 4 (y q) = NC (y q) ∧ G 4 (z q) = NC (z q)) ∧ G 5 (y q) = NK (y q) ∧ G 5 (z q) = NK (z q)) (g5 : ∀ w, (∀ q, q < i → y q ≠ w ∧ z q ≠ w) → G 4 w = f 4 w ∧ G 5 w = f 5 w) (H : Heap) (locs : List Loc) (ls : Array Slot), xSt E (n, G, o) s s.heap H locs → lv_has ls 4 [(0, .ref (E.2.2.2 0)), (1, .int (nI nm)), (2, .int (nI i))] → W p l e rmX3_plugPlannedEnds s m args below meth c H locs 0 0 (MQ below (va_Qv (fun σ' => ∃ G, σ' = (n, G, o) ∧ (∀ q, q ≠ 4 → q ≠ 5 → G q = f q) ∧ (∀ q, q < nm → (G 4 (y q) = NC (y q) ∧ G 4 (z q) = NC (z q)) ∧ G 5 (y q) = NK (y q) ∧ G 5 (z q) = NK (z q)) ∧ (∀ w, (∀ q, q < nm → y q ≠ w ∧ z q ≠ w) → G 4 w = f 4 w ∧ G 5 w = f 5 w)) (xWd E) (xA E)) args s 0 0 (xA E)) (F0 m 10 ls []) := by
    intro fu10
    induction fu10 with
    | zero => intro i G hμ; exact absurd hμ (Nat.not_lt_zero _)
    | succ fu10 L10 =>
      intro i G hμ hi hG g4 g5 H locs ls hW hl
      refine lv_iload_n hx hb dX3_plugPlannedEnds_10 rfl (lv_at hl 2 rfl) ?_
      refine lv_iload_n hx hb dX3_plugPlannedEnds_11 rfl (lv_at hl 1 rfl) ?_
      refine x_icmp_ge (a := i) (b := nm) (tgt := 58) hx hb dX3_plugPlannedEnds_12 (by decide) (by omega) (by omega) (fun c12 => ?_) (fun c12 => ?_)
      · exact x_retv S hr hlk hW dX3_plugPlannedEnds_58 (⟨G, rfl, hG, fun q hq => g4 q (by omega), fun w hw => g5 w (fun q hq => hw q (by omega))⟩)
      · refine lv_aload_n hx hb dX3_plugPlannedEnds_15 rfl (lv_at hl 0 rfl) ?_
        refine x_get (v := .ref (E.2.2.2 39)) S hW hinX3 0 (xw_0 E _) rfl 15 (by decide) w60 rfl dX3_plugPlannedEnds_16 ?_
        refine lv_aload_n hx hb dX3_plugPlannedEnds_19 rfl (lv_at hl 0 rfl) ?_
        refine x_get (v := .ref (E.2.2.2 39)) S hW hinX3 0 (xw_0 E _) rfl 15 (by decide) w60 rfl dX3_plugPlannedEnds_20 ?_
        refine lv_iload_n hx hb dX3_plugPlannedEnds_23 rfl (lv_at hl 2 rfl) ?_
        refine x_Vi (rest := [.ref (E.2.2.2 39)]) S (c_X1_keptOther l E n G o (j := i) (by omega)) (cwV 1 S.2.2.2.2 gX3_plugPlannedEnds_X1_keptOther rfl rfl rfl (by decide +kernel) ⟨Nat.le_of_ble_eq_true rfl, Nat.le_of_ble_eq_true rfl⟩) hW 39 (xw_39 E _) rfl rfl rfl hl.1 (Nat.le_of_ble_eq_true rfl) dX3_plugPlannedEnds_24 ⟨Nat.zero_le _, Nat.zero_le _⟩ (fun r24 σ24 H locs hp2 hW => ?_)
        obtain ⟨rfl, rfl⟩ := hp2
        refine x_Vi (rest := []) S (c_X1_placeAfterwards l E n G o ((G 15) i) hn3 hm) (cwV 1 S.2.2.2.2 gX3_plugPlannedEnds_X1_placeAfterwards rfl rfl rfl (by decide +kernel) ⟨Nat.le_of_ble_eq_true rfl, Nat.le_of_ble_eq_true rfl⟩) hW 39 (xw_39 E _) rfl rfl rfl hl.1 (Nat.le_of_ble_eq_true rfl) dX3_plugPlannedEnds_27 ⟨Nat.zero_le _, Nat.zero_le _⟩ (fun r27 σ27 H locs hp3 hW => ?_)
        obtain ⟨h27, rfl⟩ := hp3
        have h28 := hzz i (by omega) r27 (by have h29 := h27; rw [hG 13 (by decide) (by decide), hG 14 (by decide) (by decide), hG 15 (by decide) (by decide)] at h29; exact h29)
        refine x_topN (z i) (h28.1) ?_
        refine lv_istore_n (lv' := [(3, .int (nI (z i))), (0, .ref (E.2.2.2 0)), (1, .int (nI nm)), (2, .int (nI i))]) hx hb dX3_plugPlannedEnds_30 rfl hl (by decide) rfl (fun ls hl => ?_)
        refine lv_aload_n hx hb dX3_plugPlannedEnds_31 rfl (lv_at hl 1 rfl) ?_
        refine lv_aload_n hx hb dX3_plugPlannedEnds_32 rfl (lv_at hl 1 rfl) ?_
        refine x_get (v := .ref (E.2.2.2 39)) S hW hinX3 0 (xw_0 E _) rfl 15 (by decide) w60 rfl dX3_plugPlannedEnds_33 ?_
        refine lv_iload_n hx hb dX3_plugPlannedEnds_36 rfl (lv_at hl 3 rfl) ?_
        refine x_Vi (rest := [.ref (E.2.2.2 0)]) S (c_X1_to l E n G o (j := i) (by omega)) (cwV 1 S.2.2.2.2 gX3_plugPlannedEnds_X1_to rfl rfl rfl (by decide +kernel) ⟨Nat.le_of_ble_eq_true rfl, Nat.le_of_ble_eq_true rfl⟩) hW 39 (xw_39 E _) rfl rfl rfl hl.1 (Nat.le_of_ble_eq_true rfl) dX3_plugPlannedEnds_37 ⟨Nat.zero_le _, Nat.zero_le _⟩ (fun r37 σ37 H locs hp4 hW => ?_)
        obtain ⟨rfl, rfl⟩ := hp4
        refine x_topN (y i) (by rw [hG 14 (by decide) (by decide)]; exact (hyy i (by omega)).1) ?_
        refine lv_iload_n hx hb dX3_plugPlannedEnds_40 rfl (lv_at hl 0 rfl) ?_
        refine lv_aload_n hx hb dX3_plugPlannedEnds_41 rfl (lv_at hl 1 rfl) ?_
        refine x_get (v := .ref (E.2.2.2 39)) S hW hinX3 0 (xw_0 E _) rfl 15 (by decide) w60 rfl dX3_plugPlannedEnds_42 ?_
        refine lv_iload_n hx hb dX3_plugPlannedEnds_45 rfl (lv_at hl 3 rfl) ?_
        refine x_Vi (rest := [.int (nI (z i)), .int (nI (y i)), .ref (E.2.2.2 0)]) S (c_X1_keptColour l E n G o (j := i) (by omega)) (cwV 1 S.2.2.2.2 gX3_plugPlannedEnds_X1_keptColour rfl rfl rfl (by decide +kernel) ⟨Nat.le_of_ble_eq_true rfl, Nat.le_of_ble_eq_true rfl⟩) hW 39 (xw_39 E _) rfl rfl rfl hl.1 (Nat.le_of_ble_eq_true rfl) dX3_plugPlannedEnds_46 ⟨Nat.zero_le _, Nat.zero_le _⟩ (fun r46 σ46 H locs hp5 hW => ?_)
        obtain ⟨rfl, rfl⟩ := hp5
        refine x_Vv (rest := []) S (c_X3_joinByCable l E n G o (p1 := (y i)) ((hyy i (by omega)).2) (p2 := (z i)) (h28.2) ((G 16) i)) (cwV 3 S.2.2.2.2 gX3_plugPlannedEnds_X3_joinByCable rfl rfl rfl (by decide +kernel) ⟨Nat.le_of_ble_eq_true rfl, Nat.le_of_ble_eq_true rfl⟩) hW 0 (xw_0 E _) rfl rfl rfl hl.1 (Nat.le_of_ble_eq_true rfl) dX3_plugPlannedEnds_49 ⟨Nat.zero_le _, Nat.zero_le _⟩ (fun σ49 H locs hp6 hW => ?_)
        obtain rfl := hp6
        refine lv_iinc (v := (nI (i + 1))) (lv' := [(2, .int (nI (i + 1))), (3, .int (nI (z i))), (0, .ref (E.2.2.2 0)), (1, .int (nI nm))]) hx hb dX3_plugPlannedEnds_52 hl (k := 3) rfl (x_inc _) (by decide) rfl (fun ls hl => ?_)
        refine lv_goto (tgt := 10) hx hb dX3_plugPlannedEnds_55 (by decide) ?_
        exact L10  (i + 1) ((xu (xu G 4 (upd (upd (G 4) (y i) (nI (z i))) (z i) (nI (y i)))) 5 (upd (upd (G 5) (y i) ((G 16) i)) (z i) ((G 16) i)))) (by omega) (by omega) (fun q h1 h2 => by rw [xu_n h2, xu_n h1]; exact hG q h1 h2) (xpl1 g4 (hco i (by omega)) (by rw [hG 16 (by decide) (by decide)])) (xpl2 g5) _ _ _ hW (lv_sub hl [2, 3, 0] rfl)
  exact L10 _ (0) (f) (Nat.lt_succ_self _) (by omega) (fun _ _ _ => rfl) (fun q hq => absurd hq (Nat.not_lt_zero q)) (fun _ _ => ⟨rfl, rfl⟩) _ _ _ hW (lv_sub hl [2, 1, 0] rfl)

abbrev rmX3_trace : Room := { frames := 2, cells := 0, slots := 0, locals := 42 }
set_option maxHeartbeats 4000000 in
set_option maxRecDepth 100000 in
theorem c_X3_trace (l : Launch) (E : xE) (n : Nat → Int32) (f : Nat → Nat → Int32) (o : Nat → Int64) {no : Nat} (hno : no ≤ 144) (hC : xM no (f 4)) (hS : xM no (xop (f 6) (f 17))) {p1 : Nat} (h1 : p1 < no) (b : Bool) : xCi l yX3_trace wsX3_trace rmX3_trace E [.ref (E.2.2.2 0), .int (nI p1), .int (bz b)] (n, f, o) (fun r σ' => ∃ K g, r = nI K ∧ σ' = (n, xu f 11 g, o) ∧ xStop (f 4) (xop (f 6) (f 17)) b p1 K ∧ ∀ k, k < K → g k = xw (f 4) (xop (f 6) (f 17)) b p1 (k + 1)) := by
  refine x_starti RX3 (by decide) rfl rfl (Nat.le_of_ble_eq_true rfl) ?_
  intro p e s m args below meth c ls S hr hlk hW hl
  have hx := S.1
  have hb := S.2.1
  have hl : lv_has ls 6 [(0, .ref (E.2.2.2 0)), (1, .int (nI p1)), (2, .int (bz b))] := hl
  have hinX3 : ∀ w ∈ wsX30, w ∈ wsX3_trace := by decide +kernel
  have w27 : Cond.fieldLink RX3 27 "CableBook" "cableTo" "LCableBook$Row;" ∈ wsX3_trace := by decide +kernel
  have w64 : Cond.fieldLink RX3 64 "CableBook" "trail" "LCableBook$Row;" ∈ wsX3_trace := by decide +kernel
  refine lv_iload_n hx hb dX3_trace_0 rfl (lv_at hl 1 rfl) ?_
  refine lv_istore_n (lv' := [(3, .int (nI p1)), (0, .ref (E.2.2.2 0)), (1, .int (nI p1)), (2, .int (bz b))]) hx hb dX3_trace_1 rfl hl (by decide) rfl (fun ls hl => ?_)
  refine lv_iload_n hx hb dX3_trace_2 rfl (lv_at hl 3 rfl) ?_
  refine lv_istore (lv' := [(4, .int (bz b)), (3, .int (nI p1)), (0, .ref (E.2.2.2 0)), (1, .int (nI p1)), (2, .int (bz b))]) hx hb dX3_trace_3 hl (by decide) rfl (fun ls hl => ?_)
  refine lv_iconst (v := 0) hx hb dX3_trace_5 (by decide) ?_
  refine lv_istore (lv' := [(5, .int 0), (4, .int (bz b)), (3, .int (nI p1)), (0, .ref (E.2.2.2 0)), (1, .int (nI p1)), (2, .int (bz b))]) hx hb dX3_trace_6 hl (by decide) rfl (fun ls hl => ?_)
  have L8 : ∀ (fu8 : Nat) (i q : Nat) (F : Nat → Nat → Int32) (hμ : 145 - i < fu8) (hi : i ≤ 144) (hq : q < no) (hF : ∀ j, j ≠ 11 → F j = f j) (hw : xw (f 4) (xop (f 6) (f 17)) b p1 i = nI q) (hne : ∀ k, k < i → xw (f 4) (xop (f 6) (f 17)) b p1 (k + 1) ≠ -1) (hnr : ∀ k, k < i → xw (f 4) (xop (f 6) (f 17)) b p1 (k + 1) ≠ nI p1) (hg : ∀ k, k < i → F 11 k = xw (f 4) (xop (f 6) (f 17)) b p1 (k + 1)) (H : Heap) (locs : List Loc) (ls : Array Slot), xSt E (n, F, o) s s.heap H locs → lv_has ls 6 [(0, .ref (E.2.2.2 0)), (1, .int (nI p1)), (3, .int (nI q)), (4, .int (bz (xdir b i))), (5, .int (nI i))] → W p l e rmX3_trace s m args below meth c H locs 0 0 (MQ below (va_Qi (fun r σ' => ∃ K g, r = nI K ∧ σ' = (n, xu f 11 g, o) ∧ xStop (f 4) (xop (f 6) (f 17)) b p1 K ∧ ∀ k, k < K → g k = xw (f 4) (xop (f 6) (f 17)) b p1 (k + 1)) (xWd E) (xA E)) args s 0 0 (xA E)) (F0 m 8 ls []) := by
    intro fu8
    induction fu8 with
    | zero => intro i q F hμ; exact absurd hμ (Nat.not_lt_zero _)
    | succ fu8 L8 =>
      intro i q F hμ hi hq hF hw hne hnr hg H locs ls hW hl
      refine lv_iload hx hb dX3_trace_8 (lv_at hl 4 rfl) ?_
      refine lv_sipush (v := 144) hx hb dX3_trace_10 (by decide) ?_
      refine x_icmp_ge (a := i) (b := 144) (tgt := 84) hx hb dX3_trace_13 (by decide) (by omega) (by omega) (fun c13 => ?_) (fun c13 => ?_)
      · exact absurd c13 (by have := xw_short (c := b) (by omega) hC hS h1 hne hnr; omega)
      refine lv_iload hx hb dX3_trace_16 (lv_at hl 3 rfl) ?_
      refine lv_if_eq (tgt := 32) hx hb dX3_trace_18 (by decide) (fun c18 => ?_) (fun c18 => ?_)
      · refine lv_aload_n hx hb dX3_trace_32 rfl (lv_at hl 0 rfl) ?_
        refine lv_iload_n hx hb dX3_trace_33 rfl (lv_at hl 2 rfl) ?_
        refine x_Vi (rest := []) S (c_X3_openStrandFrom l E n F o (p1 := q) (by omega)) (cwV 1 S.2.2.2.2 gX3_trace_X3_openStrandFrom rfl rfl rfl (by decide +kernel) ⟨Nat.le_of_ble_eq_true rfl, Nat.le_of_ble_eq_true rfl⟩) hW 0 (xw_0 E _) rfl rfl rfl hl.1 (Nat.le_of_ble_eq_true rfl) dX3_trace_34 ⟨Nat.zero_le _, Nat.zero_le _⟩ (fun r34 σ34 H locs hp1 hW => ?_)
        obtain ⟨rfl, rfl⟩ := hp1
        refine x_topE (xw (f 4) (xop (f 6) (f 17)) b p1 (i + 1)) (by rw [xw_step hw (by omega), bz_e c18, hF 6 (by decide), hF 17 (by decide)]; rfl) ?_
        refine lv_istore_n (lv' := [(3, .int (xw (f 4) (xop (f 6) (f 17)) b p1 (i + 1))), (0, .ref (E.2.2.2 0)), (1, .int (nI p1)), (4, .int (bz (xdir b i))), (5, .int (nI i))]) hx hb dX3_trace_37 rfl hl (by decide) rfl (fun ls hl => ?_)
        refine lv_iload_n hx hb dX3_trace_38 rfl (lv_at hl 0 rfl) ?_
        refine lv_iconst (v := (-1)) hx hb dX3_trace_39 (by decide) ?_
        refine lv_icmp_ne (tgt := 46) hx hb dX3_trace_40 (by decide) (fun c40 => ?_) (fun c40 => ?_)
        · obtain ⟨q2, hq2, e2⟩ := (xw_in (c := b) (by omega) hC hS h1 (i + 1)).resolve_left c40
          rw [e2] at hl
          refine lv_aload_n hx hb dX3_trace_46 rfl (lv_at hl 1 rfl) ?_
          refine x_get (v := .ref (E.2.2.2 23)) S hW hinX3 0 (xw_0 E _) rfl 16 (by decide) w64 rfl dX3_trace_47 ?_
          refine lv_iload hx hb dX3_trace_50 (lv_at hl 4 rfl) ?_
          refine lv_iload_n hx hb dX3_trace_52 rfl (lv_at hl 0 rfl) ?_
          refine x_Vv (rest := []) S (c_X2_put l E n F o (i := 11) (by decide) (k := i) (show _ < 144 from by omega) (nI q2)) (cwV 2 S.2.2.2.2 gX3_trace_X2_put rfl rfl rfl (by decide +kernel) ⟨Nat.le_of_ble_eq_true rfl, Nat.le_of_ble_eq_true rfl⟩) hW 23 (xw_23 E _) rfl rfl rfl hl.1 (Nat.le_of_ble_eq_true rfl) dX3_trace_53 ⟨Nat.zero_le _, Nat.zero_le _⟩ (fun σ53 H locs hp2 hW => ?_)
          obtain rfl := hp2
          refine lv_iload_n hx hb dX3_trace_56 rfl (lv_at hl 0 rfl) ?_
          refine lv_iload_n hx hb dX3_trace_57 rfl (lv_at hl 2 rfl) ?_
          refine x_icmp_ne (a := q2) (b := p1) (tgt := 66) hx hb dX3_trace_58 (by decide) (by omega) (by omega) (fun c58 => ?_) (fun c58 => ?_)
          · refine lv_iload hx hb dX3_trace_66 (lv_at hl 3 rfl) ?_
            refine lv_if_ne (tgt := 75) hx hb dX3_trace_68 (by decide) (fun c68 => ?_) (fun c68 => ?_)
            · refine lv_iconst (v := 0) hx hb dX3_trace_75 (by decide) ?_
              refine x_topE (bz (xdir b (i + 1))) ((by rw [xdir_s]; exact bz_f0 c68)) ?_
              refine lv_istore (lv' := [(4, .int (bz (xdir b (i + 1)))), (3, .int (nI q2)), (0, .ref (E.2.2.2 0)), (1, .int (nI p1)), (5, .int (nI i))]) hx hb dX3_trace_76 hl (by decide) rfl (fun ls hl => ?_)
              refine lv_iinc (v := (nI (i + 1))) (lv' := [(5, .int (nI (i + 1))), (4, .int (bz (xdir b (i + 1)))), (3, .int (nI q2)), (0, .ref (E.2.2.2 0)), (1, .int (nI p1))]) hx hb dX3_trace_78 hl (k := 4) rfl (x_inc _) (by decide) rfl (fun ls hl => ?_)
              refine lv_goto (tgt := 8) hx hb dX3_trace_81 (by decide) ?_
              exact L8  (i + 1) (q2) ((xu F 11 (upd (F 11) i (nI q2)))) (by omega) (by omega) (hq2) (xu_keep hF) (e2) (lt_s hne c40) (lt_s hnr (by rw [e2]; exact fun h => c58 (nI_inj (by omega) (by omega) h))) (upd_ltP (P := fun k z => z = xw (f 4) (xop (f 6) (f 17)) b p1 (k + 1)) hg e2.symm) _ _ _ hW (lv_sub hl [3, 4, 2, 1, 0] rfl)
            · refine lv_iconst (v := 1) hx hb dX3_trace_71 (by decide) ?_
              refine lv_goto (tgt := 76) hx hb dX3_trace_72 (by decide) ?_
              refine x_topE (bz (xdir b (i + 1))) ((by rw [xdir_s]; exact bz_f1 c68)) ?_
              refine lv_istore (lv' := [(4, .int (bz (xdir b (i + 1)))), (3, .int (nI q2)), (0, .ref (E.2.2.2 0)), (1, .int (nI p1)), (5, .int (nI i))]) hx hb dX3_trace_76 hl (by decide) rfl (fun ls hl => ?_)
              refine lv_iinc (v := (nI (i + 1))) (lv' := [(5, .int (nI (i + 1))), (4, .int (bz (xdir b (i + 1)))), (3, .int (nI q2)), (0, .ref (E.2.2.2 0)), (1, .int (nI p1))]) hx hb dX3_trace_78 hl (k := 4) rfl (x_inc _) (by decide) rfl (fun ls hl => ?_)
              refine lv_goto (tgt := 8) hx hb dX3_trace_81 (by decide) ?_
              exact L8  (i + 1) (q2) ((xu F 11 (upd (F 11) i (nI q2)))) (by omega) (by omega) (hq2) (xu_keep hF) (e2) (lt_s hne c40) (lt_s hnr (by rw [e2]; exact fun h => c58 (nI_inj (by omega) (by omega) h))) (upd_ltP (P := fun k z => z = xw (f 4) (xop (f 6) (f 17)) b p1 (k + 1)) hg e2.symm) _ _ _ hW (lv_sub hl [3, 4, 2, 1, 0] rfl)
          · refine lv_iload hx hb dX3_trace_61 (lv_at hl 4 rfl) ?_
            refine lv_iconst (v := 1) hx hb dX3_trace_63 (by decide) ?_
            refine x_iadd (a := i) (b := 1) hx hb dX3_trace_64 ?_
            exact x_reti S hr hlk hW dX3_trace_65 (⟨i + 1, upd (F 11) i (nI q2), rfl, by rw [xu_base hF], ⟨lt_s hne c40, fun k hk => hnr k (by omega), Or.inr ⟨by omega, by rw [e2, c58]⟩⟩, upd_ltP (P := fun k z => z = xw (f 4) (xop (f 6) (f 17)) b p1 (k + 1)) hg e2.symm⟩)
        · refine lv_iload hx hb dX3_trace_43 (lv_at hl 4 rfl) ?_
          exact x_reti S hr hlk hW dX3_trace_45 (⟨i, F 11, rfl, by rw [← xu_of hF], ⟨hne, fun k hk => hnr k (by omega), Or.inl c40⟩, hg⟩)
      · refine lv_aload_n hx hb dX3_trace_21 rfl (lv_at hl 0 rfl) ?_
        refine x_get (v := .ref (E.2.2.2 9)) S hW hinX3 0 (xw_0 E _) rfl 6 (by decide) w27 rfl dX3_trace_22 ?_
        refine lv_iload_n hx hb dX3_trace_25 rfl (lv_at hl 2 rfl) ?_
        refine x_Vi (rest := []) S (c_X2_at l E n F o (i := 4) (by decide) (k := q) (show _ < 144 from by omega)) (cwV 1 S.2.2.2.2 gX3_trace_X2_at rfl rfl rfl (by decide +kernel) ⟨Nat.le_of_ble_eq_true rfl, Nat.le_of_ble_eq_true rfl⟩) hW 9 (xw_9 E _) rfl rfl rfl hl.1 (Nat.le_of_ble_eq_true rfl) dX3_trace_26 ⟨Nat.zero_le _, Nat.zero_le _⟩ (fun r26 σ26 H locs hp3 hW => ?_)
        obtain ⟨rfl, rfl⟩ := hp3
        refine x_topE (xw (f 4) (xop (f 6) (f 17)) b p1 (i + 1)) (by rw [xw_step hw (by omega), bz_t c18, hF 4 (by decide)]; rfl) ?_
        refine lv_goto (tgt := 37) hx hb dX3_trace_29 (by decide) ?_
        refine lv_istore_n (lv' := [(3, .int (xw (f 4) (xop (f 6) (f 17)) b p1 (i + 1))), (0, .ref (E.2.2.2 0)), (1, .int (nI p1)), (4, .int (bz (xdir b i))), (5, .int (nI i))]) hx hb dX3_trace_37 rfl hl (by decide) rfl (fun ls hl => ?_)
        refine lv_iload_n hx hb dX3_trace_38 rfl (lv_at hl 0 rfl) ?_
        refine lv_iconst (v := (-1)) hx hb dX3_trace_39 (by decide) ?_
        refine lv_icmp_ne (tgt := 46) hx hb dX3_trace_40 (by decide) (fun c40 => ?_) (fun c40 => ?_)
        · obtain ⟨q2, hq2, e2⟩ := (xw_in (c := b) (by omega) hC hS h1 (i + 1)).resolve_left c40
          rw [e2] at hl
          refine lv_aload_n hx hb dX3_trace_46 rfl (lv_at hl 1 rfl) ?_
          refine x_get (v := .ref (E.2.2.2 23)) S hW hinX3 0 (xw_0 E _) rfl 16 (by decide) w64 rfl dX3_trace_47 ?_
          refine lv_iload hx hb dX3_trace_50 (lv_at hl 4 rfl) ?_
          refine lv_iload_n hx hb dX3_trace_52 rfl (lv_at hl 0 rfl) ?_
          refine x_Vv (rest := []) S (c_X2_put l E n F o (i := 11) (by decide) (k := i) (show _ < 144 from by omega) (nI q2)) (cwV 2 S.2.2.2.2 gX3_trace_X2_put rfl rfl rfl (by decide +kernel) ⟨Nat.le_of_ble_eq_true rfl, Nat.le_of_ble_eq_true rfl⟩) hW 23 (xw_23 E _) rfl rfl rfl hl.1 (Nat.le_of_ble_eq_true rfl) dX3_trace_53 ⟨Nat.zero_le _, Nat.zero_le _⟩ (fun σ53 H locs hp4 hW => ?_)
          obtain rfl := hp4
          refine lv_iload_n hx hb dX3_trace_56 rfl (lv_at hl 0 rfl) ?_
          refine lv_iload_n hx hb dX3_trace_57 rfl (lv_at hl 2 rfl) ?_
          refine x_icmp_ne (a := q2) (b := p1) (tgt := 66) hx hb dX3_trace_58 (by decide) (by omega) (by omega) (fun c58 => ?_) (fun c58 => ?_)
          · refine lv_iload hx hb dX3_trace_66 (lv_at hl 3 rfl) ?_
            refine lv_if_ne (tgt := 75) hx hb dX3_trace_68 (by decide) (fun c68 => ?_) (fun c68 => ?_)
            · refine lv_iconst (v := 0) hx hb dX3_trace_75 (by decide) ?_
              refine x_topE (bz (xdir b (i + 1))) ((by rw [xdir_s]; exact bz_f0 c68)) ?_
              refine lv_istore (lv' := [(4, .int (bz (xdir b (i + 1)))), (3, .int (nI q2)), (0, .ref (E.2.2.2 0)), (1, .int (nI p1)), (5, .int (nI i))]) hx hb dX3_trace_76 hl (by decide) rfl (fun ls hl => ?_)
              refine lv_iinc (v := (nI (i + 1))) (lv' := [(5, .int (nI (i + 1))), (4, .int (bz (xdir b (i + 1)))), (3, .int (nI q2)), (0, .ref (E.2.2.2 0)), (1, .int (nI p1))]) hx hb dX3_trace_78 hl (k := 4) rfl (x_inc _) (by decide) rfl (fun ls hl => ?_)
              refine lv_goto (tgt := 8) hx hb dX3_trace_81 (by decide) ?_
              exact L8  (i + 1) (q2) ((xu F 11 (upd (F 11) i (nI q2)))) (by omega) (by omega) (hq2) (xu_keep hF) (e2) (lt_s hne c40) (lt_s hnr (by rw [e2]; exact fun h => c58 (nI_inj (by omega) (by omega) h))) (upd_ltP (P := fun k z => z = xw (f 4) (xop (f 6) (f 17)) b p1 (k + 1)) hg e2.symm) _ _ _ hW (lv_sub hl [3, 4, 2, 1, 0] rfl)
            · refine lv_iconst (v := 1) hx hb dX3_trace_71 (by decide) ?_
              refine lv_goto (tgt := 76) hx hb dX3_trace_72 (by decide) ?_
              refine x_topE (bz (xdir b (i + 1))) ((by rw [xdir_s]; exact bz_f1 c68)) ?_
              refine lv_istore (lv' := [(4, .int (bz (xdir b (i + 1)))), (3, .int (nI q2)), (0, .ref (E.2.2.2 0)), (1, .int (nI p1)), (5, .int (nI i))]) hx hb dX3_trace_76 hl (by decide) rfl (fun ls hl => ?_)
              refine lv_iinc (v := (nI (i + 1))) (lv' := [(5, .int (nI (i + 1))), (4, .int (bz (xdir b (i + 1)))), (3, .int (nI q2)), (0, .ref (E.2.2.2 0)), (1, .int (nI p1))]) hx hb dX3_trace_78 hl (k := 4) rfl (x_inc _) (by decide) rfl (fun ls hl => ?_)
              refine lv_goto (tgt := 8) hx hb dX3_trace_81 (by decide) ?_
              exact L8  (i + 1) (q2) ((xu F 11 (upd (F 11) i (nI q2)))) (by omega) (by omega) (hq2) (xu_keep hF) (e2) (lt_s hne c40) (lt_s hnr (by rw [e2]; exact fun h => c58 (nI_inj (by omega) (by omega) h))) (upd_ltP (P := fun k z => z = xw (f 4) (xop (f 6) (f 17)) b p1 (k + 1)) hg e2.symm) _ _ _ hW (lv_sub hl [3, 4, 2, 1, 0] rfl)
          · refine lv_iload hx hb dX3_trace_61 (lv_at hl 4 rfl) ?_
            refine lv_iconst (v := 1) hx hb dX3_trace_63 (by decide) ?_
            refine x_iadd (a := i) (b := 1) hx hb dX3_trace_64 ?_
            exact x_reti S hr hlk hW dX3_trace_65 (⟨i + 1, upd (F 11) i (nI q2), rfl, by rw [xu_base hF], ⟨lt_s hne c40, fun k hk => hnr k (by omega), Or.inr ⟨by omega, by rw [e2, c58]⟩⟩, upd_ltP (P := fun k z => z = xw (f 4) (xop (f 6) (f 17)) b p1 (k + 1)) hg e2.symm⟩)
        · refine lv_iload hx hb dX3_trace_43 (lv_at hl 4 rfl) ?_
          exact x_reti S hr hlk hW dX3_trace_45 (⟨i, F 11, rfl, by rw [← xu_of hF], ⟨hne, fun k hk => hnr k (by omega), Or.inl c40⟩, hg⟩)
  exact L8 _ (0) (p1) (f) (Nat.lt_succ_self _) (by omega) (h1) (fun _ _ => rfl) (rfl) (fun q hq => absurd hq (Nat.not_lt_zero q)) (fun q hq => absurd hq (Nat.not_lt_zero q)) (fun q hq => absurd hq (Nat.not_lt_zero q)) _ _ _ hW (lv_sub hl [3, 4, 2, 1, 0] rfl)

abbrev rmX3_endOfTrail : Room := { frames := 1, cells := 0, slots := 0, locals := 21 }
set_option maxHeartbeats 4000000 in
set_option maxRecDepth 100000 in
theorem c_X3_endOfTrail (l : Launch) (E : xE) (n : Nat → Int32) (f : Nat → Nat → Int32) (o : Nat → Int64) (v : Int32) {K : Nat} (hK : K ≤ 144) : xCi l yX3_endOfTrail wsX3_endOfTrail rmX3_endOfTrail E [.ref (E.2.2.2 0), .int v, .int (nI K)] (n, f, o) (fun r σ' => r = (if K = 0 then v else f 11 (K - 1)) ∧ σ' = (n, f, o)) := by
  refine x_starti RX3 (by decide) rfl rfl (Nat.le_of_ble_eq_true rfl) ?_
  intro p e s m args below meth c ls S hr hlk hW hl
  have hx := S.1
  have hb := S.2.1
  have hl : lv_has ls 3 [(0, .ref (E.2.2.2 0)), (1, .int v), (2, .int (nI K))] := hl
  have hinX3 : ∀ w ∈ wsX30, w ∈ wsX3_endOfTrail := by decide +kernel
  have w64 : Cond.fieldLink RX3 64 "CableBook" "trail" "LCableBook$Row;" ∈ wsX3_endOfTrail := by decide +kernel
  refine lv_iload_n hx hb dX3_endOfTrail_0 rfl (lv_at hl 2 rfl) ?_
  refine x_if_ne (tgt := 8) hx hb dX3_endOfTrail_1 (by decide) (by omega) (fun c1 => ?_) (fun c1 => ?_)
  · refine lv_aload_n hx hb dX3_endOfTrail_8 rfl (lv_at hl 0 rfl) ?_
    refine x_get (v := .ref (E.2.2.2 23)) S hW hinX3 0 (xw_0 E _) rfl 16 (by decide) w64 rfl dX3_endOfTrail_9 ?_
    refine lv_iload_n hx hb dX3_endOfTrail_12 rfl (lv_at hl 2 rfl) ?_
    refine lv_iconst (v := 1) hx hb dX3_endOfTrail_13 (by decide) ?_
    refine x_isub (a := K) (b := 1) hx hb dX3_endOfTrail_14 (by omega) ?_
    refine x_Vi (rest := []) S (c_X2_at l E n f o (i := 11) (by decide) (k := K - 1) (show _ < 144 from by omega)) (cwV 1 S.2.2.2.2 gX3_endOfTrail_X2_at rfl rfl rfl (by decide +kernel) ⟨Nat.le_of_ble_eq_true rfl, Nat.le_of_ble_eq_true rfl⟩) hW 23 (xw_23 E _) rfl rfl rfl hl.1 (Nat.le_of_ble_eq_true rfl) dX3_endOfTrail_15 ⟨Nat.zero_le _, Nat.zero_le _⟩ (fun r15 σ15 H locs hp1 hW => ?_)
    obtain ⟨rfl, rfl⟩ := hp1
    exact x_reti S hr hlk hW dX3_endOfTrail_18 (⟨by first | rw [if_pos c1] | rw [if_neg c1], rfl⟩)
  · refine lv_iload_n hx hb dX3_endOfTrail_4 rfl (lv_at hl 1 rfl) ?_
    refine lv_goto (tgt := 18) hx hb dX3_endOfTrail_5 (by decide) ?_
    exact x_reti S hr hlk hW dX3_endOfTrail_18 (⟨by first | rw [if_pos c1] | rw [if_neg c1], rfl⟩)

abbrev rmX3_isOnTrail : Room := { frames := 1, cells := 0, slots := 0, locals := 21 }
set_option maxHeartbeats 4000000 in
set_option maxRecDepth 100000 in
theorem c_X3_isOnTrail (l : Launch) (E : xE) (n : Nat → Int32) (f : Nat → Nat → Int32) (o : Nat → Int64) (v : Int32) {K : Nat} (hK : K ≤ 144) : xCi l yX3_isOnTrail wsX3_isOnTrail rmX3_isOnTrail E [.ref (E.2.2.2 0), .int v, .int (nI K)] (n, f, o) (fun r σ' => (r = 0 ∧ ¬ (∃ i, i < K ∧ f 11 i = v) ∧ σ' = (n, f, o)) ∨ (r = 1 ∧ (∃ i, i < K ∧ f 11 i = v) ∧ σ' = (n, f, o))) := by
  refine x_starti RX3 (by decide) rfl rfl (Nat.le_of_ble_eq_true rfl) ?_
  intro p e s m args below meth c ls S hr hlk hW hl
  have hx := S.1
  have hb := S.2.1
  have hl : lv_has ls 4 [(0, .ref (E.2.2.2 0)), (1, .int v), (2, .int (nI K))] := hl
  have hinX3 : ∀ w ∈ wsX30, w ∈ wsX3_isOnTrail := by decide +kernel
  have w64 : Cond.fieldLink RX3 64 "CableBook" "trail" "LCableBook$Row;" ∈ wsX3_isOnTrail := by decide +kernel
  refine lv_iconst (v := 0) hx hb dX3_isOnTrail_0 (by decide) ?_
  refine lv_istore_n (lv' := [(3, .int 0), (0, .ref (E.2.2.2 0)), (1, .int v), (2, .int (nI K))]) hx hb dX3_isOnTrail_1 rfl hl (by decide) rfl (fun ls hl => ?_)
  have L2 : ∀ (fu2 : Nat) (i : Nat) (hμ : K + 1 - i < fu2) (hi : i ≤ K) (h0 : ∀ q, q < i → ¬ f 11 q = v) (H : Heap) (locs : List Loc) (ls : Array Slot), xSt E (n, f, o) s s.heap H locs → lv_has ls 4 [(0, .ref (E.2.2.2 0)), (1, .int v), (2, .int (nI K)), (3, .int (nI i))] → W p l e rmX3_isOnTrail s m args below meth c H locs 0 0 (MQ below (va_Qi (fun r σ' => (r = 0 ∧ ¬ (∃ i, i < K ∧ f 11 i = v) ∧ σ' = (n, f, o)) ∨ (r = 1 ∧ (∃ i, i < K ∧ f 11 i = v) ∧ σ' = (n, f, o))) (xWd E) (xA E)) args s 0 0 (xA E)) (F0 m 2 ls []) := by
    intro fu2
    induction fu2 with
    | zero => intro i hμ; exact absurd hμ (Nat.not_lt_zero _)
    | succ fu2 L2 =>
      intro i hμ hi h0 H locs ls hW hl
      refine lv_iload_n hx hb dX3_isOnTrail_2 rfl (lv_at hl 3 rfl) ?_
      refine lv_iload_n hx hb dX3_isOnTrail_3 rfl (lv_at hl 2 rfl) ?_
      refine x_icmp_ge (a := i) (b := K) (tgt := 27) hx hb dX3_isOnTrail_4 (by decide) (by omega) (by omega) (fun c4 => ?_) (fun c4 => ?_)
      · refine lv_iconst (v := 0) hx hb dX3_isOnTrail_27 (by decide) ?_
        exact x_retz S hr hlk hW dX3_isOnTrail_28 (Or.inl rfl) (.inl ⟨rfl, fun ⟨q, hq, h⟩ => h0 q (by omega) h, rfl⟩)
      · refine lv_aload_n hx hb dX3_isOnTrail_7 rfl (lv_at hl 0 rfl) ?_
        refine x_get (v := .ref (E.2.2.2 23)) S hW hinX3 0 (xw_0 E _) rfl 16 (by decide) w64 rfl dX3_isOnTrail_8 ?_
        refine lv_iload_n hx hb dX3_isOnTrail_11 rfl (lv_at hl 3 rfl) ?_
        refine x_Vi (rest := []) S (c_X2_at l E n f o (i := 11) (by decide) (k := i) (show _ < 144 from by omega)) (cwV 1 S.2.2.2.2 gX3_isOnTrail_X2_at rfl rfl rfl (by decide +kernel) ⟨Nat.le_of_ble_eq_true rfl, Nat.le_of_ble_eq_true rfl⟩) hW 23 (xw_23 E _) rfl rfl rfl hl.1 (Nat.le_of_ble_eq_true rfl) dX3_isOnTrail_12 ⟨Nat.zero_le _, Nat.zero_le _⟩ (fun r12 σ12 H locs hp1 hW => ?_)
        obtain ⟨rfl, rfl⟩ := hp1
        refine lv_iload_n hx hb dX3_isOnTrail_15 rfl (lv_at hl 1 rfl) ?_
        refine lv_icmp_ne (tgt := 21) hx hb dX3_isOnTrail_16 (by decide) (fun c16 => ?_) (fun c16 => ?_)
        · refine lv_iinc (v := (nI (i + 1))) (lv' := [(3, .int (nI (i + 1))), (0, .ref (E.2.2.2 0)), (1, .int v), (2, .int (nI K))]) hx hb dX3_isOnTrail_21 hl (k := 3) rfl (x_inc _) (by decide) rfl (fun ls hl => ?_)
          refine lv_goto (tgt := 2) hx hb dX3_isOnTrail_24 (by decide) ?_
          exact L2  (i + 1) (by omega) (by omega) (lt_s h0 c16) _ _ _ hW (lv_sub hl [1, 2, 3, 0] rfl)
        · refine lv_iconst (v := 1) hx hb dX3_isOnTrail_19 (by decide) ?_
          exact x_retz S hr hlk hW dX3_isOnTrail_20 (Or.inr rfl) (.inr ⟨rfl, ⟨i, by omega, c16⟩, rfl⟩)
  exact L2 _ (0) (Nat.lt_succ_self _) (by omega) (fun q hq => absurd hq (Nat.not_lt_zero q)) _ _ _ hW (lv_sub hl [1, 2, 3, 0] rfl)

abbrev rmX3_markTrail : Room := { frames := 1, cells := 0, slots := 0, locals := 22 }
set_option maxHeartbeats 4000000 in
set_option maxRecDepth 100000 in
theorem c_X3_markTrail (l : Launch) (E : xE) (n : Nat → Int32) (f : Nat → Nat → Int32) (o : Nat → Int64) {K : Nat} (hK : K ≤ 144) (t : Nat → Nat) (ht : ∀ i, i < K → f 11 i = nI (t i) ∧ t i < 144) : xCv l yX3_markTrail wsX3_markTrail rmX3_markTrail E [.ref (E.2.2.2 0), .int (nI K)] (n, f, o) (fun σ' => ∃ g, σ' = (n, xu f 18 g, o) ∧ (∀ q, q < K → g (t q) = 1) ∧ (∀ w, (∀ q, q < K → t q ≠ w) → g w = f 18 w)) := by
  refine x_startv RX3 (by decide) rfl rfl (Nat.le_of_ble_eq_true rfl) ?_
  intro p e s m args below meth c ls S hr hlk hW hl
  have hx := S.1
  have hb := S.2.1
  have hl : lv_has ls 3 [(0, .ref (E.2.2.2 0)), (1, .int (nI K))] := hl
  have hinX3 : ∀ w ∈ wsX30, w ∈ wsX3_markTrail := by decide +kernel
  have w64 : Cond.fieldLink RX3 64 "CableBook" "trail" "LCableBook$Row;" ∈ wsX3_markTrail := by decide +kernel
  have w70 : Cond.fieldLink RX3 70 "CableBook" "found" "LCableBook$Marks;" ∈ wsX3_markTrail := by decide +kernel
  refine lv_iconst (v := 0) hx hb dX3_markTrail_0 (by decide) ?_
  refine lv_istore_n (lv' := [(2, .int 0), (0, .ref (E.2.2.2 0)), (1, .int (nI K))]) hx hb dX3_markTrail_1 rfl hl (by decide) rfl (fun ls hl => ?_)
  have L2 : ∀ (fu2 : Nat) (i : Nat) (F : Nat → Nat → Int32) (hμ : K + 1 - i < fu2) (hi : i ≤ K) (hF : ∀ q, q ≠ 18 → F q = f q) (g1 : ∀ q, q < i → F 18 (t q) = 1) (g2 : ∀ w, (∀ q, q < i → t q ≠ w) → F 18 w = f 18 w) (H : Heap) (locs : List Loc) (ls : Array Slot), xSt E (n, F, o) s s.heap H locs → lv_has ls 3 [(0, .ref (E.2.2.2 0)), (1, .int (nI K)), (2, .int (nI i))] → W p l e rmX3_markTrail s m args below meth c H locs 0 0 (MQ below (va_Qv (fun σ' => ∃ g, σ' = (n, xu f 18 g, o) ∧ (∀ q, q < K → g (t q) = 1) ∧ (∀ w, (∀ q, q < K → t q ≠ w) → g w = f 18 w)) (xWd E) (xA E)) args s 0 0 (xA E)) (F0 m 2 ls []) := by
    intro fu2
    induction fu2 with
    | zero => intro i F hμ; exact absurd hμ (Nat.not_lt_zero _)
    | succ fu2 L2 =>
      intro i F hμ hi hF g1 g2 H locs ls hW hl
      refine lv_iload_n hx hb dX3_markTrail_2 rfl (lv_at hl 2 rfl) ?_
      refine lv_iload_n hx hb dX3_markTrail_3 rfl (lv_at hl 1 rfl) ?_
      refine x_icmp_ge (a := i) (b := K) (tgt := 29) hx hb dX3_markTrail_4 (by decide) (by omega) (by omega) (fun c4 => ?_) (fun c4 => ?_)
      · exact x_retv S hr hlk hW dX3_markTrail_29 (⟨F 18, by rw [← xu_of hF], fun q hq => g1 q (by omega), fun w hw => g2 w (fun q hq => hw q (by omega))⟩)
      · refine lv_aload_n hx hb dX3_markTrail_7 rfl (lv_at hl 0 rfl) ?_
        refine x_get (v := .ref (E.2.2.2 37)) S hW hinX3 0 (xw_0 E _) rfl 18 (by decide) w70 rfl dX3_markTrail_8 ?_
        refine lv_aload_n hx hb dX3_markTrail_11 rfl (lv_at hl 0 rfl) ?_
        refine x_get (v := .ref (E.2.2.2 23)) S hW hinX3 0 (xw_0 E _) rfl 16 (by decide) w64 rfl dX3_markTrail_12 ?_
        refine lv_iload_n hx hb dX3_markTrail_15 rfl (lv_at hl 2 rfl) ?_
        refine x_Vi (rest := [.ref (E.2.2.2 37)]) S (c_X2_at l E n F o (i := 11) (by decide) (k := i) (show _ < 144 from by omega)) (cwV 1 S.2.2.2.2 gX3_markTrail_X2_at rfl rfl rfl (by decide +kernel) ⟨Nat.le_of_ble_eq_true rfl, Nat.le_of_ble_eq_true rfl⟩) hW 23 (xw_23 E _) rfl rfl rfl hl.1 (Nat.le_of_ble_eq_true rfl) dX3_markTrail_16 ⟨Nat.zero_le _, Nat.zero_le _⟩ (fun r16 σ16 H locs hp1 hW => ?_)
        obtain ⟨rfl, rfl⟩ := hp1
        refine x_topN (t i) (by rw [hF 11 (by decide)]; exact (ht i (by omega)).1) ?_
        refine lv_iconst (v := 1) hx hb dX3_markTrail_19 (by decide) ?_
        refine x_Vv (rest := []) S (c_X0_set l E n F o (i := 1) (by decide) (k := t i) ((ht i (by omega)).2) (v := 1) (Or.inr rfl)) (cwV 2 S.2.2.2.2 gX3_markTrail_X0_set rfl rfl rfl (by decide +kernel) ⟨Nat.le_of_ble_eq_true rfl, Nat.le_of_ble_eq_true rfl⟩) hW 37 (xw_37 E _) rfl rfl rfl hl.1 (Nat.le_of_ble_eq_true rfl) dX3_markTrail_20 ⟨Nat.zero_le _, Nat.zero_le _⟩ (fun σ20 H locs hp2 hW => ?_)
        obtain rfl := hp2
        refine lv_iinc (v := (nI (i + 1))) (lv' := [(2, .int (nI (i + 1))), (0, .ref (E.2.2.2 0)), (1, .int (nI K))]) hx hb dX3_markTrail_23 hl (k := 2) rfl (x_inc _) (by decide) rfl (fun ls hl => ?_)
        refine lv_goto (tgt := 2) hx hb dX3_markTrail_26 (by decide) ?_
        exact L2  (i + 1) ((xu F 18 (upd (F 18) (t i) 1))) (by omega) (by omega) (xu_keep hF) (xmk1 g1) (xmk2 g2) _ _ _ hW (lv_sub hl [1, 2, 0] rfl)
  exact L2 _ (0) (f) (Nat.lt_succ_self _) (by omega) (fun _ _ => rfl) (fun q hq => absurd hq (Nat.not_lt_zero q)) (fun _ _ => rfl) _ _ _ hW (lv_sub hl [1, 2, 0] rfl)

abbrev rmX3_reach : Room := { frames := 1, cells := 0, slots := 0, locals := 22 }
set_option maxHeartbeats 4000000 in
set_option maxRecDepth 100000 in
theorem c_X3_reach (l : Launch) (E : xE) (n : Nat → Int32) (f : Nat → Nat → Int32) (o : Nat → Int64) {no : Nat} (hno : no ≤ 144) (C0 S0 : Nat → Int32) (p1 : Nat) {r0 : Nat} (u : Nat → Nat) (hB : xBF no C0 S0 p1 (f 12) (f 18) r0 u) (pv : Int32) (hpv : pv = -1 ∨ ∃ z, z < no ∧ pv = nI z ∧ xR no C0 S0 p1 z) : xCi l yX3_reach wsX3_reach rmX3_reach E [.ref (E.2.2.2 0), .int pv, .int (nI r0)] (n, f, o) (fun r σ' => ∃ F r1 u1, r = nI r1 ∧ σ' = (n, F, o) ∧ (∀ q, q ≠ 18 → q ≠ 12 → F q = f q) ∧ xBF no C0 S0 p1 (F 12) (F 18) r1 u1 ∧ r0 ≤ r1 ∧ (∀ k, k < r0 → u1 k = u k) ∧ (∀ z, z < no → pv = nI z → ∃ k, k < r1 ∧ u1 k = z)) := by
  refine x_starti RX3 (by decide) rfl rfl (Nat.le_of_ble_eq_true rfl) ?_
  intro p e s m args below meth c ls S hr hlk hW hl
  have hx := S.1
  have hb := S.2.1
  have hl : lv_has ls 3 [(0, .ref (E.2.2.2 0)), (1, .int pv), (2, .int (nI r0))] := hl
  have hinX3 : ∀ w ∈ wsX30, w ∈ wsX3_reach := by decide +kernel
  have w67 : Cond.fieldLink RX3 67 "CableBook" "queue" "LCableBook$Row;" ∈ wsX3_reach := by decide +kernel
  have w70 : Cond.fieldLink RX3 70 "CableBook" "found" "LCableBook$Marks;" ∈ wsX3_reach := by decide +kernel
  have hr0 := hB.le (by omega)
  refine lv_iload_n hx hb dX3_reach_0 rfl (lv_at hl 1 rfl) ?_
  refine lv_iconst (v := (-1)) hx hb dX3_reach_1 (by decide) ?_
  refine lv_icmp_eq (tgt := 16) hx hb dX3_reach_2 (by decide) (fun c2 => ?_) (fun c2 => ?_)
  · refine lv_iload_n hx hb dX3_reach_16 rfl (lv_at hl 2 rfl) ?_
    exact x_reti S hr hlk hW dX3_reach_17 (⟨f, r0, u, rfl, rfl, fun _ _ _ => rfl, hB, Nat.le_refl _, fun _ _ => rfl, by first | exact fun z9 hz9 h9 => absurd (h9.symm.trans c2) (nI_m1 (by omega)) | exact fun z9 hz9 h9 => (hB.2.1 z9 hz9).mp (by rw [← nI_inj (by omega) (by omega) h9]; exact h10)⟩)
  · obtain ⟨z, hz, rfl, hRz⟩ := hpv.resolve_left c2
    refine lv_aload_n hx hb dX3_reach_5 rfl (lv_at hl 0 rfl) ?_
    refine x_get (v := .ref (E.2.2.2 37)) S hW hinX3 0 (xw_0 E _) rfl 18 (by decide) w70 rfl dX3_reach_6 ?_
    refine lv_iload_n hx hb dX3_reach_9 rfl (lv_at hl 1 rfl) ?_
    refine x_Vi (rest := []) S (c_X0_has l E n f o (i := 1) (by decide) (k := z) (by omega)) (cwV 1 S.2.2.2.2 gX3_reach_X0_has rfl rfl rfl (by decide +kernel) ⟨Nat.le_of_ble_eq_true rfl, Nat.le_of_ble_eq_true rfl⟩) hW 37 (xw_37 E _) rfl rfl rfl hl.1 (Nat.le_of_ble_eq_true rfl) dX3_reach_10 ⟨Nat.zero_le _, Nat.zero_le _⟩ (fun r10 σ10 H locs hp1 hW => ?_)
    rcases hp1 with ⟨rfl, h10, rfl⟩ | ⟨rfl, h10, rfl⟩
    · replace h10 : (f 18) z = 0 := Classical.not_not.mp h10
      refine lv_if_eq (tgt := 18) hx hb dX3_reach_13 (by decide) (fun c13 => ?_) (fun c13 => ?_)
      rotate_left
      · exact absurd c13 (by decide)
      have hlt := hB.lt (by omega) hz h10
      refine lv_aload_n hx hb dX3_reach_18 rfl (lv_at hl 0 rfl) ?_
      refine x_get (v := .ref (E.2.2.2 37)) S hW hinX3 0 (xw_0 E _) rfl 18 (by decide) w70 rfl dX3_reach_19 ?_
      refine lv_iload_n hx hb dX3_reach_22 rfl (lv_at hl 1 rfl) ?_
      refine lv_iconst (v := 1) hx hb dX3_reach_23 (by decide) ?_
      refine x_Vv (rest := []) S (c_X0_set l E n f o (i := 1) (by decide) (k := z) (by omega) (v := 1) (Or.inr rfl)) (cwV 2 S.2.2.2.2 gX3_reach_X0_set rfl rfl rfl (by decide +kernel) ⟨Nat.le_of_ble_eq_true rfl, Nat.le_of_ble_eq_true rfl⟩) hW 37 (xw_37 E _) rfl rfl rfl hl.1 (Nat.le_of_ble_eq_true rfl) dX3_reach_24 ⟨Nat.zero_le _, Nat.zero_le _⟩ (fun σ24 H locs hp2 hW => ?_)
      obtain rfl := hp2
      refine lv_aload_n hx hb dX3_reach_27 rfl (lv_at hl 0 rfl) ?_
      refine x_get (v := .ref (E.2.2.2 25)) S hW hinX3 0 (xw_0 E _) rfl 17 (by decide) w67 rfl dX3_reach_28 ?_
      refine lv_iload_n hx hb dX3_reach_31 rfl (lv_at hl 2 rfl) ?_
      refine lv_iload_n hx hb dX3_reach_32 rfl (lv_at hl 1 rfl) ?_
      refine x_Vv (rest := []) S (c_X2_put l E n (xu f 18 (upd (f 18) z 1)) o (i := 12) (by decide) (k := r0) (show _ < 144 from by omega) (nI z)) (cwV 2 S.2.2.2.2 gX3_reach_X2_put rfl rfl rfl (by decide +kernel) ⟨Nat.le_of_ble_eq_true rfl, Nat.le_of_ble_eq_true rfl⟩) hW 25 (xw_25 E _) rfl rfl rfl hl.1 (Nat.le_of_ble_eq_true rfl) dX3_reach_33 ⟨Nat.zero_le _, Nat.zero_le _⟩ (fun σ33 H locs hp3 hW => ?_)
      obtain rfl := hp3
      refine lv_iload_n hx hb dX3_reach_36 rfl (lv_at hl 2 rfl) ?_
      refine lv_iconst (v := 1) hx hb dX3_reach_37 (by decide) ?_
      refine x_iadd (a := r0) (b := 1) hx hb dX3_reach_38 ?_
      exact x_reti S hr hlk hW dX3_reach_39 (⟨xu (xu f 18 (upd (f 18) z 1)) 12 (upd (f 12) r0 (nI z)), r0 + 1, fun k => if k = r0 then z else u k, rfl, rfl, fun q h1 h2 => by rw [xu_n h2, xu_n h1], hB.push (by omega) hz h10 hRz, by omega, fun k hk => if_neg (by omega), fun z9 hz9 h9 => ⟨r0, by omega, (if_pos rfl).trans (nI_inj (by omega) (by omega) h9)⟩⟩)
    · replace h10 : (f 18) z ≠ 0 := h10
      refine lv_if_eq (tgt := 18) hx hb dX3_reach_13 (by decide) (fun c13 => ?_) (fun c13 => ?_)
      · exact absurd c13 (by decide)
      refine lv_iload_n hx hb dX3_reach_16 rfl (lv_at hl 2 rfl) ?_
      exact x_reti S hr hlk hW dX3_reach_17 (⟨f, r0, u, rfl, rfl, fun _ _ _ => rfl, hB, Nat.le_refl _, fun _ _ => rfl, by first | exact fun z9 hz9 h9 => absurd (h9.symm.trans c2) (nI_m1 (by omega)) | exact fun z9 hz9 h9 => (hB.2.1 z9 hz9).mp (by rw [← nI_inj (by omega) (by omega) h9]; exact h10)⟩)

abbrev rmX3_searchFrom : Room := { frames := 2, cells := 0, slots := 0, locals := 44 }
set_option maxHeartbeats 4000000 in
set_option maxRecDepth 100000 in
theorem c_X3_searchFrom (l : Launch) (E : xE) (n : Nat → Int32) (f : Nat → Nat → Int32) (o : Nat → Int64) {no : Nat} (hno : no ≤ 144) (hC : xM no (f 4)) (hS : xM no (xop (f 6) (f 17))) {p1 : Nat} (h1 : p1 < no) : xCv l yX3_searchFrom wsX3_searchFrom rmX3_searchFrom E [.ref (E.2.2.2 0), .int (nI p1)] (n, f, o) (fun σ' => ∃ F, σ' = (n, F, o) ∧ (∀ q, q ≠ 18 → q ≠ 12 → F q = f q) ∧ ∀ w, w < no → (F 18 w ≠ 0 ↔ xR no (f 4) (xop (f 6) (f 17)) p1 w)) := by
  refine x_startv RX3 (by decide) rfl rfl (Nat.le_of_ble_eq_true rfl) ?_
  intro p e s m args below meth c ls S hr hlk hW hl
  have hx := S.1
  have hb := S.2.1
  have hl : lv_has ls 5 [(0, .ref (E.2.2.2 0)), (1, .int (nI p1))] := hl
  have hinX3 : ∀ w ∈ wsX30, w ∈ wsX3_searchFrom := by decide +kernel
  have w27 : Cond.fieldLink RX3 27 "CableBook" "cableTo" "LCableBook$Row;" ∈ wsX3_searchFrom := by decide +kernel
  have w67 : Cond.fieldLink RX3 67 "CableBook" "queue" "LCableBook$Row;" ∈ wsX3_searchFrom := by decide +kernel
  have w70 : Cond.fieldLink RX3 70 "CableBook" "found" "LCableBook$Marks;" ∈ wsX3_searchFrom := by decide +kernel
  refine lv_aload_n hx hb dX3_searchFrom_0 rfl (lv_at hl 0 rfl) ?_
  refine x_get (v := .ref (E.2.2.2 37)) S hW hinX3 0 (xw_0 E _) rfl 18 (by decide) w70 rfl dX3_searchFrom_1 ?_
  refine x_Vv (rest := []) S (c_X0_clear l E n f o (i := 1) (by decide)) (cwV 0 S.2.2.2.2 gX3_searchFrom_X0_clear rfl rfl rfl (by decide +kernel) ⟨Nat.le_of_ble_eq_true rfl, Nat.le_of_ble_eq_true rfl⟩) hW 37 (xw_37 E _) rfl rfl rfl hl.1 (Nat.le_of_ble_eq_true rfl) dX3_searchFrom_4 ⟨Nat.zero_le _, Nat.zero_le _⟩ (fun σ4 H locs hp1 hW => ?_)
  obtain ⟨g4, rfl, hg4⟩ := hp1
  refine lv_aload_n hx hb dX3_searchFrom_7 rfl (lv_at hl 0 rfl) ?_
  refine lv_iload_n hx hb dX3_searchFrom_8 rfl (lv_at hl 1 rfl) ?_
  refine lv_iconst (v := 0) hx hb dX3_searchFrom_9 (by decide) ?_
  refine x_Vi (rest := []) S (c_X3_reach l E n (xu f 18 g4) o hno (f 4) (xop (f 6) (f 17)) p1 (fun _ => 0) (xBF_0 (by rw [xu_s]; exact fun k hk => hg4 k (by omega))) (nI p1) (Or.inr ⟨p1, h1, rfl, xR.rf⟩)) (cwV 2 S.2.2.2.2 gX3_searchFrom_X3_reach rfl rfl rfl (by decide +kernel) ⟨Nat.le_of_ble_eq_true rfl, Nat.le_of_ble_eq_true rfl⟩) hW 0 (xw_0 E _) rfl rfl rfl hl.1 (Nat.le_of_ble_eq_true rfl) dX3_searchFrom_10 ⟨Nat.zero_le _, Nat.zero_le _⟩ (fun r10 σ10 H locs hp2 hW => ?_)
  obtain ⟨F10, r10n, u10, rfl, rfl, hF10, hB10, hr10, hu10, hz10⟩ := hp2
  refine lv_istore_n (lv' := [(2, .int (nI r10n)), (0, .ref (E.2.2.2 0)), (1, .int (nI p1))]) hx hb dX3_searchFrom_13 rfl hl (by decide) rfl (fun ls hl => ?_)
  refine lv_iconst (v := 0) hx hb dX3_searchFrom_14 (by decide) ?_
  refine lv_istore_n (lv' := [(3, .int 0), (2, .int (nI r10n)), (0, .ref (E.2.2.2 0)), (1, .int (nI p1))]) hx hb dX3_searchFrom_15 rfl hl (by decide) rfl (fun ls hl => ?_)
  have L16 : ∀ (fu16 : Nat) (i r0 : Nat) (F : Nat → Nat → Int32) (u : Nat → Nat) (hμ : 145 - i < fu16) (hi : i ≤ r0) (hF : ∀ q, q ≠ 18 → q ≠ 12 → F q = f q) (hB : xBF no (f 4) (xop (f 6) (f 17)) p1 (F 12) (F 18) r0 u) (hp1 : ∃ k, k < r0 ∧ u k = p1) (hcl : ∀ k, k < i → ∀ w, w < no → ((f 4) (u k) = nI w ∨ (xop (f 6) (f 17)) (u k) = nI w) → ∃ k9, k9 < r0 ∧ u k9 = w) (H : Heap) (locs : List Loc) (ls : Array Slot), xSt E (n, F, o) s s.heap H locs → lv_has ls 5 [(0, .ref (E.2.2.2 0)), (2, .int (nI r0)), (3, .int (nI i))] → W p l e rmX3_searchFrom s m args below meth c H locs 0 0 (MQ below (va_Qv (fun σ' => ∃ F, σ' = (n, F, o) ∧ (∀ q, q ≠ 18 → q ≠ 12 → F q = f q) ∧ ∀ w, w < no → (F 18 w ≠ 0 ↔ xR no (f 4) (xop (f 6) (f 17)) p1 w)) (xWd E) (xA E)) args s 0 0 (xA E)) (F0 m 16 ls []) := by
    intro fu16
    induction fu16 with
    | zero => intro i r0 F u hμ; exact absurd hμ (Nat.not_lt_zero _)
    | succ fu16 L16 =>
      intro i r0 F u hμ hi hF hB hp1 hcl H locs ls hW hl
      have hr0 := hB.le (by omega)
      refine lv_iload_n hx hb dX3_searchFrom_16 rfl (lv_at hl 2 rfl) ?_
      refine lv_sipush (v := 144) hx hb dX3_searchFrom_17 (by decide) ?_
      refine x_icmp_ge (a := i) (b := 144) (tgt := 71) hx hb dX3_searchFrom_20 (by decide) (by omega) (by omega) (fun c20 => ?_) (fun c20 => ?_)
      · exact x_retv S hr hlk hW dX3_searchFrom_71 (⟨F, rfl, hF, hB.done (by omega) h1 hp1 (fun k hk => hcl k (by omega))⟩)
      · refine lv_iload_n hx hb dX3_searchFrom_23 rfl (lv_at hl 2 rfl) ?_
        refine lv_iload_n hx hb dX3_searchFrom_24 rfl (lv_at hl 1 rfl) ?_
        refine x_icmp_ge (a := i) (b := r0) (tgt := 71) hx hb dX3_searchFrom_25 (by decide) (by omega) (by omega) (fun c25 => ?_) (fun c25 => ?_)
        · exact x_retv S hr hlk hW dX3_searchFrom_71 (⟨F, rfl, hF, hB.done (by omega) h1 hp1 (fun k hk => hcl k (by omega))⟩)
        · refine lv_aload_n hx hb dX3_searchFrom_28 rfl (lv_at hl 0 rfl) ?_
          refine x_get (v := .ref (E.2.2.2 25)) S hW hinX3 0 (xw_0 E _) rfl 17 (by decide) w67 rfl dX3_searchFrom_29 ?_
          refine lv_iload_n hx hb dX3_searchFrom_32 rfl (lv_at hl 2 rfl) ?_
          refine x_Vi (rest := []) S (c_X2_at l E n F o (i := 12) (by decide) (k := i) (show _ < 144 from by omega)) (cwV 1 S.2.2.2.2 gX3_searchFrom_X2_at rfl rfl rfl (by decide +kernel) ⟨Nat.le_of_ble_eq_true rfl, Nat.le_of_ble_eq_true rfl⟩) hW 25 (xw_25 E _) rfl rfl rfl hl.1 (Nat.le_of_ble_eq_true rfl) dX3_searchFrom_33 ⟨Nat.zero_le _, Nat.zero_le _⟩ (fun r33 σ33 H locs hp3 hW => ?_)
          obtain ⟨rfl, rfl⟩ := hp3
          refine x_topN (u i) ((hB.1 i (by omega)).1) ?_
          refine lv_istore (lv' := [(4, .int (nI (u i))), (0, .ref (E.2.2.2 0)), (2, .int (nI r0)), (3, .int (nI i))]) hx hb dX3_searchFrom_36 hl (by decide) rfl (fun ls hl => ?_)
          refine lv_aload_n hx hb dX3_searchFrom_38 rfl (lv_at hl 1 rfl) ?_
          refine lv_aload_n hx hb dX3_searchFrom_39 rfl (lv_at hl 1 rfl) ?_
          refine x_get (v := .ref (E.2.2.2 9)) S hW hinX3 0 (xw_0 E _) rfl 6 (by decide) w27 rfl dX3_searchFrom_40 ?_
          refine lv_iload hx hb dX3_searchFrom_43 (lv_at hl 0 rfl) ?_
          refine x_Vi (rest := [.ref (E.2.2.2 0)]) S (c_X2_at l E n F o (i := 4) (by decide) (k := u i) (show _ < 144 from by have := (hB.1 i (by omega)).2.1; omega)) (cwV 1 S.2.2.2.2 gX3_searchFrom_X2_at rfl rfl rfl (by decide +kernel) ⟨Nat.le_of_ble_eq_true rfl, Nat.le_of_ble_eq_true rfl⟩) hW 9 (xw_9 E _) rfl rfl rfl hl.1 (Nat.le_of_ble_eq_true rfl) dX3_searchFrom_45 ⟨Nat.zero_le _, Nat.zero_le _⟩ (fun r45 σ45 H locs hp4 hW => ?_)
          obtain ⟨rfl, rfl⟩ := hp4
          refine lv_iload_n hx hb dX3_searchFrom_48 rfl (lv_at hl 2 rfl) ?_
          refine x_Vi (rest := []) S (c_X3_reach l E n F o hno (f 4) (xop (f 6) (f 17)) p1 u (hB) ((F 4) (u i)) (by rw [hF 4 (by decide) (by decide)]; exact xBF_next (by omega) hC (hB.1 i (by omega)).2.1 (hB.1 i (by omega)).2.2 (fun z h => Or.inl h))) (cwV 2 S.2.2.2.2 gX3_searchFrom_X3_reach rfl rfl rfl (by decide +kernel) ⟨Nat.le_of_ble_eq_true rfl, Nat.le_of_ble_eq_true rfl⟩) hW 0 (xw_0 E _) rfl rfl rfl hl.1 (Nat.le_of_ble_eq_true rfl) dX3_searchFrom_49 ⟨Nat.zero_le _, Nat.zero_le _⟩ (fun r49 σ49 H locs hp5 hW => ?_)
          obtain ⟨F49, r49n, u49, rfl, rfl, hF49, hB49, hr49, hu49, hz49⟩ := hp5
          refine lv_istore_n (lv' := [(2, .int (nI r49n)), (4, .int (nI (u i))), (0, .ref (E.2.2.2 0)), (3, .int (nI i))]) hx hb dX3_searchFrom_52 rfl hl (by decide) rfl (fun ls hl => ?_)
          refine lv_aload_n hx hb dX3_searchFrom_53 rfl (lv_at hl 2 rfl) ?_
          refine lv_aload_n hx hb dX3_searchFrom_54 rfl (lv_at hl 2 rfl) ?_
          refine lv_iload hx hb dX3_searchFrom_55 (lv_at hl 1 rfl) ?_
          refine x_Vi (rest := [.ref (E.2.2.2 0)]) S (c_X3_openStrandFrom l E n F49 o (p1 := (u i)) (by have := (hB.1 i (by omega)).2.1; omega)) (cwV 1 S.2.2.2.2 gX3_searchFrom_X3_openStrandFrom rfl rfl rfl (by decide +kernel) ⟨Nat.le_of_ble_eq_true rfl, Nat.le_of_ble_eq_true rfl⟩) hW 0 (xw_0 E _) rfl rfl rfl hl.1 (Nat.le_of_ble_eq_true rfl) dX3_searchFrom_57 ⟨Nat.zero_le _, Nat.zero_le _⟩ (fun r57 σ57 H locs hp6 hW => ?_)
          obtain ⟨rfl, rfl⟩ := hp6
          refine lv_iload_n hx hb dX3_searchFrom_60 rfl (lv_at hl 0 rfl) ?_
          refine x_Vi (rest := []) S (c_X3_reach l E n F49 o hno (f 4) (xop (f 6) (f 17)) p1 u49 (hB49) (xop (F49 6) (F49 17) (u i)) (by rw [hF49 6 (by decide) (by decide), hF49 17 (by decide) (by decide), hF 6 (by decide) (by decide), hF 17 (by decide) (by decide)]; exact xBF_next (by omega) hS (hB.1 i (by omega)).2.1 (hB.1 i (by omega)).2.2 (fun z h => Or.inr h))) (cwV 2 S.2.2.2.2 gX3_searchFrom_X3_reach rfl rfl rfl (by decide +kernel) ⟨Nat.le_of_ble_eq_true rfl, Nat.le_of_ble_eq_true rfl⟩) hW 0 (xw_0 E _) rfl rfl rfl hl.1 (Nat.le_of_ble_eq_true rfl) dX3_searchFrom_61 ⟨Nat.zero_le _, Nat.zero_le _⟩ (fun r61 σ61 H locs hp7 hW => ?_)
          obtain ⟨F61, r61n, u61, rfl, rfl, hF61, hB61, hr61, hu61, hz61⟩ := hp7
          have hp61 : ∃ k, k < r61n ∧ u61 k = p1 := by obtain ⟨k, hk, e9⟩ := hp1; exact ⟨k, by omega, by rw [hu61 k (by omega), hu49 k hk, e9]⟩
          have hcl61 : ∀ k, k < i + 1 → ∀ w, w < no → ((f 4) (u61 k) = nI w ∨ (xop (f 6) (f 17)) (u61 k) = nI w) → ∃ k9, k9 < r61n ∧ u61 k9 = w := by
            intro k hk w hw h9
            rw [hu61 k (by omega), hu49 k (by omega)] at h9
            by_cases hki : k = i
            · subst hki
              rcases h9 with h9 | h9
              · obtain ⟨k9, a1, a2⟩ := hz49 w hw (by rw [hF 4 (by decide) (by decide)]; exact h9)
                exact ⟨k9, by omega, by rw [hu61 k9 a1, a2]⟩
              · exact hz61 w hw (by rw [hF49 6 (by decide) (by decide), hF49 17 (by decide) (by decide), hF 6 (by decide) (by decide), hF 17 (by decide) (by decide)]; exact h9)
            · obtain ⟨k9, a1, a2⟩ := hcl k (by omega) w hw h9
              exact ⟨k9, by omega, by rw [hu61 k9 (by omega), hu49 k9 a1, a2]⟩
          refine lv_istore_n (lv' := [(2, .int (nI r61n)), (4, .int (nI (u i))), (0, .ref (E.2.2.2 0)), (3, .int (nI i))]) hx hb dX3_searchFrom_64 rfl hl (by decide) rfl (fun ls hl => ?_)
          refine lv_iinc (v := (nI (i + 1))) (lv' := [(3, .int (nI (i + 1))), (2, .int (nI r61n)), (4, .int (nI (u i))), (0, .ref (E.2.2.2 0))]) hx hb dX3_searchFrom_65 hl (k := 3) rfl (x_inc _) (by decide) rfl (fun ls hl => ?_)
          refine lv_goto (tgt := 16) hx hb dX3_searchFrom_68 (by decide) ?_
          exact L16  (i + 1) (r61n) (F61) (u61) (by omega) (by omega) (fun q h2 h3 => by rw [hF61 q h2 h3, hF49 q h2 h3, hF q h2 h3]) (hB61) (hp61) (hcl61) _ _ _ hW (lv_sub hl [3, 1, 0] rfl)
  exact L16 _ (0) (r10n) (F10) (u10) (Nat.lt_succ_self _) (by omega) (fun q h2 h3 => by rw [hF10 q h2 h3, xu_n h2]) (hB10) (hz10 p1 h1 rfl) (fun k hk => absurd hk (Nat.not_lt_zero k)) _ _ _ hW (lv_sub hl [2, 1, 0] rfl)
