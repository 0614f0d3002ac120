/-! the book as numbers and rows: Γ; xRepC: the class holds it; xRepR: the reference holds it; xGood: what is always so -/
noncomputable def xif {α : Type} (P : Prop) (a b : α) : α := @ite α P (Classical.propDecidable P) a b
theorem xif_t {α : Type} {P : Prop} {a b : α} (h : P) : xif P a b = a := by unfold xif; exact if_pos h
theorem xif_f {α : Type} {P : Prop} {a b : α} (h : ¬ P) : xif P a b = b := by unfold xif; exact if_neg h
abbrev xG : Type := (Nat → Nat) × (Nat → Nat → Nat) × (Nat → Nat → Int32)
abbrev xNa (v : Int32) : Nat := v.toNatClampNeg
def gNp (Γ : xG) : Nat := Γ.1 0
def gNo (Γ : xG) : Nat := Γ.1 1
def gNt (Γ : xG) : Nat := Γ.1 2
def gNm (Γ : xG) : Nat := Γ.1 3
def gFs (Γ : xG) : Nat → Nat := Γ.2.1 0
def gPn (Γ : xG) : Nat → Nat := Γ.2.1 1
def gTa (Γ : xG) : Nat → Nat := Γ.2.1 2
def gTb (Γ : xG) : Nat → Nat := Γ.2.1 3
def gTc (Γ : xG) : Nat → Nat := Γ.2.1 4
def gMx (Γ : xG) : Nat → Nat := Γ.2.1 5
def gMy (Γ : xG) : Nat → Nat := Γ.2.1 6
def gRk (Γ : xG) : Nat → Int32 := Γ.2.2 0
def gCb (Γ : xG) : Nat → Int32 := Γ.2.2 1
def gCl (Γ : xG) : Nat → Int32 := Γ.2.2 2
def gSt (Γ : xG) : Nat → Int32 := Γ.2.2 3
def gTk (Γ : xG) : Nat → Int32 := Γ.2.2 4
def gBk (Γ : xG) : Nat → Int32 := Γ.2.2 5
def gTl (Γ : xG) : Nat → Int32 := Γ.2.2 6
/-- the strands that are not broken -/
def gOp (Γ : xG) : Nat → Int32 := xop (gSt Γ) (gBk Γ)
/-- the class holds Γ -/
def xRepC (Γ : xG) (n : Nat → Int32) (f : Nat → Nat → Int32) : Prop :=
  (n 0 = nI (gNp Γ)) ∧
  (n 1 = nI (gNo Γ)) ∧
  (n 2 = nI (gNt Γ)) ∧
  (n 3 = nI (gNm Γ)) ∧
  (∀ k, k < gNp Γ → f 0 k = gRk Γ k) ∧
  (∀ k, k < gNp Γ → f 1 k = nI (gFs Γ k)) ∧
  (∀ k, k < gNp Γ → f 2 k = nI (gFs Γ (k + 1) - gFs Γ k)) ∧
  (∀ q, q < gNo Γ → f 3 q = nI (gPn Γ q)) ∧
  (∀ q, q < 144 → f 4 q = gCb Γ q) ∧
  (∀ q, q < 144 → f 5 q = gCl Γ q) ∧
  (∀ q, q < 144 → f 6 q = gSt Γ q) ∧
  (∀ q, q < gNo Γ → gSt Γ q ≠ -1 → f 7 q = gTk Γ q) ∧
  (∀ t, t < gNt Γ → f 8 t = nI (gTa Γ t)) ∧
  (∀ t, t < gNt Γ → f 9 t = nI (gTc Γ t)) ∧
  (∀ t, t < gNt Γ → f 10 t = gTl Γ t) ∧
  (∀ i, i < gNm Γ → f 13 i = nI (gMx Γ i)) ∧
  (∀ i, i < gNm Γ → f 14 i = nI (gMy Γ i)) ∧
  (∀ q, q < 144 → f 17 q = gBk Γ q)
theorem xRepC.np {Γ : xG} {n : Nat → Int32} {f : Nat → Nat → Int32} (h : xRepC Γ n f) : n 0 = nI (gNp Γ) := h.1
theorem xRepC.no {Γ : xG} {n : Nat → Int32} {f : Nat → Nat → Int32} (h : xRepC Γ n f) : n 1 = nI (gNo Γ) := h.2.1
theorem xRepC.nt {Γ : xG} {n : Nat → Int32} {f : Nat → Nat → Int32} (h : xRepC Γ n f) : n 2 = nI (gNt Γ) := h.2.2.1
theorem xRepC.nm {Γ : xG} {n : Nat → Int32} {f : Nat → Nat → Int32} (h : xRepC Γ n f) : n 3 = nI (gNm Γ) := h.2.2.2.1
theorem xRepC.rk {Γ : xG} {n : Nat → Int32} {f : Nat → Nat → Int32} (h : xRepC Γ n f) : ∀ k, k < gNp Γ → f 0 k = gRk Γ k := h.2.2.2.2.1
theorem xRepC.fs {Γ : xG} {n : Nat → Int32} {f : Nat → Nat → Int32} (h : xRepC Γ n f) : ∀ k, k < gNp Γ → f 1 k = nI (gFs Γ k) := h.2.2.2.2.2.1
theorem xRepC.pc {Γ : xG} {n : Nat → Int32} {f : Nat → Nat → Int32} (h : xRepC Γ n f) : ∀ k, k < gNp Γ → f 2 k = nI (gFs Γ (k + 1) - gFs Γ k) := h.2.2.2.2.2.2.1
theorem xRepC.pn {Γ : xG} {n : Nat → Int32} {f : Nat → Nat → Int32} (h : xRepC Γ n f) : ∀ q, q < gNo Γ → f 3 q = nI (gPn Γ q) := h.2.2.2.2.2.2.2.1
theorem xRepC.cb {Γ : xG} {n : Nat → Int32} {f : Nat → Nat → Int32} (h : xRepC Γ n f) : ∀ q, q < 144 → f 4 q = gCb Γ q := h.2.2.2.2.2.2.2.2.1
theorem xRepC.cl {Γ : xG} {n : Nat → Int32} {f : Nat → Nat → Int32} (h : xRepC Γ n f) : ∀ q, q < 144 → f 5 q = gCl Γ q := h.2.2.2.2.2.2.2.2.2.1
theorem xRepC.st {Γ : xG} {n : Nat → Int32} {f : Nat → Nat → Int32} (h : xRepC Γ n f) : ∀ q, q < 144 → f 6 q = gSt Γ q := h.2.2.2.2.2.2.2.2.2.2.1
theorem xRepC.tk {Γ : xG} {n : Nat → Int32} {f : Nat → Nat → Int32} (h : xRepC Γ n f) : ∀ q, q < gNo Γ → gSt Γ q ≠ -1 → f 7 q = gTk Γ q := h.2.2.2.2.2.2.2.2.2.2.2.1
theorem xRepC.ta {Γ : xG} {n : Nat → Int32} {f : Nat → Nat → Int32} (h : xRepC Γ n f) : ∀ t, t < gNt Γ → f 8 t = nI (gTa Γ t) := h.2.2.2.2.2.2.2.2.2.2.2.2.1
theorem xRepC.tc {Γ : xG} {n : Nat → Int32} {f : Nat → Nat → Int32} (h : xRepC Γ n f) : ∀ t, t < gNt Γ → f 9 t = nI (gTc Γ t) := h.2.2.2.2.2.2.2.2.2.2.2.2.2.1
theorem xRepC.tl {Γ : xG} {n : Nat → Int32} {f : Nat → Nat → Int32} (h : xRepC Γ n f) : ∀ t, t < gNt Γ → f 10 t = gTl Γ t := h.2.2.2.2.2.2.2.2.2.2.2.2.2.2.1
theorem xRepC.mx {Γ : xG} {n : Nat → Int32} {f : Nat → Nat → Int32} (h : xRepC Γ n f) : ∀ i, i < gNm Γ → f 13 i = nI (gMx Γ i) := h.2.2.2.2.2.2.2.2.2.2.2.2.2.2.2.1
theorem xRepC.my {Γ : xG} {n : Nat → Int32} {f : Nat → Nat → Int32} (h : xRepC Γ n f) : ∀ i, i < gNm Γ → f 14 i = nI (gMy Γ i) := h.2.2.2.2.2.2.2.2.2.2.2.2.2.2.2.2.1
theorem xRepC.bk {Γ : xG} {n : Nat → Int32} {f : Nat → Nat → Int32} (h : xRepC Γ n f) : ∀ q, q < 144 → f 17 q = gBk Γ q := h.2.2.2.2.2.2.2.2.2.2.2.2.2.2.2.2.2
/-- the reference holds Γ -/
def xRepR (Γ : xG) (n : Nat → Int32) (f : Nat → Nat → Int32) : Prop :=
  (n 11 = nI (gNp Γ)) ∧
  (n 12 = nI (gNo Γ)) ∧
  (n 13 = nI (gNt Γ)) ∧
  (n 14 = nI (gNm Γ)) ∧
  (∀ k, k < gNp Γ → f 20 k = gRk Γ k) ∧
  (∀ k, k ≤ gNp Γ → f 21 k = nI (gFs Γ k)) ∧
  (∀ q, q < gNo Γ → f 22 q = gCb Γ q) ∧
  (∀ q, q < gNo Γ → gCb Γ q ≠ -1 → f 23 q = gCl Γ q) ∧
  (∀ q, q < gNo Γ → f 24 q = gSt Γ q) ∧
  (∀ q, q < gNo Γ → gSt Γ q ≠ -1 → f 25 q = gTk Γ q) ∧
  (∀ q, q < 144 → f 26 q = gBk Γ q) ∧
  (∀ t, t < gNt Γ → f 27 t = nI (gTa Γ t)) ∧
  (∀ t, t < gNt Γ → f 28 t = nI (gTb Γ t)) ∧
  (∀ t, t < gNt Γ → f 29 t = nI (gTc Γ t)) ∧
  (∀ t, t < gNt Γ → f 30 t = gTl Γ t) ∧
  (∀ i, i < gNm Γ → f 31 i = nI (gMx Γ i)) ∧
  (∀ i, i < gNm Γ → f 32 i = nI (gMy Γ i))
theorem xRepR.np {Γ : xG} {n : Nat → Int32} {f : Nat → Nat → Int32} (h : xRepR Γ n f) : n 11 = nI (gNp Γ) := h.1
theorem xRepR.no {Γ : xG} {n : Nat → Int32} {f : Nat → Nat → Int32} (h : xRepR Γ n f) : n 12 = nI (gNo Γ) := h.2.1
theorem xRepR.nt {Γ : xG} {n : Nat → Int32} {f : Nat → Nat → Int32} (h : xRepR Γ n f) : n 13 = nI (gNt Γ) := h.2.2.1
theorem xRepR.nm {Γ : xG} {n : Nat → Int32} {f : Nat → Nat → Int32} (h : xRepR Γ n f) : n 14 = nI (gNm Γ) := h.2.2.2.1
theorem xRepR.rk {Γ : xG} {n : Nat → Int32} {f : Nat → Nat → Int32} (h : xRepR Γ n f) : ∀ k, k < gNp Γ → f 20 k = gRk Γ k := h.2.2.2.2.1
theorem xRepR.fs {Γ : xG} {n : Nat → Int32} {f : Nat → Nat → Int32} (h : xRepR Γ n f) : ∀ k, k ≤ gNp Γ → f 21 k = nI (gFs Γ k) := h.2.2.2.2.2.1
theorem xRepR.cb {Γ : xG} {n : Nat → Int32} {f : Nat → Nat → Int32} (h : xRepR Γ n f) : ∀ q, q < gNo Γ → f 22 q = gCb Γ q := h.2.2.2.2.2.2.1
theorem xRepR.cl {Γ : xG} {n : Nat → Int32} {f : Nat → Nat → Int32} (h : xRepR Γ n f) : ∀ q, q < gNo Γ → gCb Γ q ≠ -1 → f 23 q = gCl Γ q := h.2.2.2.2.2.2.2.1
theorem xRepR.st {Γ : xG} {n : Nat → Int32} {f : Nat → Nat → Int32} (h : xRepR Γ n f) : ∀ q, q < gNo Γ → f 24 q = gSt Γ q := h.2.2.2.2.2.2.2.2.1
theorem xRepR.tk {Γ : xG} {n : Nat → Int32} {f : Nat → Nat → Int32} (h : xRepR Γ n f) : ∀ q, q < gNo Γ → gSt Γ q ≠ -1 → f 25 q = gTk Γ q := h.2.2.2.2.2.2.2.2.2.1
theorem xRepR.bk {Γ : xG} {n : Nat → Int32} {f : Nat → Nat → Int32} (h : xRepR Γ n f) : ∀ q, q < 144 → f 26 q = gBk Γ q := h.2.2.2.2.2.2.2.2.2.2.1
theorem xRepR.ta {Γ : xG} {n : Nat → Int32} {f : Nat → Nat → Int32} (h : xRepR Γ n f) : ∀ t, t < gNt Γ → f 27 t = nI (gTa Γ t) := h.2.2.2.2.2.2.2.2.2.2.2.1
theorem xRepR.tb {Γ : xG} {n : Nat → Int32} {f : Nat → Nat → Int32} (h : xRepR Γ n f) : ∀ t, t < gNt Γ → f 28 t = nI (gTb Γ t) := h.2.2.2.2.2.2.2.2.2.2.2.2.1
theorem xRepR.tc {Γ : xG} {n : Nat → Int32} {f : Nat → Nat → Int32} (h : xRepR Γ n f) : ∀ t, t < gNt Γ → f 29 t = nI (gTc Γ t) := h.2.2.2.2.2.2.2.2.2.2.2.2.2.1
theorem xRepR.tl {Γ : xG} {n : Nat → Int32} {f : Nat → Nat → Int32} (h : xRepR Γ n f) : ∀ t, t < gNt Γ → f 30 t = gTl Γ t := h.2.2.2.2.2.2.2.2.2.2.2.2.2.2.1
theorem xRepR.mx {Γ : xG} {n : Nat → Int32} {f : Nat → Nat → Int32} (h : xRepR Γ n f) : ∀ i, i < gNm Γ → f 31 i = nI (gMx Γ i) := h.2.2.2.2.2.2.2.2.2.2.2.2.2.2.2.1
theorem xRepR.my {Γ : xG} {n : Nat → Int32} {f : Nat → Nat → Int32} (h : xRepR Γ n f) : ∀ i, i < gNm Γ → f 32 i = nI (gMy Γ i) := h.2.2.2.2.2.2.2.2.2.2.2.2.2.2.2.2
/-- what is always so -/
def xGood (Γ : xG) : Prop :=
  (gNp Γ ≤ 12) ∧
  (gNt Γ ≤ 10) ∧
  (gNm Γ ≤ 12) ∧
  (gFs Γ 0 = 0) ∧
  (gFs Γ (gNp Γ) = gNo Γ) ∧
  (∀ k, k < gNp Γ → gFs Γ k < gFs Γ (k + 1) ∧ gFs Γ (k + 1) ≤ gFs Γ k + 12) ∧
  (∀ k, k < gNp Γ → ∃ j, j ≤ 9 ∧ gRk Γ k = nI j) ∧
  (∀ q, q < gNo Γ → gPn Γ q < gNp Γ ∧ gFs Γ (gPn Γ q) ≤ q ∧ q < gFs Γ (gPn Γ q + 1)) ∧
  (xM (gNo Γ) (gCb Γ)) ∧
  (xM (gNo Γ) (gSt Γ)) ∧
  (∀ q r, q < gNo Γ → r < gNo Γ → gSt Γ q = nI r → gBk Γ q = gBk Γ r) ∧
  (∀ q, gBk Γ q = 0 ∨ gBk Γ q = 1) ∧
  (∀ q, gSt Γ q = -1 → gBk Γ q = 0) ∧
  (∀ q, gCb Γ q = -1 → gCl Γ q = 0) ∧
  (∀ q r, q < gNo Γ → r < gNo Γ → gCb Γ q = nI r → gCl Γ q = gCl Γ r) ∧
  (∀ q, gNo Γ ≤ q → gCb Γ q = -1 ∧ gSt Γ q = -1) ∧
  (∀ t, t < gNt Γ → 1 ≤ gTc Γ t ∧ gTc Γ t ≤ 12) ∧
  (∀ t, t < gNt Γ → ∀ i, i < gTc Γ t → gTa Γ t + i < gNo Γ ∧ gTb Γ t + i < gNo Γ ∧ gSt Γ (gTa Γ t + i) = nI (gTb Γ t + i)) ∧
  (∀ q, q < gNo Γ → gSt Γ q ≠ -1 → ∃ t, t < gNt Γ ∧ gTk Γ q = nI t) ∧
  (∀ i, i < gNm Γ → gMx Γ i < gNo Γ ∧ gMy Γ i < gNo Γ ∧ gMx Γ i ≠ gMy Γ i)
theorem xGood.np {Γ : xG} (h : xGood Γ) : gNp Γ ≤ 12 := h.1
theorem xGood.nt {Γ : xG} (h : xGood Γ) : gNt Γ ≤ 10 := h.2.1
theorem xGood.nm {Γ : xG} (h : xGood Γ) : gNm Γ ≤ 12 := h.2.2.1
theorem xGood.f0 {Γ : xG} (h : xGood Γ) : gFs Γ 0 = 0 := h.2.2.2.1
theorem xGood.fn {Γ : xG} (h : xGood Γ) : gFs Γ (gNp Γ) = gNo Γ := h.2.2.2.2.1
theorem xGood.fs {Γ : xG} (h : xGood Γ) : ∀ k, k < gNp Γ → gFs Γ k < gFs Γ (k + 1) ∧ gFs Γ (k + 1) ≤ gFs Γ k + 12 := h.2.2.2.2.2.1
theorem xGood.rk {Γ : xG} (h : xGood Γ) : ∀ k, k < gNp Γ → ∃ j, j ≤ 9 ∧ gRk Γ k = nI j := h.2.2.2.2.2.2.1
theorem xGood.pn {Γ : xG} (h : xGood Γ) : ∀ q, q < gNo Γ → gPn Γ q < gNp Γ ∧ gFs Γ (gPn Γ q) ≤ q ∧ q < gFs Γ (gPn Γ q + 1) := h.2.2.2.2.2.2.2.1
theorem xGood.cb {Γ : xG} (h : xGood Γ) : xM (gNo Γ) (gCb Γ) := h.2.2.2.2.2.2.2.2.1
theorem xGood.st {Γ : xG} (h : xGood Γ) : xM (gNo Γ) (gSt Γ) := h.2.2.2.2.2.2.2.2.2.1
theorem xGood.bs {Γ : xG} (h : xGood Γ) : ∀ q r, q < gNo Γ → r < gNo Γ → gSt Γ q = nI r → gBk Γ q = gBk Γ r := h.2.2.2.2.2.2.2.2.2.2.1
theorem xGood.b01 {Γ : xG} (h : xGood Γ) : ∀ q, gBk Γ q = 0 ∨ gBk Γ q = 1 := h.2.2.2.2.2.2.2.2.2.2.2.1
theorem xGood.bst {Γ : xG} (h : xGood Γ) : ∀ q, gSt Γ q = -1 → gBk Γ q = 0 := h.2.2.2.2.2.2.2.2.2.2.2.2.1
theorem xGood.cl {Γ : xG} (h : xGood Γ) : ∀ q, gCb Γ q = -1 → gCl Γ q = 0 := h.2.2.2.2.2.2.2.2.2.2.2.2.2.1
theorem xGood.cs {Γ : xG} (h : xGood Γ) : ∀ q r, q < gNo Γ → r < gNo Γ → gCb Γ q = nI r → gCl Γ q = gCl Γ r := h.2.2.2.2.2.2.2.2.2.2.2.2.2.2.1
theorem xGood.out {Γ : xG} (h : xGood Γ) : ∀ q, gNo Γ ≤ q → gCb Γ q = -1 ∧ gSt Γ q = -1 := h.2.2.2.2.2.2.2.2.2.2.2.2.2.2.2.1
theorem xGood.tt {Γ : xG} (h : xGood Γ) : ∀ t, t < gNt Γ → 1 ≤ gTc Γ t ∧ gTc Γ t ≤ 12 := h.2.2.2.2.2.2.2.2.2.2.2.2.2.2.2.2.1
theorem xGood.ts {Γ : xG} (h : xGood Γ) : ∀ t, t < gNt Γ → ∀ i, i < gTc Γ t → gTa Γ t + i < gNo Γ ∧ gTb Γ t + i < gNo Γ ∧ gSt Γ (gTa Γ t + i) = nI (gTb Γ t + i) := h.2.2.2.2.2.2.2.2.2.2.2.2.2.2.2.2.2.1
theorem xGood.tk {Γ : xG} (h : xGood Γ) : ∀ q, q < gNo Γ → gSt Γ q ≠ -1 → ∃ t, t < gNt Γ ∧ gTk Γ q = nI t := h.2.2.2.2.2.2.2.2.2.2.2.2.2.2.2.2.2.2.1
theorem xGood.mm {Γ : xG} (h : xGood Γ) : ∀ i, i < gNm Γ → gMx Γ i < gNo Γ ∧ gMy Γ i < gNo Γ ∧ gMx Γ i ≠ gMy Γ i := h.2.2.2.2.2.2.2.2.2.2.2.2.2.2.2.2.2.2.2
theorem xGood.mono {Γ : xG} (h : xGood Γ) : ∀ k, k ≤ gNp Γ → gFs Γ k ≤ 12 * k := by
  intro k
  induction k with
  | zero => intro _; rw [h.f0]; omega
  | succ k ih => intro hk; have := ih (by omega); have := (h.fs k (by omega)).2; omega
theorem xGood.no {Γ : xG} (h : xGood Γ) : gNo Γ ≤ 144 := by have := h.mono (gNp Γ) (Nat.le_refl _); have := h.fn; have := h.np; omega
theorem xGood.fle {Γ : xG} (h : xGood Γ) : ∀ d k, k + d ≤ gNp Γ → gFs Γ k ≤ gFs Γ (k + d) := by
  intro d
  induction d with
  | zero => intro k _; exact Nat.le_refl _
  | succ d ih => intro k hk; have := ih k (by omega); have := (h.fs (k + d) (by omega)).1; rw [show k + (d + 1) = k + d + 1 by omega]; omega
theorem xGood.fno {Γ : xG} (h : xGood Γ) {k : Nat} (hk : k ≤ gNp Γ) : gFs Γ k ≤ gNo Γ := by
  have := h.fle (gNp Γ - k) k (by omega)
  rw [show k + (gNp Γ - k) = gNp Γ by omega, h.fn] at this
  exact this
/-- a port lies in one panel -/
theorem xGood.pu {Γ : xG} (h : xGood Γ) {k q : Nat} (hk : k < gNp Γ) (h1 : gFs Γ k ≤ q) (h2 : q < gFs Γ (k + 1)) : gPn Γ q = k := by
  have hq : q < gNo Γ := Nat.lt_of_lt_of_le h2 (h.fno (by omega))
  obtain ⟨a1, a2, a3⟩ := h.pn q hq
  rcases Nat.lt_trichotomy (gPn Γ q) k with a | a | a
  · have := h.fle (k - (gPn Γ q + 1)) (gPn Γ q + 1) (by omega)
    rw [show gPn Γ q + 1 + (k - (gPn Γ q + 1)) = k by omega] at this
    omega
  · exact a
  · have := h.fle (gPn Γ q - (k + 1)) (k + 1) (by omega)
    rw [show k + 1 + (gPn Γ q - (k + 1)) = gPn Γ q by omega] at this
    omega
theorem xGood.op {Γ : xG} (h : xGood Γ) : xM (gNo Γ) (gOp Γ) := xM_op h.st h.bs
theorem xM.congr {no : Nat} {g g' : Nat → Int32} (h : xM no g) (e : ∀ q, q < no → g' q = g q) : xM no g' := by
  intro p hp
  rw [e p hp]
  rcases h p hp with h1 | ⟨q, h1, h2, h3, h4⟩
  · exact Or.inl h1
  · exact Or.inr ⟨q, h1, h2, h3, by rw [e q h1]; exact h4⟩
/-- the reference's part stays; the class's part stays -/
def xFrR (n : Nat → Int32) (f : Nat → Nat → Int32) (N : Nat → Int32) (F : Nat → Nat → Int32) : Prop := (∀ q, 10 ≤ q → N q = n q) ∧ ∀ q, 20 ≤ q → F q = f q
def xFrC (n : Nat → Int32) (f : Nat → Nat → Int32) (N : Nat → Int32) (F : Nat → Nat → Int32) : Prop := (∀ q, q < 10 → N q = n q) ∧ ∀ q, q < 20 → F q = f q
/-- a state in which the class holds Γ, and what isn't its own is as in (n, f, o) -/
def xOKC (Γ : xG) (n : Nat → Int32) (f : Nat → Nat → Int32) (o : Nat → Int64) (σ' : xS) : Prop := ∃ N F, σ' = (N, F, o) ∧ xRepC Γ N F ∧ xFrR n f N F
def xOKR (Γ : xG) (n : Nat → Int32) (f : Nat → Nat → Int32) (o : Nat → Int64) (k : Nat) (σ' : xS) : Prop := ∃ N F, σ' = (N, F, o) ∧ xRepR Γ N F ∧ xFrC n f N F ∧ N 10 = nI k
theorem xRepC.eqv {Γ : xG} {n N : Nat → Int32} {f F : Nat → Nat → Int32} (h : xRepC Γ n f) (hn : ∀ q, q < 10 → N q = n q) (hf : ∀ q, q < 20 → q ≠ 11 → q ≠ 12 → q ≠ 15 → q ≠ 16 → q ≠ 18 → F q = f q) : xRepC Γ N F := by
  unfold xRepC
  rw [hn 0 (by decide), hn 1 (by decide), hn 2 (by decide), hn 3 (by decide)]
  rw [hf 0 (by decide) (by decide) (by decide) (by decide) (by decide) (by decide), hf 1 (by decide) (by decide) (by decide) (by decide) (by decide) (by decide), hf 2 (by decide) (by decide) (by decide) (by decide) (by decide) (by decide), hf 3 (by decide) (by decide) (by decide) (by decide) (by decide) (by decide), hf 4 (by decide) (by decide) (by decide) (by decide) (by decide) (by decide), hf 5 (by decide) (by decide) (by decide) (by decide) (by decide) (by decide), hf 6 (by decide) (by decide) (by decide) (by decide) (by decide) (by decide), hf 7 (by decide) (by decide) (by decide) (by decide) (by decide) (by decide), hf 8 (by decide) (by decide) (by decide) (by decide) (by decide) (by decide), hf 9 (by decide) (by decide) (by decide) (by decide) (by decide) (by decide), hf 10 (by decide) (by decide) (by decide) (by decide) (by decide) (by decide), hf 13 (by decide) (by decide) (by decide) (by decide) (by decide) (by decide), hf 14 (by decide) (by decide) (by decide) (by decide) (by decide) (by decide), hf 17 (by decide) (by decide) (by decide) (by decide) (by decide) (by decide)]
  exact h
theorem xRepC.same {Γ : xG} {n : Nat → Int32} {f : Nat → Nat → Int32} {o : Nat → Int64} (h : xRepC Γ n f) : xOKC Γ n f o (n, f, o) := ⟨n, f, rfl, h, fun _ _ => rfl, fun _ _ => rfl⟩
theorem xRepC.trail {Γ : xG} {n : Nat → Int32} {f : Nat → Nat → Int32} {o : Nat → Int64} (h : xRepC Γ n f) (g : Nat → Int32) : xOKC Γ n f o (n, xu f 11 g, o) := ⟨n, xu f 11 g, rfl, h.eqv (fun _ _ => rfl) (fun q _ h1 _ _ _ _ => xu_n h1), fun _ _ => rfl, fun q hq => xu_n (by omega)⟩
theorem xRepC.cabM {Γ : xG} {n : Nat → Int32} {f : Nat → Nat → Int32} (h : xRepC Γ n f) (hG : xGood Γ) : xM (gNo Γ) (f 4) := hG.cb.congr (fun q hq => h.cb q (by have := hG.no; omega))
theorem xRepC.opM {Γ : xG} {n : Nat → Int32} {f : Nat → Nat → Int32} (h : xRepC Γ n f) (hG : xGood Γ) : xM (gNo Γ) (xop (f 6) (f 17)) := hG.op.congr (fun q hq => by unfold gOp xop; rw [h.st q (by have := hG.no; omega), h.bk q (by have := hG.no; omega)])
/-- traces of rows that agree -/
theorem xw_congr {no : Nat} {C S C' S' : Nat → Int32} {c : Bool} {p : Nat} (hn : no < 2 ^ 31) (hC : xM no C) (hS : xM no S) (hp : p < no) (e1 : ∀ q, q < no → C' q = C q) (e2 : ∀ q, q < no → S' q = S q) : ∀ k, xw C' S' c p k = xw C S c p k := by
  intro k
  induction k with
  | zero => rfl
  | succ k ih =>
    rcases xw_in (c := c) hn hC hS hp k with h | ⟨q, hq, h⟩
    · rw [xw, xw, ih, if_pos h, if_pos h]
    · rw [xw_step (ih.trans h) (by omega), xw_step h (by omega)]
      cases xdir c k
      · exact e2 q hq
      · exact e1 q hq
theorem xStop_congr {no : Nat} {C S C' S' : Nat → Int32} {c : Bool} {p K : Nat} (hn : no < 2 ^ 31) (hC : xM no C) (hS : xM no S) (hp : p < no) (e1 : ∀ q, q < no → C' q = C q) (e2 : ∀ q, q < no → S' q = S q) (h : xStop C' S' c p K) : xStop C S c p K := by
  have e := xw_congr (c := c) hn hC hS hp e1 e2
  exact ⟨fun k hk => by rw [← e]; exact h.1 k hk, fun k hk => by rw [← e]; exact h.2.1 k hk, by rw [← e, ← e]; exact h.2.2⟩
theorem xR_congr {no : Nat} {C S C' S' : Nat → Int32} {a b : Nat} (e1 : ∀ q, q < no → C' q = C q) (e2 : ∀ q, q < no → S' q = S q) (h : xR no C' S' a b) : xR no C S a b := by
  intro P h0 h1
  refine h P h0 (fun x y hx hy hP e => h1 x y hx hy hP ?_)
  rw [← e1 x hx, ← e2 x hx]
  exact e
/-- the first of c ports from lo on with P; -1 without one -/
def xFF (P : Nat → Prop) (lo c : Nat) (r : Int32) : Prop := (∃ i, i < c ∧ P (lo + i) ∧ (∀ j, j < i → ¬ P (lo + j)) ∧ r = nI (lo + i)) ∨ ((∀ i, i < c → ¬ P (lo + i)) ∧ r = -1)
theorem xFF.uniq {P : Nat → Prop} {lo c : Nat} {r r' : Int32} (h : xFF P lo c r) (h' : xFF P lo c r') : r = r' := by
  rcases h with ⟨i, a1, a2, a3, rfl⟩ | ⟨a1, rfl⟩ <;> rcases h' with ⟨j, b1, b2, b3, rfl⟩ | ⟨b1, rfl⟩
  · rcases Nat.lt_trichotomy i j with e | e | e
    · exact absurd a2 (b3 i e)
    · rw [e]
    · exact absurd b2 (a3 j e)
  · exact absurd a2 (b1 i a1)
  · exact absurd b2 (a1 j b1)
  · rfl
/-- how many of the first k have P -/
noncomputable def xcnt (P : Nat → Prop) : Nat → Nat
  | 0 => 0
  | k + 1 => xcnt P k + xif (P k) 1 0
theorem xcnt_t {P : Nat → Prop} {k : Nat} (h : P k) : xcnt P (k + 1) = xcnt P k + 1 := by rw [xcnt, xif_t h]
theorem xcnt_f {P : Nat → Prop} {k : Nat} (h : ¬ P k) : xcnt P (k + 1) = xcnt P k := by rw [xcnt, xif_f h, Nat.add_zero]
theorem xcnt_le (P : Nat → Prop) : ∀ k, xcnt P k ≤ k := by
  intro k
  induction k with
  | zero => exact Nat.le_refl 0
  | succ k ih =>
    by_cases h : P k
    · rw [xcnt_t h]; omega
    · rw [xcnt_f h]; omega
/-- what a trace is long behind k hops -/
def gLen (Γ : xG) (b : Bool) (p : Nat) : Nat → Int32
  | 0 => 0
  | k + 1 => gLen Γ b p k + (if xdir b k = true then xlen (gRk Γ) (gPn Γ (xNa (xw (gCb Γ) (gOp Γ) b p k))) (gPn Γ (xNa (xw (gCb Γ) (gOp Γ) b p (k + 1)))) else gTl Γ (xNa (gTk Γ (xNa (xw (gCb Γ) (gOp Γ) b p k)))))
/-- what the cables with lower ends below k are long -/
noncomputable def gSum (Γ : xG) : Nat → Int32
  | 0 => 0
  | k + 1 => gSum Γ k + xif (nI k < gCb Γ k) (xlen (gRk Γ) (gPn Γ k) (gPn Γ (xNa (gCb Γ k)))) 0
theorem xlen_c {a b : Nat → Int32} {j k : Nat} (e1 : a j = b j) (e2 : a k = b k) : xlen a j k = xlen b j k := by unfold xlen; rw [e1, e2]

