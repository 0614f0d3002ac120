/-! the world: one register machine; E: the tables, the array classes, what stays beside it, the least address, the addresses; σ: the int fields, the rows, nothing -/
abbrev xE : Type := va_G × (ClassId × ClassId × va_W) × Nat × (Nat → Nat)
abbrev xS : Type := (Nat → Int32) × (Nat → Nat → Int32) × (Nat → Int64)
def xu {α : Type} (f : Nat → α) (k : Nat) (v : α) : Nat → α := fun j => if j = k then v else f j
theorem xu_s {α : Type} (f : Nat → α) (k : Nat) (v : α) : xu f k v k = v := if_pos rfl
theorem xu_n {α : Type} {f : Nat → α} {k j : Nat} {v : α} (h : j ≠ k) : xu f k v j = f j := if_neg h
def xbl (i : Nat) : Int32 := match i with
  | 2 => 0
  | 5 => 0
  | 9 => 0
  | 10 => 0
  | 16 => 0
  | _ => -1
def xsz (i : Nat) : Nat := match i with
  | 0 => 12
  | 1 => 12
  | 2 => 12
  | 13 => 12
  | 14 => 12
  | 15 => 12
  | 16 => 12
  | 20 => 12
  | 31 => 12
  | 32 => 12
  | 8 => 10
  | 9 => 10
  | 10 => 10
  | 27 => 10
  | 28 => 10
  | 29 => 10
  | 30 => 10
  | 21 => 13
  | 35 => 145
  | _ => 144
def xT (E : xE) : List (ClassId × FieldType) := [(E.2.1.1, .int), (E.2.1.2.1, .boolean)]
def xA (E : xE) : Nat → Prop := fun q => E.2.2.1 ≤ q
def xW (E : xE) (σ : xS) : va_W :=
  (E.2.2.2 0, .inr (3, [.int (σ.1 0), .ref (E.2.2.2 1), .ref (E.2.2.2 3), .ref (E.2.2.2 5), .int (σ.1 1), .ref (E.2.2.2 7), .ref (E.2.2.2 9), .ref (E.2.2.2 11), .ref (E.2.2.2 13), .ref (E.2.2.2 15), .ref (E.2.2.2 35), .int (σ.1 2), .ref (E.2.2.2 17), .ref (E.2.2.2 19), .ref (E.2.2.2 21), .ref (E.2.2.2 39), .ref (E.2.2.2 23), .ref (E.2.2.2 25), .ref (E.2.2.2 37)])) ::
  (E.2.2.2 1, .inr (2, [.ref (E.2.2.2 2), .int (xbl 0)])) ::
  (E.2.2.2 2, .inl (E.2.1.1, xsz 0, .inl (σ.2.1 0))) ::
  (E.2.2.2 3, .inr (2, [.ref (E.2.2.2 4), .int (xbl 1)])) ::
  (E.2.2.2 4, .inl (E.2.1.1, xsz 1, .inl (σ.2.1 1))) ::
  (E.2.2.2 5, .inr (2, [.ref (E.2.2.2 6), .int (xbl 2)])) ::
  (E.2.2.2 6, .inl (E.2.1.1, xsz 2, .inl (σ.2.1 2))) ::
  (E.2.2.2 7, .inr (2, [.ref (E.2.2.2 8), .int (xbl 3)])) ::
  (E.2.2.2 8, .inl (E.2.1.1, xsz 3, .inl (σ.2.1 3))) ::
  (E.2.2.2 9, .inr (2, [.ref (E.2.2.2 10), .int (xbl 4)])) ::
  (E.2.2.2 10, .inl (E.2.1.1, xsz 4, .inl (σ.2.1 4))) ::
  (E.2.2.2 11, .inr (2, [.ref (E.2.2.2 12), .int (xbl 5)])) ::
  (E.2.2.2 12, .inl (E.2.1.1, xsz 5, .inl (σ.2.1 5))) ::
  (E.2.2.2 13, .inr (2, [.ref (E.2.2.2 14), .int (xbl 6)])) ::
  (E.2.2.2 14, .inl (E.2.1.1, xsz 6, .inl (σ.2.1 6))) ::
  (E.2.2.2 15, .inr (2, [.ref (E.2.2.2 16), .int (xbl 7)])) ::
  (E.2.2.2 16, .inl (E.2.1.1, xsz 7, .inl (σ.2.1 7))) ::
  (E.2.2.2 17, .inr (2, [.ref (E.2.2.2 18), .int (xbl 8)])) ::
  (E.2.2.2 18, .inl (E.2.1.1, xsz 8, .inl (σ.2.1 8))) ::
  (E.2.2.2 19, .inr (2, [.ref (E.2.2.2 20), .int (xbl 9)])) ::
  (E.2.2.2 20, .inl (E.2.1.1, xsz 9, .inl (σ.2.1 9))) ::
  (E.2.2.2 21, .inr (2, [.ref (E.2.2.2 22), .int (xbl 10)])) ::
  (E.2.2.2 22, .inl (E.2.1.1, xsz 10, .inl (σ.2.1 10))) ::
  (E.2.2.2 23, .inr (2, [.ref (E.2.2.2 24), .int (xbl 11)])) ::
  (E.2.2.2 24, .inl (E.2.1.1, xsz 11, .inl (σ.2.1 11))) ::
  (E.2.2.2 25, .inr (2, [.ref (E.2.2.2 26), .int (xbl 12)])) ::
  (E.2.2.2 26, .inl (E.2.1.1, xsz 12, .inl (σ.2.1 12))) ::
  (E.2.2.2 27, .inr (2, [.ref (E.2.2.2 28), .int (xbl 13)])) ::
  (E.2.2.2 28, .inl (E.2.1.1, xsz 13, .inl (σ.2.1 13))) ::
  (E.2.2.2 29, .inr (2, [.ref (E.2.2.2 30), .int (xbl 14)])) ::
  (E.2.2.2 30, .inl (E.2.1.1, xsz 14, .inl (σ.2.1 14))) ::
  (E.2.2.2 31, .inr (2, [.ref (E.2.2.2 32), .int (xbl 15)])) ::
  (E.2.2.2 32, .inl (E.2.1.1, xsz 15, .inl (σ.2.1 15))) ::
  (E.2.2.2 33, .inr (2, [.ref (E.2.2.2 34), .int (xbl 16)])) ::
  (E.2.2.2 34, .inl (E.2.1.1, xsz 16, .inl (σ.2.1 16))) ::
  (E.2.2.2 35, .inr (0, [.ref (E.2.2.2 36)])) ::
  (E.2.2.2 36, .inl (E.2.1.2.1, xsz 17, .inl (σ.2.1 17))) ::
  (E.2.2.2 37, .inr (0, [.ref (E.2.2.2 38)])) ::
  (E.2.2.2 38, .inl (E.2.1.2.1, xsz 18, .inl (σ.2.1 18))) ::
  (E.2.2.2 39, .inr (1, [.int (σ.1 3), .ref (E.2.2.2 27), .ref (E.2.2.2 29), .ref (E.2.2.2 31), .ref (E.2.2.2 33)])) :: E.2.1.2.2
theorem xw_0 (E : xE) (σ : xS) : (xW E σ)[0]? = some (E.2.2.2 0, .inr (3, [.int (σ.1 0), .ref (E.2.2.2 1), .ref (E.2.2.2 3), .ref (E.2.2.2 5), .int (σ.1 1), .ref (E.2.2.2 7), .ref (E.2.2.2 9), .ref (E.2.2.2 11), .ref (E.2.2.2 13), .ref (E.2.2.2 15), .ref (E.2.2.2 35), .int (σ.1 2), .ref (E.2.2.2 17), .ref (E.2.2.2 19), .ref (E.2.2.2 21), .ref (E.2.2.2 39), .ref (E.2.2.2 23), .ref (E.2.2.2 25), .ref (E.2.2.2 37)])) := rfl
theorem xw_1 (E : xE) (σ : xS) : (xW E σ)[1]? = some (E.2.2.2 1, .inr (2, [.ref (E.2.2.2 2), .int (xbl 0)])) := rfl
theorem xw_2 (E : xE) (σ : xS) : (xW E σ)[2]? = some (E.2.2.2 2, .inl (E.2.1.1, xsz 0, .inl (σ.2.1 0))) := rfl
theorem xw_3 (E : xE) (σ : xS) : (xW E σ)[3]? = some (E.2.2.2 3, .inr (2, [.ref (E.2.2.2 4), .int (xbl 1)])) := rfl
theorem xw_4 (E : xE) (σ : xS) : (xW E σ)[4]? = some (E.2.2.2 4, .inl (E.2.1.1, xsz 1, .inl (σ.2.1 1))) := rfl
theorem xw_5 (E : xE) (σ : xS) : (xW E σ)[5]? = some (E.2.2.2 5, .inr (2, [.ref (E.2.2.2 6), .int (xbl 2)])) := rfl
theorem xw_6 (E : xE) (σ : xS) : (xW E σ)[6]? = some (E.2.2.2 6, .inl (E.2.1.1, xsz 2, .inl (σ.2.1 2))) := rfl
theorem xw_7 (E : xE) (σ : xS) : (xW E σ)[7]? = some (E.2.2.2 7, .inr (2, [.ref (E.2.2.2 8), .int (xbl 3)])) := rfl
theorem xw_8 (E : xE) (σ : xS) : (xW E σ)[8]? = some (E.2.2.2 8, .inl (E.2.1.1, xsz 3, .inl (σ.2.1 3))) := rfl
theorem xw_9 (E : xE) (σ : xS) : (xW E σ)[9]? = some (E.2.2.2 9, .inr (2, [.ref (E.2.2.2 10), .int (xbl 4)])) := rfl
theorem xw_10 (E : xE) (σ : xS) : (xW E σ)[10]? = some (E.2.2.2 10, .inl (E.2.1.1, xsz 4, .inl (σ.2.1 4))) := rfl
theorem xw_11 (E : xE) (σ : xS) : (xW E σ)[11]? = some (E.2.2.2 11, .inr (2, [.ref (E.2.2.2 12), .int (xbl 5)])) := rfl
theorem xw_12 (E : xE) (σ : xS) : (xW E σ)[12]? = some (E.2.2.2 12, .inl (E.2.1.1, xsz 5, .inl (σ.2.1 5))) := rfl
theorem xw_13 (E : xE) (σ : xS) : (xW E σ)[13]? = some (E.2.2.2 13, .inr (2, [.ref (E.2.2.2 14), .int (xbl 6)])) := rfl
theorem xw_14 (E : xE) (σ : xS) : (xW E σ)[14]? = some (E.2.2.2 14, .inl (E.2.1.1, xsz 6, .inl (σ.2.1 6))) := rfl
theorem xw_15 (E : xE) (σ : xS) : (xW E σ)[15]? = some (E.2.2.2 15, .inr (2, [.ref (E.2.2.2 16), .int (xbl 7)])) := rfl
theorem xw_16 (E : xE) (σ : xS) : (xW E σ)[16]? = some (E.2.2.2 16, .inl (E.2.1.1, xsz 7, .inl (σ.2.1 7))) := rfl
theorem xw_17 (E : xE) (σ : xS) : (xW E σ)[17]? = some (E.2.2.2 17, .inr (2, [.ref (E.2.2.2 18), .int (xbl 8)])) := rfl
theorem xw_18 (E : xE) (σ : xS) : (xW E σ)[18]? = some (E.2.2.2 18, .inl (E.2.1.1, xsz 8, .inl (σ.2.1 8))) := rfl
theorem xw_19 (E : xE) (σ : xS) : (xW E σ)[19]? = some (E.2.2.2 19, .inr (2, [.ref (E.2.2.2 20), .int (xbl 9)])) := rfl
theorem xw_20 (E : xE) (σ : xS) : (xW E σ)[20]? = some (E.2.2.2 20, .inl (E.2.1.1, xsz 9, .inl (σ.2.1 9))) := rfl
theorem xw_21 (E : xE) (σ : xS) : (xW E σ)[21]? = some (E.2.2.2 21, .inr (2, [.ref (E.2.2.2 22), .int (xbl 10)])) := rfl
theorem xw_22 (E : xE) (σ : xS) : (xW E σ)[22]? = some (E.2.2.2 22, .inl (E.2.1.1, xsz 10, .inl (σ.2.1 10))) := rfl
theorem xw_23 (E : xE) (σ : xS) : (xW E σ)[23]? = some (E.2.2.2 23, .inr (2, [.ref (E.2.2.2 24), .int (xbl 11)])) := rfl
theorem xw_24 (E : xE) (σ : xS) : (xW E σ)[24]? = some (E.2.2.2 24, .inl (E.2.1.1, xsz 11, .inl (σ.2.1 11))) := rfl
theorem xw_25 (E : xE) (σ : xS) : (xW E σ)[25]? = some (E.2.2.2 25, .inr (2, [.ref (E.2.2.2 26), .int (xbl 12)])) := rfl
theorem xw_26 (E : xE) (σ : xS) : (xW E σ)[26]? = some (E.2.2.2 26, .inl (E.2.1.1, xsz 12, .inl (σ.2.1 12))) := rfl
theorem xw_27 (E : xE) (σ : xS) : (xW E σ)[27]? = some (E.2.2.2 27, .inr (2, [.ref (E.2.2.2 28), .int (xbl 13)])) := rfl
theorem xw_28 (E : xE) (σ : xS) : (xW E σ)[28]? = some (E.2.2.2 28, .inl (E.2.1.1, xsz 13, .inl (σ.2.1 13))) := rfl
theorem xw_29 (E : xE) (σ : xS) : (xW E σ)[29]? = some (E.2.2.2 29, .inr (2, [.ref (E.2.2.2 30), .int (xbl 14)])) := rfl
theorem xw_30 (E : xE) (σ : xS) : (xW E σ)[30]? = some (E.2.2.2 30, .inl (E.2.1.1, xsz 14, .inl (σ.2.1 14))) := rfl
theorem xw_31 (E : xE) (σ : xS) : (xW E σ)[31]? = some (E.2.2.2 31, .inr (2, [.ref (E.2.2.2 32), .int (xbl 15)])) := rfl
theorem xw_32 (E : xE) (σ : xS) : (xW E σ)[32]? = some (E.2.2.2 32, .inl (E.2.1.1, xsz 15, .inl (σ.2.1 15))) := rfl
theorem xw_33 (E : xE) (σ : xS) : (xW E σ)[33]? = some (E.2.2.2 33, .inr (2, [.ref (E.2.2.2 34), .int (xbl 16)])) := rfl
theorem xw_34 (E : xE) (σ : xS) : (xW E σ)[34]? = some (E.2.2.2 34, .inl (E.2.1.1, xsz 16, .inl (σ.2.1 16))) := rfl
theorem xw_35 (E : xE) (σ : xS) : (xW E σ)[35]? = some (E.2.2.2 35, .inr (0, [.ref (E.2.2.2 36)])) := rfl
theorem xw_36 (E : xE) (σ : xS) : (xW E σ)[36]? = some (E.2.2.2 36, .inl (E.2.1.2.1, xsz 17, .inl (σ.2.1 17))) := rfl
theorem xw_37 (E : xE) (σ : xS) : (xW E σ)[37]? = some (E.2.2.2 37, .inr (0, [.ref (E.2.2.2 38)])) := rfl
theorem xw_38 (E : xE) (σ : xS) : (xW E σ)[38]? = some (E.2.2.2 38, .inl (E.2.1.2.1, xsz 18, .inl (σ.2.1 18))) := rfl
theorem xw_39 (E : xE) (σ : xS) : (xW E σ)[39]? = some (E.2.2.2 39, .inr (1, [.int (σ.1 3), .ref (E.2.2.2 27), .ref (E.2.2.2 29), .ref (E.2.2.2 31), .ref (E.2.2.2 33)])) := rfl
theorem xw_row (E : xE) (σ : xS) {i : Nat} (h : i < 17) : (xW E σ)[1 + 2 * i]? = some (E.2.2.2 (1 + 2 * i), .inr (2, [.ref (E.2.2.2 (2 + 2 * i)), .int (xbl i)])) := by
  obtain rfl | rfl | rfl | rfl | rfl | rfl | rfl | rfl | rfl | rfl | rfl | rfl | rfl | rfl | rfl | rfl | rfl : i = 0 ∨ i = 1 ∨ i = 2 ∨ i = 3 ∨ i = 4 ∨ i = 5 ∨ i = 6 ∨ i = 7 ∨ i = 8 ∨ i = 9 ∨ i = 10 ∨ i = 11 ∨ i = 12 ∨ i = 13 ∨ i = 14 ∨ i = 15 ∨ i = 16 := by omega
  all_goals rfl
theorem xw_arr (E : xE) (σ : xS) {i : Nat} (h : i < 17) : (xW E σ)[2 + 2 * i]? = some (E.2.2.2 (2 + 2 * i), .inl (E.2.1.1, xsz i, .inl (σ.2.1 i))) := by
  obtain rfl | rfl | rfl | rfl | rfl | rfl | rfl | rfl | rfl | rfl | rfl | rfl | rfl | rfl | rfl | rfl | rfl : i = 0 ∨ i = 1 ∨ i = 2 ∨ i = 3 ∨ i = 4 ∨ i = 5 ∨ i = 6 ∨ i = 7 ∨ i = 8 ∨ i = 9 ∨ i = 10 ∨ i = 11 ∨ i = 12 ∨ i = 13 ∨ i = 14 ∨ i = 15 ∨ i = 16 := by omega
  all_goals rfl
theorem xw_arrS (E : xE) (n : Nat → Int32) (f : Nat → Nat → Int32) (o : Nat → Int64) {i : Nat} (h : i < 17) (g : Nat → Int32) : (xW E (n, f, o)).set (2 + 2 * i) (E.2.2.2 (2 + 2 * i), .inl (E.2.1.1, xsz i, .inl g)) = xW E (n, xu f i g, o) := by
  obtain rfl | rfl | rfl | rfl | rfl | rfl | rfl | rfl | rfl | rfl | rfl | rfl | rfl | rfl | rfl | rfl | rfl : i = 0 ∨ i = 1 ∨ i = 2 ∨ i = 3 ∨ i = 4 ∨ i = 5 ∨ i = 6 ∨ i = 7 ∨ i = 8 ∨ i = 9 ∨ i = 10 ∨ i = 11 ∨ i = 12 ∨ i = 13 ∨ i = 14 ∨ i = 15 ∨ i = 16 := by omega
  all_goals rfl
theorem xw_mrk (E : xE) (σ : xS) {i : Nat} (h : i < 2) : (xW E σ)[35 + 2 * i]? = some (E.2.2.2 (35 + 2 * i), .inr (0, [.ref (E.2.2.2 (36 + 2 * i))])) := by
  obtain rfl | rfl : i = 0 ∨ i = 1 := by omega
  all_goals rfl
theorem xw_mar (E : xE) (σ : xS) {i : Nat} (h : i < 2) : (xW E σ)[36 + 2 * i]? = some (E.2.2.2 (36 + 2 * i), .inl (E.2.1.2.1, 144, .inl (σ.2.1 (17 + i)))) := by
  obtain rfl | rfl : i = 0 ∨ i = 1 := by omega
  all_goals rfl
theorem xw_marS (E : xE) (n : Nat → Int32) (f : Nat → Nat → Int32) (o : Nat → Int64) {i : Nat} (h : i < 2) (g : Nat → Int32) : (xW E (n, f, o)).set (36 + 2 * i) (E.2.2.2 (36 + 2 * i), .inl (E.2.1.2.1, 144, .inl g)) = xW E (n, xu f (17 + i) g, o) := by
  obtain rfl | rfl : i = 0 ∨ i = 1 := by omega
  all_goals rfl
theorem xw_N0 (E : xE) (n : Nat → Int32) (f : Nat → Nat → Int32) (o : Nat → Int64) (v : Int32) : (xW E (n, f, o)).set 0 (E.2.2.2 0, .inr (3, List.set [.int (n 0), .ref (E.2.2.2 1), .ref (E.2.2.2 3), .ref (E.2.2.2 5), .int (n 1), .ref (E.2.2.2 7), .ref (E.2.2.2 9), .ref (E.2.2.2 11), .ref (E.2.2.2 13), .ref (E.2.2.2 15), .ref (E.2.2.2 35), .int (n 2), .ref (E.2.2.2 17), .ref (E.2.2.2 19), .ref (E.2.2.2 21), .ref (E.2.2.2 39), .ref (E.2.2.2 23), .ref (E.2.2.2 25), .ref (E.2.2.2 37)] 0 (.int v))) = xW E (xu n 0 v, f, o) := rfl
theorem xw_N1 (E : xE) (n : Nat → Int32) (f : Nat → Nat → Int32) (o : Nat → Int64) (v : Int32) : (xW E (n, f, o)).set 0 (E.2.2.2 0, .inr (3, List.set [.int (n 0), .ref (E.2.2.2 1), .ref (E.2.2.2 3), .ref (E.2.2.2 5), .int (n 1), .ref (E.2.2.2 7), .ref (E.2.2.2 9), .ref (E.2.2.2 11), .ref (E.2.2.2 13), .ref (E.2.2.2 15), .ref (E.2.2.2 35), .int (n 2), .ref (E.2.2.2 17), .ref (E.2.2.2 19), .ref (E.2.2.2 21), .ref (E.2.2.2 39), .ref (E.2.2.2 23), .ref (E.2.2.2 25), .ref (E.2.2.2 37)] 4 (.int v))) = xW E (xu n 1 v, f, o) := rfl
theorem xw_N2 (E : xE) (n : Nat → Int32) (f : Nat → Nat → Int32) (o : Nat → Int64) (v : Int32) : (xW E (n, f, o)).set 0 (E.2.2.2 0, .inr (3, List.set [.int (n 0), .ref (E.2.2.2 1), .ref (E.2.2.2 3), .ref (E.2.2.2 5), .int (n 1), .ref (E.2.2.2 7), .ref (E.2.2.2 9), .ref (E.2.2.2 11), .ref (E.2.2.2 13), .ref (E.2.2.2 15), .ref (E.2.2.2 35), .int (n 2), .ref (E.2.2.2 17), .ref (E.2.2.2 19), .ref (E.2.2.2 21), .ref (E.2.2.2 39), .ref (E.2.2.2 23), .ref (E.2.2.2 25), .ref (E.2.2.2 37)] 11 (.int v))) = xW E (xu n 2 v, f, o) := rfl
theorem xw_N3 (E : xE) (n : Nat → Int32) (f : Nat → Nat → Int32) (o : Nat → Int64) (v : Int32) : (xW E (n, f, o)).set 39 (E.2.2.2 39, .inr (1, List.set [.int (n 3), .ref (E.2.2.2 27), .ref (E.2.2.2 29), .ref (E.2.2.2 31), .ref (E.2.2.2 33)] 0 (.int v))) = xW E (xu n 3 v, f, o) := rfl
/-- the world in the middle of a walk that began at s -/
def xSt (E : xE) (σ : xS) (s : State) (H0 H : Heap) (locs : List Loc) : Prop := va_P E.1 vwCl (xW E σ) H ∧ va_K E.1 vwCl (xT E) s ∧ va_D (xA E) (xW E σ) ∧ va_S (xA E) H0 H locs
/-- the world at a method's entry or end -/
def xWd (E : xE) (σ : xS) (U : State) : Prop := va_P E.1 vwCl (xW E σ) U.heap ∧ va_K E.1 vwCl (xT E) U ∧ va_D (xA E) (xW E σ)
theorem xWd.blind {E : xE} {σ : xS} {U : State} (h : xWd E σ U) (a : Array Value) (g : JFrame) (mk : MethodId) : xWd E σ (U.calling g mk a) := ⟨h.1, va_K.moved (u := U) (U := U.calling g mk a) (Vm.Alike.refl U.vm) h.2.1, h.2.2⟩
theorem xSt.wd {E : xE} {σ : xS} {s U : State} {H0 H : Heap} {locs : List Loc} (h : xSt E σ s H0 H locs) (hU : U.heap = H) (hvm : s.vm.Alike U.vm) : xWd E σ U := ⟨by rw [hU]; exact h.1, va_K.moved hvm h.2.1, h.2.2.1⟩
theorem xWd.st {E : xE} {σ : xS} {s : State} (h : xWd E σ s) : xSt E σ s s.heap s.heap [] := ⟨h.1, h.2.1, h.2.2, va_S.rf⟩
/-- contracts over the world: an int comes back, or nothing -/
def xCi (l : Launch) (y : MethodName) (ws : List Cond) (rm : Room) (E : xE) (av : List Value) (σ : xS) (post : Int32 → xS → Prop) : Prop := Met l y ws rm (va_Pc av (xWd E σ)) (va_Qi post (xWd E) (xA E)) 0 0 (xA E)
def xCv (l : Launch) (y : MethodName) (ws : List Cond) (rm : Room) (E : xE) (av : List Value) (σ : xS) (post : xS → Prop) : Prop := Met l y ws rm (va_Pc av (xWd E σ)) (va_Qv post (xWd E) (xA E)) 0 0 (xA E)

theorem xu_of {α : Type} {F f : Nat → α} {k : Nat} (h : ∀ j, j ≠ k → F j = f j) : F = xu f k (F k) := by
  funext j
  by_cases hj : j = k
  · rw [hj, xu_s]
  · rw [xu_n hj, h j hj]
theorem xu_keep {α : Type} {F f : Nat → α} {k : Nat} {v : α} (h : ∀ j, j ≠ k → F j = f j) : ∀ j, j ≠ k → xu F k v j = f j := fun j hj => (xu_n hj).trans (h j hj)
theorem upd_s {g : Nat → Int32} {k : Nat} {v : Int32} : upd g k v k = v := pk_us
theorem upd_n {g : Nat → Int32} {k j : Nat} {v : Int32} (h : j ≠ k) : upd g k v j = g j := pk_un h
theorem upd_lt {g : Nat → Int32} {k : Nat} {v : Int32} (h : ∀ j, j < k → g j = v) : ∀ j, j < k + 1 → upd g k v j = v := by
  intro j hj
  by_cases e : j = k
  · rw [e, upd_s]
  · rw [upd_n e]; exact h j (by omega)
theorem xu_xu {α : Type} (f : Nat → α) (k : Nat) (v w : α) : xu (xu f k v) k w = xu f k w := by
  funext j
  by_cases hj : j = k
  · rw [hj, xu_s, xu_s]
  · rw [xu_n hj, xu_n hj, xu_n hj]
theorem xu_self {α : Type} (f : Nat → α) (k : Nat) : xu f k (f k) = f := (xu_of (fun _ _ => rfl)).symm
