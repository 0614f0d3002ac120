/-! THE CLAIM OUT OF ONE WALK OF THE LAW'S BODY. Your part is whole_start (and what it stands on); all else here is the same for every law, but numbers. -/
def R_law : String := "CableBookLaw"
def lw_P (b : Addr) (xs : List Int32) (args : Array Value) (s : State) : Prop := args = #[.ref b] ∧ s.IntsAt b xs ∧ xs.length ≤ 260 ∧ (Jvm.Cond.and given_1 narrow_1).before args s = true
def lw_Q (_ : Array Value) (s : State) (o : Outcome) (t : State) : Prop := o = .returned (some (.int 1)) ∧ Framed s o t [] 651495 7147140
def lw_Z (below : List Frame) (a : Array Value) (s : State) : State → Prop := fun t => ∃ o, t.status = .running ∧ Ended t below o ∧ lw_Q a s o t
/-- the law's own end, with 1 on the stack, nothing written that was there before, its room as the claim has it -/
theorem lw_ret {p : Program} {l : Launch} {e : Env} {s : State} {m : MethodId} {below : List Frame} {meth : Method} {c : Code} {b : Nat} (hx : p.tables.exec = Jvm.exec) (hb : c.code = code) (hr : meth.sig.returnType = ret) (hlocks : meth.locks = false) {pc : Nat} {H : Heap} {ls : Array Slot} (hdg : decode code pc = .ok (.ireturn, 1)) : W p l e room_1 s m #[Value.ref b] below meth c H [] 651495 7147140 (lw_Z below #[Value.ref b] s) (F0 m pc ls [.int 1]) := by
  intro T hT X
  obtain ⟨fs, hret, hrun, hended, hW, hframe⟩ := X.leave (v := some (.int 1)) (hlocks := hlocks) (fun h => by rw [hr] at h; cases h)
  have hmeth' : T.vm.method? m = some meth := X.method'
  refine ⟨T.setFrames fs, ?_, .returned (some (.int 1)), hrun, hended, rfl, ⟨_, rfl⟩, hW, hframe⟩
  jvm_step X.here [X.here.top, hx, hb, hdg, hmeth', hr, ret, narrow_b1]
  (try refine ⟨rfl, ?_⟩); (try refine ⟨rfl, ?_⟩)
  first | (intro acts; rw [hret _ acts rfl rfl rfl]) | rw [hret _ _ rfl rfl rfl]
  exact Steps.refl _
/-- what holds at the law's entry: the machine, the code, the tables' words (any of lw_tbl by 'hts w (by decide +kernel)'), the script of L ints xs at the cell b, what the Statement gives of the start (any of its parts by flat_of_before) -/
def lw_At (p : Program) (s : State) (m : MethodId) (meth : Method) (c : Code) (b L : Nat) (xs : Nat → Int32) : Prop :=
  p.tables.exec = Jvm.exec ∧ c.code = code ∧ meth.sig.returnType = ret ∧ c.maxLocals = 7 ∧ s.vm.findClass R_law = some m.cls ∧ (∀ w ∈ lw_tbl, w.before #[Value.ref b] s = true) ∧ va_X b L xs s s.heap ∧ b < s.heap.size ∧ meth.locks = false ∧ (Jvm.Cond.and given_1 narrow_1).before #[Value.ref b] s = true
theorem lw_world {D : va_G} {cI cZ : ClassId} {aO aP : Nat → Nat} {g1 g2 : Nat → Nat → Int32} {sz : Nat} : xW (eO (D, (cI, cZ), sz, aO, aP) (fun _ => 0) g2) (fun _ => 0, g1, xo0) = ([] ++ xWB cI cZ aO (fun _ => 0) g1) ++ xWB cI cZ aP (fun _ => 0) g2 := rfl
set_option maxHeartbeats 4000000 in
theorem lw_begin {p : Program} {e : Env} {s : State} {m : MethodId} {below : List Frame} {meth : Method} {c : Code} (l : Launch) (hflags : l.flags = flags0) {b L : Nat} {xs : Nat → Int32} (hL : L ≤ 260) (C0 : lw_At p s m meth c b L xs) {ls : Array Slot} (hl : lv_has ls 7 [(0, .ref b)]) : W p l e room_1 s m #[Value.ref b] below meth c s.heap [] 0 0 (lw_Z below #[Value.ref b] s) (F0 m 0 ls []) := by
  obtain ⟨hexec, hcode, hret, hmaxL, hown, hts, hX, hbl, hlk, hgv⟩ := C0
  obtain ⟨D, cI, cZ, hK, hNc, hTh⟩ := lw_facts hts hgv
  have S : CallFix p m c cL_law 7 s #[Value.ref b] wsL_law RL := ⟨hexec, hcode, hmaxL, hown, fun w h => hts w (wsL_law_in w h)⟩
  have hfl : l.stackTraces = false := by
    show (!l.flags.contains noTraceFlag) = false
    rw [hflags]
    rfl
  have hx := S.1
  have hb := S.2.1
  have hnest : va_Nw (.methodLinkNest RX3 59 yX1_init RX3) s := va_Nw.of rfl (hts _ lw_nest)
  have wc3 : Cond.classLink RL 9 RX3 ∈ wsL_law := by decide +kernel
  have wt3 : Cond.instantiable RX3 19 ∈ wsL_law := by decide +kernel
  have wi3 : Cond.initialized RX3 ∈ wsL_law := by decide +kernel
  have wl3 : Cond.methodLink RL 126 yX3_init ∈ wsL_law := by decide +kernel
  have wn3 : Cond.instanceMethod yX3_init ∈ wsL_law := by decide +kernel
  have hA : ∀ q : Nat, s.heap.size ≤ q → (fun z : Nat => s.heap.size ≤ z) q := fun q h => h
  have hP : va_P D vwCl ([] : va_W) s.heap := fun k q h => by simp at h
  have hD : va_D (fun z : Nat => s.heap.size ≤ z) ([] : va_W) := ⟨fun i j p q h => by simp at h, fun k q h => by simp at h⟩
  have hS : va_S (fun z : Nat => s.heap.size ≤ z) s.heap s.heap [] := va_S.rf
  refine x_new (ci := 3) (fs := [.int 0, .null, .null, .null, .int 0, .null, .null, .null, .null, .null, .null, .int 0, .null, .null, .null, .null, .null, .null, .null]) S inlX3 tyX3 tyX3_ok wc3 wt3 wi3 hK hP hD hS hA rfl (fun j hj => by rcases (show j = 0 ∨ j = 1 ∨ j = 2 ∨ j = 3 ∨ j = 4 ∨ j = 5 ∨ j = 6 ∨ j = 7 ∨ j = 8 ∨ j = 9 ∨ j = 10 ∨ j = 11 ∨ j = 12 ∨ j = 13 ∨ j = 14 ∨ j = 15 ∨ j = 16 ∨ j = 17 ∨ j = 18 by omega) with rfl | rfl | rfl | rfl | rfl | rfl | rfl | rfl | rfl | rfl | rfl | rfl | rfl | rfl | rfl | rfl | rfl | rfl | rfl <;> rfl) ⟨Nat.le_of_ble_eq_true rfl, Nat.le_of_ble_eq_true rfl⟩ dL_law_0 (fun q0 H hP hD hS => ?_)
  refine lv_dup hx hb dL_law_3 rfl ?_
  refine x_ctor (As := []) (rest := [.ref q0]) S (c_X3_init l D cI cZ q0) (cwI 0 S.2.2.2.2 gL_law_X3_init rfl rfl rfl (S.2.2.2.2 _ wi3) (S.2.2.2.2 _ wl3) (S.2.2.2.2 _ wn3) rfl (by decide +kernel) ⟨Nat.le_of_ble_eq_true rfl, Nat.le_of_ble_eq_true rfl⟩) (fun U hU hWm => va_Nw.warmM hWm hnest) (fun U g mk a h => va_Nw.same rfl (u := U) (U := U.calling g mk a) rfl h) hK hP hD hS hA rfl rfl hl.1 (Nat.le_of_ble_eq_true rfl) dL_law_4 ⟨Nat.le_of_ble_eq_true rfl, Nat.le_of_ble_eq_true rfl⟩ (fun w0 H locs hw0 hP hD hS => ?_)
  obtain ⟨aO, g1, hq0, rfl, hini1⟩ := hw0
  refine lv_astore_n hx hb dL_law_7 rfl hl (Nat.le_of_ble_eq_true rfl) rfl (fun ls hl => ?_)
  refine x_new (ci := 3) (fs := [.int 0, .null, .null, .null, .int 0, .null, .null, .null, .null, .null, .null, .int 0, .null, .null, .null, .null, .null, .null, .null]) S inlX3 tyX3 tyX3_ok wc3 wt3 wi3 hK hP hD hS hA rfl (fun j hj => by rcases (show j = 0 ∨ j = 1 ∨ j = 2 ∨ j = 3 ∨ j = 4 ∨ j = 5 ∨ j = 6 ∨ j = 7 ∨ j = 8 ∨ j = 9 ∨ j = 10 ∨ j = 11 ∨ j = 12 ∨ j = 13 ∨ j = 14 ∨ j = 15 ∨ j = 16 ∨ j = 17 ∨ j = 18 by omega) with rfl | rfl | rfl | rfl | rfl | rfl | rfl | rfl | rfl | rfl | rfl | rfl | rfl | rfl | rfl | rfl | rfl | rfl | rfl <;> rfl) ⟨Nat.le_of_ble_eq_true rfl, Nat.le_of_ble_eq_true rfl⟩ dL_law_8 (fun q8 H hP hD hS => ?_)
  refine lv_dup hx hb dL_law_11 rfl ?_
  refine x_ctor (As := []) (rest := [.ref q8]) S (c_X3_init l D cI cZ q8) (cwI 0 S.2.2.2.2 gL_law_X3_init rfl rfl rfl (S.2.2.2.2 _ wi3) (S.2.2.2.2 _ wl3) (S.2.2.2.2 _ wn3) rfl (by decide +kernel) ⟨Nat.le_of_ble_eq_true rfl, Nat.le_of_ble_eq_true rfl⟩) (fun U hU hWm => va_Nw.warmM hWm hnest) (fun U g mk a h => va_Nw.same rfl (u := U) (U := U.calling g mk a) rfl h) hK hP hD hS hA rfl rfl hl.1 (Nat.le_of_ble_eq_true rfl) dL_law_12 ⟨Nat.le_of_ble_eq_true rfl, Nat.le_of_ble_eq_true rfl⟩ (fun w8 H locs hw8 hP hD hS => ?_)
  obtain ⟨aP, g2, hq8, rfl, hini2⟩ := hw8
  refine lv_astore_n hx hb dL_law_15 rfl hl (Nat.le_of_ble_eq_true rfl) rfl (fun ls hl => ?_)
  have hW : pSt (D, (cI, cZ), s.heap.size, aO, aP) xG0 xG0 s s.heap H locs := ⟨fun _ => 0, g2, xG0_C hini2, fun _ => 0, g1, xG0_C hini1, by rw [lw_world]; exact hP, hK, by rw [lw_world]; exact hD, hS⟩
  refine W.widen (Nat.le_of_ble_eq_true rfl) (Nat.le_of_ble_eq_true rfl) (lw_loops (X := (D, (cI, cZ), s.heap.size, aO, aP)) (ls := ls) S hfl (hTh aO aP) hNc hX hbl (fun h => by have h : s.heap.size ≤ b := h; omega) (by omega) hW ?_ (fun H1 locs1 ls1 hS1 => ?_))
  · refine lv_sub (l' := [(0, .ref b), (1, .ref (aO 0)), (2, .ref (aP 0))]) hl [2, 1, 0] ?_
    rw [hq0, hq8]
    rfl
  · exact va_forget (fun q hq => hS1.2.2 q hq) (lw_ret hx hb hret hlk dL_law_290)
