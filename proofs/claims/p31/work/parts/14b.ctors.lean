def xWB (cI cZ : ClassId) (a : Nat → Nat) (n : Nat → Int32) (f : Nat → Nat → Int32) : va_W := [(a 0, .inr (3, [.int (n 0), .ref (a 1), .ref (a 3), .ref (a 5), .int (n 1), .ref (a 7), .ref (a 9), .ref (a 11), .ref (a 13), .ref (a 15), .ref (a 35), .int (n 2), .ref (a 17), .ref (a 19), .ref (a 21), .ref (a 39), .ref (a 23), .ref (a 25), .ref (a 37)])), (a 1, .inr (2, [.ref (a 2), .int (xbl 0)])), (a 2, .inl (cI, xsz 0, .inl (f 0))), (a 3, .inr (2, [.ref (a 4), .int (xbl 1)])), (a 4, .inl (cI, xsz 1, .inl (f 1))), (a 5, .inr (2, [.ref (a 6), .int (xbl 2)])), (a 6, .inl (cI, xsz 2, .inl (f 2))), (a 7, .inr (2, [.ref (a 8), .int (xbl 3)])), (a 8, .inl (cI, xsz 3, .inl (f 3))), (a 9, .inr (2, [.ref (a 10), .int (xbl 4)])), (a 10, .inl (cI, xsz 4, .inl (f 4))), (a 11, .inr (2, [.ref (a 12), .int (xbl 5)])), (a 12, .inl (cI, xsz 5, .inl (f 5))), (a 13, .inr (2, [.ref (a 14), .int (xbl 6)])), (a 14, .inl (cI, xsz 6, .inl (f 6))), (a 15, .inr (2, [.ref (a 16), .int (xbl 7)])), (a 16, .inl (cI, xsz 7, .inl (f 7))), (a 17, .inr (2, [.ref (a 18), .int (xbl 8)])), (a 18, .inl (cI, xsz 8, .inl (f 8))), (a 19, .inr (2, [.ref (a 20), .int (xbl 9)])), (a 20, .inl (cI, xsz 9, .inl (f 9))), (a 21, .inr (2, [.ref (a 22), .int (xbl 10)])), (a 22, .inl (cI, xsz 10, .inl (f 10))), (a 23, .inr (2, [.ref (a 24), .int (xbl 11)])), (a 24, .inl (cI, xsz 11, .inl (f 11))), (a 25, .inr (2, [.ref (a 26), .int (xbl 12)])), (a 26, .inl (cI, xsz 12, .inl (f 12))), (a 27, .inr (2, [.ref (a 28), .int (xbl 13)])), (a 28, .inl (cI, xsz 13, .inl (f 13))), (a 29, .inr (2, [.ref (a 30), .int (xbl 14)])), (a 30, .inl (cI, xsz 14, .inl (f 14))), (a 31, .inr (2, [.ref (a 32), .int (xbl 15)])), (a 32, .inl (cI, xsz 15, .inl (f 15))), (a 33, .inr (2, [.ref (a 34), .int (xbl 16)])), (a 34, .inl (cI, xsz 16, .inl (f 16))), (a 35, .inr (0, [.ref (a 36)])), (a 36, .inl (cZ, xsz 17, .inl (f 17))), (a 37, .inr (0, [.ref (a 38)])), (a 38, .inl (cZ, xsz 18, .inl (f 18))), (a 39, .inr (1, [.int (n 3), .ref (a 27), .ref (a 29), .ref (a 31), .ref (a 33)]))]
theorem xW_eq (E : xE) (σ : xS) : xW E σ = xWB E.2.1.1 E.2.1.2.1 E.2.2.2 σ.1 σ.2.1 ++ E.2.1.2.2 := rfl
def xIniB (f : Nat → Nat → Int32) : Prop := (∀ j, j < 12 → f 0 j = -1) ∧ (∀ j, j < 12 → f 1 j = -1) ∧ (∀ j, j < 12 → f 2 j = 0) ∧ (∀ j, j < 144 → f 3 j = -1) ∧ (∀ j, j < 144 → f 4 j = -1) ∧ (∀ j, j < 144 → f 5 j = 0) ∧ (∀ j, j < 144 → f 6 j = -1) ∧ (∀ j, j < 144 → f 7 j = -1) ∧ (∀ j, j < 10 → f 8 j = -1) ∧ (∀ j, j < 10 → f 9 j = 0) ∧ (∀ j, j < 10 → f 10 j = 0) ∧ (∀ j, j < 144 → f 11 j = -1) ∧ (∀ j, j < 144 → f 12 j = -1) ∧ (∀ j, j < 12 → f 13 j = -1) ∧ (∀ j, j < 12 → f 14 j = -1) ∧ (∀ j, j < 12 → f 15 j = -1) ∧ (∀ j, j < 12 → f 16 j = 0) ∧ (∀ j, j < 144 → f 17 j = 0) ∧ (∀ j, j < 144 → f 18 j = 0)
theorem c_X3_fin {D : va_G} {cI cZ : ClassId} {A : Nat → Prop} {H : Heap} {h0 q5 v12 q19 v26 q33 v40 q47 v55 q62 v70 q77 v85 q92 v100 q107 v115 q136 v143 q150 v157 q164 v171 q189 v197 q204 v212 b1 b2 b3 b4 b5 b6 b7 b8 q122 v129 q219 v226 q178 : Nat} {g12 g26 g40 g55 g70 g85 g100 g115 g143 g157 g171 g197 g212 k1 k2 k3 k4 g129 g226 : Nat → Int32} (hP : va_P D vwCl [(h0, .inr (3, [.int 0, .ref q5, .ref q19, .ref q33, .int 0, .ref q47, .ref q62, .ref q77, .ref q92, .ref q107, .ref q122, .int 0, .ref q136, .ref q150, .ref q164, .ref q178, .ref q189, .ref q204, .ref q219])), (q5, .inr (2, [.ref v12, .int (-1)])), (v12, .inl (cI, 12, .inl g12)), (q19, .inr (2, [.ref v26, .int (-1)])), (v26, .inl (cI, 12, .inl g26)), (q33, .inr (2, [.ref v40, .int 0])), (v40, .inl (cI, 12, .inl g40)), (q47, .inr (2, [.ref v55, .int (-1)])), (v55, .inl (cI, 144, .inl g55)), (q62, .inr (2, [.ref v70, .int (-1)])), (v70, .inl (cI, 144, .inl g70)), (q77, .inr (2, [.ref v85, .int 0])), (v85, .inl (cI, 144, .inl g85)), (q92, .inr (2, [.ref v100, .int (-1)])), (v100, .inl (cI, 144, .inl g100)), (q107, .inr (2, [.ref v115, .int (-1)])), (v115, .inl (cI, 144, .inl g115)), (q122, .inr (0, [.ref v129])), (v129, .inl (cZ, 144, .inl g129)), (q136, .inr (2, [.ref v143, .int (-1)])), (v143, .inl (cI, 10, .inl g143)), (q150, .inr (2, [.ref v157, .int 0])), (v157, .inl (cI, 10, .inl g157)), (q164, .inr (2, [.ref v171, .int 0])), (v171, .inl (cI, 10, .inl g171)), (q178, .inr (1, [.int 0, .ref b1, .ref b3, .ref b5, .ref b7])), (b1, .inr (2, [.ref b2, .int (-1)])), (b2, .inl (cI, 12, .inl k1)), (b3, .inr (2, [.ref b4, .int (-1)])), (b4, .inl (cI, 12, .inl k2)), (b5, .inr (2, [.ref b6, .int (-1)])), (b6, .inl (cI, 12, .inl k3)), (b7, .inr (2, [.ref b8, .int 0])), (b8, .inl (cI, 12, .inl k4)), (q189, .inr (2, [.ref v197, .int (-1)])), (v197, .inl (cI, 144, .inl g197)), (q204, .inr (2, [.ref v212, .int (-1)])), (v212, .inl (cI, 144, .inl g212)), (q219, .inr (0, [.ref v226])), (v226, .inl (cZ, 144, .inl g226))] H) (hD : va_D A [(h0, .inr (3, [.int 0, .ref q5, .ref q19, .ref q33, .int 0, .ref q47, .ref q62, .ref q77, .ref q92, .ref q107, .ref q122, .int 0, .ref q136, .ref q150, .ref q164, .ref q178, .ref q189, .ref q204, .ref q219])), (q5, .inr (2, [.ref v12, .int (-1)])), (v12, .inl (cI, 12, .inl g12)), (q19, .inr (2, [.ref v26, .int (-1)])), (v26, .inl (cI, 12, .inl g26)), (q33, .inr (2, [.ref v40, .int 0])), (v40, .inl (cI, 12, .inl g40)), (q47, .inr (2, [.ref v55, .int (-1)])), (v55, .inl (cI, 144, .inl g55)), (q62, .inr (2, [.ref v70, .int (-1)])), (v70, .inl (cI, 144, .inl g70)), (q77, .inr (2, [.ref v85, .int 0])), (v85, .inl (cI, 144, .inl g85)), (q92, .inr (2, [.ref v100, .int (-1)])), (v100, .inl (cI, 144, .inl g100)), (q107, .inr (2, [.ref v115, .int (-1)])), (v115, .inl (cI, 144, .inl g115)), (q122, .inr (0, [.ref v129])), (v129, .inl (cZ, 144, .inl g129)), (q136, .inr (2, [.ref v143, .int (-1)])), (v143, .inl (cI, 10, .inl g143)), (q150, .inr (2, [.ref v157, .int 0])), (v157, .inl (cI, 10, .inl g157)), (q164, .inr (2, [.ref v171, .int 0])), (v171, .inl (cI, 10, .inl g171)), (q178, .inr (1, [.int 0, .ref b1, .ref b3, .ref b5, .ref b7])), (b1, .inr (2, [.ref b2, .int (-1)])), (b2, .inl (cI, 12, .inl k1)), (b3, .inr (2, [.ref b4, .int (-1)])), (b4, .inl (cI, 12, .inl k2)), (b5, .inr (2, [.ref b6, .int (-1)])), (b6, .inl (cI, 12, .inl k3)), (b7, .inr (2, [.ref b8, .int 0])), (b8, .inl (cI, 12, .inl k4)), (q189, .inr (2, [.ref v197, .int (-1)])), (v197, .inl (cI, 144, .inl g197)), (q204, .inr (2, [.ref v212, .int (-1)])), (v212, .inl (cI, 144, .inl g212)), (q219, .inr (0, [.ref v226])), (v226, .inl (cZ, 144, .inl g226))]) : va_P D vwCl (xWB cI cZ (fun k => [h0, q5, v12, q19, v26, q33, v40, q47, v55, q62, v70, q77, v85, q92, v100, q107, v115, q136, v143, q150, v157, q164, v171, q189, v197, q204, v212, b1, b2, b3, b4, b5, b6, b7, b8, q122, v129, q219, v226, q178].getD k 0) (fun _ => 0) (fun k => [g12, g26, g40, g55, g70, g85, g100, g115, g143, g157, g171, g197, g212, k1, k2, k3, k4, g129, g226].getD k (fun _ => 0))) H ∧ va_D A (xWB cI cZ (fun k => [h0, q5, v12, q19, v26, q33, v40, q47, v55, q62, v70, q77, v85, q92, v100, q107, v115, q136, v143, q150, v157, q164, v171, q189, v197, q204, v212, b1, b2, b3, b4, b5, b6, b7, b8, q122, v129, q219, v226, q178].getD k 0) (fun _ => 0) (fun k => [g12, g26, g40, g55, g70, g85, g100, g115, g143, g157, g171, g197, g212, k1, k2, k3, k4, g129, g226].getD k (fun _ => 0))) :=
  ⟨hP.sub [0, 1, 2, 3, 4, 5, 6, 7, 8, 9, 10, 11, 12, 13, 14, 15, 16, 19, 20, 21, 22, 23, 24, 34, 35, 36, 37, 26, 27, 28, 29, 30, 31, 32, 33, 17, 18, 38, 39, 25] rfl, hD.sub [0, 1, 2, 3, 4, 5, 6, 7, 8, 9, 10, 11, 12, 13, 14, 15, 16, 19, 20, 21, 22, 23, 24, 34, 35, 36, 37, 26, 27, 28, 29, 30, 31, 32, 33, 17, 18, 38, 39, 25] rfl rfl⟩
abbrev rmX3_init : Room := { frames := 3, cells := 39, slots := 1451, locals := 90 }
set_option maxHeartbeats 4000000 in
set_option maxRecDepth 100000 in
theorem c_X3_init (l : Launch) (D : va_G) (cI cZ : ClassId) (h0 : Nat) : xNw l yX3_init wsX3_init rmX3_init D cI cZ h0 [] (.inr (3, [.int 0, .null, .null, .null, .int 0, .null, .null, .null, .null, .null, .null, .int 0, .null, .null, .null, .null, .null, .null, .null])) (fun U => va_Nw (.methodLinkNest RX3 59 yX1_init RX3) U) 39 1451 (fun w1 => ∃ a f, a 0 = h0 ∧ w1 = xWB cI cZ a (fun _ => 0) f ∧ xIniB f) := by
  refine xNw.start RX3 (by decide) rfl rfl rfl (Nat.le_of_ble_eq_true rfl) ?_
  intro p e s m args below meth c ls A S hr hlk hi hX hK hP hD hA hS hAe hl
  have hx := S.1
  have hb := S.2.1
  have hl : lv_has ls 1 [(0, .ref h0)] := hl
  have hinX2 : ∀ w ∈ wsX20, w ∈ wsX3_init := by decide +kernel
  have hinX3 : ∀ w ∈ wsX30, w ∈ wsX3_init := by decide +kernel
  have hinX0 : ∀ w ∈ wsX00, w ∈ wsX3_init := by decide +kernel
  have hinX1 : ∀ w ∈ wsX10, w ∈ wsX3_init := by decide +kernel
  have wf_panelCount : Cond.fieldLink RX3 73 "CableBook" "panelCount" "I" ∈ wsX3_init := by decide +kernel
  have wf_rackOf : Cond.fieldLink RX3 14 "CableBook" "rackOf" "LCableBook$Row;" ∈ wsX3_init := by decide +kernel
  have wf_firstPortOf : Cond.fieldLink RX3 18 "CableBook" "firstPortOf" "LCableBook$Row;" ∈ wsX3_init := by decide +kernel
  have wf_portCountOf : Cond.fieldLink RX3 21 "CableBook" "portCountOf" "LCableBook$Row;" ∈ wsX3_init := by decide +kernel
  have wf_portCount : Cond.fieldLink RX3 77 "CableBook" "portCount" "I" ∈ wsX3_init := by decide +kernel
  have wf_panelAt : Cond.fieldLink RX3 24 "CableBook" "panelAt" "LCableBook$Row;" ∈ wsX3_init := by decide +kernel
  have wf_cableTo : Cond.fieldLink RX3 27 "CableBook" "cableTo" "LCableBook$Row;" ∈ wsX3_init := by decide +kernel
  have wf_colourAt : Cond.fieldLink RX3 30 "CableBook" "colourAt" "LCableBook$Row;" ∈ wsX3_init := by decide +kernel
  have wf_strandTo : Cond.fieldLink RX3 33 "CableBook" "strandTo" "LCableBook$Row;" ∈ wsX3_init := by decide +kernel
  have wf_trunkAt : Cond.fieldLink RX3 36 "CableBook" "trunkAt" "LCableBook$Row;" ∈ wsX3_init := by decide +kernel
  have wf_brokenAt : Cond.fieldLink RX3 44 "CableBook" "brokenAt" "LCableBook$Marks;" ∈ wsX3_init := by decide +kernel
  have wf_trunkCount : Cond.fieldLink RX3 80 "CableBook" "trunkCount" "I" ∈ wsX3_init := by decide +kernel
  have wf_trunkStart : Cond.fieldLink RX3 48 "CableBook" "trunkStart" "LCableBook$Row;" ∈ wsX3_init := by decide +kernel
  have wf_strandCountOf : Cond.fieldLink RX3 51 "CableBook" "strandCountOf" "LCableBook$Row;" ∈ wsX3_init := by decide +kernel
  have wf_trunkLength : Cond.fieldLink RX3 54 "CableBook" "trunkLength" "LCableBook$Row;" ∈ wsX3_init := by decide +kernel
  have wf_plan : Cond.fieldLink RX3 60 "CableBook" "plan" "LCableBook$Plan;" ∈ wsX3_init := by decide +kernel
  have wf_trail : Cond.fieldLink RX3 64 "CableBook" "trail" "LCableBook$Row;" ∈ wsX3_init := by decide +kernel
  have wf_queue : Cond.fieldLink RX3 67 "CableBook" "queue" "LCableBook$Row;" ∈ wsX3_init := by decide +kernel
  have wf_found : Cond.fieldLink RX3 70 "CableBook" "found" "LCableBook$Marks;" ∈ wsX3_init := by decide +kernel
  have wcX2 : Cond.classLink RX3 7 RX2 ∈ wsX3_init := by decide +kernel
  have wtX2 : Cond.instantiable RX2 2 ∈ wsX3_init := by decide +kernel
  have wiX2 : Cond.initialized RX2 ∈ wsX3_init := by decide +kernel
  have wlX2 : Cond.methodLink RX3 11 yX2_init ∈ wsX3_init := by decide +kernel
  have wnX2 : Cond.instanceMethod yX2_init ∈ wsX3_init := by decide +kernel
  have wcX0 : Cond.classLink RX3 39 RX0 ∈ wsX3_init := by decide +kernel
  have wtX0 : Cond.instantiable RX0 1 ∈ wsX3_init := by decide +kernel
  have wiX0 : Cond.initialized RX0 ∈ wsX3_init := by decide +kernel
  have wlX0 : Cond.methodLink RX3 41 yX0_init ∈ wsX3_init := by decide +kernel
  have wnX0 : Cond.instanceMethod yX0_init ∈ wsX3_init := by decide +kernel
  have wcX1 : Cond.classLink RX3 57 RX1 ∈ wsX3_init := by decide +kernel
  have wtX1 : Cond.instantiable RX1 5 ∈ wsX3_init := by decide +kernel
  have wiX1 : Cond.initialized RX1 ∈ wsX3_init := by decide +kernel
  have wnX1 : Cond.instanceMethod yX1_init ∈ wsX3_init := by decide +kernel
  have wo1 : Cond.methodLink RX3 1 objectInit ∈ wsX3_init := by decide +kernel
  have wo2 : Cond.instanceMethod objectInit ∈ wsX3_init := by decide +kernel
  have wo3 : Cond.code objectInit ⟨#[0xb1]⟩ 1 none ∈ wsX3_init := List.mem_of_getElem? (i := 3) rfl
  refine lv_aload_n hx hb dX3_init_0 rfl (lv_at hl 0 rfl) ?_
  refine x_obj S wo1 wo2 wo3 hl.1 dX3_init_1 ⟨Nat.le_of_ble_eq_true rfl, Nat.le_of_ble_eq_true rfl⟩ ?_
  refine lv_aload_n hx hb dX3_init_4 rfl (lv_at hl 0 rfl) ?_
  refine x_new (ci := 2) (fs := [.null, .int 0]) S hinX2 tyX2 tyX2_ok wcX2 wtX2 wiX2 hK hP hD hS hA rfl (fun j hj => by rcases (show j = 0 ∨ j = 1 by omega) with rfl | rfl <;> rfl) ⟨Nat.le_of_ble_eq_true rfl, Nat.le_of_ble_eq_true rfl⟩ dX3_init_5 (fun q5 H hP hD hS => ?_)
  refine lv_dup hx hb dX3_init_8 rfl ?_
  refine lv_bipush (v := 12) hx hb dX3_init_9 (by decide) ?_
  refine lv_iconst (v := (-1)) hx hb dX3_init_11 (by decide) ?_
  refine x_ctor (As := [.int (nI 12), .int (-1)]) (rest := [.ref q5, .ref h0]) S (c_X2_init l D cI cZ q5 (N := 12) (by decide) (-1)) (cwI 2 S.2.2.2.2 gX3_init_X2_init rfl rfl rfl (S.2.2.2.2 _ wiX2) (S.2.2.2.2 _ wlX2) (S.2.2.2.2 _ wnX2) rfl (by decide +kernel) ⟨Nat.le_of_ble_eq_true rfl, Nat.le_of_ble_eq_true rfl⟩) (fun _ _ _ => trivial) (fun _ _ _ _ _ => trivial) hK hP hD hS hA rfl rfl hl.1 (Nat.le_of_ble_eq_true rfl) dX3_init_12 ⟨Nat.le_of_ble_eq_true rfl, Nat.le_of_ble_eq_true rfl⟩ (fun w12 H locs hw12 hP hD hS => ?_)
  obtain ⟨v12, g12, rfl, hg12⟩ := hw12
  refine x_putF (fs' := [.int 0, .ref q5, .null, .null, .int 0, .null, .null, .null, .null, .null, .null, .int 0, .null, .null, .null, .null, .null, .null, .null]) (ty := .object "CableBook$Row") S hinX3 tyX3 tyX3_ok nmX3 hi hK hP hD hS rfl 1 (by decide) wf_rackOf rfl rfl (by decide +kernel) rfl rfl (Nat.le_of_ble_eq_true rfl) rfl dX3_init_15 (fun H locs hP hD hS => ?_)
  refine lv_aload_n hx hb dX3_init_18 rfl (lv_at hl 0 rfl) ?_
  refine x_new (ci := 2) (fs := [.null, .int 0]) S hinX2 tyX2 tyX2_ok wcX2 wtX2 wiX2 hK hP hD hS hA rfl (fun j hj => by rcases (show j = 0 ∨ j = 1 by omega) with rfl | rfl <;> rfl) ⟨Nat.le_of_ble_eq_true rfl, Nat.le_of_ble_eq_true rfl⟩ dX3_init_19 (fun q19 H hP hD hS => ?_)
  refine lv_dup hx hb dX3_init_22 rfl ?_
  refine lv_bipush (v := 12) hx hb dX3_init_23 (by decide) ?_
  refine lv_iconst (v := (-1)) hx hb dX3_init_25 (by decide) ?_
  refine x_ctor (As := [.int (nI 12), .int (-1)]) (rest := [.ref q19, .ref h0]) S (c_X2_init l D cI cZ q19 (N := 12) (by decide) (-1)) (cwI 2 S.2.2.2.2 gX3_init_X2_init rfl rfl rfl (S.2.2.2.2 _ wiX2) (S.2.2.2.2 _ wlX2) (S.2.2.2.2 _ wnX2) rfl (by decide +kernel) ⟨Nat.le_of_ble_eq_true rfl, Nat.le_of_ble_eq_true rfl⟩) (fun _ _ _ => trivial) (fun _ _ _ _ _ => trivial) hK hP hD hS hA rfl rfl hl.1 (Nat.le_of_ble_eq_true rfl) dX3_init_26 ⟨Nat.le_of_ble_eq_true rfl, Nat.le_of_ble_eq_true rfl⟩ (fun w26 H locs hw26 hP hD hS => ?_)
  obtain ⟨v26, g26, rfl, hg26⟩ := hw26
  refine x_putF (fs' := [.int 0, .ref q5, .ref q19, .null, .int 0, .null, .null, .null, .null, .null, .null, .int 0, .null, .null, .null, .null, .null, .null, .null]) (ty := .object "CableBook$Row") S hinX3 tyX3 tyX3_ok nmX3 hi hK hP hD hS rfl 2 (by decide) wf_firstPortOf rfl rfl (by decide +kernel) rfl rfl (Nat.le_of_ble_eq_true rfl) rfl dX3_init_29 (fun H locs hP hD hS => ?_)
  refine lv_aload_n hx hb dX3_init_32 rfl (lv_at hl 0 rfl) ?_
  refine x_new (ci := 2) (fs := [.null, .int 0]) S hinX2 tyX2 tyX2_ok wcX2 wtX2 wiX2 hK hP hD hS hA rfl (fun j hj => by rcases (show j = 0 ∨ j = 1 by omega) with rfl | rfl <;> rfl) ⟨Nat.le_of_ble_eq_true rfl, Nat.le_of_ble_eq_true rfl⟩ dX3_init_33 (fun q33 H hP hD hS => ?_)
  refine lv_dup hx hb dX3_init_36 rfl ?_
  refine lv_bipush (v := 12) hx hb dX3_init_37 (by decide) ?_
  refine lv_iconst (v := 0) hx hb dX3_init_39 (by decide) ?_
  refine x_ctor (As := [.int (nI 12), .int 0]) (rest := [.ref q33, .ref h0]) S (c_X2_init l D cI cZ q33 (N := 12) (by decide) 0) (cwI 2 S.2.2.2.2 gX3_init_X2_init rfl rfl rfl (S.2.2.2.2 _ wiX2) (S.2.2.2.2 _ wlX2) (S.2.2.2.2 _ wnX2) rfl (by decide +kernel) ⟨Nat.le_of_ble_eq_true rfl, Nat.le_of_ble_eq_true rfl⟩) (fun _ _ _ => trivial) (fun _ _ _ _ _ => trivial) hK hP hD hS hA rfl rfl hl.1 (Nat.le_of_ble_eq_true rfl) dX3_init_40 ⟨Nat.le_of_ble_eq_true rfl, Nat.le_of_ble_eq_true rfl⟩ (fun w40 H locs hw40 hP hD hS => ?_)
  obtain ⟨v40, g40, rfl, hg40⟩ := hw40
  refine x_putF (fs' := [.int 0, .ref q5, .ref q19, .ref q33, .int 0, .null, .null, .null, .null, .null, .null, .int 0, .null, .null, .null, .null, .null, .null, .null]) (ty := .object "CableBook$Row") S hinX3 tyX3 tyX3_ok nmX3 hi hK hP hD hS rfl 3 (by decide) wf_portCountOf rfl rfl (by decide +kernel) rfl rfl (Nat.le_of_ble_eq_true rfl) rfl dX3_init_43 (fun H locs hP hD hS => ?_)
  refine lv_aload_n hx hb dX3_init_46 rfl (lv_at hl 0 rfl) ?_
  refine x_new (ci := 2) (fs := [.null, .int 0]) S hinX2 tyX2 tyX2_ok wcX2 wtX2 wiX2 hK hP hD hS hA rfl (fun j hj => by rcases (show j = 0 ∨ j = 1 by omega) with rfl | rfl <;> rfl) ⟨Nat.le_of_ble_eq_true rfl, Nat.le_of_ble_eq_true rfl⟩ dX3_init_47 (fun q47 H hP hD hS => ?_)
  refine lv_dup hx hb dX3_init_50 rfl ?_
  refine lv_sipush (v := 144) hx hb dX3_init_51 (by decide) ?_
  refine lv_iconst (v := (-1)) hx hb dX3_init_54 (by decide) ?_
  refine x_ctor (As := [.int (nI 144), .int (-1)]) (rest := [.ref q47, .ref h0]) S (c_X2_init l D cI cZ q47 (N := 144) (by decide) (-1)) (cwI 2 S.2.2.2.2 gX3_init_X2_init rfl rfl rfl (S.2.2.2.2 _ wiX2) (S.2.2.2.2 _ wlX2) (S.2.2.2.2 _ wnX2) rfl (by decide +kernel) ⟨Nat.le_of_ble_eq_true rfl, Nat.le_of_ble_eq_true rfl⟩) (fun _ _ _ => trivial) (fun _ _ _ _ _ => trivial) hK hP hD hS hA rfl rfl hl.1 (Nat.le_of_ble_eq_true rfl) dX3_init_55 ⟨Nat.le_of_ble_eq_true rfl, Nat.le_of_ble_eq_true rfl⟩ (fun w55 H locs hw55 hP hD hS => ?_)
  obtain ⟨v55, g55, rfl, hg55⟩ := hw55
  refine x_putF (fs' := [.int 0, .ref q5, .ref q19, .ref q33, .int 0, .ref q47, .null, .null, .null, .null, .null, .int 0, .null, .null, .null, .null, .null, .null, .null]) (ty := .object "CableBook$Row") S hinX3 tyX3 tyX3_ok nmX3 hi hK hP hD hS rfl 5 (by decide) wf_panelAt rfl rfl (by decide +kernel) rfl rfl (Nat.le_of_ble_eq_true rfl) rfl dX3_init_58 (fun H locs hP hD hS => ?_)
  refine lv_aload_n hx hb dX3_init_61 rfl (lv_at hl 0 rfl) ?_
  refine x_new (ci := 2) (fs := [.null, .int 0]) S hinX2 tyX2 tyX2_ok wcX2 wtX2 wiX2 hK hP hD hS hA rfl (fun j hj => by rcases (show j = 0 ∨ j = 1 by omega) with rfl | rfl <;> rfl) ⟨Nat.le_of_ble_eq_true rfl, Nat.le_of_ble_eq_true rfl⟩ dX3_init_62 (fun q62 H hP hD hS => ?_)
  refine lv_dup hx hb dX3_init_65 rfl ?_
  refine lv_sipush (v := 144) hx hb dX3_init_66 (by decide) ?_
  refine lv_iconst (v := (-1)) hx hb dX3_init_69 (by decide) ?_
  refine x_ctor (As := [.int (nI 144), .int (-1)]) (rest := [.ref q62, .ref h0]) S (c_X2_init l D cI cZ q62 (N := 144) (by decide) (-1)) (cwI 2 S.2.2.2.2 gX3_init_X2_init rfl rfl rfl (S.2.2.2.2 _ wiX2) (S.2.2.2.2 _ wlX2) (S.2.2.2.2 _ wnX2) rfl (by decide +kernel) ⟨Nat.le_of_ble_eq_true rfl, Nat.le_of_ble_eq_true rfl⟩) (fun _ _ _ => trivial) (fun _ _ _ _ _ => trivial) hK hP hD hS hA rfl rfl hl.1 (Nat.le_of_ble_eq_true rfl) dX3_init_70 ⟨Nat.le_of_ble_eq_true rfl, Nat.le_of_ble_eq_true rfl⟩ (fun w70 H locs hw70 hP hD hS => ?_)
  obtain ⟨v70, g70, rfl, hg70⟩ := hw70
  refine x_putF (fs' := [.int 0, .ref q5, .ref q19, .ref q33, .int 0, .ref q47, .ref q62, .null, .null, .null, .null, .int 0, .null, .null, .null, .null, .null, .null, .null]) (ty := .object "CableBook$Row") S hinX3 tyX3 tyX3_ok nmX3 hi hK hP hD hS rfl 6 (by decide) wf_cableTo rfl rfl (by decide +kernel) rfl rfl (Nat.le_of_ble_eq_true rfl) rfl dX3_init_73 (fun H locs hP hD hS => ?_)
  refine lv_aload_n hx hb dX3_init_76 rfl (lv_at hl 0 rfl) ?_
  refine x_new (ci := 2) (fs := [.null, .int 0]) S hinX2 tyX2 tyX2_ok wcX2 wtX2 wiX2 hK hP hD hS hA rfl (fun j hj => by rcases (show j = 0 ∨ j = 1 by omega) with rfl | rfl <;> rfl) ⟨Nat.le_of_ble_eq_true rfl, Nat.le_of_ble_eq_true rfl⟩ dX3_init_77 (fun q77 H hP hD hS => ?_)
  refine lv_dup hx hb dX3_init_80 rfl ?_
  refine lv_sipush (v := 144) hx hb dX3_init_81 (by decide) ?_
  refine lv_iconst (v := 0) hx hb dX3_init_84 (by decide) ?_
  refine x_ctor (As := [.int (nI 144), .int 0]) (rest := [.ref q77, .ref h0]) S (c_X2_init l D cI cZ q77 (N := 144) (by decide) 0) (cwI 2 S.2.2.2.2 gX3_init_X2_init rfl rfl rfl (S.2.2.2.2 _ wiX2) (S.2.2.2.2 _ wlX2) (S.2.2.2.2 _ wnX2) rfl (by decide +kernel) ⟨Nat.le_of_ble_eq_true rfl, Nat.le_of_ble_eq_true rfl⟩) (fun _ _ _ => trivial) (fun _ _ _ _ _ => trivial) hK hP hD hS hA rfl rfl hl.1 (Nat.le_of_ble_eq_true rfl) dX3_init_85 ⟨Nat.le_of_ble_eq_true rfl, Nat.le_of_ble_eq_true rfl⟩ (fun w85 H locs hw85 hP hD hS => ?_)
  obtain ⟨v85, g85, rfl, hg85⟩ := hw85
  refine x_putF (fs' := [.int 0, .ref q5, .ref q19, .ref q33, .int 0, .ref q47, .ref q62, .ref q77, .null, .null, .null, .int 0, .null, .null, .null, .null, .null, .null, .null]) (ty := .object "CableBook$Row") S hinX3 tyX3 tyX3_ok nmX3 hi hK hP hD hS rfl 7 (by decide) wf_colourAt rfl rfl (by decide +kernel) rfl rfl (Nat.le_of_ble_eq_true rfl) rfl dX3_init_88 (fun H locs hP hD hS => ?_)
  refine lv_aload_n hx hb dX3_init_91 rfl (lv_at hl 0 rfl) ?_
  refine x_new (ci := 2) (fs := [.null, .int 0]) S hinX2 tyX2 tyX2_ok wcX2 wtX2 wiX2 hK hP hD hS hA rfl (fun j hj => by rcases (show j = 0 ∨ j = 1 by omega) with rfl | rfl <;> rfl) ⟨Nat.le_of_ble_eq_true rfl, Nat.le_of_ble_eq_true rfl⟩ dX3_init_92 (fun q92 H hP hD hS => ?_)
  refine lv_dup hx hb dX3_init_95 rfl ?_
  refine lv_sipush (v := 144) hx hb dX3_init_96 (by decide) ?_
  refine lv_iconst (v := (-1)) hx hb dX3_init_99 (by decide) ?_
  refine x_ctor (As := [.int (nI 144), .int (-1)]) (rest := [.ref q92, .ref h0]) S (c_X2_init l D cI cZ q92 (N := 144) (by decide) (-1)) (cwI 2 S.2.2.2.2 gX3_init_X2_init rfl rfl rfl (S.2.2.2.2 _ wiX2) (S.2.2.2.2 _ wlX2) (S.2.2.2.2 _ wnX2) rfl (by decide +kernel) ⟨Nat.le_of_ble_eq_true rfl, Nat.le_of_ble_eq_true rfl⟩) (fun _ _ _ => trivial) (fun _ _ _ _ _ => trivial) hK hP hD hS hA rfl rfl hl.1 (Nat.le_of_ble_eq_true rfl) dX3_init_100 ⟨Nat.le_of_ble_eq_true rfl, Nat.le_of_ble_eq_true rfl⟩ (fun w100 H locs hw100 hP hD hS => ?_)
  obtain ⟨v100, g100, rfl, hg100⟩ := hw100
  refine x_putF (fs' := [.int 0, .ref q5, .ref q19, .ref q33, .int 0, .ref q47, .ref q62, .ref q77, .ref q92, .null, .null, .int 0, .null, .null, .null, .null, .null, .null, .null]) (ty := .object "CableBook$Row") S hinX3 tyX3 tyX3_ok nmX3 hi hK hP hD hS rfl 8 (by decide) wf_strandTo rfl rfl (by decide +kernel) rfl rfl (Nat.le_of_ble_eq_true rfl) rfl dX3_init_103 (fun H locs hP hD hS => ?_)
  refine lv_aload_n hx hb dX3_init_106 rfl (lv_at hl 0 rfl) ?_
  refine x_new (ci := 2) (fs := [.null, .int 0]) S hinX2 tyX2 tyX2_ok wcX2 wtX2 wiX2 hK hP hD hS hA rfl (fun j hj => by rcases (show j = 0 ∨ j = 1 by omega) with rfl | rfl <;> rfl) ⟨Nat.le_of_ble_eq_true rfl, Nat.le_of_ble_eq_true rfl⟩ dX3_init_107 (fun q107 H hP hD hS => ?_)
  refine lv_dup hx hb dX3_init_110 rfl ?_
  refine lv_sipush (v := 144) hx hb dX3_init_111 (by decide) ?_
  refine lv_iconst (v := (-1)) hx hb dX3_init_114 (by decide) ?_
  refine x_ctor (As := [.int (nI 144), .int (-1)]) (rest := [.ref q107, .ref h0]) S (c_X2_init l D cI cZ q107 (N := 144) (by decide) (-1)) (cwI 2 S.2.2.2.2 gX3_init_X2_init rfl rfl rfl (S.2.2.2.2 _ wiX2) (S.2.2.2.2 _ wlX2) (S.2.2.2.2 _ wnX2) rfl (by decide +kernel) ⟨Nat.le_of_ble_eq_true rfl, Nat.le_of_ble_eq_true rfl⟩) (fun _ _ _ => trivial) (fun _ _ _ _ _ => trivial) hK hP hD hS hA rfl rfl hl.1 (Nat.le_of_ble_eq_true rfl) dX3_init_115 ⟨Nat.le_of_ble_eq_true rfl, Nat.le_of_ble_eq_true rfl⟩ (fun w115 H locs hw115 hP hD hS => ?_)
  obtain ⟨v115, g115, rfl, hg115⟩ := hw115
  refine x_putF (fs' := [.int 0, .ref q5, .ref q19, .ref q33, .int 0, .ref q47, .ref q62, .ref q77, .ref q92, .ref q107, .null, .int 0, .null, .null, .null, .null, .null, .null, .null]) (ty := .object "CableBook$Row") S hinX3 tyX3 tyX3_ok nmX3 hi hK hP hD hS rfl 9 (by decide) wf_trunkAt rfl rfl (by decide +kernel) rfl rfl (Nat.le_of_ble_eq_true rfl) rfl dX3_init_118 (fun H locs hP hD hS => ?_)
  refine lv_aload_n hx hb dX3_init_121 rfl (lv_at hl 0 rfl) ?_
  refine x_new (ci := 0) (fs := [.null]) S hinX0 tyX0 tyX0_ok wcX0 wtX0 wiX0 hK hP hD hS hA rfl (fun j hj => by rcases (show j = 0 by omega) with rfl <;> rfl) ⟨Nat.le_of_ble_eq_true rfl, Nat.le_of_ble_eq_true rfl⟩ dX3_init_122 (fun q122 H hP hD hS => ?_)
  refine lv_dup hx hb dX3_init_125 rfl ?_
  refine lv_sipush (v := 144) hx hb dX3_init_126 (by decide) ?_
  refine x_ctor (As := [.int (nI 144)]) (rest := [.ref q122, .ref h0]) S (c_X0_init l D cI cZ q122 (N := 144) (by decide)) (cwI 1 S.2.2.2.2 gX3_init_X0_init rfl rfl rfl (S.2.2.2.2 _ wiX0) (S.2.2.2.2 _ wlX0) (S.2.2.2.2 _ wnX0) rfl (by decide +kernel) ⟨Nat.le_of_ble_eq_true rfl, Nat.le_of_ble_eq_true rfl⟩) (fun _ _ _ => trivial) (fun _ _ _ _ _ => trivial) hK hP hD hS hA rfl rfl hl.1 (Nat.le_of_ble_eq_true rfl) dX3_init_129 ⟨Nat.le_of_ble_eq_true rfl, Nat.le_of_ble_eq_true rfl⟩ (fun w129 H locs hw129 hP hD hS => ?_)
  obtain ⟨v129, g129, rfl, hg129⟩ := hw129
  refine x_putF (fs' := [.int 0, .ref q5, .ref q19, .ref q33, .int 0, .ref q47, .ref q62, .ref q77, .ref q92, .ref q107, .ref q122, .int 0, .null, .null, .null, .null, .null, .null, .null]) (ty := .object "CableBook$Marks") S hinX3 tyX3 tyX3_ok nmX3 hi hK hP hD hS rfl 10 (by decide) wf_brokenAt rfl rfl (by decide +kernel) rfl rfl (Nat.le_of_ble_eq_true rfl) rfl dX3_init_132 (fun H locs hP hD hS => ?_)
  refine lv_aload_n hx hb dX3_init_135 rfl (lv_at hl 0 rfl) ?_
  refine x_new (ci := 2) (fs := [.null, .int 0]) S hinX2 tyX2 tyX2_ok wcX2 wtX2 wiX2 hK hP hD hS hA rfl (fun j hj => by rcases (show j = 0 ∨ j = 1 by omega) with rfl | rfl <;> rfl) ⟨Nat.le_of_ble_eq_true rfl, Nat.le_of_ble_eq_true rfl⟩ dX3_init_136 (fun q136 H hP hD hS => ?_)
  refine lv_dup hx hb dX3_init_139 rfl ?_
  refine lv_bipush (v := 10) hx hb dX3_init_140 (by decide) ?_
  refine lv_iconst (v := (-1)) hx hb dX3_init_142 (by decide) ?_
  refine x_ctor (As := [.int (nI 10), .int (-1)]) (rest := [.ref q136, .ref h0]) S (c_X2_init l D cI cZ q136 (N := 10) (by decide) (-1)) (cwI 2 S.2.2.2.2 gX3_init_X2_init rfl rfl rfl (S.2.2.2.2 _ wiX2) (S.2.2.2.2 _ wlX2) (S.2.2.2.2 _ wnX2) rfl (by decide +kernel) ⟨Nat.le_of_ble_eq_true rfl, Nat.le_of_ble_eq_true rfl⟩) (fun _ _ _ => trivial) (fun _ _ _ _ _ => trivial) hK hP hD hS hA rfl rfl hl.1 (Nat.le_of_ble_eq_true rfl) dX3_init_143 ⟨Nat.le_of_ble_eq_true rfl, Nat.le_of_ble_eq_true rfl⟩ (fun w143 H locs hw143 hP hD hS => ?_)
  obtain ⟨v143, g143, rfl, hg143⟩ := hw143
  refine x_putF (fs' := [.int 0, .ref q5, .ref q19, .ref q33, .int 0, .ref q47, .ref q62, .ref q77, .ref q92, .ref q107, .ref q122, .int 0, .ref q136, .null, .null, .null, .null, .null, .null]) (ty := .object "CableBook$Row") S hinX3 tyX3 tyX3_ok nmX3 hi hK hP hD hS rfl 12 (by decide) wf_trunkStart rfl rfl (by decide +kernel) rfl rfl (Nat.le_of_ble_eq_true rfl) rfl dX3_init_146 (fun H locs hP hD hS => ?_)
  refine lv_aload_n hx hb dX3_init_149 rfl (lv_at hl 0 rfl) ?_
  refine x_new (ci := 2) (fs := [.null, .int 0]) S hinX2 tyX2 tyX2_ok wcX2 wtX2 wiX2 hK hP hD hS hA rfl (fun j hj => by rcases (show j = 0 ∨ j = 1 by omega) with rfl | rfl <;> rfl) ⟨Nat.le_of_ble_eq_true rfl, Nat.le_of_ble_eq_true rfl⟩ dX3_init_150 (fun q150 H hP hD hS => ?_)
  refine lv_dup hx hb dX3_init_153 rfl ?_
  refine lv_bipush (v := 10) hx hb dX3_init_154 (by decide) ?_
  refine lv_iconst (v := 0) hx hb dX3_init_156 (by decide) ?_
  refine x_ctor (As := [.int (nI 10), .int 0]) (rest := [.ref q150, .ref h0]) S (c_X2_init l D cI cZ q150 (N := 10) (by decide) 0) (cwI 2 S.2.2.2.2 gX3_init_X2_init rfl rfl rfl (S.2.2.2.2 _ wiX2) (S.2.2.2.2 _ wlX2) (S.2.2.2.2 _ wnX2) rfl (by decide +kernel) ⟨Nat.le_of_ble_eq_true rfl, Nat.le_of_ble_eq_true rfl⟩) (fun _ _ _ => trivial) (fun _ _ _ _ _ => trivial) hK hP hD hS hA rfl rfl hl.1 (Nat.le_of_ble_eq_true rfl) dX3_init_157 ⟨Nat.le_of_ble_eq_true rfl, Nat.le_of_ble_eq_true rfl⟩ (fun w157 H locs hw157 hP hD hS => ?_)
  obtain ⟨v157, g157, rfl, hg157⟩ := hw157
  refine x_putF (fs' := [.int 0, .ref q5, .ref q19, .ref q33, .int 0, .ref q47, .ref q62, .ref q77, .ref q92, .ref q107, .ref q122, .int 0, .ref q136, .ref q150, .null, .null, .null, .null, .null]) (ty := .object "CableBook$Row") S hinX3 tyX3 tyX3_ok nmX3 hi hK hP hD hS rfl 13 (by decide) wf_strandCountOf rfl rfl (by decide +kernel) rfl rfl (Nat.le_of_ble_eq_true rfl) rfl dX3_init_160 (fun H locs hP hD hS => ?_)
  refine lv_aload_n hx hb dX3_init_163 rfl (lv_at hl 0 rfl) ?_
  refine x_new (ci := 2) (fs := [.null, .int 0]) S hinX2 tyX2 tyX2_ok wcX2 wtX2 wiX2 hK hP hD hS hA rfl (fun j hj => by rcases (show j = 0 ∨ j = 1 by omega) with rfl | rfl <;> rfl) ⟨Nat.le_of_ble_eq_true rfl, Nat.le_of_ble_eq_true rfl⟩ dX3_init_164 (fun q164 H hP hD hS => ?_)
  refine lv_dup hx hb dX3_init_167 rfl ?_
  refine lv_bipush (v := 10) hx hb dX3_init_168 (by decide) ?_
  refine lv_iconst (v := 0) hx hb dX3_init_170 (by decide) ?_
  refine x_ctor (As := [.int (nI 10), .int 0]) (rest := [.ref q164, .ref h0]) S (c_X2_init l D cI cZ q164 (N := 10) (by decide) 0) (cwI 2 S.2.2.2.2 gX3_init_X2_init rfl rfl rfl (S.2.2.2.2 _ wiX2) (S.2.2.2.2 _ wlX2) (S.2.2.2.2 _ wnX2) rfl (by decide +kernel) ⟨Nat.le_of_ble_eq_true rfl, Nat.le_of_ble_eq_true rfl⟩) (fun _ _ _ => trivial) (fun _ _ _ _ _ => trivial) hK hP hD hS hA rfl rfl hl.1 (Nat.le_of_ble_eq_true rfl) dX3_init_171 ⟨Nat.le_of_ble_eq_true rfl, Nat.le_of_ble_eq_true rfl⟩ (fun w171 H locs hw171 hP hD hS => ?_)
  obtain ⟨v171, g171, rfl, hg171⟩ := hw171
  refine x_putF (fs' := [.int 0, .ref q5, .ref q19, .ref q33, .int 0, .ref q47, .ref q62, .ref q77, .ref q92, .ref q107, .ref q122, .int 0, .ref q136, .ref q150, .ref q164, .null, .null, .null, .null]) (ty := .object "CableBook$Row") S hinX3 tyX3 tyX3_ok nmX3 hi hK hP hD hS rfl 14 (by decide) wf_trunkLength rfl rfl (by decide +kernel) rfl rfl (Nat.le_of_ble_eq_true rfl) rfl dX3_init_174 (fun H locs hP hD hS => ?_)
  refine lv_aload_n hx hb dX3_init_177 rfl (lv_at hl 0 rfl) ?_
  refine x_new (ci := 1) (fs := [.int 0, .null, .null, .null, .null]) S hinX1 tyX1 tyX1_ok wcX1 wtX1 wiX1 hK hP hD hS hA rfl (fun j hj => by rcases (show j = 0 ∨ j = 1 ∨ j = 2 ∨ j = 3 ∨ j = 4 by omega) with rfl | rfl | rfl | rfl | rfl <;> rfl) ⟨Nat.le_of_ble_eq_true rfl, Nat.le_of_ble_eq_true rfl⟩ dX3_init_178 (fun q178 H hP hD hS => ?_)
  refine lv_dup hx hb dX3_init_181 rfl ?_
  refine x_ctorN (As := []) (host := RX3) (rest := [.ref q178, .ref h0]) S (c_X1_init l D cI cZ q178) ⟨va_cnB 0 S.2.2.2.2 gX3_init_X1_init_n59 rfl rfl rfl (hX) (S.2.2.2.2 _ wiX1) (by decide +kernel) ⟨Nat.le_of_ble_eq_true rfl, Nat.le_of_ble_eq_true rfl⟩, rfl, S.2.2.2.2 _ wnX1⟩ (fun _ _ _ => trivial) (fun _ _ _ _ _ => trivial) hK hP hD hS hA rfl rfl hl.1 (Nat.le_of_ble_eq_true rfl) dX3_init_182 ⟨Nat.le_of_ble_eq_true rfl, Nat.le_of_ble_eq_true rfl⟩ (fun w182 H locs hw182 hP hD hS => ?_)
  obtain ⟨b1, b2, b3, b4, b5, b6, b7, b8, k1, k2, k3, k4, rfl, hk1, hk2, hk3, hk4⟩ := hw182
  refine x_putF (fs' := [.int 0, .ref q5, .ref q19, .ref q33, .int 0, .ref q47, .ref q62, .ref q77, .ref q92, .ref q107, .ref q122, .int 0, .ref q136, .ref q150, .ref q164, .ref q178, .null, .null, .null]) (ty := .object "CableBook$Plan") S hinX3 tyX3 tyX3_ok nmX3 hi hK hP hD hS rfl 15 (by decide) wf_plan rfl rfl (by decide +kernel) rfl rfl (Nat.le_of_ble_eq_true rfl) rfl dX3_init_185 (fun H locs hP hD hS => ?_)
  refine lv_aload_n hx hb dX3_init_188 rfl (lv_at hl 0 rfl) ?_
  refine x_new (ci := 2) (fs := [.null, .int 0]) S hinX2 tyX2 tyX2_ok wcX2 wtX2 wiX2 hK hP hD hS hA rfl (fun j hj => by rcases (show j = 0 ∨ j = 1 by omega) with rfl | rfl <;> rfl) ⟨Nat.le_of_ble_eq_true rfl, Nat.le_of_ble_eq_true rfl⟩ dX3_init_189 (fun q189 H hP hD hS => ?_)
  refine lv_dup hx hb dX3_init_192 rfl ?_
  refine lv_sipush (v := 144) hx hb dX3_init_193 (by decide) ?_
  refine lv_iconst (v := (-1)) hx hb dX3_init_196 (by decide) ?_
  refine x_ctor (As := [.int (nI 144), .int (-1)]) (rest := [.ref q189, .ref h0]) S (c_X2_init l D cI cZ q189 (N := 144) (by decide) (-1)) (cwI 2 S.2.2.2.2 gX3_init_X2_init rfl rfl rfl (S.2.2.2.2 _ wiX2) (S.2.2.2.2 _ wlX2) (S.2.2.2.2 _ wnX2) rfl (by decide +kernel) ⟨Nat.le_of_ble_eq_true rfl, Nat.le_of_ble_eq_true rfl⟩) (fun _ _ _ => trivial) (fun _ _ _ _ _ => trivial) hK hP hD hS hA rfl rfl hl.1 (Nat.le_of_ble_eq_true rfl) dX3_init_197 ⟨Nat.le_of_ble_eq_true rfl, Nat.le_of_ble_eq_true rfl⟩ (fun w197 H locs hw197 hP hD hS => ?_)
  obtain ⟨v197, g197, rfl, hg197⟩ := hw197
  refine x_putF (fs' := [.int 0, .ref q5, .ref q19, .ref q33, .int 0, .ref q47, .ref q62, .ref q77, .ref q92, .ref q107, .ref q122, .int 0, .ref q136, .ref q150, .ref q164, .ref q178, .ref q189, .null, .null]) (ty := .object "CableBook$Row") S hinX3 tyX3 tyX3_ok nmX3 hi hK hP hD hS rfl 16 (by decide) wf_trail rfl rfl (by decide +kernel) rfl rfl (Nat.le_of_ble_eq_true rfl) rfl dX3_init_200 (fun H locs hP hD hS => ?_)
  refine lv_aload_n hx hb dX3_init_203 rfl (lv_at hl 0 rfl) ?_
  refine x_new (ci := 2) (fs := [.null, .int 0]) S hinX2 tyX2 tyX2_ok wcX2 wtX2 wiX2 hK hP hD hS hA rfl (fun j hj => by rcases (show j = 0 ∨ j = 1 by omega) with rfl | rfl <;> rfl) ⟨Nat.le_of_ble_eq_true rfl, Nat.le_of_ble_eq_true rfl⟩ dX3_init_204 (fun q204 H hP hD hS => ?_)
  refine lv_dup hx hb dX3_init_207 rfl ?_
  refine lv_sipush (v := 144) hx hb dX3_init_208 (by decide) ?_
  refine lv_iconst (v := (-1)) hx hb dX3_init_211 (by decide) ?_
  refine x_ctor (As := [.int (nI 144), .int (-1)]) (rest := [.ref q204, .ref h0]) S (c_X2_init l D cI cZ q204 (N := 144) (by decide) (-1)) (cwI 2 S.2.2.2.2 gX3_init_X2_init rfl rfl rfl (S.2.2.2.2 _ wiX2) (S.2.2.2.2 _ wlX2) (S.2.2.2.2 _ wnX2) rfl (by decide +kernel) ⟨Nat.le_of_ble_eq_true rfl, Nat.le_of_ble_eq_true rfl⟩) (fun _ _ _ => trivial) (fun _ _ _ _ _ => trivial) hK hP hD hS hA rfl rfl hl.1 (Nat.le_of_ble_eq_true rfl) dX3_init_212 ⟨Nat.le_of_ble_eq_true rfl, Nat.le_of_ble_eq_true rfl⟩ (fun w212 H locs hw212 hP hD hS => ?_)
  obtain ⟨v212, g212, rfl, hg212⟩ := hw212
  refine x_putF (fs' := [.int 0, .ref q5, .ref q19, .ref q33, .int 0, .ref q47, .ref q62, .ref q77, .ref q92, .ref q107, .ref q122, .int 0, .ref q136, .ref q150, .ref q164, .ref q178, .ref q189, .ref q204, .null]) (ty := .object "CableBook$Row") S hinX3 tyX3 tyX3_ok nmX3 hi hK hP hD hS rfl 17 (by decide) wf_queue rfl rfl (by decide +kernel) rfl rfl (Nat.le_of_ble_eq_true rfl) rfl dX3_init_215 (fun H locs hP hD hS => ?_)
  refine lv_aload_n hx hb dX3_init_218 rfl (lv_at hl 0 rfl) ?_
  refine x_new (ci := 0) (fs := [.null]) S hinX0 tyX0 tyX0_ok wcX0 wtX0 wiX0 hK hP hD hS hA rfl (fun j hj => by rcases (show j = 0 by omega) with rfl <;> rfl) ⟨Nat.le_of_ble_eq_true rfl, Nat.le_of_ble_eq_true rfl⟩ dX3_init_219 (fun q219 H hP hD hS => ?_)
  refine lv_dup hx hb dX3_init_222 rfl ?_
  refine lv_sipush (v := 144) hx hb dX3_init_223 (by decide) ?_
  refine x_ctor (As := [.int (nI 144)]) (rest := [.ref q219, .ref h0]) S (c_X0_init l D cI cZ q219 (N := 144) (by decide)) (cwI 1 S.2.2.2.2 gX3_init_X0_init rfl rfl rfl (S.2.2.2.2 _ wiX0) (S.2.2.2.2 _ wlX0) (S.2.2.2.2 _ wnX0) rfl (by decide +kernel) ⟨Nat.le_of_ble_eq_true rfl, Nat.le_of_ble_eq_true rfl⟩) (fun _ _ _ => trivial) (fun _ _ _ _ _ => trivial) hK hP hD hS hA rfl rfl hl.1 (Nat.le_of_ble_eq_true rfl) dX3_init_226 ⟨Nat.le_of_ble_eq_true rfl, Nat.le_of_ble_eq_true rfl⟩ (fun w226 H locs hw226 hP hD hS => ?_)
  obtain ⟨v226, g226, rfl, hg226⟩ := hw226
  refine x_putF (fs' := [.int 0, .ref q5, .ref q19, .ref q33, .int 0, .ref q47, .ref q62, .ref q77, .ref q92, .ref q107, .ref q122, .int 0, .ref q136, .ref q150, .ref q164, .ref q178, .ref q189, .ref q204, .ref q219]) (ty := .object "CableBook$Marks") S hinX3 tyX3 tyX3_ok nmX3 hi hK hP hD hS rfl 18 (by decide) wf_found rfl rfl (by decide +kernel) rfl rfl (Nat.le_of_ble_eq_true rfl) rfl dX3_init_229 (fun H locs hP hD hS => ?_)
  refine lv_aload_n hx hb dX3_init_232 rfl (lv_at hl 0 rfl) ?_
  refine lv_iconst (v := 0) hx hb dX3_init_233 (by decide) ?_
  refine x_putI (fs' := [.int 0, .ref q5, .ref q19, .ref q33, .int 0, .ref q47, .ref q62, .ref q77, .ref q92, .ref q107, .ref q122, .int 0, .ref q136, .ref q150, .ref q164, .ref q178, .ref q189, .ref q204, .ref q219]) S hinX3 tyX3 tyX3_ok nmX3 hK hP hD hS rfl 0 (by decide) wf_panelCount rfl (by decide +kernel) (Nat.le_of_ble_eq_true rfl) rfl dX3_init_234 (fun H locs hP hD hS => ?_)
  refine lv_aload_n hx hb dX3_init_237 rfl (lv_at hl 0 rfl) ?_
  refine lv_iconst (v := 0) hx hb dX3_init_238 (by decide) ?_
  refine x_putI (fs' := [.int 0, .ref q5, .ref q19, .ref q33, .int 0, .ref q47, .ref q62, .ref q77, .ref q92, .ref q107, .ref q122, .int 0, .ref q136, .ref q150, .ref q164, .ref q178, .ref q189, .ref q204, .ref q219]) S hinX3 tyX3 tyX3_ok nmX3 hK hP hD hS rfl 4 (by decide) wf_portCount rfl (by decide +kernel) (Nat.le_of_ble_eq_true rfl) rfl dX3_init_239 (fun H locs hP hD hS => ?_)
  refine lv_aload_n hx hb dX3_init_242 rfl (lv_at hl 0 rfl) ?_
  refine lv_iconst (v := 0) hx hb dX3_init_243 (by decide) ?_
  refine x_putI (fs' := [.int 0, .ref q5, .ref q19, .ref q33, .int 0, .ref q47, .ref q62, .ref q77, .ref q92, .ref q107, .ref q122, .int 0, .ref q136, .ref q150, .ref q164, .ref q178, .ref q189, .ref q204, .ref q219]) S hinX3 tyX3 tyX3_ok nmX3 hK hP hD hS rfl 11 (by decide) wf_trunkCount rfl (by decide +kernel) (Nat.le_of_ble_eq_true rfl) rfl dX3_init_244 (fun H locs hP hD hS => ?_)
  exact x_cend S hr hlk (c_X3_fin hP hD).1 (c_X3_fin hP hD).2 hS (Nat.le_of_ble_eq_true rfl) (Nat.le_of_ble_eq_true rfl) dX3_init_247 ⟨(fun k => [h0, q5, v12, q19, v26, q33, v40, q47, v55, q62, v70, q77, v85, q92, v100, q107, v115, q136, v143, q150, v157, q164, v171, q189, v197, q204, v212, b1, b2, b3, b4, b5, b6, b7, b8, q122, v129, q219, v226, q178].getD k 0), (fun k => [g12, g26, g40, g55, g70, g85, g100, g115, g143, g157, g171, g197, g212, k1, k2, k3, k4, g129, g226].getD k (fun _ => 0)), rfl, rfl, hg12, hg26, hg40, hg55, hg70, hg85, hg100, hg115, hg143, hg157, hg171, hg197, hg212, hk1, hk2, hk3, hk4, hg129, hg226⟩

