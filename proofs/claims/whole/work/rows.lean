section
-- ===== PART A: goes FIRST, ahead of the names: the tables' words, and 'selects' of the private methods out of them =====
/-- a private method of a class that the tables say can be made, by its rows of tables_1 -/
def lw_okq (q : MethodName × Nat) : Prop := (q.1.cls ≠ "java/lang/invoke/MethodHandle" ∧ q.1.cls ≠ "java/lang/invoke/VarHandle") ∧ Cond.instantiable q.1.cls q.2 ∈ tables_1 ∧ Cond.privateMethod q.1 ∈ tables_1 ∧ Cond.instanceMethod q.1 ∈ tables_1
theorem lw_p0 : lw_okq (⟨"CableBook", "isLowerEnd", "(I)Z"⟩, 19) := ⟨⟨by decide +kernel, by decide +kernel⟩, List.mem_of_getElem? (i := 14) (by decide +kernel), List.mem_of_getElem? (i := 157) (by decide +kernel), List.mem_of_getElem? (i := 158) (by decide +kernel)⟩
theorem lw_p1 : lw_okq (⟨"CableBook", "trace", "(IZ)I"⟩, 19) := ⟨⟨by decide +kernel, by decide +kernel⟩, List.mem_of_getElem? (i := 14) (by decide +kernel), List.mem_of_getElem? (i := 181) (by decide +kernel), List.mem_of_getElem? (i := 182) (by decide +kernel)⟩
theorem lw_p2 : lw_okq (⟨"CableBook", "openStrandFrom", "(I)I"⟩, 19) := ⟨⟨by decide +kernel, by decide +kernel⟩, List.mem_of_getElem? (i := 14) (by decide +kernel), List.mem_of_getElem? (i := 185) (by decide +kernel), List.mem_of_getElem? (i := 186) (by decide +kernel)⟩
theorem lw_p3 : lw_okq (⟨"CableBook", "markTrail", "(I)V"⟩, 19) := ⟨⟨by decide +kernel, by decide +kernel⟩, List.mem_of_getElem? (i := 14) (by decide +kernel), List.mem_of_getElem? (i := 193) (by decide +kernel), List.mem_of_getElem? (i := 194) (by decide +kernel)⟩
theorem lw_p4 : lw_okq (⟨"CableBook", "planIsPossible", "()Z"⟩, 19) := ⟨⟨by decide +kernel, by decide +kernel⟩, List.mem_of_getElem? (i := 14) (by decide +kernel), List.mem_of_getElem? (i := 201) (by decide +kernel), List.mem_of_getElem? (i := 202) (by decide +kernel)⟩
theorem lw_p5 : lw_okq (⟨"CableBook", "hasCable", "(I)Z"⟩, 19) := ⟨⟨by decide +kernel, by decide +kernel⟩, List.mem_of_getElem? (i := 14) (by decide +kernel), List.mem_of_getElem? (i := 210) (by decide +kernel), List.mem_of_getElem? (i := 211) (by decide +kernel)⟩
theorem lw_p6 : lw_okq (⟨"CableBook", "staysTaken", "(I)Z"⟩, 19) := ⟨⟨by decide +kernel, by decide +kernel⟩, List.mem_of_getElem? (i := 14) (by decide +kernel), List.mem_of_getElem? (i := 224) (by decide +kernel), List.mem_of_getElem? (i := 225) (by decide +kernel)⟩
theorem lw_p7 : lw_okq (⟨"CableBook", "lengthBetween", "(II)I"⟩, 19) := ⟨⟨by decide +kernel, by decide +kernel⟩, List.mem_of_getElem? (i := 14) (by decide +kernel), List.mem_of_getElem? (i := 236) (by decide +kernel), List.mem_of_getElem? (i := 237) (by decide +kernel)⟩
theorem lw_p8 : lw_okq (⟨"java/lang/Throwable", "fillInStackTrace", "(I)Ljava/lang/Throwable;"⟩, 6) := ⟨⟨by decide +kernel, by decide +kernel⟩, List.mem_of_getElem? (i := 293) (by decide +kernel), List.mem_of_getElem? (i := 291) (by decide +kernel), List.mem_of_getElem? (i := 292) (by decide +kernel)⟩
theorem lw_p9 : lw_okq (⟨"CableBook", "checkPort", "(I)V"⟩, 19) := ⟨⟨by decide +kernel, by decide +kernel⟩, List.mem_of_getElem? (i := 14) (by decide +kernel), List.mem_of_getElem? (i := 347) (by decide +kernel), List.mem_of_getElem? (i := 348) (by decide +kernel)⟩
theorem lw_p10 : lw_okq (⟨"CableBook", "portsFrom", "(I)I"⟩, 19) := ⟨⟨by decide +kernel, by decide +kernel⟩, List.mem_of_getElem? (i := 14) (by decide +kernel), List.mem_of_getElem? (i := 369) (by decide +kernel), List.mem_of_getElem? (i := 370) (by decide +kernel)⟩
theorem lw_p11 : lw_okq (⟨"CableBook", "anyStrand", "(II)Z"⟩, 19) := ⟨⟨by decide +kernel, by decide +kernel⟩, List.mem_of_getElem? (i := 14) (by decide +kernel), List.mem_of_getElem? (i := 375) (by decide +kernel), List.mem_of_getElem? (i := 376) (by decide +kernel)⟩
theorem lw_p12 : lw_okq (⟨"CableBook", "hasStrand", "(I)Z"⟩, 19) := ⟨⟨by decide +kernel, by decide +kernel⟩, List.mem_of_getElem? (i := 14) (by decide +kernel), List.mem_of_getElem? (i := 379) (by decide +kernel), List.mem_of_getElem? (i := 380) (by decide +kernel)⟩
theorem lw_p13 : lw_okq (⟨"CableBook", "joinByStrand", "(III)V"⟩, 19) := ⟨⟨by decide +kernel, by decide +kernel⟩, List.mem_of_getElem? (i := 14) (by decide +kernel), List.mem_of_getElem? (i := 384) (by decide +kernel), List.mem_of_getElem? (i := 385) (by decide +kernel)⟩
theorem lw_p14 : lw_okq (⟨"CableBook", "checkTrunk", "(I)V"⟩, 19) := ⟨⟨by decide +kernel, by decide +kernel⟩, List.mem_of_getElem? (i := 14) (by decide +kernel), List.mem_of_getElem? (i := 395) (by decide +kernel), List.mem_of_getElem? (i := 396) (by decide +kernel)⟩
theorem lw_p15 : lw_okq (⟨"CableBook", "joinByCable", "(III)V"⟩, 19) := ⟨⟨by decide +kernel, by decide +kernel⟩, List.mem_of_getElem? (i := 14) (by decide +kernel), List.mem_of_getElem? (i := 410) (by decide +kernel), List.mem_of_getElem? (i := 411) (by decide +kernel)⟩
def lw_privs_1 : List (MethodName × Nat) := [(⟨"CableBook", "isLowerEnd", "(I)Z"⟩, 19), (⟨"CableBook", "trace", "(IZ)I"⟩, 19), (⟨"CableBook", "openStrandFrom", "(I)I"⟩, 19), (⟨"CableBook", "markTrail", "(I)V"⟩, 19), (⟨"CableBook", "planIsPossible", "()Z"⟩, 19), (⟨"CableBook", "hasCable", "(I)Z"⟩, 19), (⟨"CableBook", "staysTaken", "(I)Z"⟩, 19), (⟨"CableBook", "lengthBetween", "(II)I"⟩, 19), (⟨"java/lang/Throwable", "fillInStackTrace", "(I)Ljava/lang/Throwable;"⟩, 6), (⟨"CableBook", "checkPort", "(I)V"⟩, 19), (⟨"CableBook", "portsFrom", "(I)I"⟩, 19), (⟨"CableBook", "anyStrand", "(II)Z"⟩, 19), (⟨"CableBook", "hasStrand", "(I)Z"⟩, 19), (⟨"CableBook", "joinByStrand", "(III)V"⟩, 19), (⟨"CableBook", "checkTrunk", "(I)V"⟩, 19), (⟨"CableBook", "joinByCable", "(III)V"⟩, 19)]
theorem lw_r1 : ∀ q ∈ lw_privs_1, lw_okq q := List.forall_mem_cons.mpr ⟨lw_p0, List.forall_mem_cons.mpr ⟨lw_p1, List.forall_mem_cons.mpr ⟨lw_p2, List.forall_mem_cons.mpr ⟨lw_p3, List.forall_mem_cons.mpr ⟨lw_p4, List.forall_mem_cons.mpr ⟨lw_p5, List.forall_mem_cons.mpr ⟨lw_p6, List.forall_mem_cons.mpr ⟨lw_p7, List.forall_mem_cons.mpr ⟨lw_p8, List.forall_mem_cons.mpr ⟨lw_p9, List.forall_mem_cons.mpr ⟨lw_p10, List.forall_mem_cons.mpr ⟨lw_p11, List.forall_mem_cons.mpr ⟨lw_p12, List.forall_mem_cons.mpr ⟨lw_p13, List.forall_mem_cons.mpr ⟨lw_p14, List.forall_mem_cons.mpr ⟨lw_p15, fun _ h => absurd h List.not_mem_nil⟩⟩⟩⟩⟩⟩⟩⟩⟩⟩⟩⟩⟩⟩⟩⟩
theorem lw_p16 : lw_okq (⟨"CableBook", "clearCable", "(I)V"⟩, 19) := ⟨⟨by decide +kernel, by decide +kernel⟩, List.mem_of_getElem? (i := 14) (by decide +kernel), List.mem_of_getElem? (i := 422) (by decide +kernel), List.mem_of_getElem? (i := 423) (by decide +kernel)⟩
theorem lw_p17 : lw_okq (⟨"CableBook", "pullPlannedEnds", "()V"⟩, 19) := ⟨⟨by decide +kernel, by decide +kernel⟩, List.mem_of_getElem? (i := 14) (by decide +kernel), List.mem_of_getElem? (i := 448) (by decide +kernel), List.mem_of_getElem? (i := 449) (by decide +kernel)⟩
theorem lw_p18 : lw_okq (⟨"CableBook", "plugPlannedEnds", "()V"⟩, 19) := ⟨⟨by decide +kernel, by decide +kernel⟩, List.mem_of_getElem? (i := 14) (by decide +kernel), List.mem_of_getElem? (i := 456) (by decide +kernel), List.mem_of_getElem? (i := 457) (by decide +kernel)⟩
theorem lw_p19 : lw_okq (⟨"CableBook", "endOfTrail", "(II)I"⟩, 19) := ⟨⟨by decide +kernel, by decide +kernel⟩, List.mem_of_getElem? (i := 14) (by decide +kernel), List.mem_of_getElem? (i := 507) (by decide +kernel), List.mem_of_getElem? (i := 508) (by decide +kernel)⟩
theorem lw_p20 : lw_okq (⟨"CableBook", "isOnTrail", "(II)Z"⟩, 19) := ⟨⟨by decide +kernel, by decide +kernel⟩, List.mem_of_getElem? (i := 14) (by decide +kernel), List.mem_of_getElem? (i := 547) (by decide +kernel), List.mem_of_getElem? (i := 548) (by decide +kernel)⟩
theorem lw_p21 : lw_okq (⟨"CableBook", "searchFrom", "(I)V"⟩, 19) := ⟨⟨by decide +kernel, by decide +kernel⟩, List.mem_of_getElem? (i := 14) (by decide +kernel), List.mem_of_getElem? (i := 558) (by decide +kernel), List.mem_of_getElem? (i := 559) (by decide +kernel)⟩
theorem lw_p22 : lw_okq (⟨"CableBook", "reach", "(II)I"⟩, 19) := ⟨⟨by decide +kernel, by decide +kernel⟩, List.mem_of_getElem? (i := 14) (by decide +kernel), List.mem_of_getElem? (i := 562) (by decide +kernel), List.mem_of_getElem? (i := 563) (by decide +kernel)⟩
theorem lw_p23 : lw_okq (⟨"CableBook", "checkPanel", "(I)V"⟩, 19) := ⟨⟨by decide +kernel, by decide +kernel⟩, List.mem_of_getElem? (i := 14) (by decide +kernel), List.mem_of_getElem? (i := 573) (by decide +kernel), List.mem_of_getElem? (i := 574) (by decide +kernel)⟩
theorem lw_p24 : lw_okq (⟨"CableBookModel", "holds", "(I)Z"⟩, 24) := ⟨⟨by decide +kernel, by decide +kernel⟩, List.mem_of_getElem? (i := 592) (by decide +kernel), List.mem_of_getElem? (i := 682) (by decide +kernel), List.mem_of_getElem? (i := 683) (by decide +kernel)⟩
theorem lw_p25 : lw_okq (⟨"CableBookModel", "errorOfTrunk", "(IIII)I"⟩, 24) := ⟨⟨by decide +kernel, by decide +kernel⟩, List.mem_of_getElem? (i := 592) (by decide +kernel), List.mem_of_getElem? (i := 690) (by decide +kernel), List.mem_of_getElem? (i := 691) (by decide +kernel)⟩
theorem lw_p26 : lw_okq (⟨"CableBookModel", "arePorts", "(II)Z"⟩, 24) := ⟨⟨by decide +kernel, by decide +kernel⟩, List.mem_of_getElem? (i := 592) (by decide +kernel), List.mem_of_getElem? (i := 694) (by decide +kernel), List.mem_of_getElem? (i := 695) (by decide +kernel)⟩
theorem lw_p27 : lw_okq (⟨"CableBookModel", "isPort", "(I)Z"⟩, 24) := ⟨⟨by decide +kernel, by decide +kernel⟩, List.mem_of_getElem? (i := 592) (by decide +kernel), List.mem_of_getElem? (i := 698) (by decide +kernel), List.mem_of_getElem? (i := 699) (by decide +kernel)⟩
theorem lw_p28 : lw_okq (⟨"CableBookModel", "panel", "(I)I"⟩, 24) := ⟨⟨by decide +kernel, by decide +kernel⟩, List.mem_of_getElem? (i := 592) (by decide +kernel), List.mem_of_getElem? (i := 702) (by decide +kernel), List.mem_of_getElem? (i := 703) (by decide +kernel)⟩
theorem lw_p29 : lw_okq (⟨"CableBookModel", "isBehind", "(II)Z"⟩, 24) := ⟨⟨by decide +kernel, by decide +kernel⟩, List.mem_of_getElem? (i := 592) (by decide +kernel), List.mem_of_getElem? (i := 706) (by decide +kernel), List.mem_of_getElem? (i := 707) (by decide +kernel)⟩
theorem lw_p30 : lw_okq (⟨"CableBookModel", "joins", "(II)V"⟩, 24) := ⟨⟨by decide +kernel, by decide +kernel⟩, List.mem_of_getElem? (i := 592) (by decide +kernel), List.mem_of_getElem? (i := 710) (by decide +kernel), List.mem_of_getElem? (i := 711) (by decide +kernel)⟩
theorem lw_p31 : lw_okq (⟨"CableBookModel", "isTrunk", "(I)Z"⟩, 24) := ⟨⟨by decide +kernel, by decide +kernel⟩, List.mem_of_getElem? (i := 592) (by decide +kernel), List.mem_of_getElem? (i := 718) (by decide +kernel), List.mem_of_getElem? (i := 719) (by decide +kernel)⟩
def lw_privs_2 : List (MethodName × Nat) := [(⟨"CableBook", "clearCable", "(I)V"⟩, 19), (⟨"CableBook", "pullPlannedEnds", "()V"⟩, 19), (⟨"CableBook", "plugPlannedEnds", "()V"⟩, 19), (⟨"CableBook", "endOfTrail", "(II)I"⟩, 19), (⟨"CableBook", "isOnTrail", "(II)Z"⟩, 19), (⟨"CableBook", "searchFrom", "(I)V"⟩, 19), (⟨"CableBook", "reach", "(II)I"⟩, 19), (⟨"CableBook", "checkPanel", "(I)V"⟩, 19), (⟨"CableBookModel", "holds", "(I)Z"⟩, 24), (⟨"CableBookModel", "errorOfTrunk", "(IIII)I"⟩, 24), (⟨"CableBookModel", "arePorts", "(II)Z"⟩, 24), (⟨"CableBookModel", "isPort", "(I)Z"⟩, 24), (⟨"CableBookModel", "panel", "(I)I"⟩, 24), (⟨"CableBookModel", "isBehind", "(II)Z"⟩, 24), (⟨"CableBookModel", "joins", "(II)V"⟩, 24), (⟨"CableBookModel", "isTrunk", "(I)Z"⟩, 24)]
theorem lw_r2 : ∀ q ∈ lw_privs_2, lw_okq q := List.forall_mem_cons.mpr ⟨lw_p16, List.forall_mem_cons.mpr ⟨lw_p17, List.forall_mem_cons.mpr ⟨lw_p18, List.forall_mem_cons.mpr ⟨lw_p19, List.forall_mem_cons.mpr ⟨lw_p20, List.forall_mem_cons.mpr ⟨lw_p21, List.forall_mem_cons.mpr ⟨lw_p22, List.forall_mem_cons.mpr ⟨lw_p23, List.forall_mem_cons.mpr ⟨lw_p24, List.forall_mem_cons.mpr ⟨lw_p25, List.forall_mem_cons.mpr ⟨lw_p26, List.forall_mem_cons.mpr ⟨lw_p27, List.forall_mem_cons.mpr ⟨lw_p28, List.forall_mem_cons.mpr ⟨lw_p29, List.forall_mem_cons.mpr ⟨lw_p30, List.forall_mem_cons.mpr ⟨lw_p31, fun _ h => absurd h List.not_mem_nil⟩⟩⟩⟩⟩⟩⟩⟩⟩⟩⟩⟩⟩⟩⟩⟩
theorem lw_p32 : lw_okq (⟨"CableBookModel", "length", "(II)I"⟩, 24) := ⟨⟨by decide +kernel, by decide +kernel⟩, List.mem_of_getElem? (i := 592) (by decide +kernel), List.mem_of_getElem? (i := 726) (by decide +kernel), List.mem_of_getElem? (i := 727) (by decide +kernel)⟩
theorem lw_p33 : lw_okq (⟨"CableBookModel", "lays", "()Z"⟩, 24) := ⟨⟨by decide +kernel, by decide +kernel⟩, List.mem_of_getElem? (i := 592) (by decide +kernel), List.mem_of_getElem? (i := 746) (by decide +kernel), List.mem_of_getElem? (i := 747) (by decide +kernel)⟩
theorem lw_p34 : lw_okq (⟨"CableBookModel", "areUnlike", "([I)Z"⟩, 24) := ⟨⟨by decide +kernel, by decide +kernel⟩, List.mem_of_getElem? (i := 592) (by decide +kernel), List.mem_of_getElem? (i := 750) (by decide +kernel), List.mem_of_getElem? (i := 751) (by decide +kernel)⟩
theorem lw_p35 : lw_okq (⟨"CableBookModel", "moved", "(I)I"⟩, 24) := ⟨⟨by decide +kernel, by decide +kernel⟩, List.mem_of_getElem? (i := 592) (by decide +kernel), List.mem_of_getElem? (i := 754) (by decide +kernel), List.mem_of_getElem? (i := 755) (by decide +kernel)⟩
theorem lw_p36 : lw_okq (⟨"CableBookModel", "goes", "(IZ)I"⟩, 24) := ⟨⟨by decide +kernel, by decide +kernel⟩, List.mem_of_getElem? (i := 592) (by decide +kernel), List.mem_of_getElem? (i := 790) (by decide +kernel), List.mem_of_getElem? (i := 791) (by decide +kernel)⟩
theorem lw_p37 : lw_okq (⟨"CableBookModel", "next", "(IZ)I"⟩, 24) := ⟨⟨by decide +kernel, by decide +kernel⟩, List.mem_of_getElem? (i := 592) (by decide +kernel), List.mem_of_getElem? (i := 794) (by decide +kernel), List.mem_of_getElem? (i := 795) (by decide +kernel)⟩
theorem lw_p38 : lw_okq (⟨"CableBookModel", "isOnLine", "(II)Z"⟩, 24) := ⟨⟨by decide +kernel, by decide +kernel⟩, List.mem_of_getElem? (i := 592) (by decide +kernel), List.mem_of_getElem? (i := 818) (by decide +kernel), List.mem_of_getElem? (i := 819) (by decide +kernel)⟩
theorem lw_p39 : lw_okq (⟨"CableBookModel", "isMet", "(IIZ)Z"⟩, 24) := ⟨⟨by decide +kernel, by decide +kernel⟩, List.mem_of_getElem? (i := 592) (by decide +kernel), List.mem_of_getElem? (i := 822) (by decide +kernel), List.mem_of_getElem? (i := 823) (by decide +kernel)⟩
theorem lw_p40 : lw_okq (⟨"CableBookModel", "searches", "()V"⟩, 24) := ⟨⟨by decide +kernel, by decide +kernel⟩, List.mem_of_getElem? (i := 592) (by decide +kernel), List.mem_of_getElem? (i := 830) (by decide +kernel), List.mem_of_getElem? (i := 831) (by decide +kernel)⟩
theorem lw_p41 : lw_okq (⟨"CableBookModel", "isPanel", "(I)Z"⟩, 24) := ⟨⟨by decide +kernel, by decide +kernel⟩, List.mem_of_getElem? (i := 592) (by decide +kernel), List.mem_of_getElem? (i := 842) (by decide +kernel), List.mem_of_getElem? (i := 843) (by decide +kernel)⟩
def lw_privs_3 : List (MethodName × Nat) := [(⟨"CableBookModel", "length", "(II)I"⟩, 24), (⟨"CableBookModel", "lays", "()Z"⟩, 24), (⟨"CableBookModel", "areUnlike", "([I)Z"⟩, 24), (⟨"CableBookModel", "moved", "(I)I"⟩, 24), (⟨"CableBookModel", "goes", "(IZ)I"⟩, 24), (⟨"CableBookModel", "next", "(IZ)I"⟩, 24), (⟨"CableBookModel", "isOnLine", "(II)Z"⟩, 24), (⟨"CableBookModel", "isMet", "(IIZ)Z"⟩, 24), (⟨"CableBookModel", "searches", "()V"⟩, 24), (⟨"CableBookModel", "isPanel", "(I)Z"⟩, 24)]
theorem lw_r3 : ∀ q ∈ lw_privs_3, lw_okq q := List.forall_mem_cons.mpr ⟨lw_p32, List.forall_mem_cons.mpr ⟨lw_p33, List.forall_mem_cons.mpr ⟨lw_p34, List.forall_mem_cons.mpr ⟨lw_p35, List.forall_mem_cons.mpr ⟨lw_p36, List.forall_mem_cons.mpr ⟨lw_p37, List.forall_mem_cons.mpr ⟨lw_p38, List.forall_mem_cons.mpr ⟨lw_p39, List.forall_mem_cons.mpr ⟨lw_p40, List.forall_mem_cons.mpr ⟨lw_p41, fun _ h => absurd h List.not_mem_nil⟩⟩⟩⟩⟩⟩⟩⟩⟩⟩
def lw_privs : List (MethodName × Nat) := lw_privs_1 ++ (lw_privs_2 ++ (lw_privs_3))
def lw_tbl : List Cond := k2_sels lw_privs ++ tables_1
theorem lw_privs_ok : ∀ q ∈ lw_privs, lw_okq q := by
  show ∀ q ∈ lw_privs_1 ++ (lw_privs_2 ++ (lw_privs_3)), lw_okq q
  exact List.forall_mem_append.mpr ⟨lw_r1, List.forall_mem_append.mpr ⟨lw_r2, lw_r3⟩⟩
-- ===== end of PART A; then your names; then what follows =====
end
section
/-! ===== BEGIN words of one list among another's, by their places ===== -/
theorem goodIn_r {big : List Cond} (ws : List Cond) (ps : List Nat) (hp : ws = ps.filterMap (fun i => big[i]?)) (h : ws.all goodWord = true) : GoodIn big ws := by
  intro w hw
  have h1 := List.all_eq_true.mp h w hw
  rw [hp] at hw
  obtain ⟨i, -, hi⟩ := List.mem_filterMap.mp hw
  have hm : w ∈ big := by first | exact List.mem_of_getElem? hi | exact List.getElem?_mem hi
  exact ⟨hm, good_of_word h1⟩
theorem goodIn_app {big a b : List Cond} (ha : GoodIn big a) (hb : GoodIn big b) : GoodIn big (a ++ b) := fun w h => (List.mem_append.mp h).elim (ha w) (hb w)
theorem goodIn_ca {big a b : List Cond} {c : Cond} (ha : GoodIn big (c :: a)) (hb : GoodIn big b) : GoodIn big (c :: (a ++ b)) := fun w h => (List.mem_cons.mp h).elim (fun e => ha w (List.mem_cons.mpr (Or.inl e))) (fun h => (List.mem_append.mp h).elim (fun h => ha w (List.mem_cons.mpr (Or.inr h))) (hb w))
theorem goodIn_sub {big ws : List Cond} (hm : ∀ w ∈ ws, w ∈ big) (h : ws.all goodWord = true) : GoodIn big ws := fun w hw => ⟨hm w hw, good_of_word (List.all_eq_true.mp h w hw)⟩
/-! ===== END ===== -/

/-! ===== BEGIN exceptions that leave a method, and their catching by the caller (launches without stack traces) ===== -/
section VXA
/-! The laws vx_back, vx_callV, vx_callS, vx_callSW, vx_throw0, vx_throwS follow proofs of the library, with one case more: JvmDerived/Free/Laws.lean (Back.of_free), Shelf42/LK1.lean (callV, callS), Shelf/KitTraced.lean (throwNew0V, throwNewS). -/
/-- where a method has thrown q: the class by its name, the cell, what was written, the world -/
def vx_T (XC : String → State → State → Prop) (st : State) (q : Addr) (t : State) (mc ms : Nat) (free : Addr → Prop) : Prop :=
  ∃ (E : String) (ce : Cell) (L : List Loc), XC E st t ∧ t.heap[q]? = some ce ∧ ce.vm = .none ∧ st.vm.findClass E = some ce.cls ∧ st.WarmedH t.vm ∧ st.sameButNew ({ t with vm := st.vm } : State) L mc ms ∧ ∀ z ∈ L, free z.base
def vx_Q (Qc : Array Value → State → Outcome → State → Prop) (XC : String → State → State → Prop) (mc ms : Nat) (free : Addr → Prop) : Array Value → State → Outcome → State → Prop := fun a st o t =>
  (Qc a st o t ∧ ∃ L, FrameEnd st o t L mc ms ∧ ∀ q ∈ L, free q.base) ∨ ∃ q, o = .threw q ∧ vx_T XC st q t mc ms free
/-- a callee that returns or throws -/
def vx_Met (l : Launch) (y : MethodName) (ws : List Cond) (rm : Room) (Pc : Array Value → State → Prop) (Qc : Array Value → State → Outcome → State → Prop) (XC : String → State → State → Prop) (mc ms : Nat) (free : Addr → Prop) : Prop :=
  MetFree l y (headSpec ws rm) Pc (fun _ _ _ _ _ => True) (vx_Q Qc XC mc ms free)
def vx_Post (XC : String → State → State → Prop) (mc ms : Nat) (free : Addr → Prop) : Pt → Array Value → Addr → Pt → Prop := fun A a q B =>
  ∃ (g : JFrame) (mk : MethodId) (t : State) (L : List Loc) (E : String) (ce : Cell), B.U.heap = t.heap ∧ B.U.vm = t.vm ∧ XC E (A.U.calling g mk a) t ∧ t.heap[q]? = some ce ∧ ce.vm = .none ∧ A.U.vm.findClass E = some ce.cls ∧ B.locs = A.locs ++ L ∧ (∀ z ∈ L, free z.base) ∧ B.cells = A.cells + mc ∧ B.slots = A.slots + ms
def vx_Back (l : Launch) (R : Room) (p : Program) (e : Env) (below : List Frame) (s : State) (sargs : Array Value) (y : MethodName) (len W9 : Nat)
    (Pre : Pt → Array Value → Prop) (Post : Pt → Array Value → Option Value → Pt → Prop) (PostX : Pt → Array Value → Addr → Pt → Prop) : Prop :=
  ∀ (m : MethodId) (meth : Method) (c : Code) (A : Pt) (g : JFrame) (ig : Instr) (mk : MethodId) (a : Array Value),
    Stand p l e R s m sargs below meth c A.U A.locs A.cells A.slots → g.method = m → g.locals.size = c.maxLocals → decode c.code g.pc = .ok (ig, len) →
    2 * g.monitorRoom + (g.stack.map fun v => v.category).sum ≤ W9 → A.U.methodNamed? y = some mk → Pre A a →
    (∃ (v : Option Value) (B : Pt), Stand p l e R s m sargs below meth c B.U B.locs B.cells B.slots ∧ Post A a v B ∧
      Steps p.tables e below (doInvoke e (A.U.setTop g) [] mk a).1 (B.U.setTop { g with pc := g.pc + len, stack := v.toList ++ g.stack })) ∨
    (∃ (q : Addr) (B : Pt), Stand p l e R s m sargs below meth c B.U B.locs B.cells B.slots ∧ PostX A a q B ∧
      Steps p.tables e below (doInvoke e (A.U.setTop g) [] mk a).1 ((B.U.setTop g).pushFrame (.throwing q)))
section Payer
variable {l : Launch} {R : Room} {p : Program} {e : Env} {below : List Frame} {s : State} {sargs : Array Value} {y : MethodName} {len W9 : Nat}
theorem vx_back {ws : List Cond} {rm : Room} {Pc : Array Value → State → Prop} {Qc : Array Value → State → Outcome → State → Prop} {XC : String → State → State → Prop} {mc ms : Nat} {free : Addr → Prop} {bytes : ByteArray} {maxL : Nat} {ret : Option FieldType}
    (hM : vx_Met l y ws rm Pc Qc XC mc ms free) (hblind : FrameBlind Pc) (hrc : rm.cells = mc) (hrs : rm.slots = ms)
    (hframes : rm.frames + 1 ≤ R.frames) (hlocals : W9 + (maxL + 11) + rm.locals ≤ R.locals)
    (hws : ∀ w ∈ ws, ∀ a' U, s.WarmedH U.vm → w.before a' U = true) (hcode : Cond.code y bytes maxL ret ∈ ws) (hinit : ∀ a' U, s.WarmedH U.vm → (Cond.initialized y.cls).before a' U = true) :
    vx_Back l R p e below s sargs y len W9 (PreOf R mc ms Pc) (PostOf Qc mc ms free) (vx_Post XC mc ms free) := by
  intro m meth c A g ig mk a X hg hsize hdg hW hn hp
  have h1 : (headSpec ws rm).pre.before a A.U = true := atoms_intro fun w hw => hws w hw _ _ X.warmed
  have h2 : (Cond.code y bytes maxL ret).before a A.U = true := hws _ hcode _ _ X.warmed
  have h3 : (Cond.initialized y.cls).before a A.U = true := hinit _ _ X.warmed
  have h4 : A.cells + (headSpec ws rm).room.cells ≤ R.cells := by rw [show (headSpec ws rm).room.cells = mc from hrc]; exact hp.1
  have h5 : A.slots + (headSpec ws rm).room.slots ≤ R.slots := by rw [show (headSpec ws rm).room.slots = ms from hrs]; exact hp.2.1
  have hPc : Pc a (A.U.calling g mk a) := hblind _ _ _ _ hp.2.2
  obtain ⟨U, Ls, c0, s0⟩ := A
  dsimp only [Pt.U, Pt.locs, Pt.cells, Pt.slots] at h1 h2 h3 h4 h5 X hn hPc ⊢
  obtain ⟨methY, cY, hmY, hcY, -, hlY, -, -, -, -⟩ := Cond.code_spec hn h2
  obtain ⟨kY, hkY, -⟩ := className_of_methodNamed hn
  have hinitY : kY.init = .initialized := Cond.initialized_spec (findClass_of_methodNamed hn) hkY h3
  have h : At U g.method c below := by rw [hg]; exact X.here
  have hlocals9 : W9 + (maxL + 11) + (headSpec ws rm).room.locals ≤ R.locals := hlocals
  have happ : (headSpec ws rm).appliesLoose y e.platform (U.calling g mk a) = true :=
    Spec.appliesLoose_calling (g := g) h hdg hn hkY hinitY
      (X.room_calling (g := g) (R' := (headSpec ws rm).room) hsize hmY hcY hframes (by rw [hlY]; omega) h4 h5) h1
  obtain ⟨mid, hmid⟩ := h.above
  have hfr : (U.setTop g).frames = (.java g :: mid) ++ below := by rw [State.frames_setTop' g h.top, hmid]; rfl
  obtain ⟨o, s₂, hsteps, -, hend, hq⟩ := Steps.callFree hM p X.admits X.cas X.clock (acts := []) hfr happ hPc trivial
  have hq' : vx_Q Qc XC mc ms free a (U.calling g mk a) o s₂ := hq
  rw [State.frames_setTop' g h.top] at hend
  obtain ⟨g₀, hg0⟩ := Option.isSome_iff_exists.mp h.top
  obtain ⟨r, hr⟩ := State.topJava?_eq_some.mp hg0
  have hr' : (({ U with heap := s₂.heap, slotsUsed := s₂.slotsUsed } : State).setVm s₂.vm).frames = .java g₀ :: r := hr
  rcases hq' with ⟨hqc, L, hfe, hL⟩ | ⟨q, rfl, E, ce, L, hx, hce, hcv, hcl, hW₂, hsm, hL⟩
  · obtain ⟨⟨v, rfl⟩, hW₂, e2, q2, q3, q4, q5, q6⟩ := id hfe
    have e3 : s₂ = ({ (U.calling g mk a).setFrames s₂.frames with heap := s₂.heap, slotsUsed := s₂.slotsUsed } : State).setVm s₂.vm := by
      have : s₂ = ({ s₂ with vm := (U.calling g mk a).vm } : State).setVm s₂.vm := rfl
      rw [e2] at this
      exact this
    obtain ⟨c₂, i₂, len₂, hc₂, hd₂, hf₂⟩ := hend
    have hW' : U.WarmedH s₂.vm := hW₂
    have hcc : c₂ = c := by
      have h1 : s₂.code? g.method = U.code? g.method := by
        rw [State.code?_eq, State.code?_eq, hW'.alike.method?]
      exact Option.some.inj (hc₂.symm.trans (h1.trans h.code))
    subst hcc
    have hlen : len₂ = len := by rw [hdg] at hd₂; cases hd₂; rfl
    subst hlen
    have hs₂ : s₂ = (({ U with heap := s₂.heap, slotsUsed := s₂.slotsUsed } : State).setVm s₂.vm).setTop { g with pc := g.pc + len₂, stack := v.toList ++ g.stack } := by
      refine e3.trans ?_
      rw [hf₂, State.calling_eq h.top, State.setFrames_setFrames, State.setTop_of_frames _ hr', hr]
      rfl
    have hsame : U.sameButNew ({ U with heap := s₂.heap, slotsUsed := s₂.slotsUsed } : State) L mc ms := by
      refine ⟨?_, q2, q3, q4, q5, q6⟩
      obtain ⟨t, ht, -⟩ := State.frames_cons hr
      show ({ U with heap := s₂.heap, slotsUsed := s₂.slotsUsed } : State) = { U.setFrames U.frames with heap := s₂.heap, slotsUsed := s₂.slotsUsed }
      rw [State.setFrames_self ht]
    subst hg
    refine Or.inl ⟨v, ⟨(({ U with heap := s₂.heap, slotsUsed := s₂.slotsUsed } : State).setVm s₂.vm), Ls ++ L, c0 + mc, s0 + ms⟩,
      ⟨X.admits, X.cas, X.clock, X.frames, X.room, X.hears, X.method, X.code, (X.here.setHeapUsed s₂.heap s₂.slotsUsed).setVm hW'.alike, X.tail, State.WarmedH.trans X.warmed hW', X.limits, X.bytes, X.same.trans (hsame.setVm s.vm)⟩,
      ⟨g, mk, s₂, L, rfl, rfl, hqc, rfl, hL, rfl, rfl⟩, ?_⟩
    show Steps p.tables e below _ ((({ U with heap := s₂.heap, slotsUsed := s₂.slotsUsed } : State).setVm s₂.vm).setTop { g with pc := g.pc + len₂, stack := v.toList ++ g.stack })
    rw [← hs₂]
    exact hsteps
  · obtain ⟨e2, q2, q3, q4, q5, q6⟩ := id hsm
    have e3 : s₂ = ({ (U.calling g mk a).setFrames s₂.frames with heap := s₂.heap, slotsUsed := s₂.slotsUsed } : State).setVm s₂.vm := by
      have : s₂ = ({ s₂ with vm := (U.calling g mk a).vm } : State).setVm s₂.vm := rfl
      rw [e2] at this
      exact this
    have hf₂ : s₂.frames = .throwing q :: .java g :: U.frames.tail := hend
    have hW' : U.WarmedH s₂.vm := hW₂
    have hs₂ : s₂ = ((({ U with heap := s₂.heap, slotsUsed := s₂.slotsUsed } : State).setVm s₂.vm).setTop g).pushFrame (.throwing q) := by
      refine e3.trans ?_
      rw [hf₂, State.calling_eq h.top, State.setFrames_setFrames, State.pushFrame, State.frames_setTop _ hr', State.setTop_of_frames _ hr', State.setFrames_setFrames, hr]
      rfl
    have hsame : U.sameButNew ({ U with heap := s₂.heap, slotsUsed := s₂.slotsUsed } : State) L mc ms := by
      refine ⟨?_, q2, q3, q4, q5, q6⟩
      obtain ⟨t, ht, -⟩ := State.frames_cons hr
      show ({ U with heap := s₂.heap, slotsUsed := s₂.slotsUsed } : State) = { U.setFrames U.frames with heap := s₂.heap, slotsUsed := s₂.slotsUsed }
      rw [State.setFrames_self ht]
    subst hg
    refine Or.inr ⟨q, ⟨(({ U with heap := s₂.heap, slotsUsed := s₂.slotsUsed } : State).setVm s₂.vm), Ls ++ L, c0 + mc, s0 + ms⟩,
      ⟨X.admits, X.cas, X.clock, X.frames, X.room, X.hears, X.method, X.code, (X.here.setHeapUsed s₂.heap s₂.slotsUsed).setVm hW'.alike, X.tail, State.WarmedH.trans X.warmed hW', X.limits, X.bytes, X.same.trans (hsame.setVm s.vm)⟩,
      ⟨g, mk, s₂, L, E, ce, rfl, rfl, hx, hce, hcv, hcl, rfl, hL, rfl, rfl⟩, ?_⟩
    show Steps p.tables e below _ (((({ U with heap := s₂.heap, slotsUsed := s₂.slotsUsed } : State).setVm s₂.vm).setTop g).pushFrame (.throwing q))
    rw [← hs₂]
    exact hsteps
end Payer
section Calls
variable {p : Program} {l : Launch} {e : Env} {R : Room} {s : State} {m : MethodId} {args : Array Value} {below : List Frame} {meth : Method} {c : Code} {T : State} {locs : List Loc} {cells slots : Nat}
theorem vx_callV (X : Stand p l e R s m args below meth c T locs cells slots) (hexec : p.tables.exec = Jvm.exec) {own C : String} {index : Nat} {y : MethodName} {bytes : ByteArray} {maxL : Nat} {ret : Option FieldType}
    (hown : s.vm.findClass own = some m.cls) (hlink : (Cond.methodLink own index y).before args s = true) (hinst : (Cond.instanceMethod y).before args s = true) (hsel : (Cond.selects C y y).before args s = true)
    (hcode : (Cond.code y bytes maxL ret).before args s = true) (hy : y.cls ≠ "java/lang/invoke/MethodHandle" ∧ y.cls ≠ "java/lang/invoke/VarHandle")
    {W9 : Nat} {Pre : Pt → Array Value → Prop} {Post : Pt → Array Value → Option Value → Pt → Prop} {PostX : Pt → Array Value → Addr → Pt → Prop} (hK : vx_Back l R p e below s args y 3 W9 Pre Post PostX)
    {b : Addr} {cellB : Cell} (hcell : T.heap[b]? = some cellB) (hobj : cellB.vm.isStatics = false) (hcls : s.vm.findClass C = some cellB.cls)
    {g : JFrame} (hg : g.method = m) (hsize : g.locals.size = c.maxLocals) {argsL rest : List Value} (hlen : ∀ sig, parseMethodDescriptor y.desc = some sig → argsL.length = sig.parameters.length)
    (hstack : g.stack = argsL.reverse ++ .ref b :: rest) (hW : 2 * g.monitorRoom + (rest.map fun v => v.category).sum ≤ W9) (hdg : decode c.code g.pc = .ok (.invokevirtual index, 3))
    (hpre : ∀ vm₁, s.WarmedH vm₁ → Pre ⟨T.setVm vm₁, locs, cells, slots⟩ (Value.ref b :: argsL).toArray) :
    (∃ (v : Option Value) (vm₁ : Vm) (B : Pt), s.WarmedH vm₁ ∧ Stand p l e R s m args below meth c B.U B.locs B.cells B.slots ∧ Post ⟨T.setVm vm₁, locs, cells, slots⟩ (Value.ref b :: argsL).toArray v B ∧
      ∀ target, Steps p.tables e below (B.U.setTop { g with pc := g.pc + 3, stack := v.toList ++ rest }) target → Steps p.tables e below (T.setTop g) target) ∨
    (∃ (q : Addr) (vm₁ : Vm) (B : Pt), s.WarmedH vm₁ ∧ Stand p l e R s m args below meth c B.U B.locs B.cells B.slots ∧ PostX ⟨T.setVm vm₁, locs, cells, slots⟩ (Value.ref b :: argsL).toArray q B ∧
      Steps p.tables e below (T.setTop g) ((B.U.setTop { g with stack := rest }).pushFrame (.throwing q))) := by
  obtain ⟨mk, methM, hnamed, hmethM, hstM, habM⟩ := Cond.instanceMethod_spec hinst
  obtain ⟨methM', cM, hmethM', -, -, -, -, -, -, hsigM⟩ := Cond.code_spec hnamed hcode
  cases hmethM.symm.trans hmethM'
  obtain ⟨c2, r2, m2, q1, q2, q3, q4, kP, hkP, hkPi⟩ := Cond.selects_spec hsel
  cases hcls.symm.trans q1
  cases (State.methodFound?_of_named hnamed hy).symm.trans q2
  cases hnamed.symm.trans q3
  have hselP : selectMethod e.platform s.vm cellB.cls mk = .method mk := by rw [Launch.admits_selectMethod X.admits]; exact q4
  obtain ⟨vm₁, X₁, hstep₁⟩ := X.invokevirtual hexec hown hlink hnamed hmethM hstM hkP hkPi hy (a := b) (cell := cellB) hcell
    (fun z h => by rw [h] at hobj; cases hobj) hselP hmethM habM hkP hkPi (g := g) hg (argsL := argsL) (rest := rest) (hlen _ hsigM) hstack hdg
  rcases hK m meth c ⟨T.setVm vm₁, locs, cells, slots⟩ { g with stack := rest } (.invokevirtual index) mk (Value.ref b :: argsL).toArray X₁ hg hsize hdg hW (X₁.named hnamed) (hpre vm₁ X₁.warmed) with ⟨v, B, X', hpost, hsteps⟩ | ⟨q, B, X', hpost, hsteps⟩
  · exact Or.inl ⟨v, vm₁, B, X₁.warmed, X', hpost, fun target h => hstep₁ _ fun acts => by rw [doInvoke_state]; exact hsteps.trans h⟩
  · exact Or.inr ⟨q, vm₁, B, X₁.warmed, X', hpost, hstep₁ _ fun acts => by rw [doInvoke_state]; exact hsteps⟩
theorem vx_callS (X : Stand p l e R s m args below meth c T locs cells slots) (hexec : p.tables.exec = Jvm.exec) {own : String} {index : Nat} {y : MethodName} {bytes : ByteArray} {maxL : Nat} {ret : Option FieldType}
    (hown : s.vm.findClass own = some m.cls) (hlink : (Cond.methodLink own index y).before args s = true) (hstat : (Cond.static y).before args s = true) (hinit : (Cond.initialized y.cls).before args s = true)
    (hcode : (Cond.code y bytes maxL ret).before args s = true) (hy : y.cls ≠ "java/lang/invoke/MethodHandle" ∧ y.cls ≠ "java/lang/invoke/VarHandle")
    {W9 : Nat} {Pre : Pt → Array Value → Prop} {Post : Pt → Array Value → Option Value → Pt → Prop} {PostX : Pt → Array Value → Addr → Pt → Prop} (hK : vx_Back l R p e below s args y 3 W9 Pre Post PostX)
    {g : JFrame} (hg : g.method = m) (hsize : g.locals.size = c.maxLocals) {argsL rest : List Value} (hlen : ∀ sig, parseMethodDescriptor y.desc = some sig → argsL.length = sig.parameters.length)
    (hstack : g.stack = argsL.reverse ++ rest) (hW : 2 * g.monitorRoom + (rest.map fun v => v.category).sum ≤ W9) (hdg : decode c.code g.pc = .ok (.invokestatic index, 3))
    (hpre : ∀ vm₁, s.WarmedH vm₁ → Pre ⟨T.setVm vm₁, locs, cells, slots⟩ argsL.toArray) :
    (∃ (v : Option Value) (vm₁ : Vm) (B : Pt), s.WarmedH vm₁ ∧ Stand p l e R s m args below meth c B.U B.locs B.cells B.slots ∧ Post ⟨T.setVm vm₁, locs, cells, slots⟩ argsL.toArray v B ∧
      ∀ target, Steps p.tables e below (B.U.setTop { g with pc := g.pc + 3, stack := v.toList ++ rest }) target → Steps p.tables e below (T.setTop g) target) ∨
    (∃ (q : Addr) (vm₁ : Vm) (B : Pt), s.WarmedH vm₁ ∧ Stand p l e R s m args below meth c B.U B.locs B.cells B.slots ∧ PostX ⟨T.setVm vm₁, locs, cells, slots⟩ argsL.toArray q B ∧
      Steps p.tables e below (T.setTop g) ((B.U.setTop { g with stack := rest }).pushFrame (.throwing q))) := by
  obtain ⟨mk, hnamed⟩ := Cond.code_named hcode
  obtain ⟨methM, cM, hmethM, -, -, -, -, -, -, hsigM⟩ := Cond.code_spec hnamed hcode
  have hstatic : methM.isStatic = true := Cond.static_spec hnamed hmethM hstat
  obtain ⟨kP, hkP, -⟩ := className_of_methodNamed hnamed
  have hinitP : kP.init = .initialized := Cond.initialized_spec (findClass_of_methodNamed hnamed) hkP hinit
  obtain ⟨vm₁, X₁, hstep₁⟩ := X.invokestatic hexec hown hlink hnamed hmethM hstatic hkP hinitP hy (g := g) hg (argsL := argsL) (rest := rest) (hlen _ hsigM) hstack hdg
  rcases hK m meth c ⟨T.setVm vm₁, locs, cells, slots⟩ { g with stack := rest } (.invokestatic index) mk argsL.toArray X₁ hg hsize hdg hW (X₁.named hnamed) (hpre vm₁ X₁.warmed) with ⟨v, B, X', hpost, hsteps⟩ | ⟨q, B, X', hpost, hsteps⟩
  · exact Or.inl ⟨v, vm₁, B, X₁.warmed, X', hpost, fun target h => hstep₁ _ fun acts => by rw [doInvoke_state]; exact hsteps.trans h⟩
  · exact Or.inr ⟨q, vm₁, B, X₁.warmed, X', hpost, hstep₁ _ fun acts => by rw [doInvoke_state]; exact hsteps⟩
end Calls
theorem vx_cls {s : State} {T : State} {vm₁ : Vm} {E : String} {k : ClassId} (hW : s.WarmedH vm₁) (h : (T.setVm vm₁).vm.findClass E = some k) : s.vm.findClass E = some k := by
  have h1 : vm₁.findClass E = some k := h
  rw [hW.alike.findClass] at h1
  exact h1
/-- the method's frame g, with q thrown over it -/
def vx_W (p : Program) (l : Launch) (e : Env) (R : Room) (s : State) (m : MethodId) (args : Array Value) (below : List Frame) (meth : Method) (c : Code) (H : Heap) (locs : List Loc) (cells slots : Nat) (Q : State → Prop) (g : JFrame) (q : Addr) : Prop :=
  ∀ T : State, T.heap = H → Stand p l e R s m args below meth c T locs cells slots → ∃ t, Steps p.tables e below ((T.setTop g).pushFrame (.throwing q)) t ∧ Q t
def vx_Run (p : Program) (l : Launch) (e : Env) (R : Room) (s : State) (m : MethodId) (args : Array Value) (below : List Frame) (meth : Method) (c : Code) (H : Heap) (locs : List Loc) (cells slots mc ms : Nat) (g : JFrame) (rest : List Value) (Qa : State → Outcome → State → Prop) (XC : String → State → State → Prop) (free : Addr → Prop) : Prop :=
  ∀ T : State, T.heap = H → Stand p l e R s m args below meth c T locs cells slots →
    (∃ (v : Option Value) (st₀ t T' : State) (L : List Loc), st₀.heap = H ∧ Stand p l e R s m args below meth c T' (locs ++ L) (cells + mc) (slots + ms) ∧ (∀ q ∈ L, free q.base) ∧ T'.heap = t.heap ∧ T'.vm = t.vm ∧ Qa st₀ (.returned v) t ∧
      Goes p e below T g T' { g with pc := g.pc + 3, stack := v.toList ++ rest }) ∨
    (∃ (q : Addr) (st₀ t T' : State) (L : List Loc) (E : String) (ce : Cell), st₀.heap = H ∧ Stand p l e R s m args below meth c T' (locs ++ L) (cells + mc) (slots + ms) ∧ (∀ z ∈ L, free z.base) ∧ T'.heap = t.heap ∧ T'.vm = t.vm ∧ XC E st₀ t ∧ t.heap[q]? = some ce ∧ ce.vm = .none ∧ s.vm.findClass E = some ce.cls ∧
      Steps p.tables e below (T.setTop g) ((T'.setTop { g with stack := rest }).pushFrame (.throwing q)))
def vx_X {S : Type} (px : S → Prop) (B : String → S → State → Prop) (A : Nat → Prop) : String → State → State → Prop := fun E st t => ∃ u : S, px u ∧ B E u t ∧ va_F A st t
section Runs
variable {p : Program} {l : Launch} {e : Env} {R : Room} {s : State} {m : MethodId} {args : Array Value} {below : List Frame} {meth : Method} {c : Code} {H : Heap} {locs : List Loc} {cells slots : Nat}
variable {y : MethodName} {bytes cc : ByteArray} {maxL nL mc ms n index : Nat} {ret : Option FieldType} {ws : List Cond} {rm : Room} {Pc : Array Value → State → Prop} {Qc : Array Value → State → Outcome → State → Prop} {XC : String → State → State → Prop} {free : Addr → Prop} {Ts : List Cond} {own C : String} {b : Addr} {As rest : List Value} {g : JFrame}
theorem vx_callBack (cb : CallB R s args own index y bytes maxL ret ws rm mc ms n) (hM : vx_Met l y ws rm Pc Qc XC mc ms free) (hbl : FrameBlind Pc) : vx_Back l R p e below s args y 3 8 (PreOf R mc ms Pc) (PostOf Qc mc ms free) (vx_Post XC mc ms free) := by
  obtain ⟨hrc, hrs, hfr, hlo, hws, hcw, -, hini, -⟩ := cb
  exact vx_back (bytes := bytes) (maxL := maxL) (ret := ret) hM hbl hrc hrs hfr hlo hws hcw (fun a' U hW => word_at hW (Or.inl (by first | rfl | simp [Cond.onTables, Cond.keeps, Cond.steady])) hini)
theorem vx_runV (S : CallFix p m c cc nL s args Ts own) (hM : vx_Met l y ws rm Pc Qc XC mc ms free) (cw : CallW R s args own C index y bytes maxL ret ws rm mc ms n) (hp : PreV s H C b Pc As)
    (hg : g.method = m) (hn : As.length = n) (hsize : g.locals.size = nL) (hstack : g.stack = As.reverse ++ .ref b :: rest) (hW : 2 * g.monitorRoom + (rest.map fun v => v.category).sum ≤ 8) (hdg : decode cc g.pc = .ok (.invokevirtual index, 3)) (hf : cells + mc ≤ R.cells ∧ slots + ms ≤ R.slots) :
    vx_Run p l e R s m args below meth c H locs cells slots mc ms g rest (Qc (Value.ref b :: As).toArray) XC free := by
  have hK : vx_Back l R p e below s args y 3 8 (PreOf R mc ms Pc) (PostOf Qc mc ms free) (vx_Post XC mc ms free) := vx_callBack cw.1 hM hp.1
  obtain ⟨⟨-, -, -, -, -, -, hcode, -, hy, hlen, hl⟩, hin, hse⟩ := cw
  obtain ⟨hx, hb, hml, ho, -⟩ := S
  obtain ⟨-, ⟨cellB, hcB, hoB, hclB⟩, hPc⟩ := hp
  intro T hT X
  rcases vx_callV X hx (C := C) (bytes := bytes) (maxL := maxL) (ret := ret) ho hl hin hse hcode hy hK (by rw [hT]; exact hcB) hoB hclB hg (hsize.trans hml.symm) (argsL := As) (rest := rest) (fun sig h => hn.trans (hlen sig h)) hstack hW (by rw [hb]; exact hdg)
    (fun vm₁ hW₁ => ⟨hf.1, hf.2, hPc (T.setVm vm₁) hT hW₁⟩) with ⟨v, vm₁, ⟨U', l2, c2, s2⟩, hW₁, X', ⟨g', mk, t, L, e1, e2, hq, h1, hL, h2, h3⟩, st⟩ | ⟨q, vm₁, ⟨U', l2, c2, s2⟩, hW₁, X', ⟨g', mk, t, L, E, ce, e1, e2, hq, hce, hcv, hcl, h1, hL, h2, h3⟩, st⟩
  · dsimp only [Pt.U, Pt.locs, Pt.cells, Pt.slots] at X' e1 e2 h1 h2 h3 st
    subst h1; subst h2; subst h3
    exact Or.inl ⟨v, (T.setVm vm₁).calling g' mk (Value.ref b :: As).toArray, t, U', L, hT, X', hL, e1, e2, hq, st⟩
  · dsimp only [Pt.U, Pt.locs, Pt.cells, Pt.slots] at X' e1 e2 h1 h2 h3 st hcl
    subst h1; subst h2; subst h3
    exact Or.inr ⟨q, (T.setVm vm₁).calling g' mk (Value.ref b :: As).toArray, t, U', L, E, ce, hT, X', hL, e1, e2, hq, hce, hcv, vx_cls hW₁ hcl, st⟩
theorem vx_runS (S : CallFix p m c cc nL s args Ts own) (hM : vx_Met l y ws rm Pc Qc XC mc ms free) (cw : CallB R s args own index y bytes maxL ret ws rm mc ms n ∧ (Cond.static y).before args s = true) (hp : PreS s H Pc As)
    (hg : g.method = m) (hn : As.length = n) (hsize : g.locals.size = nL) (hstack : g.stack = As.reverse ++ rest) (hW : 2 * g.monitorRoom + (rest.map fun v => v.category).sum ≤ 8) (hdg : decode cc g.pc = .ok (.invokestatic index, 3)) (hf : cells + mc ≤ R.cells ∧ slots + ms ≤ R.slots) :
    vx_Run p l e R s m args below meth c H locs cells slots mc ms g rest (Qc As.toArray) XC free := by
  have hK : vx_Back l R p e below s args y 3 8 (PreOf R mc ms Pc) (PostOf Qc mc ms free) (vx_Post XC mc ms free) := vx_callBack cw.1 hM hp.1
  obtain ⟨⟨-, -, -, -, -, -, hcode, hini, hy, hlen, hl⟩, hstt⟩ := cw
  obtain ⟨hx, hb, hml, ho, -⟩ := S
  intro T hT X
  rcases vx_callS X hx (bytes := bytes) (maxL := maxL) (ret := ret) ho hl hstt hini hcode hy hK hg (hsize.trans hml.symm) (argsL := As) (rest := rest) (fun sig h => hn.trans (hlen sig h)) hstack hW (by rw [hb]; exact hdg)
    (fun vm₁ hW₁ => ⟨hf.1, hf.2, hp.2 (T.setVm vm₁) hT hW₁⟩) with ⟨v, vm₁, ⟨U', l2, c2, s2⟩, hW₁, X', ⟨g', mk, t, L, e1, e2, hq, h1, hL, h2, h3⟩, st⟩ | ⟨q, vm₁, ⟨U', l2, c2, s2⟩, hW₁, X', ⟨g', mk, t, L, E, ce, e1, e2, hq, hce, hcv, hcl, h1, hL, h2, h3⟩, st⟩
  · dsimp only [Pt.U, Pt.locs, Pt.cells, Pt.slots] at X' e1 e2 h1 h2 h3 st
    subst h1; subst h2; subst h3
    exact Or.inl ⟨v, (T.setVm vm₁).calling g' mk As.toArray, t, U', L, hT, X', hL, e1, e2, hq, st⟩
  · dsimp only [Pt.U, Pt.locs, Pt.cells, Pt.slots] at X' e1 e2 h1 h2 h3 st hcl
    subst h1; subst h2; subst h3
    exact Or.inr ⟨q, (T.setVm vm₁).calling g' mk As.toArray, t, U', L, E, ce, hT, X', hL, e1, e2, hq, hce, hcv, vx_cls hW₁ hcl, st⟩
end Runs
section Rows
variable {p : Program} {l : Launch} {e : Env} {R : Room} {s : State} {m : MethodId} {args : Array Value} {below : List Frame} {meth : Method} {c : Code} {H : Heap} {locs : List Loc} {cells slots : Nat} {Q : State → Prop}
variable {mc ms : Nat} {free : Addr → Prop} {A0 A1 : Nat → Prop} {H0 : Heap} {a : Array Value} {pc : Nat} {ls : Array Slot} {st0 rest : List Value}
theorem vx_keep {st₀ t T' : State} {L : List Loc} (h0 : st₀.heap = H) (e1 : T'.heap = t.heap) (hS : va_S A0 H0 H locs) (hA : ∀ q, q < H.size → A1 q → A0 q) (hf : ∀ q, free q → A0 q) (hL : ∀ q ∈ L, free q.base) (hF : va_F A1 st₀ t) :
    H.size ≤ T'.heap.size ∧ (∀ q : Nat, q < H.size → ¬ A1 q → T'.heap[q]? = H[q]?) ∧ va_S A0 H0 T'.heap (locs ++ L) := by
  obtain ⟨hz, hk⟩ := hF
  rw [h0] at hz hk
  exact ⟨by rw [e1]; exact hz, fun q h1 h2 => by rw [e1]; exact hk q h1 h2,
    ⟨Nat.le_trans hS.1 (by rw [e1]; exact hz), fun q h1 h2 => by rw [e1, hk q (Nat.lt_of_lt_of_le h1 hS.1) (fun z => h2 (hA q (Nat.lt_of_lt_of_le h1 hS.1) z))]; exact hS.2.1 q h1 h2, fun q hq => by
      rcases List.mem_append.mp hq with h | h
      · exact hS.2.2 q h
      · exact hf _ (hL q h)⟩⟩
theorem vx_calli {S SX : Type} {post : Int32 → S → Prop} {px : SX → Prop} {B : S → State → Prop} {BX : String → SX → State → Prop} {AX : Nat → Prop} (hr : vx_Run p l e R s m args below meth c H locs cells slots mc ms (F0 m pc ls st0) rest (va_Qi post B A1 a) (vx_X px BX AX) free) (hS : va_S A0 H0 H locs) (hA : ∀ q, q < H.size → A1 q → A0 q) (hf : ∀ q, free q → A0 q) (hAX : ∀ q, q < H.size → AX q → A0 q)
    (kx : ∀ (E : String) (ce : Cell) (q9 : Addr) (u : SX) (t : State) (H1 : Heap) (locs1 : List Loc), t.heap = H1 → s.vm.Alike t.vm → px u → BX E u t → H.size ≤ H1.size → (∀ q : Nat, q < H.size → ¬ AX q → H1[q]? = H[q]?) → va_S A0 H0 H1 locs1 → H1[q9]? = some ce → ce.vm = .none → s.vm.findClass E = some ce.cls → vx_W p l e R s m args below meth c H1 locs1 (cells + mc) (slots + ms) Q (F0 m pc ls rest) q9)
    (kk : ∀ (r : Int32) (u : S) (t : State) (H1 : Heap) (locs1 : List Loc), t.heap = H1 → s.vm.Alike t.vm → post r u → B u t → H.size ≤ H1.size → (∀ q : Nat, q < H.size → ¬ A1 q → H1[q]? = H[q]?) → va_S A0 H0 H1 locs1 → W p l e R s m args below meth c H1 locs1 (cells + mc) (slots + ms) Q (F0 m (pc + 3) ls (.int r :: rest))) : W p l e R s m args below meth c H locs cells slots Q (F0 m pc ls st0) := by
  intro T hT X
  rcases hr T hT X with ⟨v, st₀, t, T', L, h0, X', hL, e1, e2, ⟨⟨r, u, hv, hp, hb⟩, hF⟩, st⟩ | ⟨q, st₀, t, T', L, E, ce, h0, X', hL, e1, e2, ⟨u, hp, hb, hF⟩, hce, hcv, hcl, st⟩
  · cases hv
    obtain ⟨k1, k2, k3⟩ := vx_keep h0 e1 hS hA hf hL hF
    obtain ⟨t2, a1, b1⟩ := kk r u t T'.heap (locs ++ L) e1.symm (by rw [← e2]; exact X'.warmed.alike) hp hb k1 k2 k3 T' rfl X'
    exact ⟨t2, st t2 a1, b1⟩
  · obtain ⟨k1, k2, k3⟩ := vx_keep h0 e1 hS hAX hf hL hF
    obtain ⟨t2, a1, b1⟩ := kx E ce q u t T'.heap (locs ++ L) e1.symm (by rw [← e2]; exact X'.warmed.alike) hp hb k1 k2 k3 (by rw [e1]; exact hce) hcv hcl T' rfl X'
    exact ⟨t2, st.trans a1, b1⟩
theorem vx_calll {S SX : Type} {post : Int64 → S → Prop} {px : SX → Prop} {B : S → State → Prop} {BX : String → SX → State → Prop} {AX : Nat → Prop} (hr : vx_Run p l e R s m args below meth c H locs cells slots mc ms (F0 m pc ls st0) rest (va_Ql post B A1 a) (vx_X px BX AX) free) (hS : va_S A0 H0 H locs) (hA : ∀ q, q < H.size → A1 q → A0 q) (hf : ∀ q, free q → A0 q) (hAX : ∀ q, q < H.size → AX q → A0 q)
    (kx : ∀ (E : String) (ce : Cell) (q9 : Addr) (u : SX) (t : State) (H1 : Heap) (locs1 : List Loc), t.heap = H1 → s.vm.Alike t.vm → px u → BX E u t → H.size ≤ H1.size → (∀ q : Nat, q < H.size → ¬ AX q → H1[q]? = H[q]?) → va_S A0 H0 H1 locs1 → H1[q9]? = some ce → ce.vm = .none → s.vm.findClass E = some ce.cls → vx_W p l e R s m args below meth c H1 locs1 (cells + mc) (slots + ms) Q (F0 m pc ls rest) q9)
    (kk : ∀ (r : Int64) (u : S) (t : State) (H1 : Heap) (locs1 : List Loc), t.heap = H1 → s.vm.Alike t.vm → post r u → B u t → H.size ≤ H1.size → (∀ q : Nat, q < H.size → ¬ A1 q → H1[q]? = H[q]?) → va_S A0 H0 H1 locs1 → W p l e R s m args below meth c H1 locs1 (cells + mc) (slots + ms) Q (F0 m (pc + 3) ls (.long r :: rest))) : W p l e R s m args below meth c H locs cells slots Q (F0 m pc ls st0) := by
  intro T hT X
  rcases hr T hT X with ⟨v, st₀, t, T', L, h0, X', hL, e1, e2, ⟨⟨r, u, hv, hp, hb⟩, hF⟩, st⟩ | ⟨q, st₀, t, T', L, E, ce, h0, X', hL, e1, e2, ⟨u, hp, hb, hF⟩, hce, hcv, hcl, st⟩
  · cases hv
    obtain ⟨k1, k2, k3⟩ := vx_keep h0 e1 hS hA hf hL hF
    obtain ⟨t2, a1, b1⟩ := kk r u t T'.heap (locs ++ L) e1.symm (by rw [← e2]; exact X'.warmed.alike) hp hb k1 k2 k3 T' rfl X'
    exact ⟨t2, st t2 a1, b1⟩
  · obtain ⟨k1, k2, k3⟩ := vx_keep h0 e1 hS hAX hf hL hF
    obtain ⟨t2, a1, b1⟩ := kx E ce q u t T'.heap (locs ++ L) e1.symm (by rw [← e2]; exact X'.warmed.alike) hp hb k1 k2 k3 (by rw [e1]; exact hce) hcv hcl T' rfl X'
    exact ⟨t2, st.trans a1, b1⟩
theorem vx_callf {S SX : Type} {post : UInt32 → S → Prop} {px : SX → Prop} {B : S → State → Prop} {BX : String → SX → State → Prop} {AX : Nat → Prop} (hr : vx_Run p l e R s m args below meth c H locs cells slots mc ms (F0 m pc ls st0) rest (va_Qf post B A1 a) (vx_X px BX AX) free) (hS : va_S A0 H0 H locs) (hA : ∀ q, q < H.size → A1 q → A0 q) (hf : ∀ q, free q → A0 q) (hAX : ∀ q, q < H.size → AX q → A0 q)
    (kx : ∀ (E : String) (ce : Cell) (q9 : Addr) (u : SX) (t : State) (H1 : Heap) (locs1 : List Loc), t.heap = H1 → s.vm.Alike t.vm → px u → BX E u t → H.size ≤ H1.size → (∀ q : Nat, q < H.size → ¬ AX q → H1[q]? = H[q]?) → va_S A0 H0 H1 locs1 → H1[q9]? = some ce → ce.vm = .none → s.vm.findClass E = some ce.cls → vx_W p l e R s m args below meth c H1 locs1 (cells + mc) (slots + ms) Q (F0 m pc ls rest) q9)
    (kk : ∀ (r : UInt32) (u : S) (t : State) (H1 : Heap) (locs1 : List Loc), t.heap = H1 → s.vm.Alike t.vm → post r u → B u t → H.size ≤ H1.size → (∀ q : Nat, q < H.size → ¬ A1 q → H1[q]? = H[q]?) → va_S A0 H0 H1 locs1 → W p l e R s m args below meth c H1 locs1 (cells + mc) (slots + ms) Q (F0 m (pc + 3) ls (.float r :: rest))) : W p l e R s m args below meth c H locs cells slots Q (F0 m pc ls st0) := by
  intro T hT X
  rcases hr T hT X with ⟨v, st₀, t, T', L, h0, X', hL, e1, e2, ⟨⟨r, u, hv, hp, hb⟩, hF⟩, st⟩ | ⟨q, st₀, t, T', L, E, ce, h0, X', hL, e1, e2, ⟨u, hp, hb, hF⟩, hce, hcv, hcl, st⟩
  · cases hv
    obtain ⟨k1, k2, k3⟩ := vx_keep h0 e1 hS hA hf hL hF
    obtain ⟨t2, a1, b1⟩ := kk r u t T'.heap (locs ++ L) e1.symm (by rw [← e2]; exact X'.warmed.alike) hp hb k1 k2 k3 T' rfl X'
    exact ⟨t2, st t2 a1, b1⟩
  · obtain ⟨k1, k2, k3⟩ := vx_keep h0 e1 hS hAX hf hL hF
    obtain ⟨t2, a1, b1⟩ := kx E ce q u t T'.heap (locs ++ L) e1.symm (by rw [← e2]; exact X'.warmed.alike) hp hb k1 k2 k3 (by rw [e1]; exact hce) hcv hcl T' rfl X'
    exact ⟨t2, st.trans a1, b1⟩
theorem vx_calld {S SX : Type} {post : UInt64 → S → Prop} {px : SX → Prop} {B : S → State → Prop} {BX : String → SX → State → Prop} {AX : Nat → Prop} (hr : vx_Run p l e R s m args below meth c H locs cells slots mc ms (F0 m pc ls st0) rest (va_Qd post B A1 a) (vx_X px BX AX) free) (hS : va_S A0 H0 H locs) (hA : ∀ q, q < H.size → A1 q → A0 q) (hf : ∀ q, free q → A0 q) (hAX : ∀ q, q < H.size → AX q → A0 q)
    (kx : ∀ (E : String) (ce : Cell) (q9 : Addr) (u : SX) (t : State) (H1 : Heap) (locs1 : List Loc), t.heap = H1 → s.vm.Alike t.vm → px u → BX E u t → H.size ≤ H1.size → (∀ q : Nat, q < H.size → ¬ AX q → H1[q]? = H[q]?) → va_S A0 H0 H1 locs1 → H1[q9]? = some ce → ce.vm = .none → s.vm.findClass E = some ce.cls → vx_W p l e R s m args below meth c H1 locs1 (cells + mc) (slots + ms) Q (F0 m pc ls rest) q9)
    (kk : ∀ (r : UInt64) (u : S) (t : State) (H1 : Heap) (locs1 : List Loc), t.heap = H1 → s.vm.Alike t.vm → post r u → B u t → H.size ≤ H1.size → (∀ q : Nat, q < H.size → ¬ A1 q → H1[q]? = H[q]?) → va_S A0 H0 H1 locs1 → W p l e R s m args below meth c H1 locs1 (cells + mc) (slots + ms) Q (F0 m (pc + 3) ls (.double r :: rest))) : W p l e R s m args below meth c H locs cells slots Q (F0 m pc ls st0) := by
  intro T hT X
  rcases hr T hT X with ⟨v, st₀, t, T', L, h0, X', hL, e1, e2, ⟨⟨r, u, hv, hp, hb⟩, hF⟩, st⟩ | ⟨q, st₀, t, T', L, E, ce, h0, X', hL, e1, e2, ⟨u, hp, hb, hF⟩, hce, hcv, hcl, st⟩
  · cases hv
    obtain ⟨k1, k2, k3⟩ := vx_keep h0 e1 hS hA hf hL hF
    obtain ⟨t2, a1, b1⟩ := kk r u t T'.heap (locs ++ L) e1.symm (by rw [← e2]; exact X'.warmed.alike) hp hb k1 k2 k3 T' rfl X'
    exact ⟨t2, st t2 a1, b1⟩
  · obtain ⟨k1, k2, k3⟩ := vx_keep h0 e1 hS hAX hf hL hF
    obtain ⟨t2, a1, b1⟩ := kx E ce q u t T'.heap (locs ++ L) e1.symm (by rw [← e2]; exact X'.warmed.alike) hp hb k1 k2 k3 (by rw [e1]; exact hce) hcv hcl T' rfl X'
    exact ⟨t2, st.trans a1, b1⟩
theorem vx_callv {S SX : Type} {post : S → Prop} {px : SX → Prop} {B : S → State → Prop} {BX : String → SX → State → Prop} {AX : Nat → Prop} (hr : vx_Run p l e R s m args below meth c H locs cells slots mc ms (F0 m pc ls st0) rest (va_Qv post B A1 a) (vx_X px BX AX) free) (hS : va_S A0 H0 H locs) (hA : ∀ q, q < H.size → A1 q → A0 q) (hf : ∀ q, free q → A0 q) (hAX : ∀ q, q < H.size → AX q → A0 q)
    (kx : ∀ (E : String) (ce : Cell) (q9 : Addr) (u : SX) (t : State) (H1 : Heap) (locs1 : List Loc), t.heap = H1 → s.vm.Alike t.vm → px u → BX E u t → H.size ≤ H1.size → (∀ q : Nat, q < H.size → ¬ AX q → H1[q]? = H[q]?) → va_S A0 H0 H1 locs1 → H1[q9]? = some ce → ce.vm = .none → s.vm.findClass E = some ce.cls → vx_W p l e R s m args below meth c H1 locs1 (cells + mc) (slots + ms) Q (F0 m pc ls rest) q9)
    (kk : ∀ (u : S) (t : State) (H1 : Heap) (locs1 : List Loc), t.heap = H1 → s.vm.Alike t.vm → post u → B u t → H.size ≤ H1.size → (∀ q : Nat, q < H.size → ¬ A1 q → H1[q]? = H[q]?) → va_S A0 H0 H1 locs1 → W p l e R s m args below meth c H1 locs1 (cells + mc) (slots + ms) Q (F0 m (pc + 3) ls (rest))) : W p l e R s m args below meth c H locs cells slots Q (F0 m pc ls st0) := by
  intro T hT X
  rcases hr T hT X with ⟨v, st₀, t, T', L, h0, X', hL, e1, e2, ⟨⟨u, hv, hp, hb⟩, hF⟩, st⟩ | ⟨q, st₀, t, T', L, E, ce, h0, X', hL, e1, e2, ⟨u, hp, hb, hF⟩, hce, hcv, hcl, st⟩
  · cases hv
    obtain ⟨k1, k2, k3⟩ := vx_keep h0 e1 hS hA hf hL hF
    obtain ⟨t2, a1, b1⟩ := kk u t T'.heap (locs ++ L) e1.symm (by rw [← e2]; exact X'.warmed.alike) hp hb k1 k2 k3 T' rfl X'
    exact ⟨t2, st t2 a1, b1⟩
  · obtain ⟨k1, k2, k3⟩ := vx_keep h0 e1 hS hAX hf hL hF
    obtain ⟨t2, a1, b1⟩ := kx E ce q u t T'.heap (locs ++ L) e1.symm (by rw [← e2]; exact X'.warmed.alike) hp hb k1 k2 k3 (by rw [e1]; exact hce) hcv hcl T' rfl X'
    exact ⟨t2, st.trans a1, b1⟩
/-- caught by the row x of this method's table; the rows ahead don't take it -/
theorem vx_catch {own name : String} {E : String} {ce : Cell} {q : Addr} (hown : s.vm.findClass own = some m.cls) (pre : List ExceptionTableEntry) (x : ExceptionTableEntry) (suf : List ExceptionTableEntry) (hsplit : c.exceptionTable.toList = pre ++ x :: suf)
    (hpass : ∀ z ∈ pre, covers z pc = false ∨ (z.catchType ≠ 0 ∧ ∃ nm : String, (Cond.classLink own z.catchType nm).before args s = true ∧ va_Nc E nm s)) (hx : covers x pc = true) (h0 : x.catchType ≠ 0)
    (hlink : (Cond.classLink own x.catchType name).before args s = true) (hcast : (Cond.castable E name).before args s = true) (hcell : H[q]? = some ce) (hv : ce.vm = .none) (hcl : s.vm.findClass E = some ce.cls)
    (kk : W p l e R s m args below meth c H locs cells slots Q (F0 m x.handlerPc ls [.ref q])) : vx_W p l e R s m args below meth c H locs cells slots Q (F0 m pc ls rest) q := by
  intro T hT X
  have hpl : e.platform.magicAccessors = ({} : Platform).magicAccessors := by rw [X.admits.platform]
  obtain ⟨c3, c4, hc3, hc4, hasg⟩ := Cond.castable_spec hcast
  cases Option.some.inj (hc3.symm.trans hcl)
  obtain ⟨c5, hc5, hcl5⟩ := Cond.classLink_spec hown hlink e.platform hpl
  cases Option.some.inj (hc4.symm.trans hc5)
  obtain ⟨vm', X', st⟩ := X.thenCaughtThrough q (g := F0 m pc ls rest) rfl (Steps.refl _) (by rw [hT]; exact hcell) (by rw [hv]; rfl) (by obtain ⟨k9, h9, -⟩ := Vm.findClass_spec hcl; exact ⟨k9, h9⟩) pre x suf hsplit
    (fun z hz => by
      rcases hpass z hz with h | ⟨hz0, nm, hl1, hn1⟩
      · exact Or.inl h
      · obtain ⟨c6, hc6, hcl6⟩ := Cond.classLink_spec hown hl1 e.platform hpl
        obtain ⟨a8, b8, h1, h2, h3⟩ := hn1
        cases Option.some.inj (h1.symm.trans hcl)
        cases Option.some.inj (h2.symm.trans hc6)
        exact Or.inr ⟨hz0, _, hcl6, h3⟩) hx (Or.inr ⟨h0, c4, hcl5, hasg⟩)
  obtain ⟨t, a1, b1⟩ := kk (T.setVm vm') hT X'
  exact ⟨t, st.trans a1, b1⟩
end Rows
section Ends
variable {p : Program} {l : Launch} {e : Env} {R : Room} {s : State} {m : MethodId} {args : Array Value} {below : List Frame} {meth : Method} {c : Code} {H : Heap} {locs : List Loc} {cells slots : Nat} {Q : State → Prop}
variable {mc ms : Nat} {free : Addr → Prop} {A0 A1 : Nat → Prop} {H0 : Heap} {a : Array Value} {ls : Array Slot} {st0 rest : List Value}
variable {Qc : Array Value → State → Outcome → State → Prop} {XC : String → State → State → Prop}
/-- what a body that may throw owes at its end -/
def vx_MQ (below : List Frame) (Qc : Array Value → State → Outcome → State → Prop) (XC : String → State → State → Prop) (a : Array Value) (s : State) (mc ms : Nat) (free : Addr → Prop) : State → Prop := fun t =>
  ∃ o, t.status = .running ∧ Ended t below o ∧ vx_Q Qc XC mc ms free a s o t
theorem vx_ret {g : JFrame} {mc ms : Nat} (k : W p l e R s m args below meth c H locs cells slots (MQ below Qc args s mc ms free) g) : W p l e R s m args below meth c H locs cells slots (vx_MQ below Qc XC args s mc ms free) g := by
  intro T hT X
  obtain ⟨t, a1, o, b1, b2, b3, b4⟩ := k T hT X
  exact ⟨t, a1, o, b1, b2, Or.inl ⟨b3, b4⟩⟩
/-- not caught here: it goes on to the caller -/
theorem vx_widen {g : JFrame} {q : Addr} {k n : Nat} (h1 : cells ≤ k) (h2 : slots ≤ n) (kk : vx_W p l e R s m args below meth c H locs k n Q g q) : vx_W p l e R s m args below meth c H locs cells slots Q g q := fun T hT X => kk T hT (stand_widen X h1 h2)
theorem vx_out {pc : Nat} {E : String} {ce : Cell} {q : Addr} {mc ms : Nat} (hout : ∀ x ∈ c.exceptionTable.toList, covers x pc = false) (hlocks : meth.locks = false) (hcell : H[q]? = some ce) (hv : ce.vm = .none) (hcl : s.vm.findClass E = some ce.cls)
    (hx : ∀ t : State, t.heap = H → s.vm.Alike t.vm → XC E s t) (hf : ∀ z ∈ locs, free z.base) (hc : cells ≤ mc) (hs : slots ≤ ms) :
    vx_W p l e R s m args below meth c H locs cells slots (vx_MQ below Qc XC args s mc ms free) (F0 m pc ls rest) q := by
  intro T hT X
  obtain ⟨st1, hrun, hend, hW, hsm⟩ := X.leaveThrown q (g := F0 m pc ls rest) rfl rfl rfl hout hlocks
  have hcell9 : (T.setFrames (.throwing q :: below)).heap[q]? = some ce := by
    show T.heap[q]? = some ce
    rw [hT]; exact hcell
  exact ⟨_, st1, .threw q, hrun, hend, Or.inr ⟨q, rfl, E, ce, locs, hx _ hT hW.alike, hcell9, hv, hcl, hW, hsm.mono hc hs, hf⟩⟩
theorem vx_frame {U : State} {k n : Nat} (h : s.sameButNew ({ U with vm := s.vm } : State) locs k n) : s.heap.size ≤ U.heap.size ∧ ∀ q : Nat, q < s.heap.size → (∀ z ∈ locs, z.base ≠ q) → U.heap[q]? = s.heap[q]? := by
  obtain ⟨-, h2, -, -, -, h6⟩ := h
  refine ⟨h2, fun q hq hz => ?_⟩
  obtain ⟨c9, e1, e2, e3, e4⟩ := h6 q _ (Array.getElem?_eq_getElem hq)
  have hs : c9.slots = (s.heap[q]).slots := Array.ext_getElem? fun i => e4 i fun hm => hz _ hm rfl
  have h9 : c9 = s.heap[q] := by
    rw [hs] at e2
    exact e2
  have e5 : U.heap[q]? = some c9 := e1
  rw [e5, h9, Array.getElem?_eq_getElem hq]
/-- the words of a throw but the four that speak of the heap -/
def vx_no (w : Cond) : Bool := decide (w ≠ .isRef (.static Bundle.tN "UNASSIGNED_STACK" Bundle.steD)) && decide (w ≠ .isRef (.static Bundle.tN "SUPPRESSED_SENTINEL" Bundle.listD)) && decide (w ≠ .laysStatic Bundle.tN "UNASSIGNED_STACK" Bundle.steD) && decide (w ≠ .laysStatic Bundle.tN "SUPPRESSED_SENTINEL" Bundle.listD)
def vx_at0 (own : String) (ic : Nat) (X : String) (names : List String) : List Cond := (Bundle.ownAtoms0 own ic X names).filter vx_no
def vx_atS (own : String) (ic : Nat) (X : String) (names : List String) : List Cond := (Bundle.ownAtoms own ic X names).filter vx_no
/-- a word that the tables alone decide, or a good one -/
def vx_ot (w : Cond) : Bool := w.onTables || goodWord w
theorem vx_ot_at {args a' : Array Value} {s U : State} {w : Cond} (hW : s.WarmedH U.vm) (hvm : s.vm = U.vm) (hg : vx_ot w = true) (h : w.before args s = true) : w.before a' U = true := by
  simp only [vx_ot, Bool.or_eq_true] at hg
  rcases hg with hg | hg
  · exact va_tabs hg hvm h
  · exact word_at hW (good_of_word hg) h
/-- a list's words: the good ones out of the method's own list, the others by premises of their own -/
theorem vx_hat {args : Array Value} {s : State} {L B : List Cond} (h1 : ∀ w ∈ L.filter goodWord, w.before args s = true) (h2 : ∀ w ∈ L.filter (fun w => !goodWord w), w ∈ B) (h3 : ∀ w ∈ B, w.before args s = true) : ∀ w ∈ L, w.before args s = true := by
  intro w hw
  by_cases g : goodWord w = true
  · exact h1 w (List.mem_filter.mpr ⟨hw, g⟩)
  · refine h3 w (h2 w (List.mem_filter.mpr ⟨hw, ?_⟩))
    show (!goodWord w) = true
    cases hgw : goodWord w
    · rfl
    · exact absurd hgw g
theorem vx_c {args : Array Value} {s : State} {w : Cond} {B : List Cond} (h : w.before args s = true) (t : ∀ w ∈ B, w.before args s = true) : ∀ w' ∈ w :: B, w'.before args s = true := fun w' h' => (List.mem_cons.mp h').elim (fun e => by rw [e]; exact h) (t w')
theorem vx_n {args : Array Value} {s : State} : ∀ w ∈ ([] : List Cond), w.before args s = true := fun _ h => nomatch h
theorem vx_own {args : Array Value} {s : State} {L : List Cond} (h1 : ∀ w ∈ L.filter vx_no, w.before args s = true)
    (hU : (Cond.isRef (.static Bundle.tN "UNASSIGNED_STACK" Bundle.steD)).before args s = true) (hN : (Cond.isRef (.static Bundle.tN "SUPPRESSED_SENTINEL" Bundle.listD)).before args s = true)
    (lU : (Cond.laysStatic Bundle.tN "UNASSIGNED_STACK" Bundle.steD).before args s = true) (lN : (Cond.laysStatic Bundle.tN "SUPPRESSED_SENTINEL" Bundle.listD).before args s = true) : ∀ w ∈ L, w.before args s = true := by
  intro w hw
  by_cases e1 : w = .isRef (.static Bundle.tN "UNASSIGNED_STACK" Bundle.steD)
  · rw [e1]; exact hU
  · by_cases e2 : w = .isRef (.static Bundle.tN "SUPPRESSED_SENTINEL" Bundle.listD)
    · rw [e2]; exact hN
    · by_cases e3 : w = .laysStatic Bundle.tN "UNASSIGNED_STACK" Bundle.steD
      · rw [e3]; exact lU
      · by_cases e4 : w = .laysStatic Bundle.tN "SUPPRESSED_SENTINEL" Bundle.listD
        · rw [e4]; exact lN
        · exact h1 w (List.mem_filter.mpr ⟨hw, by unfold vx_no; rw [decide_eq_true e1, decide_eq_true e2, decide_eq_true e3, decide_eq_true e4]; rfl⟩)
/-- where a static field lies, its class's statics cell in H -/
def vx_L (C n d : String) (A : Nat → Prop) (U : State) (H : Heap) : Prop := ∃ (c : ClassId) (k : Class) (i : Nat) (f : Field) (a : Nat) (cell : Cell), U.vm.findClass C = some c ∧ U.fieldFound? C n d = some (c, k, i, f) ∧ f.isStatic = true ∧ k.statics = some a ∧ H[a]? = some cell ∧ cell.vm.isStatics = true ∧ cell.cls = c ∧ f.slot < cell.slots.size ∧ k.staticTypes[f.slot]? = some f.type ∧ ¬ A a
theorem vx_L.moved {C n d : String} {A : Nat → Prop} {u U : State} {H : Heap} (hvm : u.vm.Alike U.vm) (h : vx_L C n d A u H) : vx_L C n d A U H := by
  obtain ⟨c, k, i, f, a, cell, h1, h2, h3, h4, h5, h6, h7, h8, h9, h10⟩ := h
  obtain ⟨k', hi', he⟩ := State.fieldFound?_setVm hvm h2
  exact ⟨c, k', i, f, a, cell, by rw [hvm.findClass]; exact h1, hi', h3, by rw [he]; exact h4, h5, h6, h7, h8, by rw [he]; exact h9, h10⟩
theorem vx_L.kept {C n d : String} {A : Nat → Prop} {U : State} {H H1 : Heap} (h : vx_L C n d A U H) (hq : ∀ a : Nat, a < H.size → ¬ A a → H1[a]? = H[a]?) : vx_L C n d A U H1 := by
  obtain ⟨c, k, i, f, a, cell, h1, h2, h3, h4, h5, h6, h7, h8, h9, h10⟩ := h
  exact ⟨c, k, i, f, a, cell, h1, h2, h3, h4, by rw [hq a (Array.getElem?_eq_some_iff.mp h5).1 h10]; exact h5, h6, h7, h8, h9, h10⟩
theorem vx_L.narrow {C n d : String} {A B : Nat → Prop} {U : State} {H : Heap} (h : vx_L C n d A U H) (hAB : ∀ q, B q → A q) : vx_L C n d B U H := by
  obtain ⟨c, k, i, f, a, cell, h1, h2, h3, h4, h5, h6, h7, h8, h9, h10⟩ := h
  exact ⟨c, k, i, f, a, cell, h1, h2, h3, h4, h5, h6, h7, h8, h9, fun z => h10 (hAB _ z)⟩
theorem vx_L.word {C n d : String} {A : Nat → Prop} {s : State} {args : Array Value} (h : vx_L C n d A s s.heap) : (Cond.laysStatic C n d).before args s = true := by
  obtain ⟨c, k, i, f, a, cell, h1, h2, h3, h4, h5, h6, h7, h8, h9, -⟩ := h
  show (Cond.laysStatic C n d).holds args s none s [] = true
  exact Cond.laysStatic_of h1 h2 h3 h4 h5 h6 h7 h8 h9
/-- .. and what it holds: null or some reference -/
def vx_Zq (C n d : String) (A : Nat → Prop) (U : State) (H : Heap) : Prop := va_Zq C n d A U H ∧ vx_L C n d A U H
theorem vx_Zq.moved {C n d : String} {A : Nat → Prop} {u U : State} {H : Heap} (hvm : u.vm.Alike U.vm) (h : vx_Zq C n d A u H) : vx_Zq C n d A U H := ⟨va_Zq.moved hvm h.1, vx_L.moved hvm h.2⟩
theorem vx_Zq.kept {C n d : String} {A : Nat → Prop} {U : State} {H H1 : Heap} (h : vx_Zq C n d A U H) (hq : ∀ a : Nat, a < H.size → ¬ A a → H1[a]? = H[a]?) : vx_Zq C n d A U H1 := ⟨va_Zq.kept h.1 hq, vx_L.kept h.2 hq⟩
theorem vx_Zq.narrow {C n d : String} {A B : Nat → Prop} {U : State} {H : Heap} (h : vx_Zq C n d A U H) (hAB : ∀ q, B q → A q) : vx_Zq C n d B U H := ⟨va_Zq.narrow h.1 hAB, vx_L.narrow h.2 hAB⟩
theorem vx_Zqof {args : Array Value} {s : State} {C n d : String} {A : Nat → Prop} (hl : (Cond.laysStatic C n d).before args s = true) (hini : (Cond.initialized C).before args s = true) (h : (Cond.isRef (.static C n d)).before args s = true) (hA : ∀ a : Nat, a < s.heap.size → ¬ A a) : vx_Zq C n d A s s.heap := by
  refine ⟨va_Zqof hl hini h hA, ?_⟩
  obtain ⟨c, k, i, f, a, cell, h1, h2, h3, h4, h5, h6, h7, h8, h9⟩ := Cond.laysStatic_spec hl
  exact ⟨c, k, i, f, a, cell, h1, h2, h3, h4, h5, h6, h7, h8, h9, hA a (Array.getElem?_eq_some_iff.mp h5).1⟩
theorem vx_isRef {C n d : String} {v : Value} {A : Nat → Prop} {s : State} {args : Array Value} (h : va_Z C n d v A s s.heap) (hv : v.isRef = true) : (Cond.isRef (.static C n d)).before args s = true := by
  obtain ⟨cf, kf, fi, f, a, cell, h1, h2, h3, h4, h5, h6, h7, -⟩ := h
  have he : (Term.static C n d).eval args s none [] s = some v := by
    simp [Term.eval, State.fieldNamed?, h1, h2, h4, h5, h6, h7]
  simp only [Cond.before, Cond.holds, Cond.value, he]
  cases v <;> simp_all [Value.isRef]
theorem vx_isRefq {C n d : String} {A : Nat → Prop} {s : State} {args : Array Value} (h : va_Zq C n d A s s.heap) : (Cond.isRef (.static C n d)).before args s = true := by
  rcases h with h | ⟨t, h⟩
  · exact vx_isRef h rfl
  · exact vx_isRef h rfl
/-- the same frame, seen from here: as if the method were called anew in this heap -/
theorem vx_rebase {T : State} (X : Stand p l e R s m args below meth c T locs cells slots) {R' : Room} (hf : R'.frames ≤ R.frames) (hl : R'.locals ≤ R.locals) (hc : cells + R'.cells ≤ R.cells) (hs : slots + R'.slots ≤ R.slots) :
    Stand p l e R' ((T.setVm s.vm).setFrames (.invoking m args :: below)) m args below meth c T [] 0 0 := by
  have htop : (T.setVm s.vm).topJava?.isSome := X.here.top
  have hF : ((T.setVm s.vm).setFrames (.invoking m args :: below)).frames = .invoking m args :: below := State.frames_setFrames _ (State.cur_lt_of_top htop)
  obtain ⟨g₀, hg0⟩ := Option.isSome_iff_exists.mp htop
  obtain ⟨r, hr⟩ := State.topJava?_eq_some.mp hg0
  have hl9 : e.platform.stackLimits (T.setVm s.vm).me = e.platform.stackLimits s.me := X.limits
  have hb9 : (T.setVm s.vm).me.stackBytes = s.me.stackBytes := X.bytes
  refine ⟨X.admits, X.cas, X.clock, hF, ?_, X.hears, X.method, X.code, X.here, X.tail, X.warmed, ?_, ?_, ?_⟩
  · have h := X.room
    have hU : ((T.setVm s.vm).setFrames (.invoking m args :: below)).localsInUse = s.localsInUse := by
      rw [State.localsInUse_invoking hF (meth := meth) (c := c) X.method X.code, State.localsInUse_invoking X.frames X.method X.code]
    simp only [State.hasRoom, Bool.and_eq_true, decide_eq_true_eq] at h ⊢
    obtain ⟨⟨⟨⟨h1, h2, h3, h4, h5, h6⟩, h7⟩, h8⟩, h9⟩ := h
    rw [X.frames, List.length_cons] at h2 h3
    have q1 := X.heapSize
    have q2 := X.used
    simp only [hF, hU, List.length_cons, State.stackLimits_setFrames, State.stackBytes_setFrames, hl9, hb9]
    refine ⟨⟨⟨⟨by omega, by omega, by omega, by omega, by omega, h6⟩, ?_⟩, ?_⟩, X.book⟩
    · show T.heap.size + R'.cells ≤ e.platform.maxCells
      omega
    · show T.slotsUsed + R'.slots ≤ e.platform.maxSlots
      omega
  · rw [State.stackLimits_setFrames]; rfl
  · rw [State.stackBytes_setFrames]; rfl
  · refine ⟨?_, Nat.le_refl _, Nat.le_refl _, ?_, ?_, fun a c9 h9 => ⟨c9, h9, rfl, rfl, fun _ _ => rfl⟩⟩
    · obtain ⟨t, ht, -⟩ := State.frames_cons hr
      show T.setVm s.vm = { ((T.setVm s.vm).setFrames (.invoking m args :: below)).setFrames (T.setVm s.vm).frames with heap := T.heap, slotsUsed := T.slotsUsed }
      rw [State.setFrames_setFrames, State.setFrames_self ht]
      rfl
    · show T.slotsUsed = T.slotsUsed + ((T.heap.toList.drop T.heap.size).map (·.slots.size)).sum
      rw [List.drop_eq_nil_of_le (Nat.le_of_eq Array.length_toList)]
      rfl
    · show ((T.heap.toList.drop T.heap.size).map (·.slots.size)).sum ≤ 0
      rw [List.drop_eq_nil_of_le (Nat.le_of_eq Array.length_toList)]
      exact Nat.le_refl _
/-- 'throw new E()': new; dup; invokespecial; athrow -/
theorem vx_throw0 {cc : ByteArray} {pc : Nat} (hexec : p.tables.exec = Jvm.exec) (hb : c.code = cc) (hl : l.stackTraces = false) {own cls : String} {names : List String} {ik ic mc ms : Nat} {A : Nat → Prop}
    (hown : s.vm.findClass own = some m.cls) (hcls : Bundle.fit cls = true) (hnames : ∀ n ∈ names, Bundle.fit n = true)
    (hk : (Cond.classLink own ik cls).before args s = true) (hini : (Cond.initialized cls).before args s = true) (hat : ∀ w ∈ vx_at0 own ic cls names, w.before args s = true)
    (hgood : ∀ w ∈ Cond.classLink own ik cls :: Cond.initialized cls :: vx_at0 own ic cls names, vx_ot w = true)
    (hU : vx_Zq Bundle.tN "UNASSIGNED_STACK" Bundle.steD A s s.heap) (hN : vx_Zq Bundle.tN "SUPPRESSED_SENTINEL" Bundle.listD A s s.heap) (hS : va_S A s.heap H locs) (hsize : ls.size = c.maxLocals)
    (d0 : decode cc pc = .ok (.new ik, 3)) (d3 : decode cc (pc + 3) = .ok (.dup, 1)) (d4 : decode cc (pc + 4) = .ok (.invokespecial ic, 3)) (d7 : decode cc (pc + 7) = .ok (.athrow, 1))
    (hout : ∀ x ∈ c.exceptionTable.toList, covers x (pc + 7) = false)
    (hRframes : names.length + 3 < R.frames) (hRlocals : (rest.map fun v => v.category).sum + (13 * (names.length + 1) + 42) ≤ R.locals) (hRcells : cells + 1 ≤ R.cells) (hRslots : slots + 6 ≤ R.slots) (hlocks : meth.locks = false)
    (hx : ∀ t : State, s.vm.Alike t.vm → H.size ≤ t.heap.size → (∀ q : Nat, q < H.size → t.heap[q]? = H[q]?) → XC cls s t)
    (hf : ∀ z ∈ locs, free z.base) (hc : cells + 1 ≤ mc) (hs : slots + 6 ≤ ms) :
    W p l e R s m args below meth c H locs cells slots (vx_MQ below Qc XC args s mc ms free) (F0 m pc ls rest) := by
  intro T hT X
  have htr : e.platform.stackTraces = false := (show e.platform.stackTraces = l.stackTraces by rw [X.admits.platform]).trans hl
  have Y := vx_rebase X (R' := { frames := R.frames, locals := R.locals, cells := 1, slots := 6 }) (Nat.le_refl _) (Nat.le_refl _) hRcells hRslots
  obtain ⟨s', hA⟩ : ∃ z, z = (T.setVm s.vm).setFrames (.invoking m args :: below) := ⟨_, rfl⟩
  rw [← hA] at Y
  have hvm : s'.vm = s.vm := by rw [hA]; rfl
  have hhp : s'.heap = H := by rw [hA]; exact hT
  have hW0 : s.WarmedH s'.vm := by rw [hvm]; exact State.WarmedH.refl s
  have hat' : ∀ w ∈ vx_at0 own ic cls names, w.before args s' = true := fun w hw => vx_ot_at hW0 hvm.symm (hgood w (List.mem_cons_of_mem _ (List.mem_cons_of_mem _ hw))) (hat w hw)
  have hk' : (Cond.classLink own ik cls).before args s' = true := vx_ot_at hW0 hvm.symm (hgood _ List.mem_cons_self) hk
  have hini' : (Cond.initialized cls).before args s' = true := vx_ot_at hW0 hvm.symm (hgood _ (List.mem_cons_of_mem _ List.mem_cons_self)) hini
  have hU' : vx_Zq Bundle.tN "UNASSIGNED_STACK" Bundle.steD A s' s'.heap := by rw [hhp]; exact vx_Zq.moved hW0.alike (hU.kept hS.2.1)
  have hN' : vx_Zq Bundle.tN "SUPPRESSED_SENTINEL" Bundle.listD A s' s'.heap := by rw [hhp]; exact vx_Zq.moved hW0.alike (hN.kept hS.2.1)
  have h : ∀ w ∈ Bundle.ownAtoms0 own ic cls names, w.before args s' = true := vx_own hat' (vx_isRefq hU'.1) (vx_isRefq hN'.1) hU'.2.word hN'.2.word
  have hown' : s'.vm.findClass own = some m.cls := by rw [hvm]; exact hown
  have hins : (Cond.instantiable cls 6).before args s' = true := h _ (by simp [Bundle.ownAtoms0])
  obtain ⟨vm₁, cX, kX, hfX, hkX, -, -, X₁, st1⟩ := Y.newCold hexec (own := own) (C := cls) (index := ik) (n := 6) hown' hk' hins hini'
    (g := F0 m pc ls rest) rfl (by rw [hb]; exact d0) (Nat.le_refl _) (Nat.le_refl _)
  generalize hT1 : (T.setVm vm₁).pushCell { cls := cX, slots := kX.instanceTypes.map defaultValue, vm := .none } = T1 at X₁ st1
  have hcat : (Value.ref T.heap.size).category = 1 := rfl
  have hcellA : T1.heap[T.heap.size]? = some (freshCell cX kX) := by rw [← hT1]; exact State.heap_pushCell_size _ _
  have d3' : decode c.code (pc + 3) = .ok (.dup, 1) := by rw [hb]; exact d3
  obtain ⟨U, hsteps, hrun, hend, hW, hsame, ce, hce, hO⟩ := X₁.ctorThrow0 hexec htr (own := own) (cls := cls) (names := names) (ic := ic) hown' hcls hnames h (fun x hx => nomatch hx) hfX hkX hcellA (by rw [hhp, hT]; exact Nat.le_refl _)
    (g := { method := m, pc := pc + 4, locals := ls, stack := .ref T.heap.size :: .ref T.heap.size :: rest, locked := none }) rfl hsize rfl rfl (rest := rest) rfl
    (by rw [hb]; exact d4) (by rw [hb]; exact d7) hout hRframes (by simp only [List.map_cons, List.sum_cons, hcat]; omega) hlocks
  obtain ⟨f1, f2⟩ := vx_frame hsame
  rw [hhp] at f1 f2
  have hWs : s.WarmedH U.vm := State.WarmedH.trans hW0 hW
  have hcl : s.vm.findClass cls = some ce.cls := by
    have h9 := hO.cls
    rw [hvm] at h9
    exact h9
  have hall : s.sameButNew ({ U with vm := s.vm } : State) locs mc ms := by
    subst hA
    obtain ⟨e1, e2⟩ := hsame
    rw [State.setFrames_setFrames] at e1
    have h2 : (T.setVm s.vm).sameButNew ({ U with vm := s.vm } : State) [] (0 + 1) (0 + 6) := ⟨e1, e2⟩
    have h3 := X.same.trans h2
    rw [List.append_nil] at h3
    exact h3.mono hc hs
  refine ⟨U, ?_, .threw T.heap.size, hrun, hend, Or.inr ⟨T.heap.size, rfl, cls, ce, locs, hx U hWs.alike f1 (fun q hq => f2 q hq (fun z hz => nomatch hz)), hce, hO.vm, hcl, hWs, hall, hf⟩⟩
  refine st1 _ ?_
  show Steps p.tables e below (T1.setTop { method := m, pc := pc + 3, locals := ls, stack := .ref T.heap.size :: rest, locked := none }) _
  jvm_step X₁.here [X₁.here.top, hexec, d3', Value.category]
  exact hsteps
/-- 'throw new E("text")': new; dup; ldc; invokespecial; athrow -/
theorem vx_throwS {cc : ByteArray} {pc : Nat} (hexec : p.tables.exec = Jvm.exec) (hb : c.code = cc) (hl : l.stackTraces = false) {own cls text : String} {names : List String} {ik is ic mc ms sa : Nat} {A : Nat → Prop}
    (hown : s.vm.findClass own = some m.cls) (hcls : Bundle.fit cls = true) (hnames : ∀ n ∈ names, Bundle.fit n = true)
    (hk : (Cond.classLink own ik cls).before args s = true) (hini : (Cond.initialized cls).before args s = true) (hstr : vk_R own is text sa s) (hat : ∀ w ∈ vx_atS own ic cls names, w.before args s = true)
    (hgood : ∀ w ∈ Cond.classLink own ik cls :: Cond.initialized cls :: vx_atS own ic cls names, vx_ot w = true)
    (hU : vx_Zq Bundle.tN "UNASSIGNED_STACK" Bundle.steD A s s.heap) (hN : vx_Zq Bundle.tN "SUPPRESSED_SENTINEL" Bundle.listD A s s.heap) (hS : va_S A s.heap H locs) (hsize : ls.size = c.maxLocals)
    (d0 : decode cc pc = .ok (.new ik, 3)) (d3 : decode cc (pc + 3) = .ok (.dup, 1)) (d4 : decode cc (pc + 4) = .ok (.ldc is, 2)) (d6 : decode cc (pc + 6) = .ok (.invokespecial ic, 3)) (d9 : decode cc (pc + 9) = .ok (.athrow, 1))
    (hout : ∀ x ∈ c.exceptionTable.toList, covers x (pc + 9) = false)
    (hRframes : names.length + 3 < R.frames) (hRlocals : (rest.map fun v => v.category).sum + (13 * (names.length + 1) + 43) ≤ R.locals) (hRcells : cells + 1 ≤ R.cells) (hRslots : slots + 6 ≤ R.slots) (hlocks : meth.locks = false)
    (hx : ∀ t : State, s.vm.Alike t.vm → H.size ≤ t.heap.size → (∀ q : Nat, q < H.size → t.heap[q]? = H[q]?) → XC cls s t)
    (hf : ∀ z ∈ locs, free z.base) (hc : cells + 1 ≤ mc) (hs : slots + 6 ≤ ms) :
    W p l e R s m args below meth c H locs cells slots (vx_MQ below Qc XC args s mc ms free) (F0 m pc ls rest) := by
  intro T hT X
  have htr : e.platform.stackTraces = false := (show e.platform.stackTraces = l.stackTraces by rw [X.admits.platform]).trans hl
  have Y := vx_rebase X (R' := { frames := R.frames, locals := R.locals, cells := 1, slots := 6 }) (Nat.le_refl _) (Nat.le_refl _) hRcells hRslots
  obtain ⟨s', hA⟩ : ∃ z, z = (T.setVm s.vm).setFrames (.invoking m args :: below) := ⟨_, rfl⟩
  rw [← hA] at Y
  have hvm : s'.vm = s.vm := by rw [hA]; rfl
  have hhp : s'.heap = H := by rw [hA]; exact hT
  have hW0 : s.WarmedH s'.vm := by rw [hvm]; exact State.WarmedH.refl s
  have hat' : ∀ w ∈ vx_atS own ic cls names, w.before args s' = true := fun w hw => vx_ot_at hW0 hvm.symm (hgood w (List.mem_cons_of_mem _ (List.mem_cons_of_mem _ hw))) (hat w hw)
  have hk' : (Cond.classLink own ik cls).before args s' = true := vx_ot_at hW0 hvm.symm (hgood _ List.mem_cons_self) hk
  have hini' : (Cond.initialized cls).before args s' = true := vx_ot_at hW0 hvm.symm (hgood _ (List.mem_cons_of_mem _ List.mem_cons_self)) hini
  have hU' : vx_Zq Bundle.tN "UNASSIGNED_STACK" Bundle.steD A s' s'.heap := by rw [hhp]; exact vx_Zq.moved hW0.alike (hU.kept hS.2.1)
  have hN' : vx_Zq Bundle.tN "SUPPRESSED_SENTINEL" Bundle.listD A s' s'.heap := by rw [hhp]; exact vx_Zq.moved hW0.alike (hN.kept hS.2.1)
  have h : ∀ w ∈ Bundle.ownAtoms own ic cls names, w.before args s' = true := vx_own hat' (vx_isRefq hU'.1) (vx_isRefq hN'.1) hU'.2.word hN'.2.word
  have hown' : s'.vm.findClass own = some m.cls := by rw [hvm]; exact hown
  have hins : (Cond.instantiable cls 6).before args s' = true := h _ (by simp [Bundle.ownAtoms])
  obtain ⟨vm₁, cX, kX, hfX, hkX, -, -, X₁, st1⟩ := Y.newCold hexec (own := own) (C := cls) (index := ik) (n := 6) hown' hk' hins hini'
    (g := F0 m pc ls rest) rfl (by rw [hb]; exact d0) (Nat.le_refl _) (Nat.le_refl _)
  generalize hT1 : (T.setVm vm₁).pushCell { cls := cX, slots := kX.instanceTypes.map defaultValue, vm := .none } = T1 at X₁ st1
  have hcat : (Value.ref T.heap.size).category = 1 := rfl
  have hcellA : T1.heap[T.heap.size]? = some (freshCell cX kX) := by rw [← hT1]; exact State.heap_pushCell_size _ _
  have d3' : decode c.code (pc + 3) = .ok (.dup, 1) := by rw [hb]; exact d3
  have d4' : decode c.code (pc + 4) = .ok (.ldc is, 2) := by rw [hb]; exact d4
  have hstr' : vk_R own is text sa s' := vk_R.warm hW0 hstr
  obtain ⟨U, hsteps, hrun, hend, hW, hsame, ce, hce, hO⟩ := X₁.ctorThrowS hexec htr (own := own) (cls := cls) (names := names) (ic := ic) hown' hcls hnames h (fun x hx => nomatch hx) hfX hkX hcellA (by rw [hhp, hT]; exact Nat.le_refl _) (msg := .ref sa) rfl
    (g := { method := m, pc := pc + 6, locals := ls, stack := .ref sa :: .ref T.heap.size :: .ref T.heap.size :: rest, locked := none }) rfl hsize rfl rfl (rest := rest) rfl
    (by rw [hb]; exact d6) (by rw [hb]; exact d9) hout hRframes (by simp only [List.map_cons, List.sum_cons, hcat]; omega) hlocks
  obtain ⟨f1, f2⟩ := vx_frame hsame
  rw [hhp] at f1 f2
  have hWs : s.WarmedH U.vm := State.WarmedH.trans hW0 hW
  have hcl : s.vm.findClass cls = some ce.cls := by
    have h9 := hO.cls
    rw [hvm] at h9
    exact h9
  have hall : s.sameButNew ({ U with vm := s.vm } : State) locs mc ms := by
    subst hA
    obtain ⟨e1, e2⟩ := hsame
    rw [State.setFrames_setFrames] at e1
    have h2 : (T.setVm s.vm).sameButNew ({ U with vm := s.vm } : State) [] (0 + 1) (0 + 6) := ⟨e1, e2⟩
    have h3 := X.same.trans h2
    rw [List.append_nil] at h3
    exact h3.mono hc hs
  refine ⟨U, ?_, .threw T.heap.size, hrun, hend, Or.inr ⟨T.heap.size, rfl, cls, ce, locs, hx U hWs.alike f1 (fun q hq => f2 q hq (fun z hz => nomatch hz)), hce, hO.vm, hcl, hWs, hall, hf⟩⟩
  refine st1 _ ?_
  show Steps p.tables e below (T1.setTop { method := m, pc := pc + 3, locals := ls, stack := .ref T.heap.size :: rest, locked := none }) _
  jvm_step X₁.here [X₁.here.top, hexec, d3', Value.category]
  exact X₁.ldcString hexec (own := own) (text := text) (index := is) (a := sa) hown' hstr'.1 hstr'.2
    (g := { method := m, pc := pc + 4, locals := ls, stack := .ref T.heap.size :: .ref T.heap.size :: rest, locked := none }) rfl d4' _ hsteps
/-- 'throw new E("text")', the text by a wide index -/
theorem vx_throwSW {cc : ByteArray} {pc : Nat} (hexec : p.tables.exec = Jvm.exec) (hb : c.code = cc) (hl : l.stackTraces = false) {own cls text : String} {names : List String} {ik is ic mc ms sa : Nat} {A : Nat → Prop}
    (hown : s.vm.findClass own = some m.cls) (hcls : Bundle.fit cls = true) (hnames : ∀ n ∈ names, Bundle.fit n = true)
    (hk : (Cond.classLink own ik cls).before args s = true) (hini : (Cond.initialized cls).before args s = true) (hstr : vk_R own is text sa s) (hat : ∀ w ∈ vx_atS own ic cls names, w.before args s = true)
    (hgood : ∀ w ∈ Cond.classLink own ik cls :: Cond.initialized cls :: vx_atS own ic cls names, vx_ot w = true)
    (hU : vx_Zq Bundle.tN "UNASSIGNED_STACK" Bundle.steD A s s.heap) (hN : vx_Zq Bundle.tN "SUPPRESSED_SENTINEL" Bundle.listD A s s.heap) (hS : va_S A s.heap H locs) (hsize : ls.size = c.maxLocals)
    (d0 : decode cc pc = .ok (.new ik, 3)) (d3 : decode cc (pc + 3) = .ok (.dup, 1)) (d4 : decode cc (pc + 4) = .ok (.ldc_w is, 3)) (d7 : decode cc (pc + 7) = .ok (.invokespecial ic, 3)) (d10 : decode cc (pc + 10) = .ok (.athrow, 1))
    (hout : ∀ x ∈ c.exceptionTable.toList, covers x (pc + 10) = false)
    (hRframes : names.length + 3 < R.frames) (hRlocals : (rest.map fun v => v.category).sum + (13 * (names.length + 1) + 43) ≤ R.locals) (hRcells : cells + 1 ≤ R.cells) (hRslots : slots + 6 ≤ R.slots) (hlocks : meth.locks = false)
    (hx : ∀ t : State, s.vm.Alike t.vm → H.size ≤ t.heap.size → (∀ q : Nat, q < H.size → t.heap[q]? = H[q]?) → XC cls s t)
    (hf : ∀ z ∈ locs, free z.base) (hc : cells + 1 ≤ mc) (hs : slots + 6 ≤ ms) :
    W p l e R s m args below meth c H locs cells slots (vx_MQ below Qc XC args s mc ms free) (F0 m pc ls rest) := by
  intro T hT X
  have htr : e.platform.stackTraces = false := (show e.platform.stackTraces = l.stackTraces by rw [X.admits.platform]).trans hl
  have Y := vx_rebase X (R' := { frames := R.frames, locals := R.locals, cells := 1, slots := 6 }) (Nat.le_refl _) (Nat.le_refl _) hRcells hRslots
  obtain ⟨s', hA⟩ : ∃ z, z = (T.setVm s.vm).setFrames (.invoking m args :: below) := ⟨_, rfl⟩
  rw [← hA] at Y
  have hvm : s'.vm = s.vm := by rw [hA]; rfl
  have hhp : s'.heap = H := by rw [hA]; exact hT
  have hW0 : s.WarmedH s'.vm := by rw [hvm]; exact State.WarmedH.refl s
  have hat' : ∀ w ∈ vx_atS own ic cls names, w.before args s' = true := fun w hw => vx_ot_at hW0 hvm.symm (hgood w (List.mem_cons_of_mem _ (List.mem_cons_of_mem _ hw))) (hat w hw)
  have hk' : (Cond.classLink own ik cls).before args s' = true := vx_ot_at hW0 hvm.symm (hgood _ List.mem_cons_self) hk
  have hini' : (Cond.initialized cls).before args s' = true := vx_ot_at hW0 hvm.symm (hgood _ (List.mem_cons_of_mem _ List.mem_cons_self)) hini
  have hU' : vx_Zq Bundle.tN "UNASSIGNED_STACK" Bundle.steD A s' s'.heap := by rw [hhp]; exact vx_Zq.moved hW0.alike (hU.kept hS.2.1)
  have hN' : vx_Zq Bundle.tN "SUPPRESSED_SENTINEL" Bundle.listD A s' s'.heap := by rw [hhp]; exact vx_Zq.moved hW0.alike (hN.kept hS.2.1)
  have h : ∀ w ∈ Bundle.ownAtoms own ic cls names, w.before args s' = true := vx_own hat' (vx_isRefq hU'.1) (vx_isRefq hN'.1) hU'.2.word hN'.2.word
  have hown' : s'.vm.findClass own = some m.cls := by rw [hvm]; exact hown
  have hins : (Cond.instantiable cls 6).before args s' = true := h _ (by simp [Bundle.ownAtoms])
  obtain ⟨vm₁, cX, kX, hfX, hkX, -, -, X₁, st1⟩ := Y.newCold hexec (own := own) (C := cls) (index := ik) (n := 6) hown' hk' hins hini'
    (g := F0 m pc ls rest) rfl (by rw [hb]; exact d0) (Nat.le_refl _) (Nat.le_refl _)
  generalize hT1 : (T.setVm vm₁).pushCell { cls := cX, slots := kX.instanceTypes.map defaultValue, vm := .none } = T1 at X₁ st1
  have hcat : (Value.ref T.heap.size).category = 1 := rfl
  have hcellA : T1.heap[T.heap.size]? = some (freshCell cX kX) := by rw [← hT1]; exact State.heap_pushCell_size _ _
  have d3' : decode c.code (pc + 3) = .ok (.dup, 1) := by rw [hb]; exact d3
  have d4' : decode c.code (pc + 4) = .ok (.ldc_w is, 3) := by rw [hb]; exact d4
  have hstr' : vk_R own is text sa s' := vk_R.warm hW0 hstr
  obtain ⟨U, hsteps, hrun, hend, hW, hsame, ce, hce, hO⟩ := X₁.ctorThrowS hexec htr (own := own) (cls := cls) (names := names) (ic := ic) hown' hcls hnames h (fun x hx => nomatch hx) hfX hkX hcellA (by rw [hhp, hT]; exact Nat.le_refl _) (msg := .ref sa) rfl
    (g := { method := m, pc := pc + 7, locals := ls, stack := .ref sa :: .ref T.heap.size :: .ref T.heap.size :: rest, locked := none }) rfl hsize rfl rfl (rest := rest) rfl
    (by rw [hb]; exact d7) (by rw [hb]; exact d10) hout hRframes (by simp only [List.map_cons, List.sum_cons, hcat]; omega) hlocks
  obtain ⟨f1, f2⟩ := vx_frame hsame
  rw [hhp] at f1 f2
  have hWs : s.WarmedH U.vm := State.WarmedH.trans hW0 hW
  have hcl : s.vm.findClass cls = some ce.cls := by
    have h9 := hO.cls
    rw [hvm] at h9
    exact h9
  have hall : s.sameButNew ({ U with vm := s.vm } : State) locs mc ms := by
    subst hA
    obtain ⟨e1, e2⟩ := hsame
    rw [State.setFrames_setFrames] at e1
    have h2 : (T.setVm s.vm).sameButNew ({ U with vm := s.vm } : State) [] (0 + 1) (0 + 6) := ⟨e1, e2⟩
    have h3 := X.same.trans h2
    rw [List.append_nil] at h3
    exact h3.mono hc hs
  refine ⟨U, ?_, .threw T.heap.size, hrun, hend, Or.inr ⟨T.heap.size, rfl, cls, ce, locs, hx U hWs.alike f1 (fun q hq => f2 q hq (fun z hz => nomatch hz)), hce, hO.vm, hcl, hWs, hall, hf⟩⟩
  refine st1 _ ?_
  show Steps p.tables e below (T1.setTop { method := m, pc := pc + 3, locals := ls, stack := .ref T.heap.size :: rest, locked := none }) _
  jvm_step X₁.here [X₁.here.top, hexec, d3', Value.category]
  exact X₁.ldcStringW hexec (own := own) (text := text) (index := is) (a := sa) hown' hstr'.1 hstr'.2
    (g := { method := m, pc := pc + 4, locals := ls, stack := .ref T.heap.size :: .ref T.heap.size :: rest, locked := none }) rfl d4' _ hsteps
end Ends
section Bodies
variable {l : Launch}
theorem vx_ofW {y : MethodName} {ws ws' : List Cond} {rm : Room} {Pc : Array Value → State → Prop} {Qc : Array Value → State → Outcome → State → Prop} {XC : String → State → State → Prop} {mc ms : Nat} {free : Addr → Prop} {cc : ByteArray} {maxL : Nat} {ret : Option FieldType}
    (hy : plainName y.cls = true) (hw : ws = Cond.code y cc maxL ret :: ws')
    (body : ∀ p e s m args below meth c s₁, BodyLoose p l y (headSpec ws rm) cc maxL ret e s m args below meth c s₁ → c.maxLocals = maxL → (∀ x ∈ c.exceptionTable.toList, False) → Pc args s →
      W p l e (headSpec ws rm).room s m args below meth c s.heap [] 0 0 (vx_MQ below Qc XC args s mc ms free) (entryFrame m args maxL)) : vx_Met l y ws rm Pc Qc XC mc ms free := by
  refine MetFree.of_bodyS (code := cc) (maxLocals := maxL) (ret := ret) hy ?_ ?_
  · intro args s m h hn
    obtain ⟨meth, c, h1, h2, h3, h4, h5, h6, -, -⟩ := Cond.code_spec hn (atoms_spec (ws := ws) h _ (by rw [hw]; exact List.mem_cons_self))
    exact ⟨meth, c, h1, h2, h3, h4, h5, h6⟩
  · intro p e s m args below meth c s₁ B hml hP _
    have hh0 : s₁.heap = s.heap := by rw [B.state]; rfl
    have ht : ∀ x ∈ c.exceptionTable.toList, False := by
      obtain ⟨meth9, c9, h1, h2, -, -, -, -, h7, -⟩ := Cond.code_spec B.named (atoms_spec (ws := ws) B.pre _ (by rw [hw]; exact List.mem_cons_self))
      cases Option.some.inj (h1.symm.trans B.method)
      cases Option.some.inj (h2.symm.trans (Stand.of_body B).code)
      intro x hx
      rw [Array.isEmpty_iff.mp h7] at hx
      cases hx
    obtain ⟨t, a1, o, b1, b2, b3⟩ := body p e s m args below meth c s₁ B hml ht hP s₁ hh0 (Stand.of_body B)
    exact ⟨t, o, a1, b1, b2, b3⟩
/-- the table of a body with handlers -/
theorem vx_table {p : Program} {x y : MethodName} {S : Spec} {cc bytes : ByteArray} {maxL maxL' : Nat} {ret ret' : Option FieldType} {e : Env} {s s₁ : State} {m : MethodId} {args : Array Value} {below : List Frame} {meth : Method} {c : Code} {hh : List (Nat × Nat × Nat × Nat)}
    (B : BodyLoose p l y S cc maxL ret e s m args below meth c s₁) (h : (Cond.codeWith y bytes maxL' ret' hh).before args s = true) : c.exceptionTable.toList = tableOf hh := by
  obtain ⟨m9, meth9, c9, hn9, h1, h2, -, -, h6, -⟩ := Cond.codeWith_spec h
  cases Option.some.inj (hn9.symm.trans B.named)
  cases Option.some.inj (h1.symm.trans B.method)
  cases Option.some.inj (h2.symm.trans (Stand.of_body B).code)
  rw [← h6, table_eq]
end Bodies
end VXA
/-! ===== END ===== -/
/-! ===== BEGIN a static call of a method with an exception table ===== -/
section VXS
variable {p : Program} {l : Launch} {e : Env} {R : Room} {s : State} {m : MethodId} {args : Array Value} {below : List Frame} {meth : Method} {c : Code} {T : State} {H : Heap} {locs : List Loc} {cells slots : Nat}
abbrev vx_CSW (R : Room) (s : State) (args : Array Value) (own : String) (index : Nat) (y : MethodName) (bytes : ByteArray) (maxL : Nat) (ret : Option FieldType) (hh : List (Nat × Nat × Nat × Nat)) (ws : List Cond) (rm : Room) (mc ms n : Nat) : Prop :=
  (rm.cells = mc ∧ rm.slots = ms ∧ rm.frames + 1 ≤ R.frames ∧ 8 + (maxL + 11) + rm.locals ≤ R.locals ∧ (∀ w ∈ ws, ∀ (a' : Array Value) (U : State), s.WarmedH U.vm → w.before a' U = true) ∧ Cond.codeWith y bytes maxL ret hh ∈ ws) ∧
  (Cond.codeWith y bytes maxL ret hh).before args s = true ∧ (Cond.initialized y.cls).before args s = true ∧ (y.cls ≠ "java/lang/invoke/MethodHandle" ∧ y.cls ≠ "java/lang/invoke/VarHandle") ∧
  (∀ sig, parseMethodDescriptor y.desc = some sig → n = sig.parameters.length) ∧ (Cond.methodLink own index y).before args s = true ∧ (Cond.static y).before args s = true
theorem vx_cwSW {own : String} {index maxL mc ms : Nat} {y : MethodName} {bytes : ByteArray} {ret : Option FieldType} {hh : List (Nat × Nat × Nat × Nat)} {Ts ws ws' : List Cond} {rm : Room} (n : Nat) (ht : ∀ w ∈ Ts, w.before args s = true) (hT : GoodIn Ts (va_wsS own index y ws)) (hw : ws = Cond.codeWith y bytes maxL ret hh :: ws') (hrc : rm.cells = mc) (hrs : rm.slots = ms)
    (hd : y.cls ≠ "java/lang/invoke/MethodHandle" ∧ y.cls ≠ "java/lang/invoke/VarHandle" ∧ (parseMethodDescriptor y.desc).map (fun d => d.parameters.length) = some n) (hR : rm.frames + 1 ≤ R.frames ∧ 8 + (maxL + 11) + rm.locals ≤ R.locals) :
    vx_CSW R s args own index y bytes maxL ret hh ws rm mc ms n := by
  have ok : ∀ w ∈ va_wsS own index y ws, w.before args s = true := fun w h => ht w (hT w h).1
  have hG : GoodIn Ts ws := fun w h => hT w (by unfold va_wsS; exact List.mem_append_right _ h)
  have hc : Cond.codeWith y bytes maxL ret hh ∈ ws := by rw [hw]; exact List.mem_cons_self
  refine ⟨⟨hrc, hrs, hR.1, hR.2, pay_in ht hG, hc⟩, ht _ (hG _ hc).1, ok _ (by simp [va_wsS]), ⟨hd.1, hd.2.1⟩, fun sig h => ?_, ok _ (by simp [va_wsS]), ok _ (by simp [va_wsS])⟩
  have h2 := hd.2.2
  rw [h] at h2
  exact (Option.some.inj h2).symm
theorem vx_callSW (X : Stand p l e R s m args below meth c T locs cells slots) (hexec : p.tables.exec = Jvm.exec) {own : String} {index : Nat} {y : MethodName} {bytes : ByteArray} {maxL : Nat} {ret : Option FieldType} {hh : List (Nat × Nat × Nat × Nat)}
    (hown : s.vm.findClass own = some m.cls) (hlink : (Cond.methodLink own index y).before args s = true) (hstat : (Cond.static y).before args s = true) (hinit : (Cond.initialized y.cls).before args s = true)
    (hcode : (Cond.codeWith y bytes maxL ret hh).before args s = true) (hy : y.cls ≠ "java/lang/invoke/MethodHandle" ∧ y.cls ≠ "java/lang/invoke/VarHandle")
    {W9 : Nat} {Pre : Pt → Array Value → Prop} {Post : Pt → Array Value → Option Value → Pt → Prop} (hK : Back l R p e below s args y 3 W9 Pre Post)
    {g : JFrame} (hg : g.method = m) (hsize : g.locals.size = c.maxLocals) {argsL rest : List Value} (hlen : ∀ sig, parseMethodDescriptor y.desc = some sig → argsL.length = sig.parameters.length)
    (hstack : g.stack = argsL.reverse ++ rest) (hW : 2 * g.monitorRoom + (rest.map fun v => v.category).sum ≤ W9) (hdg : decode c.code g.pc = .ok (.invokestatic index, 3))
    (hpre : ∀ vm₁, s.WarmedH vm₁ → Pre ⟨T.setVm vm₁, locs, cells, slots⟩ argsL.toArray) :
    ∃ (v : Option Value) (vm₁ : Vm) (B : Pt), s.WarmedH vm₁ ∧ Stand p l e R s m args below meth c B.U B.locs B.cells B.slots ∧ Post ⟨T.setVm vm₁, locs, cells, slots⟩ argsL.toArray v B ∧
      ∀ target, Steps p.tables e below (B.U.setTop { g with pc := g.pc + 3, stack := v.toList ++ rest }) target → Steps p.tables e below (T.setTop g) target := by
  obtain ⟨mk, methM, cM, hnamed, hmethM, -, -, -, -, -, -, hsigM⟩ := Cond.codeWith_spec hcode
  have hstatic : methM.isStatic = true := Cond.static_spec hnamed hmethM hstat
  obtain ⟨kP, hkP, -⟩ := className_of_methodNamed hnamed
  have hinitP : kP.init = .initialized := Cond.initialized_spec (findClass_of_methodNamed hnamed) hkP hinit
  obtain ⟨vm₁, X₁, hstep₁⟩ := X.invokestatic hexec hown hlink hnamed hmethM hstatic hkP hinitP hy (g := g) hg (argsL := argsL) (rest := rest) (hlen _ hsigM) hstack hdg
  obtain ⟨v, B, X', hpost, hsteps⟩ := hK m meth c ⟨T.setVm vm₁, locs, cells, slots⟩ { g with stack := rest } (.invokestatic index) mk argsL.toArray X₁ hg hsize hdg hW (X₁.named hnamed) (hpre vm₁ X₁.warmed)
  exact ⟨v, vm₁, B, X₁.warmed, X', hpost, fun target h => hstep₁ _ fun acts => by rw [doInvoke_state]; exact hsteps.trans h⟩
theorem vx_runSW {y : MethodName} {bytes cc : ByteArray} {maxL nL mc ms n index : Nat} {ret : Option FieldType} {hh : List (Nat × Nat × Nat × Nat)} {ws : List Cond} {rm : Room} {Pc : Array Value → State → Prop} {Qc : Array Value → State → Outcome → State → Prop} {free : Addr → Prop} {Ts : List Cond} {own : String} {As rest : List Value} {g : JFrame}
    (S : CallFix p m c cc nL s args Ts own) (hM : Met l y ws rm Pc Qc mc ms free) (cw : vx_CSW R s args own index y bytes maxL ret hh ws rm mc ms n) (hp : PreS s H Pc As)
    (hg : g.method = m) (hn : As.length = n) (hsize : g.locals.size = nL) (hstack : g.stack = As.reverse ++ rest) (hW : 2 * g.monitorRoom + (rest.map fun v => v.category).sum ≤ 8) (hdg : decode cc g.pc = .ok (.invokestatic index, 3)) (hf : cells + mc ≤ R.cells ∧ slots + ms ≤ R.slots) :
    va_Run p l e R s m args below meth c H locs cells slots mc ms g rest (Qc As.toArray) (free) := by
  obtain ⟨⟨hrc, hrs, hfr, hlo, hws, hcw⟩, hcode, hini, hy, hlen, hl, hstt⟩ := cw
  have hK : Back l R p e below s args y 3 8 (PreOf R mc ms Pc) (PostOf Qc mc ms free) := va_backW (hh := hh) (bytes := bytes) (maxL := maxL) (ret := ret) hM hp.1 hrc hrs hfr hlo hws hcw (fun a' U hW => word_at hW (Or.inl (by first | rfl | simp [Cond.onTables, Cond.keeps, Cond.steady])) hini)
  obtain ⟨hx, hb, hml, ho, -⟩ := S
  intro T hT X
  obtain ⟨v, vm₁, ⟨U', l2, c2, s2⟩, hW₁, X', ⟨g', mk, t, L, e1, e2, hq, h1, hL, h2, h3⟩, st⟩ := vx_callSW X hx (hh := hh) (bytes := bytes) (maxL := maxL) (ret := ret) ho hl hstt hini hcode hy hK hg (hsize.trans hml.symm) (argsL := As) (rest := rest) (fun sig h => hn.trans (hlen sig h)) hstack hW (by rw [hb]; exact hdg)
    (fun vm₁ hW₁ => ⟨hf.1, hf.2, hp.2 (T.setVm vm₁) hT hW₁⟩)
  dsimp only [Pt.U, Pt.locs, Pt.cells, Pt.slots] at X' e1 e2 h1 h2 h3 st
  subst h1; subst h2; subst h3
  exact ⟨v, (T.setVm vm₁).calling g' mk As.toArray, t, U', L, hT, X', hL, e1, e2, hq, st⟩
/-- not caught here, past rows that name other classes: it goes on to the caller -/
theorem vx_outP {p : Program} {l : Launch} {e : Env} {R : Room} {s : State} {m : MethodId} {args : Array Value} {below : List Frame} {meth : Method} {c : Code} {H : Heap} {locs : List Loc} {cells slots : Nat} {free : Addr → Prop} {ls : Array Slot} {rest : List Value} {Qc : Array Value → State → Outcome → State → Prop} {XC : String → State → State → Prop}
    {pc : Nat} {own E : String} {ce : Cell} {q : Addr} {mc ms : Nat} (hown : s.vm.findClass own = some m.cls) (hlocks : meth.locks = false)
    (hpass : ∀ z ∈ c.exceptionTable.toList, covers z pc = false ∨ (z.catchType ≠ 0 ∧ ∃ nm : String, (Cond.classLink own z.catchType nm).before args s = true ∧ va_Nc E nm s)) (hcell : H[q]? = some ce) (hv : ce.vm = .none) (hcl : s.vm.findClass E = some ce.cls)
    (hx : ∀ t : State, t.heap = H → s.vm.Alike t.vm → XC E s t) (hf : ∀ z ∈ locs, free z.base) (hc : cells ≤ mc) (hs : slots ≤ ms) :
    vx_W p l e R s m args below meth c H locs cells slots (vx_MQ below Qc XC args s mc ms free) (F0 m pc ls rest) q := by
  intro T hT X
  have hpl : e.platform.magicAccessors = ({} : Platform).magicAccessors := by rw [X.admits.platform]
  obtain ⟨vm', hW', X', st⟩ := X.outThrough hlocks q (g := F0 m pc ls rest) rfl rfl rfl (cell := ce) (by rw [hT]; exact hcell) (by rw [hv]; rfl)
    (by obtain ⟨k9, h9, -⟩ := Vm.findClass_spec hcl; exact ⟨k9, h9⟩) (fun z hz => by
      rcases hpass z hz with h | ⟨hz0, nm, hl1, hn1⟩
      · exact Or.inl h
      · obtain ⟨c6, hc6, hcl6⟩ := Cond.classLink_spec hown hl1 e.platform hpl
        obtain ⟨a8, b8, h1, h2, h3⟩ := hn1
        cases Option.some.inj (h1.symm.trans hcl)
        cases Option.some.inj (h2.symm.trans hc6)
        exact Or.inr ⟨hz0, _, hcl6, h3⟩)
  obtain ⟨g₀, hfr⟩ := X'.frames_eq
  have hcell9 : ((T.setVm vm').setFrames (.throwing q :: below)).heap[q]? = some ce := by
    show T.heap[q]? = some ce
    rw [hT]; exact hcell
  have hend : Ended ((T.setVm vm').setFrames (.throwing q :: below)) below (.threw q) := State.frames_setFrames _ (State.cur_lt_of_frames hfr)
  refine ⟨(T.setVm vm').setFrames (.throwing q :: below), ?_, .threw q, X'.here.running, hend, Or.inr ⟨q, rfl, E, ce, locs, hx _ hT (X'.ends _).1.alike, hcell9, hv, hcl, (X'.ends _).1, (X'.ends _).2.mono hc hs, hf⟩⟩
  rw [X.pushThrowing_eq]
  exact st
/-- a thing of a world lies in the heap -/
theorem vx_lt {D : va_G} {cl : List vw_C} {ws : va_W} {H1 : Heap} (h : va_P D cl ws H1) {k : Nat} {q : Nat × va_E} (hk : ws[k]? = some q) : q.1 < H1.size := (h k q hk).lt
end VXS
/-! ===== END ===== -/
/-! ===== BEGIN methods with a table of their own: called by a name, returning or throwing ===== -/
section VXH
/-! vx_backW, vx_callVX, vx_callSX, vx_callVW, vx_runVW, vx_runVX, vx_runSX, vx_ofWH follow the same proofs as their sisters above (Free/Laws.lean, Shelf42/LK1.lean); vx_outP calls Shelf42/NT130.lean (outThrough). -/
section
variable {l : Launch} {R : Room} {p : Program} {e : Env} {below : List Frame} {s : State} {sargs : Array Value} {y : MethodName} {len W9 : Nat}
theorem vx_backW {ws : List Cond} {rm : Room} {Pc : Array Value → State → Prop} {Qc : Array Value → State → Outcome → State → Prop} {XC : String → State → State → Prop} {mc ms : Nat} {free : Addr → Prop} {bytes : ByteArray} {maxL : Nat} {ret : Option FieldType} {hh : List (Nat × Nat × Nat × Nat)}
    (hM : vx_Met l y ws rm Pc Qc XC mc ms free) (hblind : FrameBlind Pc) (hrc : rm.cells = mc) (hrs : rm.slots = ms)
    (hframes : rm.frames + 1 ≤ R.frames) (hlocals : W9 + (maxL + 11) + rm.locals ≤ R.locals)
    (hws : ∀ w ∈ ws, ∀ a' U, s.WarmedH U.vm → w.before a' U = true) (hcode : Cond.codeWith y bytes maxL ret hh ∈ ws) (hinit : ∀ a' U, s.WarmedH U.vm → (Cond.initialized y.cls).before a' U = true) :
    vx_Back l R p e below s sargs y len W9 (PreOf R mc ms Pc) (PostOf Qc mc ms free) (vx_Post XC mc ms free) := by
  intro m meth c A g ig mk a X hg hsize hdg hW hn hp
  have h1 : (headSpec ws rm).pre.before a A.U = true := atoms_intro fun w hw => hws w hw _ _ X.warmed
  have h2 : (Cond.codeWith y bytes maxL ret hh).before a A.U = true := hws _ hcode _ _ X.warmed
  have h3 : (Cond.initialized y.cls).before a A.U = true := hinit _ _ X.warmed
  have h4 : A.cells + (headSpec ws rm).room.cells ≤ R.cells := by rw [show (headSpec ws rm).room.cells = mc from hrc]; exact hp.1
  have h5 : A.slots + (headSpec ws rm).room.slots ≤ R.slots := by rw [show (headSpec ws rm).room.slots = ms from hrs]; exact hp.2.1
  have hPc : Pc a (A.U.calling g mk a) := hblind _ _ _ _ hp.2.2
  obtain ⟨U, Ls, c0, s0⟩ := A
  dsimp only [Pt.U, Pt.locs, Pt.cells, Pt.slots] at h1 h2 h3 h4 h5 X hn hPc ⊢
  obtain ⟨m9, methY, cY, hn9, hmY, hcY, -, hlY, -⟩ := Cond.codeWith_spec h2
  cases Option.some.inj (hn9.symm.trans hn)
  obtain ⟨kY, hkY, -⟩ := className_of_methodNamed hn
  have hinitY : kY.init = .initialized := Cond.initialized_spec (findClass_of_methodNamed hn) hkY h3
  have h : At U g.method c below := by rw [hg]; exact X.here
  have hlocals9 : W9 + (maxL + 11) + (headSpec ws rm).room.locals ≤ R.locals := hlocals
  have happ : (headSpec ws rm).appliesLoose y e.platform (U.calling g mk a) = true :=
    Spec.appliesLoose_calling (g := g) h hdg hn hkY hinitY
      (X.room_calling (g := g) (R' := (headSpec ws rm).room) hsize hmY hcY hframes (by rw [hlY]; omega) h4 h5) h1
  obtain ⟨mid, hmid⟩ := h.above
  have hfr : (U.setTop g).frames = (.java g :: mid) ++ below := by rw [State.frames_setTop' g h.top, hmid]; rfl
  obtain ⟨o, s₂, hsteps, -, hend, hq⟩ := Steps.callFree hM p X.admits X.cas X.clock (acts := []) hfr happ hPc trivial
  have hq' : vx_Q Qc XC mc ms free a (U.calling g mk a) o s₂ := hq
  rw [State.frames_setTop' g h.top] at hend
  obtain ⟨g₀, hg0⟩ := Option.isSome_iff_exists.mp h.top
  obtain ⟨r, hr⟩ := State.topJava?_eq_some.mp hg0
  have hr' : (({ U with heap := s₂.heap, slotsUsed := s₂.slotsUsed } : State).setVm s₂.vm).frames = .java g₀ :: r := hr
  rcases hq' with ⟨hqc, L, hfe, hL⟩ | ⟨q, rfl, E, ce, L, hx, hce, hcv, hcl, hW₂, hsm, hL⟩
  · obtain ⟨⟨v, rfl⟩, hW₂, e2, q2, q3, q4, q5, q6⟩ := id hfe
    have e3 : s₂ = ({ (U.calling g mk a).setFrames s₂.frames with heap := s₂.heap, slotsUsed := s₂.slotsUsed } : State).setVm s₂.vm := by
      have : s₂ = ({ s₂ with vm := (U.calling g mk a).vm } : State).setVm s₂.vm := rfl
      rw [e2] at this
      exact this
    obtain ⟨c₂, i₂, len₂, hc₂, hd₂, hf₂⟩ := hend
    have hW' : U.WarmedH s₂.vm := hW₂
    have hcc : c₂ = c := by
      have h1 : s₂.code? g.method = U.code? g.method := by
        rw [State.code?_eq, State.code?_eq, hW'.alike.method?]
      exact Option.some.inj (hc₂.symm.trans (h1.trans h.code))
    subst hcc
    have hlen : len₂ = len := by rw [hdg] at hd₂; cases hd₂; rfl
    subst hlen
    have hs₂ : s₂ = (({ U with heap := s₂.heap, slotsUsed := s₂.slotsUsed } : State).setVm s₂.vm).setTop { g with pc := g.pc + len₂, stack := v.toList ++ g.stack } := by
      refine e3.trans ?_
      rw [hf₂, State.calling_eq h.top, State.setFrames_setFrames, State.setTop_of_frames _ hr', hr]
      rfl
    have hsame : U.sameButNew ({ U with heap := s₂.heap, slotsUsed := s₂.slotsUsed } : State) L mc ms := by
      refine ⟨?_, q2, q3, q4, q5, q6⟩
      obtain ⟨t, ht, -⟩ := State.frames_cons hr
      show ({ U with heap := s₂.heap, slotsUsed := s₂.slotsUsed } : State) = { U.setFrames U.frames with heap := s₂.heap, slotsUsed := s₂.slotsUsed }
      rw [State.setFrames_self ht]
    subst hg
    refine Or.inl ⟨v, ⟨(({ U with heap := s₂.heap, slotsUsed := s₂.slotsUsed } : State).setVm s₂.vm), Ls ++ L, c0 + mc, s0 + ms⟩,
      ⟨X.admits, X.cas, X.clock, X.frames, X.room, X.hears, X.method, X.code, (X.here.setHeapUsed s₂.heap s₂.slotsUsed).setVm hW'.alike, X.tail, State.WarmedH.trans X.warmed hW', X.limits, X.bytes, X.same.trans (hsame.setVm s.vm)⟩,
      ⟨g, mk, s₂, L, rfl, rfl, hqc, rfl, hL, rfl, rfl⟩, ?_⟩
    show Steps p.tables e below _ ((({ U with heap := s₂.heap, slotsUsed := s₂.slotsUsed } : State).setVm s₂.vm).setTop { g with pc := g.pc + len₂, stack := v.toList ++ g.stack })
    rw [← hs₂]
    exact hsteps
  · obtain ⟨e2, q2, q3, q4, q5, q6⟩ := id hsm
    have e3 : s₂ = ({ (U.calling g mk a).setFrames s₂.frames with heap := s₂.heap, slotsUsed := s₂.slotsUsed } : State).setVm s₂.vm := by
      have : s₂ = ({ s₂ with vm := (U.calling g mk a).vm } : State).setVm s₂.vm := rfl
      rw [e2] at this
      exact this
    have hf₂ : s₂.frames = .throwing q :: .java g :: U.frames.tail := hend
    have hW' : U.WarmedH s₂.vm := hW₂
    have hs₂ : s₂ = ((({ U with heap := s₂.heap, slotsUsed := s₂.slotsUsed } : State).setVm s₂.vm).setTop g).pushFrame (.throwing q) := by
      refine e3.trans ?_
      rw [hf₂, State.calling_eq h.top, State.setFrames_setFrames, State.pushFrame, State.frames_setTop _ hr', State.setTop_of_frames _ hr', State.setFrames_setFrames, hr]
      rfl
    have hsame : U.sameButNew ({ U with heap := s₂.heap, slotsUsed := s₂.slotsUsed } : State) L mc ms := by
      refine ⟨?_, q2, q3, q4, q5, q6⟩
      obtain ⟨t, ht, -⟩ := State.frames_cons hr
      show ({ U with heap := s₂.heap, slotsUsed := s₂.slotsUsed } : State) = { U.setFrames U.frames with heap := s₂.heap, slotsUsed := s₂.slotsUsed }
      rw [State.setFrames_self ht]
    subst hg
    refine Or.inr ⟨q, ⟨(({ U with heap := s₂.heap, slotsUsed := s₂.slotsUsed } : State).setVm s₂.vm), Ls ++ L, c0 + mc, s0 + ms⟩,
      ⟨X.admits, X.cas, X.clock, X.frames, X.room, X.hears, X.method, X.code, (X.here.setHeapUsed s₂.heap s₂.slotsUsed).setVm hW'.alike, X.tail, State.WarmedH.trans X.warmed hW', X.limits, X.bytes, X.same.trans (hsame.setVm s.vm)⟩,
      ⟨g, mk, s₂, L, E, ce, rfl, rfl, hx, hce, hcv, hcl, rfl, hL, rfl, rfl⟩, ?_⟩
    show Steps p.tables e below _ (((({ U with heap := s₂.heap, slotsUsed := s₂.slotsUsed } : State).setVm s₂.vm).setTop g).pushFrame (.throwing q))
    rw [← hs₂]
    exact hsteps
end
variable {p : Program} {l : Launch} {e : Env} {R : Room} {s : State} {m : MethodId} {args : Array Value} {below : List Frame} {meth : Method} {c : Code} {T : State} {H : Heap} {locs : List Loc} {cells slots : Nat}
theorem vx_callVX (X : Stand p l e R s m args below meth c T locs cells slots) (hexec : p.tables.exec = Jvm.exec) {own C : String} {index : Nat} {y : MethodName} {bytes : ByteArray} {maxL : Nat} {ret : Option FieldType} {hh : List (Nat × Nat × Nat × Nat)}
    (hown : s.vm.findClass own = some m.cls) (hlink : (Cond.methodLink own index y).before args s = true) (hinst : (Cond.instanceMethod y).before args s = true) (hsel : (Cond.selects C y y).before args s = true)
    (hcode : (Cond.codeWith y bytes maxL ret hh).before args s = true) (hy : y.cls ≠ "java/lang/invoke/MethodHandle" ∧ y.cls ≠ "java/lang/invoke/VarHandle")
    {W9 : Nat} {Pre : Pt → Array Value → Prop} {Post : Pt → Array Value → Option Value → Pt → Prop} {PostX : Pt → Array Value → Addr → Pt → Prop} (hK : vx_Back l R p e below s args y 3 W9 Pre Post PostX)
    {b : Addr} {cellB : Cell} (hcell : T.heap[b]? = some cellB) (hobj : cellB.vm.isStatics = false) (hcls : s.vm.findClass C = some cellB.cls)
    {g : JFrame} (hg : g.method = m) (hsize : g.locals.size = c.maxLocals) {argsL rest : List Value} (hlen : ∀ sig, parseMethodDescriptor y.desc = some sig → argsL.length = sig.parameters.length)
    (hstack : g.stack = argsL.reverse ++ .ref b :: rest) (hW : 2 * g.monitorRoom + (rest.map fun v => v.category).sum ≤ W9) (hdg : decode c.code g.pc = .ok (.invokevirtual index, 3))
    (hpre : ∀ vm₁, s.WarmedH vm₁ → Pre ⟨T.setVm vm₁, locs, cells, slots⟩ (Value.ref b :: argsL).toArray) :
    (∃ (v : Option Value) (vm₁ : Vm) (B : Pt), s.WarmedH vm₁ ∧ Stand p l e R s m args below meth c B.U B.locs B.cells B.slots ∧ Post ⟨T.setVm vm₁, locs, cells, slots⟩ (Value.ref b :: argsL).toArray v B ∧
      ∀ target, Steps p.tables e below (B.U.setTop { g with pc := g.pc + 3, stack := v.toList ++ rest }) target → Steps p.tables e below (T.setTop g) target) ∨
    (∃ (q : Addr) (vm₁ : Vm) (B : Pt), s.WarmedH vm₁ ∧ Stand p l e R s m args below meth c B.U B.locs B.cells B.slots ∧ PostX ⟨T.setVm vm₁, locs, cells, slots⟩ (Value.ref b :: argsL).toArray q B ∧
      Steps p.tables e below (T.setTop g) ((B.U.setTop { g with stack := rest }).pushFrame (.throwing q))) := by
  obtain ⟨mk, methM, hnamed, hmethM, hstM, habM⟩ := Cond.instanceMethod_spec hinst
  obtain ⟨m8, methM', cM, hn8, hmethM', -, -, -, -, -, -, hsigM⟩ := Cond.codeWith_spec hcode
  cases Option.some.inj (hn8.symm.trans hnamed)
  cases hmethM.symm.trans hmethM'
  obtain ⟨c2, r2, m2, q1, q2, q3, q4, kP, hkP, hkPi⟩ := Cond.selects_spec hsel
  cases hcls.symm.trans q1
  cases (State.methodFound?_of_named hnamed hy).symm.trans q2
  cases hnamed.symm.trans q3
  have hselP : selectMethod e.platform s.vm cellB.cls mk = .method mk := by rw [Launch.admits_selectMethod X.admits]; exact q4
  obtain ⟨vm₁, X₁, hstep₁⟩ := X.invokevirtual hexec hown hlink hnamed hmethM hstM hkP hkPi hy (a := b) (cell := cellB) hcell
    (fun z h => by rw [h] at hobj; cases hobj) hselP hmethM habM hkP hkPi (g := g) hg (argsL := argsL) (rest := rest) (hlen _ hsigM) hstack hdg
  rcases hK m meth c ⟨T.setVm vm₁, locs, cells, slots⟩ { g with stack := rest } (.invokevirtual index) mk (Value.ref b :: argsL).toArray X₁ hg hsize hdg hW (X₁.named hnamed) (hpre vm₁ X₁.warmed) with ⟨v, B, X', hpost, hsteps⟩ | ⟨q, B, X', hpost, hsteps⟩
  · exact Or.inl ⟨v, vm₁, B, X₁.warmed, X', hpost, fun target h => hstep₁ _ fun acts => by rw [doInvoke_state]; exact hsteps.trans h⟩
  · exact Or.inr ⟨q, vm₁, B, X₁.warmed, X', hpost, hstep₁ _ fun acts => by rw [doInvoke_state]; exact hsteps⟩
theorem vx_callSX (X : Stand p l e R s m args below meth c T locs cells slots) (hexec : p.tables.exec = Jvm.exec) {own : String} {index : Nat} {y : MethodName} {bytes : ByteArray} {maxL : Nat} {ret : Option FieldType} {hh : List (Nat × Nat × Nat × Nat)}
    (hown : s.vm.findClass own = some m.cls) (hlink : (Cond.methodLink own index y).before args s = true) (hstat : (Cond.static y).before args s = true) (hinit : (Cond.initialized y.cls).before args s = true)
    (hcode : (Cond.codeWith y bytes maxL ret hh).before args s = true) (hy : y.cls ≠ "java/lang/invoke/MethodHandle" ∧ y.cls ≠ "java/lang/invoke/VarHandle")
    {W9 : Nat} {Pre : Pt → Array Value → Prop} {Post : Pt → Array Value → Option Value → Pt → Prop} {PostX : Pt → Array Value → Addr → Pt → Prop} (hK : vx_Back l R p e below s args y 3 W9 Pre Post PostX)
    {g : JFrame} (hg : g.method = m) (hsize : g.locals.size = c.maxLocals) {argsL rest : List Value} (hlen : ∀ sig, parseMethodDescriptor y.desc = some sig → argsL.length = sig.parameters.length)
    (hstack : g.stack = argsL.reverse ++ rest) (hW : 2 * g.monitorRoom + (rest.map fun v => v.category).sum ≤ W9) (hdg : decode c.code g.pc = .ok (.invokestatic index, 3))
    (hpre : ∀ vm₁, s.WarmedH vm₁ → Pre ⟨T.setVm vm₁, locs, cells, slots⟩ argsL.toArray) :
    (∃ (v : Option Value) (vm₁ : Vm) (B : Pt), s.WarmedH vm₁ ∧ Stand p l e R s m args below meth c B.U B.locs B.cells B.slots ∧ Post ⟨T.setVm vm₁, locs, cells, slots⟩ argsL.toArray v B ∧
      ∀ target, Steps p.tables e below (B.U.setTop { g with pc := g.pc + 3, stack := v.toList ++ rest }) target → Steps p.tables e below (T.setTop g) target) ∨
    (∃ (q : Addr) (vm₁ : Vm) (B : Pt), s.WarmedH vm₁ ∧ Stand p l e R s m args below meth c B.U B.locs B.cells B.slots ∧ PostX ⟨T.setVm vm₁, locs, cells, slots⟩ argsL.toArray q B ∧
      Steps p.tables e below (T.setTop g) ((B.U.setTop { g with stack := rest }).pushFrame (.throwing q))) := by
  obtain ⟨mk, methM, cM, hnamed, hmethM, -, -, -, -, -, -, hsigM⟩ := Cond.codeWith_spec hcode
  have hstatic : methM.isStatic = true := Cond.static_spec hnamed hmethM hstat
  obtain ⟨kP, hkP, -⟩ := className_of_methodNamed hnamed
  have hinitP : kP.init = .initialized := Cond.initialized_spec (findClass_of_methodNamed hnamed) hkP hinit
  obtain ⟨vm₁, X₁, hstep₁⟩ := X.invokestatic hexec hown hlink hnamed hmethM hstatic hkP hinitP hy (g := g) hg (argsL := argsL) (rest := rest) (hlen _ hsigM) hstack hdg
  rcases hK m meth c ⟨T.setVm vm₁, locs, cells, slots⟩ { g with stack := rest } (.invokestatic index) mk argsL.toArray X₁ hg hsize hdg hW (X₁.named hnamed) (hpre vm₁ X₁.warmed) with ⟨v, B, X', hpost, hsteps⟩ | ⟨q, B, X', hpost, hsteps⟩
  · exact Or.inl ⟨v, vm₁, B, X₁.warmed, X', hpost, fun target h => hstep₁ _ fun acts => by rw [doInvoke_state]; exact hsteps.trans h⟩
  · exact Or.inr ⟨q, vm₁, B, X₁.warmed, X', hpost, hstep₁ _ fun acts => by rw [doInvoke_state]; exact hsteps⟩
theorem vx_callVW (X : Stand p l e R s m args below meth c T locs cells slots) (hexec : p.tables.exec = Jvm.exec) {own C : String} {index : Nat} {y : MethodName} {bytes : ByteArray} {maxL : Nat} {ret : Option FieldType} {hh : List (Nat × Nat × Nat × Nat)}
    (hown : s.vm.findClass own = some m.cls) (hlink : (Cond.methodLink own index y).before args s = true) (hinst : (Cond.instanceMethod y).before args s = true) (hsel : (Cond.selects C y y).before args s = true)
    (hcode : (Cond.codeWith y bytes maxL ret hh).before args s = true) (hy : y.cls ≠ "java/lang/invoke/MethodHandle" ∧ y.cls ≠ "java/lang/invoke/VarHandle")
    {W9 : Nat} {Pre : Pt → Array Value → Prop} {Post : Pt → Array Value → Option Value → Pt → Prop} (hK : Back l R p e below s args y 3 W9 Pre Post)
    {b : Addr} {cellB : Cell} (hcell : T.heap[b]? = some cellB) (hobj : cellB.vm.isStatics = false) (hcls : s.vm.findClass C = some cellB.cls)
    {g : JFrame} (hg : g.method = m) (hsize : g.locals.size = c.maxLocals) {argsL rest : List Value} (hlen : ∀ sig, parseMethodDescriptor y.desc = some sig → argsL.length = sig.parameters.length)
    (hstack : g.stack = argsL.reverse ++ .ref b :: rest) (hW : 2 * g.monitorRoom + (rest.map fun v => v.category).sum ≤ W9) (hdg : decode c.code g.pc = .ok (.invokevirtual index, 3))
    (hpre : ∀ vm₁, s.WarmedH vm₁ → Pre ⟨T.setVm vm₁, locs, cells, slots⟩ (Value.ref b :: argsL).toArray) :
    ∃ (v : Option Value) (vm₁ : Vm) (B : Pt), s.WarmedH vm₁ ∧ Stand p l e R s m args below meth c B.U B.locs B.cells B.slots ∧ Post ⟨T.setVm vm₁, locs, cells, slots⟩ (Value.ref b :: argsL).toArray v B ∧
      ∀ target, Steps p.tables e below (B.U.setTop { g with pc := g.pc + 3, stack := v.toList ++ rest }) target → Steps p.tables e below (T.setTop g) target := by
  obtain ⟨mk, methM, hnamed, hmethM, hstM, habM⟩ := Cond.instanceMethod_spec hinst
  obtain ⟨m8, methM', cM, hn8, hmethM', -, -, -, -, -, -, hsigM⟩ := Cond.codeWith_spec hcode
  cases Option.some.inj (hn8.symm.trans hnamed)
  cases hmethM.symm.trans hmethM'
  obtain ⟨c2, r2, m2, q1, q2, q3, q4, kP, hkP, hkPi⟩ := Cond.selects_spec hsel
  cases hcls.symm.trans q1
  cases (State.methodFound?_of_named hnamed hy).symm.trans q2
  cases hnamed.symm.trans q3
  have hselP : selectMethod e.platform s.vm cellB.cls mk = .method mk := by rw [Launch.admits_selectMethod X.admits]; exact q4
  obtain ⟨vm₁, X₁, hstep₁⟩ := X.invokevirtual hexec hown hlink hnamed hmethM hstM hkP hkPi hy (a := b) (cell := cellB) hcell
    (fun z h => by rw [h] at hobj; cases hobj) hselP hmethM habM hkP hkPi (g := g) hg (argsL := argsL) (rest := rest) (hlen _ hsigM) hstack hdg
  obtain ⟨v, B, X', hpost, hsteps⟩ := hK m meth c ⟨T.setVm vm₁, locs, cells, slots⟩ { g with stack := rest } (.invokevirtual index) mk (Value.ref b :: argsL).toArray X₁ hg hsize hdg hW (X₁.named hnamed) (hpre vm₁ X₁.warmed)
  exact ⟨v, vm₁, B, X₁.warmed, X', hpost, fun target h => hstep₁ _ fun acts => by rw [doInvoke_state]; exact hsteps.trans h⟩
abbrev vx_CVW (R : Room) (s : State) (args : Array Value) (own C : String) (index : Nat) (y : MethodName) (bytes : ByteArray) (maxL : Nat) (ret : Option FieldType) (hh : List (Nat × Nat × Nat × Nat)) (ws : List Cond) (rm : Room) (mc ms n : Nat) : Prop :=
  (rm.cells = mc ∧ rm.slots = ms ∧ rm.frames + 1 ≤ R.frames ∧ 8 + (maxL + 11) + rm.locals ≤ R.locals ∧ (∀ w ∈ ws, ∀ (a' : Array Value) (U : State), s.WarmedH U.vm → w.before a' U = true) ∧ Cond.codeWith y bytes maxL ret hh ∈ ws) ∧
  (Cond.codeWith y bytes maxL ret hh).before args s = true ∧ (Cond.initialized y.cls).before args s = true ∧ (y.cls ≠ "java/lang/invoke/MethodHandle" ∧ y.cls ≠ "java/lang/invoke/VarHandle") ∧
  (∀ sig, parseMethodDescriptor y.desc = some sig → n = sig.parameters.length) ∧ (Cond.methodLink own index y).before args s = true ∧ (Cond.instanceMethod y).before args s = true ∧ (Cond.selects C y y).before args s = true
theorem vx_cwVW {own C : String} {index maxL mc ms : Nat} {y : MethodName} {bytes : ByteArray} {ret : Option FieldType} {hh : List (Nat × Nat × Nat × Nat)} {Ts ws ws' : List Cond} {rm : Room} (n : Nat) (ht : ∀ w ∈ Ts, w.before args s = true) (hT : GoodIn Ts (wsV own index C y ws)) (hw : ws = Cond.codeWith y bytes maxL ret hh :: ws') (hrc : rm.cells = mc) (hrs : rm.slots = ms)
    (hd : y.cls = C ∧ y.cls ≠ "java/lang/invoke/MethodHandle" ∧ y.cls ≠ "java/lang/invoke/VarHandle" ∧ (parseMethodDescriptor y.desc).map (fun d => d.parameters.length) = some n) (hR : rm.frames + 1 ≤ R.frames ∧ 8 + (maxL + 11) + rm.locals ≤ R.locals) :
    vx_CVW R s args own C index y bytes maxL ret hh ws rm mc ms n := by
  obtain ⟨hC, hd⟩ := hd
  subst hC
  have ok : ∀ w ∈ wsV own index y.cls y ws, w.before args s = true := fun w h => ht w (hT w h).1
  have hG : GoodIn Ts ws := fun w h => hT w (by unfold wsV; exact List.mem_append_right _ h)
  have hc : Cond.codeWith y bytes maxL ret hh ∈ ws := by rw [hw]; exact List.mem_cons_self
  refine ⟨⟨hrc, hrs, hR.1, hR.2, pay_in ht hG, hc⟩, ht _ (hG _ hc).1, ok _ (by simp [wsV]), ⟨hd.1, hd.2.1⟩, fun sig h => ?_, ok _ (by simp [wsV]), ok _ (by simp [wsV]), ok _ (by simp [wsV])⟩
  have h2 := hd.2.2
  rw [h] at h2
  exact (Option.some.inj h2).symm
theorem vx_runVW {y : MethodName} {bytes cc : ByteArray} {maxL nL mc ms n index : Nat} {ret : Option FieldType} {hh : List (Nat × Nat × Nat × Nat)} {ws : List Cond} {rm : Room} {Pc : Array Value → State → Prop} {Qc : Array Value → State → Outcome → State → Prop} {free : Addr → Prop} {Ts : List Cond} {own C : String} {b : Addr} {As rest : List Value} {g : JFrame}
    (S : CallFix p m c cc nL s args Ts own) (hM : Met l y ws rm Pc Qc mc ms free) (cw : vx_CVW R s args own C index y bytes maxL ret hh ws rm mc ms n) (hp : PreV s H C b Pc As)
    (hg : g.method = m) (hn : As.length = n) (hsize : g.locals.size = nL) (hstack : g.stack = As.reverse ++ .ref b :: rest) (hW : 2 * g.monitorRoom + (rest.map fun v => v.category).sum ≤ 8) (hdg : decode cc g.pc = .ok (.invokevirtual index, 3)) (hf : cells + mc ≤ R.cells ∧ slots + ms ≤ R.slots) :
    va_Run p l e R s m args below meth c H locs cells slots mc ms g rest (Qc (Value.ref b :: As).toArray) free := by
  obtain ⟨⟨hrc, hrs, hfr, hlo, hws, hcw⟩, hcode, hini, hy, hlen, hl, hin, hse⟩ := cw
  have hK : Back l R p e below s args y 3 8 (PreOf R mc ms Pc) (PostOf Qc mc ms free) := va_backW (hh := hh) (bytes := bytes) (maxL := maxL) (ret := ret) hM hp.1 hrc hrs hfr hlo hws hcw (fun a' U hW => word_at hW (Or.inl (by first | rfl | simp [Cond.onTables, Cond.keeps, Cond.steady])) hini)
  obtain ⟨hx, hb, hml, ho, -⟩ := S
  obtain ⟨-, ⟨cellB, hcB, hoB, hclB⟩, hPc⟩ := hp
  intro T hT X
  obtain ⟨v, vm₁, ⟨U', l2, c2, s2⟩, hW₁, X', ⟨g', mk, t, L, e1, e2, hq, h1, hL, h2, h3⟩, st⟩ := vx_callVW X hx (C := C) (hh := hh) (bytes := bytes) (maxL := maxL) (ret := ret) ho hl hin hse hcode hy hK (by rw [hT]; exact hcB) hoB hclB hg (hsize.trans hml.symm) (argsL := As) (rest := rest) (fun sig h => hn.trans (hlen sig h)) hstack hW (by rw [hb]; exact hdg)
    (fun vm₁ hW₁ => ⟨hf.1, hf.2, hPc (T.setVm vm₁) hT hW₁⟩)
  dsimp only [Pt.U, Pt.locs, Pt.cells, Pt.slots] at X' e1 e2 h1 h2 h3 st
  subst h1; subst h2; subst h3
  exact ⟨v, (T.setVm vm₁).calling g' mk (Value.ref b :: As).toArray, t, U', L, hT, X', hL, e1, e2, hq, st⟩
section
variable {y : MethodName} {bytes cc : ByteArray} {maxL nL mc ms n index : Nat} {ret : Option FieldType} {ws : List Cond} {rm : Room} {Pc : Array Value → State → Prop} {Qc : Array Value → State → Outcome → State → Prop} {XC : String → State → State → Prop} {free : Addr → Prop} {Ts : List Cond} {own C : String} {b : Addr} {As rest : List Value} {g : JFrame}
theorem vx_runVX {hh : List (Nat × Nat × Nat × Nat)} (S : CallFix p m c cc nL s args Ts own) (hM : vx_Met l y ws rm Pc Qc XC mc ms free) (cw : vx_CVW R s args own C index y bytes maxL ret hh ws rm mc ms n) (hp : PreV s H C b Pc As)
    (hg : g.method = m) (hn : As.length = n) (hsize : g.locals.size = nL) (hstack : g.stack = As.reverse ++ .ref b :: rest) (hW : 2 * g.monitorRoom + (rest.map fun v => v.category).sum ≤ 8) (hdg : decode cc g.pc = .ok (.invokevirtual index, 3)) (hf : cells + mc ≤ R.cells ∧ slots + ms ≤ R.slots) :
    vx_Run p l e R s m args below meth c H locs cells slots mc ms g rest (Qc (Value.ref b :: As).toArray) XC free := by
  obtain ⟨⟨hrc, hrs, hfr, hlo, hws, hcw⟩, hcode, hini, hy, hlen, hl, hin, hse⟩ := cw
  have hK : vx_Back l R p e below s args y 3 8 (PreOf R mc ms Pc) (PostOf Qc mc ms free) (vx_Post XC mc ms free) := vx_backW (hh := hh) (bytes := bytes) (maxL := maxL) (ret := ret) hM hp.1 hrc hrs hfr hlo hws hcw (fun a' U hW => word_at hW (Or.inl (by first | rfl | simp [Cond.onTables, Cond.keeps, Cond.steady])) hini)
  obtain ⟨hx, hb, hml, ho, -⟩ := S
  obtain ⟨-, ⟨cellB, hcB, hoB, hclB⟩, hPc⟩ := hp
  intro T hT X
  rcases vx_callVX X hx (C := C) (hh := hh) (bytes := bytes) (maxL := maxL) (ret := ret) ho hl hin hse hcode hy hK (by rw [hT]; exact hcB) hoB hclB hg (hsize.trans hml.symm) (argsL := As) (rest := rest) (fun sig h => hn.trans (hlen sig h)) hstack hW (by rw [hb]; exact hdg)
    (fun vm₁ hW₁ => ⟨hf.1, hf.2, hPc (T.setVm vm₁) hT hW₁⟩) with ⟨v, vm₁, ⟨U', l2, c2, s2⟩, hW₁, X', ⟨g', mk, t, L, e1, e2, hq, h1, hL, h2, h3⟩, st⟩ | ⟨q, vm₁, ⟨U', l2, c2, s2⟩, hW₁, X', ⟨g', mk, t, L, E, ce, e1, e2, hq, hce, hcv, hcl, h1, hL, h2, h3⟩, st⟩
  · dsimp only [Pt.U, Pt.locs, Pt.cells, Pt.slots] at X' e1 e2 h1 h2 h3 st
    subst h1; subst h2; subst h3
    exact Or.inl ⟨v, (T.setVm vm₁).calling g' mk (Value.ref b :: As).toArray, t, U', L, hT, X', hL, e1, e2, hq, st⟩
  · dsimp only [Pt.U, Pt.locs, Pt.cells, Pt.slots] at X' e1 e2 h1 h2 h3 st hcl
    subst h1; subst h2; subst h3
    exact Or.inr ⟨q, (T.setVm vm₁).calling g' mk (Value.ref b :: As).toArray, t, U', L, E, ce, hT, X', hL, e1, e2, hq, hce, hcv, vx_cls hW₁ hcl, st⟩
theorem vx_runSX {hh : List (Nat × Nat × Nat × Nat)} (S : CallFix p m c cc nL s args Ts own) (hM : vx_Met l y ws rm Pc Qc XC mc ms free) (cw : vx_CSW R s args own index y bytes maxL ret hh ws rm mc ms n) (hp : PreS s H Pc As)
    (hg : g.method = m) (hn : As.length = n) (hsize : g.locals.size = nL) (hstack : g.stack = As.reverse ++ rest) (hW : 2 * g.monitorRoom + (rest.map fun v => v.category).sum ≤ 8) (hdg : decode cc g.pc = .ok (.invokestatic index, 3)) (hf : cells + mc ≤ R.cells ∧ slots + ms ≤ R.slots) :
    vx_Run p l e R s m args below meth c H locs cells slots mc ms g rest (Qc As.toArray) XC free := by
  obtain ⟨⟨hrc, hrs, hfr, hlo, hws, hcw⟩, hcode, hini, hy, hlen, hl, hstt⟩ := cw
  have hK : vx_Back l R p e below s args y 3 8 (PreOf R mc ms Pc) (PostOf Qc mc ms free) (vx_Post XC mc ms free) := vx_backW (hh := hh) (bytes := bytes) (maxL := maxL) (ret := ret) hM hp.1 hrc hrs hfr hlo hws hcw (fun a' U hW => word_at hW (Or.inl (by first | rfl | simp [Cond.onTables, Cond.keeps, Cond.steady])) hini)
  obtain ⟨hx, hb, hml, ho, -⟩ := S
  intro T hT X
  rcases vx_callSX X hx (hh := hh) (bytes := bytes) (maxL := maxL) (ret := ret) ho hl hstt hini hcode hy hK hg (hsize.trans hml.symm) (argsL := As) (rest := rest) (fun sig h => hn.trans (hlen sig h)) hstack hW (by rw [hb]; exact hdg)
    (fun vm₁ hW₁ => ⟨hf.1, hf.2, hp.2 (T.setVm vm₁) hT hW₁⟩) with ⟨v, vm₁, ⟨U', l2, c2, s2⟩, hW₁, X', ⟨g', mk, t, L, e1, e2, hq, h1, hL, h2, h3⟩, st⟩ | ⟨q, vm₁, ⟨U', l2, c2, s2⟩, hW₁, X', ⟨g', mk, t, L, E, ce, e1, e2, hq, hce, hcv, hcl, h1, hL, h2, h3⟩, st⟩
  · dsimp only [Pt.U, Pt.locs, Pt.cells, Pt.slots] at X' e1 e2 h1 h2 h3 st
    subst h1; subst h2; subst h3
    exact Or.inl ⟨v, (T.setVm vm₁).calling g' mk As.toArray, t, U', L, hT, X', hL, e1, e2, hq, st⟩
  · dsimp only [Pt.U, Pt.locs, Pt.cells, Pt.slots] at X' e1 e2 h1 h2 h3 st hcl
    subst h1; subst h2; subst h3
    exact Or.inr ⟨q, (T.setVm vm₁).calling g' mk As.toArray, t, U', L, E, ce, hT, X', hL, e1, e2, hq, hce, hcv, vx_cls hW₁ hcl, st⟩
end
end VXH
theorem vx_ofWH {l : Launch} {y : MethodName} {ws ws' : List Cond} {rm : Room} {Pc : Array Value → State → Prop} {Qc : Array Value → State → Outcome → State → Prop} {XC : String → State → State → Prop} {mc ms : Nat} {free : Addr → Prop} {cc : ByteArray} {maxL : Nat} {ret : Option FieldType} {hh : List (Nat × Nat × Nat × Nat)}
    (hy : plainName y.cls = true) (hw : ws = Cond.codeWith y cc maxL ret hh :: ws')
    (body : ∀ p e s m args below meth c s₁, BodyLoose p l y (headSpec ws rm) cc maxL ret e s m args below meth c s₁ → c.maxLocals = maxL → Pc args s →
      W p l e (headSpec ws rm).room s m args below meth c s.heap [] 0 0 (vx_MQ below Qc XC args s mc ms free) (entryFrame m args maxL)) : vx_Met l y ws rm Pc Qc XC mc ms free := by
  refine MetFree.of_bodyS (code := cc) (maxLocals := maxL) (ret := ret) hy ?_ ?_
  · intro args s m h hn
    obtain ⟨m9, meth, c, hn9, h1, h2, h3, h4, -, h5, h6, -⟩ := Cond.codeWith_spec (atoms_spec (ws := ws) h _ (by rw [hw]; exact List.mem_cons_self))
    cases hn.symm.trans hn9
    exact ⟨meth, c, h1, h2, h3, h4, h5, h6⟩
  · intro p e s m args below meth c s₁ B hml hP _
    have hh0 : s₁.heap = s.heap := by rw [B.state]; rfl
    obtain ⟨t, a1, o, b1, b2, b3⟩ := body p e s m args below meth c s₁ B hml hP s₁ hh0 (Stand.of_body B)
    exact ⟨t, o, a1, b1, b2, b3⟩
/-! ===== END ===== -/
end
section
/-! ===== BEGIN printed: names, fields, word lists, decode rows ===== -/
def RX0 : String := "CableBook$Marks"
def TX0 : u_T := fun k => match k with
  | _ => ("CableBook$Marks", "marked", "[Z", true)
def tyX0 : Nat → FieldType := fun k => match k with
  | _ => .array .boolean
abbrev wsX00 : List Cond := u_ws RX0 TX0 1
theorem nmX0 : ∀ a, a < 1 → ∀ b, b < 1 → a ≠ b → (TX0 a).2.1 ≠ (TX0 b).2.1 := by decide +kernel
theorem tyX0_ok : ∀ k, k < 1 → parseFieldDescriptor (TX0 k).2.2.1 = some (tyX0 k) := by decide +kernel
abbrev cX0_init : ByteArray := prog_2_method_1_code
def yX0_init : MethodName := ⟨RX0, "<init>", "(I)V"⟩
abbrev cX0_has : ByteArray := prog_2_method_2_code
def yX0_has : MethodName := ⟨RX0, "has", "(I)Z"⟩
abbrev cX0_set : ByteArray := prog_2_method_3_code
def yX0_set : MethodName := ⟨RX0, "set", "(IZ)V"⟩
abbrev cX0_clear : ByteArray := prog_2_method_4_code
def yX0_clear : MethodName := ⟨RX0, "clear", "()V"⟩
def RX1 : String := "CableBook$Plan"
def TX1 : u_T := fun k => match k with
  | 0 => ("CableBook$Plan", "count", "I", false)
  | 1 => ("CableBook$Plan", "sources", "LCableBook$Row;", true)
  | 2 => ("CableBook$Plan", "targets", "LCableBook$Row;", true)
  | 3 => ("CableBook$Plan", "others", "LCableBook$Row;", true)
  | _ => ("CableBook$Plan", "colours", "LCableBook$Row;", true)
def tyX1 : Nat → FieldType := fun k => match k with
  | 0 => .int
  | 1 => .object "CableBook$Row"
  | 2 => .object "CableBook$Row"
  | 3 => .object "CableBook$Row"
  | _ => .object "CableBook$Row"
abbrev wsX10 : List Cond := u_ws RX1 TX1 5
theorem nmX1 : ∀ a, a < 5 → ∀ b, b < 5 → a ≠ b → (TX1 a).2.1 ≠ (TX1 b).2.1 := by decide +kernel
theorem tyX1_ok : ∀ k, k < 5 → parseFieldDescriptor (TX1 k).2.2.1 = some (tyX1 k) := by decide +kernel
abbrev cX1_init : ByteArray := prog_3_method_1_code
def yX1_init : MethodName := ⟨RX1, "<init>", "()V"⟩
abbrev cX1_size : ByteArray := prog_3_method_2_code
def yX1_size : MethodName := ⟨RX1, "size", "()I"⟩
abbrev cX1_from : ByteArray := prog_3_method_3_code
def yX1_from : MethodName := ⟨RX1, "from", "(I)I"⟩
abbrev cX1_to : ByteArray := prog_3_method_4_code
def yX1_to : MethodName := ⟨RX1, "to", "(I)I"⟩
abbrev cX1_add : ByteArray := prog_3_method_5_code
def yX1_add : MethodName := ⟨RX1, "add", "(II)V"⟩
abbrev cX1_clear : ByteArray := prog_3_method_6_code
def yX1_clear : MethodName := ⟨RX1, "clear", "()V"⟩
abbrev cX1_repeatsEarlier : ByteArray := prog_3_method_7_code
def yX1_repeatsEarlier : MethodName := ⟨RX1, "repeatsEarlier", "(I)Z"⟩
abbrev cX1_pulls : ByteArray := prog_3_method_8_code
def yX1_pulls : MethodName := ⟨RX1, "pulls", "(I)Z"⟩
abbrev cX1_placeAfterwards : ByteArray := prog_3_method_9_code
def yX1_placeAfterwards : MethodName := ⟨RX1, "placeAfterwards", "(I)I"⟩
abbrev cX1_keepCable : ByteArray := prog_3_method_10_code
def yX1_keepCable : MethodName := ⟨RX1, "keepCable", "(III)V"⟩
abbrev cX1_keptOther : ByteArray := prog_3_method_11_code
def yX1_keptOther : MethodName := ⟨RX1, "keptOther", "(I)I"⟩
abbrev cX1_keptColour : ByteArray := prog_3_method_12_code
def yX1_keptColour : MethodName := ⟨RX1, "keptColour", "(I)I"⟩
def RX2 : String := "CableBook$Row"
def TX2 : u_T := fun k => match k with
  | 0 => ("CableBook$Row", "values", "[I", true)
  | _ => ("CableBook$Row", "blank", "I", true)
def tyX2 : Nat → FieldType := fun k => match k with
  | 0 => .array .int
  | _ => .int
abbrev wsX20 : List Cond := u_ws RX2 TX2 2
theorem nmX2 : ∀ a, a < 2 → ∀ b, b < 2 → a ≠ b → (TX2 a).2.1 ≠ (TX2 b).2.1 := by decide +kernel
theorem tyX2_ok : ∀ k, k < 2 → parseFieldDescriptor (TX2 k).2.2.1 = some (tyX2 k) := by decide +kernel
abbrev cX2_init : ByteArray := prog_4_method_1_code
def yX2_init : MethodName := ⟨RX2, "<init>", "(II)V"⟩
abbrev cX2_at : ByteArray := prog_4_method_2_code
def yX2_at : MethodName := ⟨RX2, "at", "(I)I"⟩
abbrev cX2_put : ByteArray := prog_4_method_3_code
def yX2_put : MethodName := ⟨RX2, "put", "(II)V"⟩
def RX3 : String := "CableBook"
def TX3 : u_T := fun k => match k with
  | 0 => ("CableBook", "panelCount", "I", false)
  | 1 => ("CableBook", "rackOf", "LCableBook$Row;", true)
  | 2 => ("CableBook", "firstPortOf", "LCableBook$Row;", true)
  | 3 => ("CableBook", "portCountOf", "LCableBook$Row;", true)
  | 4 => ("CableBook", "portCount", "I", false)
  | 5 => ("CableBook", "panelAt", "LCableBook$Row;", true)
  | 6 => ("CableBook", "cableTo", "LCableBook$Row;", true)
  | 7 => ("CableBook", "colourAt", "LCableBook$Row;", true)
  | 8 => ("CableBook", "strandTo", "LCableBook$Row;", true)
  | 9 => ("CableBook", "trunkAt", "LCableBook$Row;", true)
  | 10 => ("CableBook", "brokenAt", "LCableBook$Marks;", true)
  | 11 => ("CableBook", "trunkCount", "I", false)
  | 12 => ("CableBook", "trunkStart", "LCableBook$Row;", true)
  | 13 => ("CableBook", "strandCountOf", "LCableBook$Row;", true)
  | 14 => ("CableBook", "trunkLength", "LCableBook$Row;", true)
  | 15 => ("CableBook", "plan", "LCableBook$Plan;", true)
  | 16 => ("CableBook", "trail", "LCableBook$Row;", true)
  | 17 => ("CableBook", "queue", "LCableBook$Row;", true)
  | _ => ("CableBook", "found", "LCableBook$Marks;", true)
def tyX3 : Nat → FieldType := fun k => match k with
  | 0 => .int
  | 1 => .object "CableBook$Row"
  | 2 => .object "CableBook$Row"
  | 3 => .object "CableBook$Row"
  | 4 => .int
  | 5 => .object "CableBook$Row"
  | 6 => .object "CableBook$Row"
  | 7 => .object "CableBook$Row"
  | 8 => .object "CableBook$Row"
  | 9 => .object "CableBook$Row"
  | 10 => .object "CableBook$Marks"
  | 11 => .int
  | 12 => .object "CableBook$Row"
  | 13 => .object "CableBook$Row"
  | 14 => .object "CableBook$Row"
  | 15 => .object "CableBook$Plan"
  | 16 => .object "CableBook$Row"
  | 17 => .object "CableBook$Row"
  | _ => .object "CableBook$Marks"
abbrev wsX30 : List Cond := u_ws RX3 TX3 19
theorem nmX3 : ∀ a, a < 19 → ∀ b, b < 19 → a ≠ b → (TX3 a).2.1 ≠ (TX3 b).2.1 := by decide +kernel
theorem tyX3_ok : ∀ k, k < 19 → parseFieldDescriptor (TX3 k).2.2.1 = some (tyX3 k) := by decide +kernel
abbrev cX3_init : ByteArray := prog_1_method_1_code
def yX3_init : MethodName := ⟨RX3, "<init>", "()V"⟩
abbrev cX3_addPanel : ByteArray := prog_1_method_2_code
def yX3_addPanel : MethodName := ⟨RX3, "addPanel", "(II)I"⟩
abbrev cX3_addTrunk : ByteArray := prog_1_method_3_code
def yX3_addTrunk : MethodName := ⟨RX3, "addTrunk", "(IIII)I"⟩
abbrev cX3_setBroken : ByteArray := prog_1_method_4_code
def yX3_setBroken : MethodName := ⟨RX3, "setBroken", "(IIZ)Z"⟩
abbrev cX3_plug : ByteArray := prog_1_method_5_code
def yX3_plug : MethodName := ⟨RX3, "plug", "(III)I"⟩
abbrev cX3_pull : ByteArray := prog_1_method_6_code
def yX3_pull : MethodName := ⟨RX3, "pull", "(I)I"⟩
abbrev cX3_addMove : ByteArray := prog_1_method_7_code
def yX3_addMove : MethodName := ⟨RX3, "addMove", "(II)I"⟩
abbrev cX3_dropPlan : ByteArray := prog_1_method_8_code
def yX3_dropPlan : MethodName := ⟨RX3, "dropPlan", "()I"⟩
abbrev cX3_carryOut : ByteArray := prog_1_method_9_code
def yX3_carryOut : MethodName := ⟨RX3, "carryOut", "()I"⟩
abbrev cX3_ports : ByteArray := prog_1_method_10_code
def yX3_ports : MethodName := ⟨RX3, "ports", "()I"⟩
abbrev cX3_trunks : ByteArray := prog_1_method_11_code
def yX3_trunks : MethodName := ⟨RX3, "trunks", "()I"⟩
abbrev cX3_cables : ByteArray := prog_1_method_12_code
def yX3_cables : MethodName := ⟨RX3, "cables", "()I"⟩
abbrev cX3_panelOf : ByteArray := prog_1_method_13_code
def yX3_panelOf : MethodName := ⟨RX3, "panelOf", "(I)I"⟩
abbrev cX3_byCable : ByteArray := prog_1_method_14_code
def yX3_byCable : MethodName := ⟨RX3, "byCable", "(I)I"⟩
abbrev cX3_byStrand : ByteArray := prog_1_method_15_code
def yX3_byStrand : MethodName := ⟨RX3, "byStrand", "(I)I"⟩
abbrev cX3_colour : ByteArray := prog_1_method_16_code
def yX3_colour : MethodName := ⟨RX3, "colour", "(I)I"⟩
abbrev cX3_end : ByteArray := prog_1_method_17_code
def yX3_end : MethodName := ⟨RX3, "end", "(IZ)I"⟩
abbrev cX3_hops : ByteArray := prog_1_method_18_code
def yX3_hops : MethodName := ⟨RX3, "hops", "(IZ)I"⟩
abbrev cX3_hopTo : ByteArray := prog_1_method_19_code
def yX3_hopTo : MethodName := ⟨RX3, "hopTo", "(IZI)I"⟩
abbrev cX3_lengthOf : ByteArray := prog_1_method_20_code
def yX3_lengthOf : MethodName := ⟨RX3, "lengthOf", "(IZ)I"⟩
abbrev cX3_isRing : ByteArray := prog_1_method_21_code
def yX3_isRing : MethodName := ⟨RX3, "isRing", "(I)Z"⟩
abbrev cX3_areJoined : ByteArray := prog_1_method_22_code
def yX3_areJoined : MethodName := ⟨RX3, "areJoined", "(II)Z"⟩
abbrev cX3_areJoinedBySearch : ByteArray := prog_1_method_23_code
def yX3_areJoinedBySearch : MethodName := ⟨RX3, "areJoinedBySearch", "(II)Z"⟩
abbrev cX3_lines : ByteArray := prog_1_method_24_code
def yX3_lines : MethodName := ⟨RX3, "lines", "()I"⟩
abbrev cX3_freePort : ByteArray := prog_1_method_25_code
def yX3_freePort : MethodName := ⟨RX3, "freePort", "(I)I"⟩
abbrev cX3_freeStrand : ByteArray := prog_1_method_26_code
def yX3_freeStrand : MethodName := ⟨RX3, "freeStrand", "(II)I"⟩
abbrev cX3_used : ByteArray := prog_1_method_27_code
def yX3_used : MethodName := ⟨RX3, "used", "(I)I"⟩
abbrev cX3_canCarryOut : ByteArray := prog_1_method_28_code
def yX3_canCarryOut : MethodName := ⟨RX3, "canCarryOut", "()Z"⟩
abbrev cX3_cableLength : ByteArray := prog_1_method_29_code
def yX3_cableLength : MethodName := ⟨RX3, "cableLength", "()I"⟩
abbrev cX3_isWithin : ByteArray := prog_1_method_30_code
def yX3_isWithin : MethodName := ⟨RX3, "isWithin", "(III)Z"⟩
abbrev cX3_checkPort : ByteArray := prog_1_method_31_code
def yX3_checkPort : MethodName := ⟨RX3, "checkPort", "(I)V"⟩
abbrev cX3_checkPanel : ByteArray := prog_1_method_32_code
def yX3_checkPanel : MethodName := ⟨RX3, "checkPanel", "(I)V"⟩
abbrev cX3_checkTrunk : ByteArray := prog_1_method_33_code
def yX3_checkTrunk : MethodName := ⟨RX3, "checkTrunk", "(I)V"⟩
abbrev cX3_portsFrom : ByteArray := prog_1_method_34_code
def yX3_portsFrom : MethodName := ⟨RX3, "portsFrom", "(I)I"⟩
abbrev cX3_hasStrand : ByteArray := prog_1_method_35_code
def yX3_hasStrand : MethodName := ⟨RX3, "hasStrand", "(I)Z"⟩
abbrev cX3_anyStrand : ByteArray := prog_1_method_36_code
def yX3_anyStrand : MethodName := ⟨RX3, "anyStrand", "(II)Z"⟩
abbrev cX3_joinByStrand : ByteArray := prog_1_method_37_code
def yX3_joinByStrand : MethodName := ⟨RX3, "joinByStrand", "(III)V"⟩
abbrev cX3_openStrandFrom : ByteArray := prog_1_method_38_code
def yX3_openStrandFrom : MethodName := ⟨RX3, "openStrandFrom", "(I)I"⟩
abbrev cX3_hasCable : ByteArray := prog_1_method_39_code
def yX3_hasCable : MethodName := ⟨RX3, "hasCable", "(I)Z"⟩
abbrev cX3_isLowerEnd : ByteArray := prog_1_method_40_code
def yX3_isLowerEnd : MethodName := ⟨RX3, "isLowerEnd", "(I)Z"⟩
abbrev cX3_joinByCable : ByteArray := prog_1_method_41_code
def yX3_joinByCable : MethodName := ⟨RX3, "joinByCable", "(III)V"⟩
abbrev cX3_clearCable : ByteArray := prog_1_method_42_code
def yX3_clearCable : MethodName := ⟨RX3, "clearCable", "(I)V"⟩
abbrev cX3_lengthBetween : ByteArray := prog_1_method_43_code
def yX3_lengthBetween : MethodName := ⟨RX3, "lengthBetween", "(II)I"⟩
abbrev cX3_planIsPossible : ByteArray := prog_1_method_44_code
def yX3_planIsPossible : MethodName := ⟨RX3, "planIsPossible", "()Z"⟩
abbrev cX3_staysTaken : ByteArray := prog_1_method_45_code
def yX3_staysTaken : MethodName := ⟨RX3, "staysTaken", "(I)Z"⟩
abbrev cX3_pullPlannedEnds : ByteArray := prog_1_method_46_code
def yX3_pullPlannedEnds : MethodName := ⟨RX3, "pullPlannedEnds", "()V"⟩
abbrev cX3_plugPlannedEnds : ByteArray := prog_1_method_47_code
def yX3_plugPlannedEnds : MethodName := ⟨RX3, "plugPlannedEnds", "()V"⟩
abbrev cX3_trace : ByteArray := prog_1_method_48_code
def yX3_trace : MethodName := ⟨RX3, "trace", "(IZ)I"⟩
abbrev cX3_endOfTrail : ByteArray := prog_1_method_49_code
def yX3_endOfTrail : MethodName := ⟨RX3, "endOfTrail", "(II)I"⟩
abbrev cX3_isOnTrail : ByteArray := prog_1_method_50_code
def yX3_isOnTrail : MethodName := ⟨RX3, "isOnTrail", "(II)Z"⟩
abbrev cX3_markTrail : ByteArray := prog_1_method_51_code
def yX3_markTrail : MethodName := ⟨RX3, "markTrail", "(I)V"⟩
abbrev cX3_searchFrom : ByteArray := prog_1_method_52_code
def yX3_searchFrom : MethodName := ⟨RX3, "searchFrom", "(I)V"⟩
abbrev cX3_reach : ByteArray := prog_1_method_53_code
def yX3_reach : MethodName := ⟨RX3, "reach", "(II)I"⟩
def RX4 : String := "CableBookModel"
def TX4 : u_T := fun k => match k with
  | 0 => ("CableBookModel", "thrown", "I", false)
  | 1 => ("CableBookModel", "panels", "I", false)
  | 2 => ("CableBookModel", "ports", "I", false)
  | 3 => ("CableBookModel", "trunks", "I", false)
  | 4 => ("CableBookModel", "moves", "I", false)
  | 5 => ("CableBookModel", "racks", "[I", true)
  | 6 => ("CableBookModel", "firsts", "[I", true)
  | 7 => ("CableBookModel", "cables", "[I", true)
  | 8 => ("CableBookModel", "colours", "[I", true)
  | 9 => ("CableBookModel", "strands", "[I", true)
  | 10 => ("CableBookModel", "trunksOf", "[I", true)
  | 11 => ("CableBookModel", "areBroken", "[Z", true)
  | 12 => ("CableBookModel", "trunkFrom", "[I", true)
  | 13 => ("CableBookModel", "trunkTo", "[I", true)
  | 14 => ("CableBookModel", "trunkStrands", "[I", true)
  | 15 => ("CableBookModel", "trunkLengths", "[I", true)
  | 16 => ("CableBookModel", "from", "[I", true)
  | 17 => ("CableBookModel", "to", "[I", true)
  | 18 => ("CableBookModel", "newCables", "[I", true)
  | 19 => ("CableBookModel", "newColours", "[I", true)
  | 20 => ("CableBookModel", "hops", "[I", true)
  | 21 => ("CableBookModel", "hopCount", "I", false)
  | 22 => ("CableBookModel", "hopLength", "I", false)
  | _ => ("CableBookModel", "lineOf", "[I", true)
def tyX4 : Nat → FieldType := fun k => match k with
  | 0 => .int
  | 1 => .int
  | 2 => .int
  | 3 => .int
  | 4 => .int
  | 5 => .array .int
  | 6 => .array .int
  | 7 => .array .int
  | 8 => .array .int
  | 9 => .array .int
  | 10 => .array .int
  | 11 => .array .boolean
  | 12 => .array .int
  | 13 => .array .int
  | 14 => .array .int
  | 15 => .array .int
  | 16 => .array .int
  | 17 => .array .int
  | 18 => .array .int
  | 19 => .array .int
  | 20 => .array .int
  | 21 => .int
  | 22 => .int
  | _ => .array .int
abbrev wsX40 : List Cond := u_ws RX4 TX4 24
theorem nmX4 : ∀ a, a < 24 → ∀ b, b < 24 → a ≠ b → (TX4 a).2.1 ≠ (TX4 b).2.1 := by decide +kernel
theorem tyX4_ok : ∀ k, k < 24 → parseFieldDescriptor (TX4 k).2.2.1 = some (tyX4 k) := by decide +kernel
abbrev cX4_init : ByteArray := prog_6_method_1_code
def yX4_init : MethodName := ⟨RX4, "<init>", "()V"⟩
abbrev cX4_thrown : ByteArray := prog_6_method_2_code
def yX4_thrown : MethodName := ⟨RX4, "thrown", "()I"⟩
abbrev cX4_holds : ByteArray := prog_6_method_3_code
def yX4_holds : MethodName := ⟨RX4, "holds", "(I)Z"⟩
abbrev cX4_in : ByteArray := prog_6_method_4_code
def yX4_in : MethodName := ⟨RX4, "in", "(III)Z"⟩
abbrev cX4_isPort : ByteArray := prog_6_method_5_code
def yX4_isPort : MethodName := ⟨RX4, "isPort", "(I)Z"⟩
abbrev cX4_arePorts : ByteArray := prog_6_method_6_code
def yX4_arePorts : MethodName := ⟨RX4, "arePorts", "(II)Z"⟩
abbrev cX4_panel : ByteArray := prog_6_method_7_code
def yX4_panel : MethodName := ⟨RX4, "panel", "(I)I"⟩
abbrev cX4_addPanel : ByteArray := prog_6_method_8_code
def yX4_addPanel : MethodName := ⟨RX4, "addPanel", "(II)I"⟩
abbrev cX4_isBehind : ByteArray := prog_6_method_9_code
def yX4_isBehind : MethodName := ⟨RX4, "isBehind", "(II)Z"⟩
abbrev cX4_errorOfTrunk : ByteArray := prog_6_method_10_code
def yX4_errorOfTrunk : MethodName := ⟨RX4, "errorOfTrunk", "(IIII)I"⟩
abbrev cX4_addTrunk : ByteArray := prog_6_method_11_code
def yX4_addTrunk : MethodName := ⟨RX4, "addTrunk", "(IIII)I"⟩
abbrev cX4_joins : ByteArray := prog_6_method_12_code
def yX4_joins : MethodName := ⟨RX4, "joins", "(II)V"⟩
abbrev cX4_isTrunk : ByteArray := prog_6_method_13_code
def yX4_isTrunk : MethodName := ⟨RX4, "isTrunk", "(I)Z"⟩
abbrev cX4_setBroken : ByteArray := prog_6_method_14_code
def yX4_setBroken : MethodName := ⟨RX4, "setBroken", "(IIZ)Z"⟩
abbrev cX4_length : ByteArray := prog_6_method_15_code
def yX4_length : MethodName := ⟨RX4, "length", "(II)I"⟩
abbrev cX4_plug : ByteArray := prog_6_method_16_code
def yX4_plug : MethodName := ⟨RX4, "plug", "(III)I"⟩
abbrev cX4_pull : ByteArray := prog_6_method_17_code
def yX4_pull : MethodName := ⟨RX4, "pull", "(I)I"⟩
abbrev cX4_addMove : ByteArray := prog_6_method_18_code
def yX4_addMove : MethodName := ⟨RX4, "addMove", "(II)I"⟩
abbrev cX4_dropPlan : ByteArray := prog_6_method_19_code
def yX4_dropPlan : MethodName := ⟨RX4, "dropPlan", "()I"⟩
abbrev cX4_moved : ByteArray := prog_6_method_20_code
def yX4_moved : MethodName := ⟨RX4, "moved", "(I)I"⟩
abbrev cX4_areUnlike : ByteArray := prog_6_method_21_code
def yX4_areUnlike : MethodName := ⟨RX4, "areUnlike", "([I)Z"⟩
abbrev cX4_lays : ByteArray := prog_6_method_22_code
def yX4_lays : MethodName := ⟨RX4, "lays", "()Z"⟩
abbrev cX4_carryOut : ByteArray := prog_6_method_23_code
def yX4_carryOut : MethodName := ⟨RX4, "carryOut", "()I"⟩
abbrev cX4_ports : ByteArray := prog_6_method_24_code
def yX4_ports : MethodName := ⟨RX4, "ports", "()I"⟩
abbrev cX4_trunks : ByteArray := prog_6_method_25_code
def yX4_trunks : MethodName := ⟨RX4, "trunks", "()I"⟩
abbrev cX4_cables : ByteArray := prog_6_method_26_code
def yX4_cables : MethodName := ⟨RX4, "cables", "()I"⟩
abbrev cX4_panelOf : ByteArray := prog_6_method_27_code
def yX4_panelOf : MethodName := ⟨RX4, "panelOf", "(I)I"⟩
abbrev cX4_byCable : ByteArray := prog_6_method_28_code
def yX4_byCable : MethodName := ⟨RX4, "byCable", "(I)I"⟩
abbrev cX4_byStrand : ByteArray := prog_6_method_29_code
def yX4_byStrand : MethodName := ⟨RX4, "byStrand", "(I)I"⟩
abbrev cX4_colour : ByteArray := prog_6_method_30_code
def yX4_colour : MethodName := ⟨RX4, "colour", "(I)I"⟩
abbrev cX4_next : ByteArray := prog_6_method_31_code
def yX4_next : MethodName := ⟨RX4, "next", "(IZ)I"⟩
abbrev cX4_goes : ByteArray := prog_6_method_32_code
def yX4_goes : MethodName := ⟨RX4, "goes", "(IZ)I"⟩
abbrev cX4_end : ByteArray := prog_6_method_33_code
def yX4_end : MethodName := ⟨RX4, "end", "(IZ)I"⟩
abbrev cX4_hops : ByteArray := prog_6_method_34_code
def yX4_hops : MethodName := ⟨RX4, "hops", "(IZ)I"⟩
abbrev cX4_hopTo : ByteArray := prog_6_method_35_code
def yX4_hopTo : MethodName := ⟨RX4, "hopTo", "(IZI)I"⟩
abbrev cX4_lengthOf : ByteArray := prog_6_method_36_code
def yX4_lengthOf : MethodName := ⟨RX4, "lengthOf", "(IZ)I"⟩
abbrev cX4_isRing : ByteArray := prog_6_method_37_code
def yX4_isRing : MethodName := ⟨RX4, "isRing", "(I)Z"⟩
abbrev cX4_isMet : ByteArray := prog_6_method_38_code
def yX4_isMet : MethodName := ⟨RX4, "isMet", "(IIZ)Z"⟩
abbrev cX4_isOnLine : ByteArray := prog_6_method_39_code
def yX4_isOnLine : MethodName := ⟨RX4, "isOnLine", "(II)Z"⟩
abbrev cX4_areJoined : ByteArray := prog_6_method_40_code
def yX4_areJoined : MethodName := ⟨RX4, "areJoined", "(II)Z"⟩
abbrev cX4_searches : ByteArray := prog_6_method_41_code
def yX4_searches : MethodName := ⟨RX4, "searches", "()V"⟩
abbrev cX4_areJoinedBySearch : ByteArray := prog_6_method_42_code
def yX4_areJoinedBySearch : MethodName := ⟨RX4, "areJoinedBySearch", "(II)Z"⟩
abbrev cX4_lines : ByteArray := prog_6_method_43_code
def yX4_lines : MethodName := ⟨RX4, "lines", "()I"⟩
abbrev cX4_isPanel : ByteArray := prog_6_method_44_code
def yX4_isPanel : MethodName := ⟨RX4, "isPanel", "(I)Z"⟩
abbrev cX4_freePort : ByteArray := prog_6_method_45_code
def yX4_freePort : MethodName := ⟨RX4, "freePort", "(I)I"⟩
abbrev cX4_freeStrand : ByteArray := prog_6_method_46_code
def yX4_freeStrand : MethodName := ⟨RX4, "freeStrand", "(II)I"⟩
abbrev cX4_used : ByteArray := prog_6_method_47_code
def yX4_used : MethodName := ⟨RX4, "used", "(I)I"⟩
abbrev cX4_canCarryOut : ByteArray := prog_6_method_48_code
def yX4_canCarryOut : MethodName := ⟨RX4, "canCarryOut", "()Z"⟩
abbrev cX4_cableLength : ByteArray := prog_6_method_49_code
def yX4_cableLength : MethodName := ⟨RX4, "cableLength", "()I"⟩
def RJ9 : String := "java/lang/Math"
def TJ9 : u_T := fun k => match k with
  | _ => ("", "", "", false)
def tyJ9 : Nat → FieldType := fun k => match k with
  | _ => .int
abbrev wsJ90 : List Cond := u_ws RJ9 TJ9 0
theorem nmJ9 : ∀ a, a < 0 → ∀ b, b < 0 → a ≠ b → (TJ9 a).2.1 ≠ (TJ9 b).2.1 := by decide +kernel
theorem tyJ9_ok : ∀ k, k < 0 → parseFieldDescriptor (TJ9 k).2.2.1 = some (tyJ9 k) := by decide +kernel
abbrev cJ9_abs_0f7a4 : ByteArray := prog_11_method_59_code
def yJ9_abs_0f7a4 : MethodName := ⟨RJ9, "abs", "(I)I"⟩
abbrev cJ9_max_7cf53 : ByteArray := prog_11_method_65_code
def yJ9_max_7cf53 : MethodName := ⟨RJ9, "max", "(II)I"⟩
def RJ0 : String := "java/lang/String"
def TJ0 : u_T := fun k => match k with
  | _ => ("", "", "", false)
def tyJ0 : Nat → FieldType := fun k => match k with
  | _ => .int
abbrev wsJ00 : List Cond := u_ws RJ0 TJ0 0
theorem nmJ0 : ∀ a, a < 0 → ∀ b, b < 0 → a ≠ b → (TJ0 a).2.1 ≠ (TJ0 b).2.1 := by decide +kernel
theorem tyJ0_ok : ∀ k, k < 0 → parseFieldDescriptor (TJ0 k).2.2.1 = some (tyJ0 k) := by decide +kernel
def RL : String := "CableBookLaw"
abbrev cL_addPanel : ByteArray := method_3_code
def yL_addPanel : MethodName := ⟨RL, "addPanel", "(LCableBook;II[J)I"⟩
abbrev cL_addTrunk : ByteArray := method_4_code
def yL_addTrunk : MethodName := ⟨RL, "addTrunk", "(LCableBook;IIII[J)I"⟩
abbrev cL_setBroken : ByteArray := method_5_code
def yL_setBroken : MethodName := ⟨RL, "setBroken", "(LCableBook;IIZ[J)I"⟩
abbrev cL_plug : ByteArray := method_6_code
def yL_plug : MethodName := ⟨RL, "plug", "(LCableBook;III[J)I"⟩
abbrev cL_pull : ByteArray := method_7_code
def yL_pull : MethodName := ⟨RL, "pull", "(LCableBook;I[J)I"⟩
abbrev cL_addMove : ByteArray := method_8_code
def yL_addMove : MethodName := ⟨RL, "addMove", "(LCableBook;II[J)I"⟩
abbrev cL_carryOut : ByteArray := method_9_code
def yL_carryOut : MethodName := ⟨RL, "carryOut", "(LCableBook;[J)I"⟩
abbrev cL_panelOf : ByteArray := method_10_code
def yL_panelOf : MethodName := ⟨RL, "panelOf", "(LCableBook;I[J)I"⟩
abbrev cL_byCable : ByteArray := method_11_code
def yL_byCable : MethodName := ⟨RL, "byCable", "(LCableBook;I[J)I"⟩
abbrev cL_byStrand : ByteArray := method_12_code
def yL_byStrand : MethodName := ⟨RL, "byStrand", "(LCableBook;I[J)I"⟩
abbrev cL_colour : ByteArray := method_13_code
def yL_colour : MethodName := ⟨RL, "colour", "(LCableBook;I[J)I"⟩
abbrev cL_end : ByteArray := method_14_code
def yL_end : MethodName := ⟨RL, "end", "(LCableBook;IZ[J)I"⟩
abbrev cL_hops : ByteArray := method_15_code
def yL_hops : MethodName := ⟨RL, "hops", "(LCableBook;IZ[J)I"⟩
abbrev cL_hopTo : ByteArray := method_16_code
def yL_hopTo : MethodName := ⟨RL, "hopTo", "(LCableBook;IZI[J)I"⟩
abbrev cL_lengthOf : ByteArray := method_17_code
def yL_lengthOf : MethodName := ⟨RL, "lengthOf", "(LCableBook;IZ[J)I"⟩
abbrev cL_isRing : ByteArray := method_18_code
def yL_isRing : MethodName := ⟨RL, "isRing", "(LCableBook;I[J)I"⟩
abbrev cL_areJoined : ByteArray := method_19_code
def yL_areJoined : MethodName := ⟨RL, "areJoined", "(LCableBook;II[J)I"⟩
abbrev cL_areJoinedBySearch : ByteArray := method_20_code
def yL_areJoinedBySearch : MethodName := ⟨RL, "areJoinedBySearch", "(LCableBook;II[J)I"⟩
abbrev cL_freePort : ByteArray := method_21_code
def yL_freePort : MethodName := ⟨RL, "freePort", "(LCableBook;I[J)I"⟩
abbrev cL_freeStrand : ByteArray := method_22_code
def yL_freeStrand : MethodName := ⟨RL, "freeStrand", "(LCableBook;II[J)I"⟩
abbrev cL_used : ByteArray := method_23_code
def yL_used : MethodName := ⟨RL, "used", "(LCableBook;I[J)I"⟩
abbrev cL_law : ByteArray := code
def yL_law : MethodName := ⟨RL, "law", "([I)Z"⟩
def wsX0_init : List Cond := .code yX0_init cX0_init 2 none :: ([.methodLink RX0 1 objectInit, .instanceMethod objectInit, .code objectInit ⟨#[0xb1]⟩ 1 none, .methodLink RX0 7 Lib.Math.max.name, .static Lib.Math.max.name, .initialized "java/lang/Math", .code Lib.Math.max.name Lib.Math.max.code 2 (some .int), .arrayClass .boolean, .fieldLink RX0 13 "CableBook$Marks" "marked" "[Z"] ++ wsX00)
def wsX0_has : List Cond := .code yX0_has cX0_has 2 (some .boolean) :: ([.fieldLink RX0 13 "CableBook$Marks" "marked" "[Z"] ++ wsX00)
def wsX0_set : List Cond := .code yX0_set cX0_set 3 none :: ([.fieldLink RX0 13 "CableBook$Marks" "marked" "[Z"] ++ wsX00)
def wsX0_clear : List Cond := .code yX0_clear cX0_clear 2 none :: ([.fieldLink RX0 13 "CableBook$Marks" "marked" "[Z"] ++ wsX00)
def wsX2_init : List Cond := .code yX2_init cX2_init 4 none :: ([.methodLink RX2 1 objectInit, .instanceMethod objectInit, .code objectInit ⟨#[0xb1]⟩ 1 none, .methodLink RX2 7 Lib.Math.max.name, .static Lib.Math.max.name, .initialized "java/lang/Math", .code Lib.Math.max.name Lib.Math.max.code 2 (some .int), .arrayClass .int, .fieldLink RX2 13 "CableBook$Row" "values" "[I", .fieldLink RX2 19 "CableBook$Row" "blank" "I"] ++ wsX20)
def wsX1_init : List Cond := .code yX1_init cX1_init 1 none :: ([.methodLink RX1 3 objectInit, .instanceMethod objectInit, .code objectInit ⟨#[0xb1]⟩ 1 none, .classLink RX1 9 RX2, .instantiable RX2 2, .initialized RX2, .fieldLink RX1 14 "CableBook$Plan" "sources" "LCableBook$Row;", .fieldLink RX1 20 "CableBook$Plan" "targets" "LCableBook$Row;", .fieldLink RX1 23 "CableBook$Plan" "others" "LCableBook$Row;", .fieldLink RX1 26 "CableBook$Plan" "colours" "LCableBook$Row;", .methodLink RX1 11 yX2_init, .instanceMethod yX2_init, .code yX2_init cX2_init 4 none, .methodLink RX2 1 objectInit, .methodLink RX2 7 Lib.Math.max.name, .static Lib.Math.max.name, .initialized "java/lang/Math", .code Lib.Math.max.name Lib.Math.max.code 2 (some .int), .arrayClass .int, .fieldLink RX2 13 "CableBook$Row" "values" "[I", .fieldLink RX2 19 "CableBook$Row" "blank" "I"] ++ wsX20 ++ wsX10)
def wsX1_size : List Cond := .code yX1_size cX1_size 1 (some .int) :: ([.fieldLink RX1 29 "CableBook$Plan" "count" "I"] ++ wsX10)
def wsX2_at : List Cond := .code yX2_at cX2_at 2 (some .int) :: ([.fieldLink RX2 13 "CableBook$Row" "values" "[I", .fieldLink RX2 19 "CableBook$Row" "blank" "I"] ++ wsX20)
def wsX1_from : List Cond := .code yX1_from cX1_from 2 (some .int) :: ([.fieldLink RX1 14 "CableBook$Plan" "sources" "LCableBook$Row;", .methodLink RX1 33 yX2_at, .instanceMethod yX2_at, .selects RX2 yX2_at yX2_at, .initialized RX2, .code yX2_at cX2_at 2 (some .int), .fieldLink RX2 13 "CableBook$Row" "values" "[I", .fieldLink RX2 19 "CableBook$Row" "blank" "I"] ++ wsX10 ++ wsX20)
def wsX1_to : List Cond := .code yX1_to cX1_to 2 (some .int) :: ([.fieldLink RX1 20 "CableBook$Plan" "targets" "LCableBook$Row;", .methodLink RX1 33 yX2_at, .instanceMethod yX2_at, .selects RX2 yX2_at yX2_at, .initialized RX2, .code yX2_at cX2_at 2 (some .int), .fieldLink RX2 13 "CableBook$Row" "values" "[I", .fieldLink RX2 19 "CableBook$Row" "blank" "I"] ++ wsX10 ++ wsX20)
def wsX2_put : List Cond := .code yX2_put cX2_put 3 none :: ([.fieldLink RX2 13 "CableBook$Row" "values" "[I"] ++ wsX20)
def wsX1_add : List Cond := .code yX1_add cX1_add 3 none :: ([.fieldLink RX1 29 "CableBook$Plan" "count" "I", .fieldLink RX1 14 "CableBook$Plan" "sources" "LCableBook$Row;", .fieldLink RX1 20 "CableBook$Plan" "targets" "LCableBook$Row;", .methodLink RX1 37 yX2_put, .instanceMethod yX2_put, .selects RX2 yX2_put yX2_put, .initialized RX2, .code yX2_put cX2_put 3 none, .fieldLink RX2 13 "CableBook$Row" "values" "[I"] ++ wsX10 ++ wsX20)
def wsX1_clear : List Cond := .code yX1_clear cX1_clear 1 none :: ([.fieldLink RX1 29 "CableBook$Plan" "count" "I"] ++ wsX10)
def wsX1_repeatsEarlier : List Cond := .code yX1_repeatsEarlier cX1_repeatsEarlier 3 (some .boolean) :: ([.methodLink RX1 40 yX1_from, .instanceMethod yX1_from, .selects RX1 yX1_from yX1_from, .initialized RX1, .code yX1_from cX1_from 2 (some .int), .fieldLink RX1 14 "CableBook$Plan" "sources" "LCableBook$Row;", .methodLink RX1 33 yX2_at, .instanceMethod yX2_at, .selects RX2 yX2_at yX2_at, .initialized RX2, .code yX2_at cX2_at 2 (some .int), .fieldLink RX2 13 "CableBook$Row" "values" "[I", .fieldLink RX2 19 "CableBook$Row" "blank" "I", .methodLink RX1 43 yX1_to, .instanceMethod yX1_to, .selects RX1 yX1_to yX1_to, .code yX1_to cX1_to 2 (some .int), .fieldLink RX1 20 "CableBook$Plan" "targets" "LCableBook$Row;"] ++ wsX10 ++ wsX20)
def wsX1_pulls : List Cond := .code yX1_pulls cX1_pulls 3 (some .boolean) :: ([.fieldLink RX1 29 "CableBook$Plan" "count" "I", .methodLink RX1 40 yX1_from, .instanceMethod yX1_from, .selects RX1 yX1_from yX1_from, .initialized RX1, .code yX1_from cX1_from 2 (some .int), .fieldLink RX1 14 "CableBook$Plan" "sources" "LCableBook$Row;", .methodLink RX1 33 yX2_at, .instanceMethod yX2_at, .selects RX2 yX2_at yX2_at, .initialized RX2, .code yX2_at cX2_at 2 (some .int), .fieldLink RX2 13 "CableBook$Row" "values" "[I", .fieldLink RX2 19 "CableBook$Row" "blank" "I"] ++ wsX10 ++ wsX20)
def wsX1_placeAfterwards : List Cond := .code yX1_placeAfterwards cX1_placeAfterwards 3 (some .int) :: ([.fieldLink RX1 29 "CableBook$Plan" "count" "I", .methodLink RX1 40 yX1_from, .instanceMethod yX1_from, .selects RX1 yX1_from yX1_from, .initialized RX1, .code yX1_from cX1_from 2 (some .int), .fieldLink RX1 14 "CableBook$Plan" "sources" "LCableBook$Row;", .methodLink RX1 33 yX2_at, .instanceMethod yX2_at, .selects RX2 yX2_at yX2_at, .initialized RX2, .code yX2_at cX2_at 2 (some .int), .fieldLink RX2 13 "CableBook$Row" "values" "[I", .fieldLink RX2 19 "CableBook$Row" "blank" "I", .methodLink RX1 43 yX1_to, .instanceMethod yX1_to, .selects RX1 yX1_to yX1_to, .code yX1_to cX1_to 2 (some .int), .fieldLink RX1 20 "CableBook$Plan" "targets" "LCableBook$Row;"] ++ wsX10 ++ wsX20)
def wsX1_keepCable : List Cond := .code yX1_keepCable cX1_keepCable 4 none :: ([.fieldLink RX1 23 "CableBook$Plan" "others" "LCableBook$Row;", .fieldLink RX1 26 "CableBook$Plan" "colours" "LCableBook$Row;", .methodLink RX1 37 yX2_put, .instanceMethod yX2_put, .selects RX2 yX2_put yX2_put, .initialized RX2, .code yX2_put cX2_put 3 none, .fieldLink RX2 13 "CableBook$Row" "values" "[I"] ++ wsX10 ++ wsX20)
def wsX1_keptOther : List Cond := .code yX1_keptOther cX1_keptOther 2 (some .int) :: ([.fieldLink RX1 23 "CableBook$Plan" "others" "LCableBook$Row;", .methodLink RX1 33 yX2_at, .instanceMethod yX2_at, .selects RX2 yX2_at yX2_at, .initialized RX2, .code yX2_at cX2_at 2 (some .int), .fieldLink RX2 13 "CableBook$Row" "values" "[I", .fieldLink RX2 19 "CableBook$Row" "blank" "I"] ++ wsX10 ++ wsX20)
def wsX1_keptColour : List Cond := .code yX1_keptColour cX1_keptColour 2 (some .int) :: ([.fieldLink RX1 26 "CableBook$Plan" "colours" "LCableBook$Row;", .methodLink RX1 33 yX2_at, .instanceMethod yX2_at, .selects RX2 yX2_at yX2_at, .initialized RX2, .code yX2_at cX2_at 2 (some .int), .fieldLink RX2 13 "CableBook$Row" "values" "[I", .fieldLink RX2 19 "CableBook$Row" "blank" "I"] ++ wsX10 ++ wsX20)
def wsX3_init_r1 : List Cond := [Cond.methodLink RX3 1 objectInit, Cond.instanceMethod objectInit, Cond.code objectInit ⟨#[0xb1]⟩ 1 none, Cond.classLink RX3 7 RX2, Cond.instantiable RX2 2, Cond.initialized RX2, Cond.fieldLink RX3 14 "CableBook" "rackOf" "LCableBook$Row;", Cond.fieldLink RX3 18 "CableBook" "firstPortOf" "LCableBook$Row;", Cond.fieldLink RX3 21 "CableBook" "portCountOf" "LCableBook$Row;", Cond.fieldLink RX3 24 "CableBook" "panelAt" "LCableBook$Row;", Cond.fieldLink RX3 27 "CableBook" "cableTo" "LCableBook$Row;", Cond.fieldLink RX3 30 "CableBook" "colourAt" "LCableBook$Row;", Cond.fieldLink RX3 33 "CableBook" "strandTo" "LCableBook$Row;", Cond.fieldLink RX3 36 "CableBook" "trunkAt" "LCableBook$Row;", Cond.classLink RX3 39 RX0, Cond.instantiable RX0 1, Cond.initialized RX0, Cond.fieldLink RX3 44 "CableBook" "brokenAt" "LCableBook$Marks;", Cond.fieldLink RX3 48 "CableBook" "trunkStart" "LCableBook$Row;", Cond.fieldLink RX3 51 "CableBook" "strandCountOf" "LCableBook$Row;", Cond.fieldLink RX3 54 "CableBook" "trunkLength" "LCableBook$Row;", Cond.classLink RX3 57 RX1, Cond.instantiable RX1 5, Cond.initialized RX1]
def wsX3_init_r2 : List Cond := [Cond.fieldLink RX3 60 "CableBook" "plan" "LCableBook$Plan;", Cond.fieldLink RX3 64 "CableBook" "trail" "LCableBook$Row;", Cond.fieldLink RX3 67 "CableBook" "queue" "LCableBook$Row;", Cond.fieldLink RX3 70 "CableBook" "found" "LCableBook$Marks;", Cond.fieldLink RX3 73 "CableBook" "panelCount" "I", Cond.fieldLink RX3 77 "CableBook" "portCount" "I", Cond.fieldLink RX3 80 "CableBook" "trunkCount" "I", Cond.methodLink RX3 11 yX2_init, Cond.instanceMethod yX2_init, Cond.code yX2_init cX2_init 4 none, Cond.methodLink RX2 1 objectInit, Cond.methodLink RX2 7 Lib.Math.max.name, Cond.static Lib.Math.max.name, Cond.initialized "java/lang/Math", Cond.code Lib.Math.max.name Lib.Math.max.code 2 (some .int), Cond.arrayClass .int, Cond.fieldLink RX2 13 "CableBook$Row" "values" "[I", Cond.fieldLink RX2 19 "CableBook$Row" "blank" "I", Cond.methodLink RX3 41 yX0_init, Cond.instanceMethod yX0_init, Cond.code yX0_init cX0_init 2 none, Cond.methodLink RX0 1 objectInit, Cond.methodLink RX0 7 Lib.Math.max.name, Cond.arrayClass .boolean]
def wsX3_init_r3 : List Cond := [Cond.fieldLink RX0 13 "CableBook$Marks" "marked" "[Z", Cond.instanceMethod yX1_init, Cond.code yX1_init cX1_init 1 none, Cond.methodLink RX1 3 objectInit, Cond.classLink RX1 9 RX2, Cond.fieldLink RX1 14 "CableBook$Plan" "sources" "LCableBook$Row;", Cond.fieldLink RX1 20 "CableBook$Plan" "targets" "LCableBook$Row;", Cond.fieldLink RX1 23 "CableBook$Plan" "others" "LCableBook$Row;", Cond.fieldLink RX1 26 "CableBook$Plan" "colours" "LCableBook$Row;", Cond.methodLink RX1 11 yX2_init]
def wsX3_init : List Cond := .code yX3_init cX3_init 1 none :: ((wsX3_init_r1 ++ (wsX3_init_r2 ++ wsX3_init_r3)) ++ wsX20 ++ wsX30 ++ wsX00 ++ wsX10)
def wsX3_isWithin : List Cond := .code yX3_isWithin cX3_isWithin 3 (some .boolean) :: ([])
def wsX3_addPanel : List Cond := .code yX3_addPanel cX3_addPanel 5 (some .int) :: ([.classLink RX3 87 "java/lang/IllegalArgumentException", .initialized "java/lang/IllegalArgumentException", .classLink RX3 94 "java/lang/IllegalStateException", .initialized "java/lang/IllegalStateException", .fieldLink RX3 73 "CableBook" "panelCount" "I", .fieldLink RX3 77 "CableBook" "portCount" "I", .fieldLink RX3 14 "CableBook" "rackOf" "LCableBook$Row;", .fieldLink RX3 18 "CableBook" "firstPortOf" "LCableBook$Row;", .fieldLink RX3 21 "CableBook" "portCountOf" "LCableBook$Row;", .fieldLink RX3 24 "CableBook" "panelAt" "LCableBook$Row;", .methodLink RX3 83 yX3_isWithin, .static yX3_isWithin, .initialized RX3, .code yX3_isWithin cX3_isWithin 3 (some .boolean), .methodLink RX3 99 yX2_put, .instanceMethod yX2_put, .selects RX2 yX2_put yX2_put, .initialized RX2, .code yX2_put cX2_put 3 none, .fieldLink RX2 13 "CableBook$Row" "values" "[I"] ++ wsX30 ++ wsX20 ++ (vx_atS RX3 91 "java/lang/IllegalArgumentException" ["java/lang/RuntimeException", "java/lang/Exception"]).filter goodWord ++ (vx_atS RX3 98 "java/lang/IllegalStateException" ["java/lang/RuntimeException", "java/lang/Exception"]).filter goodWord)
def wsX3_checkPort : List Cond := .code yX3_checkPort cX3_checkPort 2 none :: ([.classLink RX3 133 "java/lang/IndexOutOfBoundsException", .initialized "java/lang/IndexOutOfBoundsException", .fieldLink RX3 77 "CableBook" "portCount" "I", .methodLink RX3 83 yX3_isWithin, .static yX3_isWithin, .initialized RX3, .code yX3_isWithin cX3_isWithin 3 (some .boolean)] ++ wsX30 ++ (vx_atS RX3 137 "java/lang/IndexOutOfBoundsException" ["java/lang/RuntimeException", "java/lang/Exception"]).filter goodWord)
def wsX3_portsFrom : List Cond := .code yX3_portsFrom cX3_portsFrom 3 (some .int) :: ([.fieldLink RX3 24 "CableBook" "panelAt" "LCableBook$Row;", .fieldLink RX3 18 "CableBook" "firstPortOf" "LCableBook$Row;", .fieldLink RX3 21 "CableBook" "portCountOf" "LCableBook$Row;", .methodLink RX3 107 yX2_at, .instanceMethod yX2_at, .selects RX2 yX2_at yX2_at, .initialized RX2, .code yX2_at cX2_at 2 (some .int), .fieldLink RX2 13 "CableBook$Row" "values" "[I", .fieldLink RX2 19 "CableBook$Row" "blank" "I"] ++ wsX30 ++ wsX20)
def wsX3_hasStrand : List Cond := .code yX3_hasStrand cX3_hasStrand 2 (some .boolean) :: ([.fieldLink RX3 33 "CableBook" "strandTo" "LCableBook$Row;", .methodLink RX3 107 yX2_at, .instanceMethod yX2_at, .selects RX2 yX2_at yX2_at, .initialized RX2, .code yX2_at cX2_at 2 (some .int), .fieldLink RX2 13 "CableBook$Row" "values" "[I", .fieldLink RX2 19 "CableBook$Row" "blank" "I"] ++ wsX30 ++ wsX20)
def wsX3_anyStrand : List Cond := .code yX3_anyStrand cX3_anyStrand 4 (some .boolean) :: ([.methodLink RX3 216 yX3_hasStrand, .instanceMethod yX3_hasStrand, .selects RX3 yX3_hasStrand yX3_hasStrand, .initialized RX3, .code yX3_hasStrand cX3_hasStrand 2 (some .boolean), .fieldLink RX3 33 "CableBook" "strandTo" "LCableBook$Row;", .methodLink RX3 107 yX2_at, .instanceMethod yX2_at, .selects RX2 yX2_at yX2_at, .initialized RX2, .code yX2_at cX2_at 2 (some .int), .fieldLink RX2 13 "CableBook$Row" "values" "[I", .fieldLink RX2 19 "CableBook$Row" "blank" "I"] ++ wsX30 ++ wsX20)
def wsX3_joinByStrand : List Cond := .code yX3_joinByStrand cX3_joinByStrand 4 none :: ([.fieldLink RX3 33 "CableBook" "strandTo" "LCableBook$Row;", .fieldLink RX3 36 "CableBook" "trunkAt" "LCableBook$Row;", .methodLink RX3 99 yX2_put, .instanceMethod yX2_put, .selects RX2 yX2_put yX2_put, .initialized RX2, .code yX2_put cX2_put 3 none, .fieldLink RX2 13 "CableBook$Row" "values" "[I"] ++ wsX30 ++ wsX20)
def wsX3_addTrunk_r1 : List Cond := [Cond.classLink RX3 87 "java/lang/IllegalArgumentException", Cond.initialized "java/lang/IllegalArgumentException", Cond.classLink RX3 94 "java/lang/IllegalStateException", Cond.initialized "java/lang/IllegalStateException", Cond.fieldLink RX3 24 "CableBook" "panelAt" "LCableBook$Row;", Cond.fieldLink RX3 80 "CableBook" "trunkCount" "I", Cond.fieldLink RX3 48 "CableBook" "trunkStart" "LCableBook$Row;", Cond.fieldLink RX3 51 "CableBook" "strandCountOf" "LCableBook$Row;", Cond.fieldLink RX3 54 "CableBook" "trunkLength" "LCableBook$Row;", Cond.methodLink RX3 102 yX3_checkPort, Cond.instanceMethod yX3_checkPort, Cond.selects RX3 yX3_checkPort yX3_checkPort, Cond.initialized RX3, Cond.code yX3_checkPort cX3_checkPort 2 none, Cond.classLink RX3 133 "java/lang/IndexOutOfBoundsException", Cond.initialized "java/lang/IndexOutOfBoundsException", Cond.fieldLink RX3 77 "CableBook" "portCount" "I", Cond.methodLink RX3 83 yX3_isWithin, Cond.static yX3_isWithin, Cond.code yX3_isWithin cX3_isWithin 3 (some .boolean), Cond.methodLink RX3 107 yX2_at, Cond.instanceMethod yX2_at, Cond.selects RX2 yX2_at yX2_at, Cond.initialized RX2]
def wsX3_addTrunk_r2 : List Cond := [Cond.code yX2_at cX2_at 2 (some .int), Cond.fieldLink RX2 13 "CableBook$Row" "values" "[I", Cond.fieldLink RX2 19 "CableBook$Row" "blank" "I", Cond.methodLink RX3 113 yX3_portsFrom, Cond.instanceMethod yX3_portsFrom, Cond.selects RX3 yX3_portsFrom yX3_portsFrom, Cond.code yX3_portsFrom cX3_portsFrom 3 (some .int), Cond.fieldLink RX3 18 "CableBook" "firstPortOf" "LCableBook$Row;", Cond.fieldLink RX3 21 "CableBook" "portCountOf" "LCableBook$Row;", Cond.methodLink RX3 120 yX3_anyStrand, Cond.instanceMethod yX3_anyStrand, Cond.selects RX3 yX3_anyStrand yX3_anyStrand, Cond.code yX3_anyStrand cX3_anyStrand 4 (some .boolean), Cond.methodLink RX3 216 yX3_hasStrand, Cond.instanceMethod yX3_hasStrand, Cond.selects RX3 yX3_hasStrand yX3_hasStrand, Cond.code yX3_hasStrand cX3_hasStrand 2 (some .boolean), Cond.fieldLink RX3 33 "CableBook" "strandTo" "LCableBook$Row;", Cond.methodLink RX3 99 yX2_put, Cond.instanceMethod yX2_put, Cond.selects RX2 yX2_put yX2_put, Cond.code yX2_put cX2_put 3 none, Cond.methodLink RX3 126 yX3_joinByStrand, Cond.instanceMethod yX3_joinByStrand]
def wsX3_addTrunk_r3 : List Cond := [Cond.selects RX3 yX3_joinByStrand yX3_joinByStrand, Cond.code yX3_joinByStrand cX3_joinByStrand 4 none, Cond.fieldLink RX3 36 "CableBook" "trunkAt" "LCableBook$Row;"]
def wsX3_addTrunk : List Cond := .code yX3_addTrunk cX3_addTrunk 7 (some .int) :: ((wsX3_addTrunk_r1 ++ (wsX3_addTrunk_r2 ++ wsX3_addTrunk_r3)) ++ wsX30 ++ wsX20 ++ (vx_atS RX3 91 "java/lang/IllegalArgumentException" ["java/lang/RuntimeException", "java/lang/Exception"]).filter goodWord ++ (vx_atS RX3 98 "java/lang/IllegalStateException" ["java/lang/RuntimeException", "java/lang/Exception"]).filter goodWord ++ (vx_atS RX3 137 "java/lang/IndexOutOfBoundsException" ["java/lang/RuntimeException", "java/lang/Exception"]).filter goodWord)
def wsX3_checkTrunk : List Cond := .code yX3_checkTrunk cX3_checkTrunk 2 none :: ([.classLink RX3 133 "java/lang/IndexOutOfBoundsException", .initialized "java/lang/IndexOutOfBoundsException", .fieldLink RX3 80 "CableBook" "trunkCount" "I", .methodLink RX3 83 yX3_isWithin, .static yX3_isWithin, .initialized RX3, .code yX3_isWithin cX3_isWithin 3 (some .boolean)] ++ wsX30 ++ (vx_atS RX3 137 "java/lang/IndexOutOfBoundsException" ["java/lang/RuntimeException", "java/lang/Exception"]).filter goodWord)
def wsX3_setBroken_r1 : List Cond := [Cond.classLink RX3 133 "java/lang/IndexOutOfBoundsException", Cond.initialized "java/lang/IndexOutOfBoundsException", Cond.fieldLink RX3 51 "CableBook" "strandCountOf" "LCableBook$Row;", Cond.fieldLink RX3 48 "CableBook" "trunkStart" "LCableBook$Row;", Cond.fieldLink RX3 44 "CableBook" "brokenAt" "LCableBook$Marks;", Cond.fieldLink RX3 33 "CableBook" "strandTo" "LCableBook$Row;", Cond.methodLink RX3 130 yX3_checkTrunk, Cond.instanceMethod yX3_checkTrunk, Cond.selects RX3 yX3_checkTrunk yX3_checkTrunk, Cond.initialized RX3, Cond.code yX3_checkTrunk cX3_checkTrunk 2 none, Cond.fieldLink RX3 80 "CableBook" "trunkCount" "I", Cond.methodLink RX3 83 yX3_isWithin, Cond.static yX3_isWithin, Cond.code yX3_isWithin cX3_isWithin 3 (some .boolean), Cond.methodLink RX3 107 yX2_at, Cond.instanceMethod yX2_at, Cond.selects RX2 yX2_at yX2_at, Cond.initialized RX2, Cond.code yX2_at cX2_at 2 (some .int), Cond.fieldLink RX2 13 "CableBook$Row" "values" "[I", Cond.fieldLink RX2 19 "CableBook$Row" "blank" "I", Cond.methodLink RX3 138 yX0_has, Cond.instanceMethod yX0_has]
def wsX3_setBroken_r2 : List Cond := [Cond.selects RX0 yX0_has yX0_has, Cond.initialized RX0, Cond.code yX0_has cX0_has 2 (some .boolean), Cond.fieldLink RX0 13 "CableBook$Marks" "marked" "[Z", Cond.methodLink RX3 142 yX0_set, Cond.instanceMethod yX0_set, Cond.selects RX0 yX0_set yX0_set, Cond.code yX0_set cX0_set 3 none]
def wsX3_setBroken : List Cond := .code yX3_setBroken cX3_setBroken 6 (some .boolean) :: ((wsX3_setBroken_r1 ++ wsX3_setBroken_r2) ++ wsX30 ++ wsX20 ++ wsX00 ++ (vx_atS RX3 137 "java/lang/IndexOutOfBoundsException" ["java/lang/RuntimeException", "java/lang/Exception"]).filter goodWord)
def wsX3_hasCable : List Cond := .code yX3_hasCable cX3_hasCable 2 (some .boolean) :: ([.fieldLink RX3 27 "CableBook" "cableTo" "LCableBook$Row;", .methodLink RX3 107 yX2_at, .instanceMethod yX2_at, .selects RX2 yX2_at yX2_at, .initialized RX2, .code yX2_at cX2_at 2 (some .int), .fieldLink RX2 13 "CableBook$Row" "values" "[I", .fieldLink RX2 19 "CableBook$Row" "blank" "I"] ++ wsX30 ++ wsX20)
def wsX3_joinByCable : List Cond := .code yX3_joinByCable cX3_joinByCable 4 none :: ([.fieldLink RX3 27 "CableBook" "cableTo" "LCableBook$Row;", .fieldLink RX3 30 "CableBook" "colourAt" "LCableBook$Row;", .methodLink RX3 99 yX2_put, .instanceMethod yX2_put, .selects RX2 yX2_put yX2_put, .initialized RX2, .code yX2_put cX2_put 3 none, .fieldLink RX2 13 "CableBook$Row" "values" "[I"] ++ wsX30 ++ wsX20)
def wsX3_lengthBetween : List Cond := .code yX3_lengthBetween cX3_lengthBetween 6 (some .int) :: ([.fieldLink RX3 24 "CableBook" "panelAt" "LCableBook$Row;", .fieldLink RX3 14 "CableBook" "rackOf" "LCableBook$Row;", .methodLink RX3 228 Lib.Math.abs.name, .static Lib.Math.abs.name, .initialized "java/lang/Math", .code Lib.Math.abs.name Lib.Math.abs.code 1 (some .int), .methodLink RX3 107 yX2_at, .instanceMethod yX2_at, .selects RX2 yX2_at yX2_at, .initialized RX2, .code yX2_at cX2_at 2 (some .int), .fieldLink RX2 13 "CableBook$Row" "values" "[I", .fieldLink RX2 19 "CableBook$Row" "blank" "I"] ++ wsX30 ++ wsX20)
def wsX3_plug_r1 : List Cond := [Cond.classLink RX3 87 "java/lang/IllegalArgumentException", Cond.initialized "java/lang/IllegalArgumentException", Cond.classLink RX3 94 "java/lang/IllegalStateException", Cond.initialized "java/lang/IllegalStateException", Cond.methodLink RX3 102 yX3_checkPort, Cond.instanceMethod yX3_checkPort, Cond.selects RX3 yX3_checkPort yX3_checkPort, Cond.initialized RX3, Cond.code yX3_checkPort cX3_checkPort 2 none, Cond.classLink RX3 133 "java/lang/IndexOutOfBoundsException", Cond.initialized "java/lang/IndexOutOfBoundsException", Cond.fieldLink RX3 77 "CableBook" "portCount" "I", Cond.methodLink RX3 83 yX3_isWithin, Cond.static yX3_isWithin, Cond.code yX3_isWithin cX3_isWithin 3 (some .boolean), Cond.methodLink RX3 148 yX3_hasCable, Cond.instanceMethod yX3_hasCable, Cond.selects RX3 yX3_hasCable yX3_hasCable, Cond.code yX3_hasCable cX3_hasCable 2 (some .boolean), Cond.fieldLink RX3 27 "CableBook" "cableTo" "LCableBook$Row;", Cond.methodLink RX3 107 yX2_at, Cond.instanceMethod yX2_at, Cond.selects RX2 yX2_at yX2_at, Cond.initialized RX2]
def wsX3_plug_r2 : List Cond := [Cond.code yX2_at cX2_at 2 (some .int), Cond.fieldLink RX2 13 "CableBook$Row" "values" "[I", Cond.fieldLink RX2 19 "CableBook$Row" "blank" "I", Cond.methodLink RX3 153 yX3_joinByCable, Cond.instanceMethod yX3_joinByCable, Cond.selects RX3 yX3_joinByCable yX3_joinByCable, Cond.code yX3_joinByCable cX3_joinByCable 4 none, Cond.fieldLink RX3 30 "CableBook" "colourAt" "LCableBook$Row;", Cond.methodLink RX3 99 yX2_put, Cond.instanceMethod yX2_put, Cond.selects RX2 yX2_put yX2_put, Cond.code yX2_put cX2_put 3 none, Cond.methodLink RX3 156 yX3_lengthBetween, Cond.instanceMethod yX3_lengthBetween, Cond.selects RX3 yX3_lengthBetween yX3_lengthBetween, Cond.code yX3_lengthBetween cX3_lengthBetween 6 (some .int), Cond.fieldLink RX3 24 "CableBook" "panelAt" "LCableBook$Row;", Cond.fieldLink RX3 14 "CableBook" "rackOf" "LCableBook$Row;", Cond.methodLink RX3 228 Lib.Math.abs.name, Cond.static Lib.Math.abs.name, Cond.initialized "java/lang/Math", Cond.code Lib.Math.abs.name Lib.Math.abs.code 1 (some .int)]
def wsX3_plug : List Cond := .code yX3_plug cX3_plug 4 (some .int) :: ((wsX3_plug_r1 ++ wsX3_plug_r2) ++ wsX30 ++ wsX20 ++ (vx_atS RX3 91 "java/lang/IllegalArgumentException" ["java/lang/RuntimeException", "java/lang/Exception"]).filter goodWord ++ (vx_atS RX3 98 "java/lang/IllegalStateException" ["java/lang/RuntimeException", "java/lang/Exception"]).filter goodWord ++ (vx_atS RX3 137 "java/lang/IndexOutOfBoundsException" ["java/lang/RuntimeException", "java/lang/Exception"]).filter goodWord)
def wsX3_clearCable : List Cond := .code yX3_clearCable cX3_clearCable 2 none :: ([.fieldLink RX3 27 "CableBook" "cableTo" "LCableBook$Row;", .fieldLink RX3 30 "CableBook" "colourAt" "LCableBook$Row;", .methodLink RX3 99 yX2_put, .instanceMethod yX2_put, .selects RX2 yX2_put yX2_put, .initialized RX2, .code yX2_put cX2_put 3 none, .fieldLink RX2 13 "CableBook$Row" "values" "[I"] ++ wsX30 ++ wsX20)
def wsX3_pull_r1 : List Cond := [Cond.classLink RX3 94 "java/lang/IllegalStateException", Cond.initialized "java/lang/IllegalStateException", Cond.fieldLink RX3 27 "CableBook" "cableTo" "LCableBook$Row;", Cond.methodLink RX3 102 yX3_checkPort, Cond.instanceMethod yX3_checkPort, Cond.selects RX3 yX3_checkPort yX3_checkPort, Cond.initialized RX3, Cond.code yX3_checkPort cX3_checkPort 2 none, Cond.classLink RX3 133 "java/lang/IndexOutOfBoundsException", Cond.initialized "java/lang/IndexOutOfBoundsException", Cond.fieldLink RX3 77 "CableBook" "portCount" "I", Cond.methodLink RX3 83 yX3_isWithin, Cond.static yX3_isWithin, Cond.code yX3_isWithin cX3_isWithin 3 (some .boolean), Cond.methodLink RX3 148 yX3_hasCable, Cond.instanceMethod yX3_hasCable, Cond.selects RX3 yX3_hasCable yX3_hasCable, Cond.code yX3_hasCable cX3_hasCable 2 (some .boolean), Cond.methodLink RX3 107 yX2_at, Cond.instanceMethod yX2_at, Cond.selects RX2 yX2_at yX2_at, Cond.initialized RX2, Cond.code yX2_at cX2_at 2 (some .int), Cond.fieldLink RX2 13 "CableBook$Row" "values" "[I"]
def wsX3_pull_r2 : List Cond := [Cond.fieldLink RX2 19 "CableBook$Row" "blank" "I", Cond.methodLink RX3 162 yX3_clearCable, Cond.instanceMethod yX3_clearCable, Cond.selects RX3 yX3_clearCable yX3_clearCable, Cond.code yX3_clearCable cX3_clearCable 2 none, Cond.fieldLink RX3 30 "CableBook" "colourAt" "LCableBook$Row;", Cond.methodLink RX3 99 yX2_put, Cond.instanceMethod yX2_put, Cond.selects RX2 yX2_put yX2_put, Cond.code yX2_put cX2_put 3 none]
def wsX3_pull : List Cond := .code yX3_pull cX3_pull 3 (some .int) :: ((wsX3_pull_r1 ++ wsX3_pull_r2) ++ wsX30 ++ wsX20 ++ (vx_atS RX3 98 "java/lang/IllegalStateException" ["java/lang/RuntimeException", "java/lang/Exception"]).filter goodWord ++ (vx_atS RX3 137 "java/lang/IndexOutOfBoundsException" ["java/lang/RuntimeException", "java/lang/Exception"]).filter goodWord)
def wsX3_addMove_r1 : List Cond := [Cond.classLink RX3 87 "java/lang/IllegalArgumentException", Cond.initialized "java/lang/IllegalArgumentException", Cond.classLink RX3 94 "java/lang/IllegalStateException", Cond.initialized "java/lang/IllegalStateException", Cond.fieldLink RX3 60 "CableBook" "plan" "LCableBook$Plan;", Cond.methodLink RX3 102 yX3_checkPort, Cond.instanceMethod yX3_checkPort, Cond.selects RX3 yX3_checkPort yX3_checkPort, Cond.initialized RX3, Cond.code yX3_checkPort cX3_checkPort 2 none, Cond.classLink RX3 133 "java/lang/IndexOutOfBoundsException", Cond.initialized "java/lang/IndexOutOfBoundsException", Cond.fieldLink RX3 77 "CableBook" "portCount" "I", Cond.methodLink RX3 83 yX3_isWithin, Cond.static yX3_isWithin, Cond.code yX3_isWithin cX3_isWithin 3 (some .boolean), Cond.methodLink RX3 167 yX1_size, Cond.instanceMethod yX1_size, Cond.selects RX1 yX1_size yX1_size, Cond.initialized RX1, Cond.code yX1_size cX1_size 1 (some .int), Cond.fieldLink RX1 29 "CableBook$Plan" "count" "I", Cond.methodLink RX3 173 yX1_add, Cond.instanceMethod yX1_add]
def wsX3_addMove_r2 : List Cond := [Cond.selects RX1 yX1_add yX1_add, Cond.code yX1_add cX1_add 3 none, Cond.fieldLink RX1 14 "CableBook$Plan" "sources" "LCableBook$Row;", Cond.fieldLink RX1 20 "CableBook$Plan" "targets" "LCableBook$Row;", Cond.methodLink RX1 37 yX2_put, Cond.instanceMethod yX2_put, Cond.selects RX2 yX2_put yX2_put, Cond.initialized RX2, Cond.code yX2_put cX2_put 3 none, Cond.fieldLink RX2 13 "CableBook$Row" "values" "[I"]
def wsX3_addMove : List Cond := .code yX3_addMove cX3_addMove 3 (some .int) :: ((wsX3_addMove_r1 ++ wsX3_addMove_r2) ++ wsX30 ++ wsX10 ++ wsX20 ++ (vx_atS RX3 91 "java/lang/IllegalArgumentException" ["java/lang/RuntimeException", "java/lang/Exception"]).filter goodWord ++ (vx_atS RX3 98 "java/lang/IllegalStateException" ["java/lang/RuntimeException", "java/lang/Exception"]).filter goodWord ++ (vx_atS RX3 137 "java/lang/IndexOutOfBoundsException" ["java/lang/RuntimeException", "java/lang/Exception"]).filter goodWord)
def wsX3_dropPlan : List Cond := .code yX3_dropPlan cX3_dropPlan 2 (some .int) :: ([.fieldLink RX3 60 "CableBook" "plan" "LCableBook$Plan;", .methodLink RX3 167 yX1_size, .instanceMethod yX1_size, .selects RX1 yX1_size yX1_size, .initialized RX1, .code yX1_size cX1_size 1 (some .int), .fieldLink RX1 29 "CableBook$Plan" "count" "I", .methodLink RX3 176 yX1_clear, .instanceMethod yX1_clear, .selects RX1 yX1_clear yX1_clear, .code yX1_clear cX1_clear 1 none] ++ wsX30 ++ wsX10)
def wsX3_staysTaken_r1 : List Cond := [Cond.fieldLink RX3 60 "CableBook" "plan" "LCableBook$Plan;", Cond.methodLink RX3 148 yX3_hasCable, Cond.instanceMethod yX3_hasCable, Cond.selects RX3 yX3_hasCable yX3_hasCable, Cond.initialized RX3, Cond.code yX3_hasCable cX3_hasCable 2 (some .boolean), Cond.fieldLink RX3 27 "CableBook" "cableTo" "LCableBook$Row;", Cond.methodLink RX3 107 yX2_at, Cond.instanceMethod yX2_at, Cond.selects RX2 yX2_at yX2_at, Cond.initialized RX2, Cond.code yX2_at cX2_at 2 (some .int), Cond.fieldLink RX2 13 "CableBook$Row" "values" "[I", Cond.fieldLink RX2 19 "CableBook$Row" "blank" "I", Cond.methodLink RX3 245 yX1_pulls, Cond.instanceMethod yX1_pulls, Cond.selects RX1 yX1_pulls yX1_pulls, Cond.initialized RX1, Cond.code yX1_pulls cX1_pulls 3 (some .boolean), Cond.fieldLink RX1 29 "CableBook$Plan" "count" "I", Cond.methodLink RX1 40 yX1_from, Cond.instanceMethod yX1_from, Cond.selects RX1 yX1_from yX1_from, Cond.code yX1_from cX1_from 2 (some .int)]
def wsX3_staysTaken_r2 : List Cond := [Cond.fieldLink RX1 14 "CableBook$Plan" "sources" "LCableBook$Row;", Cond.methodLink RX1 33 yX2_at]
def wsX3_staysTaken : List Cond := .code yX3_staysTaken cX3_staysTaken 2 (some .boolean) :: ((wsX3_staysTaken_r1 ++ wsX3_staysTaken_r2) ++ wsX30 ++ wsX20 ++ wsX10)
def wsX3_planIsPossible_r1 : List Cond := [Cond.fieldLink RX3 60 "CableBook" "plan" "LCableBook$Plan;", Cond.methodLink RX3 167 yX1_size, Cond.instanceMethod yX1_size, Cond.selects RX1 yX1_size yX1_size, Cond.initialized RX1, Cond.code yX1_size cX1_size 1 (some .int), Cond.fieldLink RX1 29 "CableBook$Plan" "count" "I", Cond.methodLink RX3 233 yX1_from, Cond.instanceMethod yX1_from, Cond.selects RX1 yX1_from yX1_from, Cond.code yX1_from cX1_from 2 (some .int), Cond.fieldLink RX1 14 "CableBook$Plan" "sources" "LCableBook$Row;", Cond.methodLink RX1 33 yX2_at, Cond.instanceMethod yX2_at, Cond.selects RX2 yX2_at yX2_at, Cond.initialized RX2, Cond.code yX2_at cX2_at 2 (some .int), Cond.fieldLink RX2 13 "CableBook$Row" "values" "[I", Cond.fieldLink RX2 19 "CableBook$Row" "blank" "I", Cond.methodLink RX3 148 yX3_hasCable, Cond.instanceMethod yX3_hasCable, Cond.selects RX3 yX3_hasCable yX3_hasCable, Cond.initialized RX3, Cond.code yX3_hasCable cX3_hasCable 2 (some .boolean)]
def wsX3_planIsPossible_r2 : List Cond := [Cond.fieldLink RX3 27 "CableBook" "cableTo" "LCableBook$Row;", Cond.methodLink RX3 107 yX2_at, Cond.methodLink RX3 236 yX1_repeatsEarlier, Cond.instanceMethod yX1_repeatsEarlier, Cond.selects RX1 yX1_repeatsEarlier yX1_repeatsEarlier, Cond.code yX1_repeatsEarlier cX1_repeatsEarlier 3 (some .boolean), Cond.methodLink RX1 40 yX1_from, Cond.methodLink RX1 43 yX1_to, Cond.instanceMethod yX1_to, Cond.selects RX1 yX1_to yX1_to, Cond.code yX1_to cX1_to 2 (some .int), Cond.fieldLink RX1 20 "CableBook$Plan" "targets" "LCableBook$Row;", Cond.methodLink RX3 239 yX1_to, Cond.methodLink RX3 242 yX3_staysTaken, Cond.instanceMethod yX3_staysTaken, Cond.selects RX3 yX3_staysTaken yX3_staysTaken, Cond.code yX3_staysTaken cX3_staysTaken 2 (some .boolean), Cond.methodLink RX3 245 yX1_pulls, Cond.instanceMethod yX1_pulls, Cond.selects RX1 yX1_pulls yX1_pulls, Cond.code yX1_pulls cX1_pulls 3 (some .boolean)]
def wsX3_planIsPossible : List Cond := .code yX3_planIsPossible cX3_planIsPossible 3 (some .boolean) :: ((wsX3_planIsPossible_r1 ++ wsX3_planIsPossible_r2) ++ wsX30 ++ wsX10 ++ wsX20)
def wsX3_pullPlannedEnds_r1 : List Cond := [Cond.fieldLink RX3 60 "CableBook" "plan" "LCableBook$Plan;", Cond.fieldLink RX3 27 "CableBook" "cableTo" "LCableBook$Row;", Cond.fieldLink RX3 30 "CableBook" "colourAt" "LCableBook$Row;", Cond.methodLink RX3 167 yX1_size, Cond.instanceMethod yX1_size, Cond.selects RX1 yX1_size yX1_size, Cond.initialized RX1, Cond.code yX1_size cX1_size 1 (some .int), Cond.fieldLink RX1 29 "CableBook$Plan" "count" "I", Cond.methodLink RX3 233 yX1_from, Cond.instanceMethod yX1_from, Cond.selects RX1 yX1_from yX1_from, Cond.code yX1_from cX1_from 2 (some .int), Cond.fieldLink RX1 14 "CableBook$Plan" "sources" "LCableBook$Row;", Cond.methodLink RX1 33 yX2_at, Cond.instanceMethod yX2_at, Cond.selects RX2 yX2_at yX2_at, Cond.initialized RX2, Cond.code yX2_at cX2_at 2 (some .int), Cond.fieldLink RX2 13 "CableBook$Row" "values" "[I", Cond.fieldLink RX2 19 "CableBook$Row" "blank" "I", Cond.methodLink RX3 107 yX2_at, Cond.methodLink RX3 248 yX1_keepCable, Cond.instanceMethod yX1_keepCable]
def wsX3_pullPlannedEnds_r2 : List Cond := [Cond.selects RX1 yX1_keepCable yX1_keepCable, Cond.code yX1_keepCable cX1_keepCable 4 none, Cond.fieldLink RX1 23 "CableBook$Plan" "others" "LCableBook$Row;", Cond.fieldLink RX1 26 "CableBook$Plan" "colours" "LCableBook$Row;", Cond.methodLink RX1 37 yX2_put, Cond.instanceMethod yX2_put, Cond.selects RX2 yX2_put yX2_put, Cond.code yX2_put cX2_put 3 none, Cond.methodLink RX3 162 yX3_clearCable, Cond.instanceMethod yX3_clearCable, Cond.selects RX3 yX3_clearCable yX3_clearCable, Cond.initialized RX3, Cond.code yX3_clearCable cX3_clearCable 2 none, Cond.methodLink RX3 99 yX2_put]
def wsX3_pullPlannedEnds : List Cond := .code yX3_pullPlannedEnds cX3_pullPlannedEnds 4 none :: ((wsX3_pullPlannedEnds_r1 ++ wsX3_pullPlannedEnds_r2) ++ wsX30 ++ wsX10 ++ wsX20)
def wsX3_plugPlannedEnds_r1 : List Cond := [Cond.fieldLink RX3 60 "CableBook" "plan" "LCableBook$Plan;", Cond.methodLink RX3 167 yX1_size, Cond.instanceMethod yX1_size, Cond.selects RX1 yX1_size yX1_size, Cond.initialized RX1, Cond.code yX1_size cX1_size 1 (some .int), Cond.fieldLink RX1 29 "CableBook$Plan" "count" "I", Cond.methodLink RX3 251 yX1_keptOther, Cond.instanceMethod yX1_keptOther, Cond.selects RX1 yX1_keptOther yX1_keptOther, Cond.code yX1_keptOther cX1_keptOther 2 (some .int), Cond.fieldLink RX1 23 "CableBook$Plan" "others" "LCableBook$Row;", Cond.methodLink RX1 33 yX2_at, Cond.instanceMethod yX2_at, Cond.selects RX2 yX2_at yX2_at, Cond.initialized RX2, Cond.code yX2_at cX2_at 2 (some .int), Cond.fieldLink RX2 13 "CableBook$Row" "values" "[I", Cond.fieldLink RX2 19 "CableBook$Row" "blank" "I", Cond.methodLink RX3 254 yX1_placeAfterwards, Cond.instanceMethod yX1_placeAfterwards, Cond.selects RX1 yX1_placeAfterwards yX1_placeAfterwards, Cond.code yX1_placeAfterwards cX1_placeAfterwards 3 (some .int), Cond.methodLink RX1 40 yX1_from]
def wsX3_plugPlannedEnds_r2 : List Cond := [Cond.instanceMethod yX1_from, Cond.selects RX1 yX1_from yX1_from, Cond.code yX1_from cX1_from 2 (some .int), Cond.fieldLink RX1 14 "CableBook$Plan" "sources" "LCableBook$Row;", Cond.methodLink RX1 43 yX1_to, Cond.instanceMethod yX1_to, Cond.selects RX1 yX1_to yX1_to, Cond.code yX1_to cX1_to 2 (some .int), Cond.fieldLink RX1 20 "CableBook$Plan" "targets" "LCableBook$Row;", Cond.methodLink RX3 239 yX1_to, Cond.methodLink RX3 257 yX1_keptColour, Cond.instanceMethod yX1_keptColour, Cond.selects RX1 yX1_keptColour yX1_keptColour, Cond.code yX1_keptColour cX1_keptColour 2 (some .int), Cond.fieldLink RX1 26 "CableBook$Plan" "colours" "LCableBook$Row;", Cond.methodLink RX3 153 yX3_joinByCable, Cond.instanceMethod yX3_joinByCable, Cond.selects RX3 yX3_joinByCable yX3_joinByCable, Cond.initialized RX3, Cond.code yX3_joinByCable cX3_joinByCable 4 none, Cond.fieldLink RX3 27 "CableBook" "cableTo" "LCableBook$Row;", Cond.fieldLink RX3 30 "CableBook" "colourAt" "LCableBook$Row;", Cond.methodLink RX3 99 yX2_put, Cond.instanceMethod yX2_put]
def wsX3_plugPlannedEnds_r3 : List Cond := [Cond.selects RX2 yX2_put yX2_put, Cond.code yX2_put cX2_put 3 none]
def wsX3_plugPlannedEnds : List Cond := .code yX3_plugPlannedEnds cX3_plugPlannedEnds 4 none :: ((wsX3_plugPlannedEnds_r1 ++ (wsX3_plugPlannedEnds_r2 ++ wsX3_plugPlannedEnds_r3)) ++ wsX30 ++ wsX10 ++ wsX20)
def wsX3_carryOut_r1 : List Cond := [Cond.classLink RX3 94 "java/lang/IllegalStateException", Cond.initialized "java/lang/IllegalStateException", Cond.fieldLink RX3 60 "CableBook" "plan" "LCableBook$Plan;", Cond.methodLink RX3 179 yX3_planIsPossible, Cond.instanceMethod yX3_planIsPossible, Cond.selects RX3 yX3_planIsPossible yX3_planIsPossible, Cond.initialized RX3, Cond.code yX3_planIsPossible cX3_planIsPossible 3 (some .boolean), Cond.methodLink RX3 167 yX1_size, Cond.instanceMethod yX1_size, Cond.selects RX1 yX1_size yX1_size, Cond.initialized RX1, Cond.code yX1_size cX1_size 1 (some .int), Cond.fieldLink RX1 29 "CableBook$Plan" "count" "I", Cond.methodLink RX3 233 yX1_from, Cond.instanceMethod yX1_from, Cond.selects RX1 yX1_from yX1_from, Cond.code yX1_from cX1_from 2 (some .int), Cond.fieldLink RX1 14 "CableBook$Plan" "sources" "LCableBook$Row;", Cond.methodLink RX1 33 yX2_at, Cond.instanceMethod yX2_at, Cond.selects RX2 yX2_at yX2_at, Cond.initialized RX2, Cond.code yX2_at cX2_at 2 (some .int)]
def wsX3_carryOut_r2 : List Cond := [Cond.fieldLink RX2 13 "CableBook$Row" "values" "[I", Cond.fieldLink RX2 19 "CableBook$Row" "blank" "I", Cond.methodLink RX3 148 yX3_hasCable, Cond.instanceMethod yX3_hasCable, Cond.selects RX3 yX3_hasCable yX3_hasCable, Cond.code yX3_hasCable cX3_hasCable 2 (some .boolean), Cond.fieldLink RX3 27 "CableBook" "cableTo" "LCableBook$Row;", Cond.methodLink RX3 107 yX2_at, Cond.methodLink RX3 236 yX1_repeatsEarlier, Cond.instanceMethod yX1_repeatsEarlier, Cond.selects RX1 yX1_repeatsEarlier yX1_repeatsEarlier, Cond.code yX1_repeatsEarlier cX1_repeatsEarlier 3 (some .boolean), Cond.methodLink RX1 40 yX1_from, Cond.methodLink RX1 43 yX1_to, Cond.instanceMethod yX1_to, Cond.selects RX1 yX1_to yX1_to, Cond.code yX1_to cX1_to 2 (some .int), Cond.fieldLink RX1 20 "CableBook$Plan" "targets" "LCableBook$Row;", Cond.methodLink RX3 239 yX1_to, Cond.methodLink RX3 242 yX3_staysTaken, Cond.instanceMethod yX3_staysTaken, Cond.selects RX3 yX3_staysTaken yX3_staysTaken, Cond.code yX3_staysTaken cX3_staysTaken 2 (some .boolean), Cond.methodLink RX3 245 yX1_pulls]
def wsX3_carryOut_r3 : List Cond := [Cond.instanceMethod yX1_pulls, Cond.selects RX1 yX1_pulls yX1_pulls, Cond.code yX1_pulls cX1_pulls 3 (some .boolean), Cond.methodLink RX3 185 yX3_pullPlannedEnds, Cond.instanceMethod yX3_pullPlannedEnds, Cond.selects RX3 yX3_pullPlannedEnds yX3_pullPlannedEnds, Cond.code yX3_pullPlannedEnds cX3_pullPlannedEnds 4 none, Cond.fieldLink RX3 30 "CableBook" "colourAt" "LCableBook$Row;", Cond.methodLink RX3 248 yX1_keepCable, Cond.instanceMethod yX1_keepCable, Cond.selects RX1 yX1_keepCable yX1_keepCable, Cond.code yX1_keepCable cX1_keepCable 4 none, Cond.fieldLink RX1 23 "CableBook$Plan" "others" "LCableBook$Row;", Cond.fieldLink RX1 26 "CableBook$Plan" "colours" "LCableBook$Row;", Cond.methodLink RX1 37 yX2_put, Cond.instanceMethod yX2_put, Cond.selects RX2 yX2_put yX2_put, Cond.code yX2_put cX2_put 3 none, Cond.methodLink RX3 162 yX3_clearCable, Cond.instanceMethod yX3_clearCable, Cond.selects RX3 yX3_clearCable yX3_clearCable, Cond.code yX3_clearCable cX3_clearCable 2 none, Cond.methodLink RX3 99 yX2_put, Cond.methodLink RX3 188 yX3_plugPlannedEnds]
def wsX3_carryOut_r4 : List Cond := [Cond.instanceMethod yX3_plugPlannedEnds, Cond.selects RX3 yX3_plugPlannedEnds yX3_plugPlannedEnds, Cond.code yX3_plugPlannedEnds cX3_plugPlannedEnds 4 none, Cond.methodLink RX3 251 yX1_keptOther, Cond.instanceMethod yX1_keptOther, Cond.selects RX1 yX1_keptOther yX1_keptOther, Cond.code yX1_keptOther cX1_keptOther 2 (some .int), Cond.methodLink RX3 254 yX1_placeAfterwards, Cond.instanceMethod yX1_placeAfterwards, Cond.selects RX1 yX1_placeAfterwards yX1_placeAfterwards, Cond.code yX1_placeAfterwards cX1_placeAfterwards 3 (some .int), Cond.methodLink RX3 257 yX1_keptColour, Cond.instanceMethod yX1_keptColour, Cond.selects RX1 yX1_keptColour yX1_keptColour, Cond.code yX1_keptColour cX1_keptColour 2 (some .int), Cond.methodLink RX3 153 yX3_joinByCable, Cond.instanceMethod yX3_joinByCable, Cond.selects RX3 yX3_joinByCable yX3_joinByCable, Cond.code yX3_joinByCable cX3_joinByCable 4 none, Cond.methodLink RX3 176 yX1_clear, Cond.instanceMethod yX1_clear, Cond.selects RX1 yX1_clear yX1_clear, Cond.code yX1_clear cX1_clear 1 none]
def wsX3_carryOut : List Cond := .code yX3_carryOut cX3_carryOut 2 (some .int) :: ((wsX3_carryOut_r1 ++ (wsX3_carryOut_r2 ++ (wsX3_carryOut_r3 ++ wsX3_carryOut_r4))) ++ wsX30 ++ wsX10 ++ wsX20 ++ (vx_atS RX3 98 "java/lang/IllegalStateException" ["java/lang/RuntimeException", "java/lang/Exception"]).filter goodWord)
def wsX3_ports : List Cond := .code yX3_ports cX3_ports 1 (some .int) :: ([.fieldLink RX3 77 "CableBook" "portCount" "I"] ++ wsX30)
def wsX3_trunks : List Cond := .code yX3_trunks cX3_trunks 1 (some .int) :: ([.fieldLink RX3 80 "CableBook" "trunkCount" "I"] ++ wsX30)
def wsX3_isLowerEnd : List Cond := .code yX3_isLowerEnd cX3_isLowerEnd 2 (some .boolean) :: ([.fieldLink RX3 27 "CableBook" "cableTo" "LCableBook$Row;", .methodLink RX3 107 yX2_at, .instanceMethod yX2_at, .selects RX2 yX2_at yX2_at, .initialized RX2, .code yX2_at cX2_at 2 (some .int), .fieldLink RX2 13 "CableBook$Row" "values" "[I", .fieldLink RX2 19 "CableBook$Row" "blank" "I"] ++ wsX30 ++ wsX20)
def wsX3_cables : List Cond := .code yX3_cables cX3_cables 3 (some .int) :: ([.fieldLink RX3 77 "CableBook" "portCount" "I", .methodLink RX3 191 yX3_isLowerEnd, .instanceMethod yX3_isLowerEnd, .selects RX3 yX3_isLowerEnd yX3_isLowerEnd, .initialized RX3, .code yX3_isLowerEnd cX3_isLowerEnd 2 (some .boolean), .fieldLink RX3 27 "CableBook" "cableTo" "LCableBook$Row;", .methodLink RX3 107 yX2_at, .instanceMethod yX2_at, .selects RX2 yX2_at yX2_at, .initialized RX2, .code yX2_at cX2_at 2 (some .int), .fieldLink RX2 13 "CableBook$Row" "values" "[I", .fieldLink RX2 19 "CableBook$Row" "blank" "I"] ++ wsX30 ++ wsX20)
def wsX3_panelOf : List Cond := .code yX3_panelOf cX3_panelOf 2 (some .int) :: ([.fieldLink RX3 24 "CableBook" "panelAt" "LCableBook$Row;", .methodLink RX3 102 yX3_checkPort, .instanceMethod yX3_checkPort, .selects RX3 yX3_checkPort yX3_checkPort, .initialized RX3, .code yX3_checkPort cX3_checkPort 2 none, .classLink RX3 133 "java/lang/IndexOutOfBoundsException", .initialized "java/lang/IndexOutOfBoundsException", .fieldLink RX3 77 "CableBook" "portCount" "I", .methodLink RX3 83 yX3_isWithin, .static yX3_isWithin, .code yX3_isWithin cX3_isWithin 3 (some .boolean), .methodLink RX3 107 yX2_at, .instanceMethod yX2_at, .selects RX2 yX2_at yX2_at, .initialized RX2, .code yX2_at cX2_at 2 (some .int), .fieldLink RX2 13 "CableBook$Row" "values" "[I", .fieldLink RX2 19 "CableBook$Row" "blank" "I"] ++ wsX30 ++ wsX20 ++ (vx_atS RX3 137 "java/lang/IndexOutOfBoundsException" ["java/lang/RuntimeException", "java/lang/Exception"]).filter goodWord)
def wsX3_byCable : List Cond := .code yX3_byCable cX3_byCable 2 (some .int) :: ([.fieldLink RX3 27 "CableBook" "cableTo" "LCableBook$Row;", .methodLink RX3 102 yX3_checkPort, .instanceMethod yX3_checkPort, .selects RX3 yX3_checkPort yX3_checkPort, .initialized RX3, .code yX3_checkPort cX3_checkPort 2 none, .classLink RX3 133 "java/lang/IndexOutOfBoundsException", .initialized "java/lang/IndexOutOfBoundsException", .fieldLink RX3 77 "CableBook" "portCount" "I", .methodLink RX3 83 yX3_isWithin, .static yX3_isWithin, .code yX3_isWithin cX3_isWithin 3 (some .boolean), .methodLink RX3 107 yX2_at, .instanceMethod yX2_at, .selects RX2 yX2_at yX2_at, .initialized RX2, .code yX2_at cX2_at 2 (some .int), .fieldLink RX2 13 "CableBook$Row" "values" "[I", .fieldLink RX2 19 "CableBook$Row" "blank" "I"] ++ wsX30 ++ wsX20 ++ (vx_atS RX3 137 "java/lang/IndexOutOfBoundsException" ["java/lang/RuntimeException", "java/lang/Exception"]).filter goodWord)
def wsX3_byStrand : List Cond := .code yX3_byStrand cX3_byStrand 2 (some .int) :: ([.fieldLink RX3 33 "CableBook" "strandTo" "LCableBook$Row;", .methodLink RX3 102 yX3_checkPort, .instanceMethod yX3_checkPort, .selects RX3 yX3_checkPort yX3_checkPort, .initialized RX3, .code yX3_checkPort cX3_checkPort 2 none, .classLink RX3 133 "java/lang/IndexOutOfBoundsException", .initialized "java/lang/IndexOutOfBoundsException", .fieldLink RX3 77 "CableBook" "portCount" "I", .methodLink RX3 83 yX3_isWithin, .static yX3_isWithin, .code yX3_isWithin cX3_isWithin 3 (some .boolean), .methodLink RX3 107 yX2_at, .instanceMethod yX2_at, .selects RX2 yX2_at yX2_at, .initialized RX2, .code yX2_at cX2_at 2 (some .int), .fieldLink RX2 13 "CableBook$Row" "values" "[I", .fieldLink RX2 19 "CableBook$Row" "blank" "I"] ++ wsX30 ++ wsX20 ++ (vx_atS RX3 137 "java/lang/IndexOutOfBoundsException" ["java/lang/RuntimeException", "java/lang/Exception"]).filter goodWord)
def wsX3_colour : List Cond := .code yX3_colour cX3_colour 2 (some .int) :: ([.fieldLink RX3 30 "CableBook" "colourAt" "LCableBook$Row;", .methodLink RX3 102 yX3_checkPort, .instanceMethod yX3_checkPort, .selects RX3 yX3_checkPort yX3_checkPort, .initialized RX3, .code yX3_checkPort cX3_checkPort 2 none, .classLink RX3 133 "java/lang/IndexOutOfBoundsException", .initialized "java/lang/IndexOutOfBoundsException", .fieldLink RX3 77 "CableBook" "portCount" "I", .methodLink RX3 83 yX3_isWithin, .static yX3_isWithin, .code yX3_isWithin cX3_isWithin 3 (some .boolean), .methodLink RX3 107 yX2_at, .instanceMethod yX2_at, .selects RX2 yX2_at yX2_at, .initialized RX2, .code yX2_at cX2_at 2 (some .int), .fieldLink RX2 13 "CableBook$Row" "values" "[I", .fieldLink RX2 19 "CableBook$Row" "blank" "I"] ++ wsX30 ++ wsX20 ++ (vx_atS RX3 137 "java/lang/IndexOutOfBoundsException" ["java/lang/RuntimeException", "java/lang/Exception"]).filter goodWord)
def wsX3_openStrandFrom : List Cond := .code yX3_openStrandFrom cX3_openStrandFrom 2 (some .int) :: ([.fieldLink RX3 44 "CableBook" "brokenAt" "LCableBook$Marks;", .fieldLink RX3 33 "CableBook" "strandTo" "LCableBook$Row;", .methodLink RX3 138 yX0_has, .instanceMethod yX0_has, .selects RX0 yX0_has yX0_has, .initialized RX0, .code yX0_has cX0_has 2 (some .boolean), .fieldLink RX0 13 "CableBook$Marks" "marked" "[Z", .methodLink RX3 107 yX2_at, .instanceMethod yX2_at, .selects RX2 yX2_at yX2_at, .initialized RX2, .code yX2_at cX2_at 2 (some .int), .fieldLink RX2 13 "CableBook$Row" "values" "[I", .fieldLink RX2 19 "CableBook$Row" "blank" "I"] ++ wsX30 ++ wsX00 ++ wsX20)
def wsX3_trace_r1 : List Cond := [Cond.fieldLink RX3 27 "CableBook" "cableTo" "LCableBook$Row;", Cond.fieldLink RX3 64 "CableBook" "trail" "LCableBook$Row;", Cond.methodLink RX3 107 yX2_at, Cond.instanceMethod yX2_at, Cond.selects RX2 yX2_at yX2_at, Cond.initialized RX2, Cond.code yX2_at cX2_at 2 (some .int), Cond.fieldLink RX2 13 "CableBook$Row" "values" "[I", Cond.fieldLink RX2 19 "CableBook$Row" "blank" "I", Cond.methodLink RX3 219 yX3_openStrandFrom, Cond.instanceMethod yX3_openStrandFrom, Cond.selects RX3 yX3_openStrandFrom yX3_openStrandFrom, Cond.initialized RX3, Cond.code yX3_openStrandFrom cX3_openStrandFrom 2 (some .int), Cond.fieldLink RX3 44 "CableBook" "brokenAt" "LCableBook$Marks;", Cond.fieldLink RX3 33 "CableBook" "strandTo" "LCableBook$Row;", Cond.methodLink RX3 138 yX0_has, Cond.instanceMethod yX0_has, Cond.selects RX0 yX0_has yX0_has, Cond.initialized RX0, Cond.code yX0_has cX0_has 2 (some .boolean), Cond.fieldLink RX0 13 "CableBook$Marks" "marked" "[Z", Cond.methodLink RX3 99 yX2_put, Cond.instanceMethod yX2_put]
def wsX3_trace_r2 : List Cond := [Cond.selects RX2 yX2_put yX2_put, Cond.code yX2_put cX2_put 3 none]
def wsX3_trace : List Cond := .code yX3_trace cX3_trace 6 (some .int) :: ((wsX3_trace_r1 ++ wsX3_trace_r2) ++ wsX30 ++ wsX20 ++ wsX00)
def wsX3_endOfTrail : List Cond := .code yX3_endOfTrail cX3_endOfTrail 3 (some .int) :: ([.fieldLink RX3 64 "CableBook" "trail" "LCableBook$Row;", .methodLink RX3 107 yX2_at, .instanceMethod yX2_at, .selects RX2 yX2_at yX2_at, .initialized RX2, .code yX2_at cX2_at 2 (some .int), .fieldLink RX2 13 "CableBook$Row" "values" "[I", .fieldLink RX2 19 "CableBook$Row" "blank" "I"] ++ wsX30 ++ wsX20)
def wsX3_end_r1 : List Cond := [Cond.methodLink RX3 102 yX3_checkPort, Cond.instanceMethod yX3_checkPort, Cond.selects RX3 yX3_checkPort yX3_checkPort, Cond.initialized RX3, Cond.code yX3_checkPort cX3_checkPort 2 none, Cond.classLink RX3 133 "java/lang/IndexOutOfBoundsException", Cond.initialized "java/lang/IndexOutOfBoundsException", Cond.fieldLink RX3 77 "CableBook" "portCount" "I", Cond.methodLink RX3 83 yX3_isWithin, Cond.static yX3_isWithin, Cond.code yX3_isWithin cX3_isWithin 3 (some .boolean), Cond.methodLink RX3 194 yX3_trace, Cond.instanceMethod yX3_trace, Cond.selects RX3 yX3_trace yX3_trace, Cond.code yX3_trace cX3_trace 6 (some .int), Cond.fieldLink RX3 27 "CableBook" "cableTo" "LCableBook$Row;", Cond.fieldLink RX3 64 "CableBook" "trail" "LCableBook$Row;", Cond.methodLink RX3 107 yX2_at, Cond.instanceMethod yX2_at, Cond.selects RX2 yX2_at yX2_at, Cond.initialized RX2, Cond.code yX2_at cX2_at 2 (some .int), Cond.fieldLink RX2 13 "CableBook$Row" "values" "[I", Cond.fieldLink RX2 19 "CableBook$Row" "blank" "I"]
def wsX3_end_r2 : List Cond := [Cond.methodLink RX3 219 yX3_openStrandFrom, Cond.instanceMethod yX3_openStrandFrom, Cond.selects RX3 yX3_openStrandFrom yX3_openStrandFrom, Cond.code yX3_openStrandFrom cX3_openStrandFrom 2 (some .int), Cond.fieldLink RX3 44 "CableBook" "brokenAt" "LCableBook$Marks;", Cond.fieldLink RX3 33 "CableBook" "strandTo" "LCableBook$Row;", Cond.methodLink RX3 138 yX0_has, Cond.instanceMethod yX0_has, Cond.selects RX0 yX0_has yX0_has, Cond.initialized RX0, Cond.code yX0_has cX0_has 2 (some .boolean), Cond.fieldLink RX0 13 "CableBook$Marks" "marked" "[Z", Cond.methodLink RX3 99 yX2_put, Cond.instanceMethod yX2_put, Cond.selects RX2 yX2_put yX2_put, Cond.code yX2_put cX2_put 3 none, Cond.methodLink RX3 198 yX3_endOfTrail, Cond.instanceMethod yX3_endOfTrail, Cond.selects RX3 yX3_endOfTrail yX3_endOfTrail, Cond.code yX3_endOfTrail cX3_endOfTrail 3 (some .int)]
def wsX3_end : List Cond := .code yX3_end cX3_end 3 (some .int) :: ((wsX3_end_r1 ++ wsX3_end_r2) ++ wsX30 ++ wsX20 ++ wsX00 ++ (vx_atS RX3 137 "java/lang/IndexOutOfBoundsException" ["java/lang/RuntimeException", "java/lang/Exception"]).filter goodWord)
def wsX3_hops_r1 : List Cond := [Cond.methodLink RX3 102 yX3_checkPort, Cond.instanceMethod yX3_checkPort, Cond.selects RX3 yX3_checkPort yX3_checkPort, Cond.initialized RX3, Cond.code yX3_checkPort cX3_checkPort 2 none, Cond.classLink RX3 133 "java/lang/IndexOutOfBoundsException", Cond.initialized "java/lang/IndexOutOfBoundsException", Cond.fieldLink RX3 77 "CableBook" "portCount" "I", Cond.methodLink RX3 83 yX3_isWithin, Cond.static yX3_isWithin, Cond.code yX3_isWithin cX3_isWithin 3 (some .boolean), Cond.methodLink RX3 194 yX3_trace, Cond.instanceMethod yX3_trace, Cond.selects RX3 yX3_trace yX3_trace, Cond.code yX3_trace cX3_trace 6 (some .int), Cond.fieldLink RX3 27 "CableBook" "cableTo" "LCableBook$Row;", Cond.fieldLink RX3 64 "CableBook" "trail" "LCableBook$Row;", Cond.methodLink RX3 107 yX2_at, Cond.instanceMethod yX2_at, Cond.selects RX2 yX2_at yX2_at, Cond.initialized RX2, Cond.code yX2_at cX2_at 2 (some .int), Cond.fieldLink RX2 13 "CableBook$Row" "values" "[I", Cond.fieldLink RX2 19 "CableBook$Row" "blank" "I"]
def wsX3_hops_r2 : List Cond := [Cond.methodLink RX3 219 yX3_openStrandFrom, Cond.instanceMethod yX3_openStrandFrom, Cond.selects RX3 yX3_openStrandFrom yX3_openStrandFrom, Cond.code yX3_openStrandFrom cX3_openStrandFrom 2 (some .int), Cond.fieldLink RX3 44 "CableBook" "brokenAt" "LCableBook$Marks;", Cond.fieldLink RX3 33 "CableBook" "strandTo" "LCableBook$Row;", Cond.methodLink RX3 138 yX0_has, Cond.instanceMethod yX0_has, Cond.selects RX0 yX0_has yX0_has, Cond.initialized RX0, Cond.code yX0_has cX0_has 2 (some .boolean), Cond.fieldLink RX0 13 "CableBook$Marks" "marked" "[Z", Cond.methodLink RX3 99 yX2_put, Cond.instanceMethod yX2_put, Cond.selects RX2 yX2_put yX2_put, Cond.code yX2_put cX2_put 3 none]
def wsX3_hops : List Cond := .code yX3_hops cX3_hops 3 (some .int) :: ((wsX3_hops_r1 ++ wsX3_hops_r2) ++ wsX30 ++ wsX20 ++ wsX00 ++ (vx_atS RX3 137 "java/lang/IndexOutOfBoundsException" ["java/lang/RuntimeException", "java/lang/Exception"]).filter goodWord)
def wsX3_hopTo_r1 : List Cond := [Cond.classLink RX3 133 "java/lang/IndexOutOfBoundsException", Cond.initialized "java/lang/IndexOutOfBoundsException", Cond.fieldLink RX3 64 "CableBook" "trail" "LCableBook$Row;", Cond.methodLink RX3 102 yX3_checkPort, Cond.instanceMethod yX3_checkPort, Cond.selects RX3 yX3_checkPort yX3_checkPort, Cond.initialized RX3, Cond.code yX3_checkPort cX3_checkPort 2 none, Cond.fieldLink RX3 77 "CableBook" "portCount" "I", Cond.methodLink RX3 83 yX3_isWithin, Cond.static yX3_isWithin, Cond.code yX3_isWithin cX3_isWithin 3 (some .boolean), Cond.methodLink RX3 194 yX3_trace, Cond.instanceMethod yX3_trace, Cond.selects RX3 yX3_trace yX3_trace, Cond.code yX3_trace cX3_trace 6 (some .int), Cond.fieldLink RX3 27 "CableBook" "cableTo" "LCableBook$Row;", Cond.methodLink RX3 107 yX2_at, Cond.instanceMethod yX2_at, Cond.selects RX2 yX2_at yX2_at, Cond.initialized RX2, Cond.code yX2_at cX2_at 2 (some .int), Cond.fieldLink RX2 13 "CableBook$Row" "values" "[I", Cond.fieldLink RX2 19 "CableBook$Row" "blank" "I"]
def wsX3_hopTo_r2 : List Cond := [Cond.methodLink RX3 219 yX3_openStrandFrom, Cond.instanceMethod yX3_openStrandFrom, Cond.selects RX3 yX3_openStrandFrom yX3_openStrandFrom, Cond.code yX3_openStrandFrom cX3_openStrandFrom 2 (some .int), Cond.fieldLink RX3 44 "CableBook" "brokenAt" "LCableBook$Marks;", Cond.fieldLink RX3 33 "CableBook" "strandTo" "LCableBook$Row;", Cond.methodLink RX3 138 yX0_has, Cond.instanceMethod yX0_has, Cond.selects RX0 yX0_has yX0_has, Cond.initialized RX0, Cond.code yX0_has cX0_has 2 (some .boolean), Cond.fieldLink RX0 13 "CableBook$Marks" "marked" "[Z", Cond.methodLink RX3 99 yX2_put, Cond.instanceMethod yX2_put, Cond.selects RX2 yX2_put yX2_put, Cond.code yX2_put cX2_put 3 none]
def wsX3_hopTo : List Cond := .code yX3_hopTo cX3_hopTo 4 (some .int) :: ((wsX3_hopTo_r1 ++ wsX3_hopTo_r2) ++ wsX30 ++ wsX20 ++ wsX00 ++ (vx_atS RX3 137 "java/lang/IndexOutOfBoundsException" ["java/lang/RuntimeException", "java/lang/Exception"]).filter goodWord)
def wsX3_lengthOf_r1 : List Cond := [Cond.fieldLink RX3 64 "CableBook" "trail" "LCableBook$Row;", Cond.fieldLink RX3 54 "CableBook" "trunkLength" "LCableBook$Row;", Cond.fieldLink RX3 36 "CableBook" "trunkAt" "LCableBook$Row;", Cond.methodLink RX3 102 yX3_checkPort, Cond.instanceMethod yX3_checkPort, Cond.selects RX3 yX3_checkPort yX3_checkPort, Cond.initialized RX3, Cond.code yX3_checkPort cX3_checkPort 2 none, Cond.classLink RX3 133 "java/lang/IndexOutOfBoundsException", Cond.initialized "java/lang/IndexOutOfBoundsException", Cond.fieldLink RX3 77 "CableBook" "portCount" "I", Cond.methodLink RX3 83 yX3_isWithin, Cond.static yX3_isWithin, Cond.code yX3_isWithin cX3_isWithin 3 (some .boolean), Cond.methodLink RX3 194 yX3_trace, Cond.instanceMethod yX3_trace, Cond.selects RX3 yX3_trace yX3_trace, Cond.code yX3_trace cX3_trace 6 (some .int), Cond.fieldLink RX3 27 "CableBook" "cableTo" "LCableBook$Row;", Cond.methodLink RX3 107 yX2_at, Cond.instanceMethod yX2_at, Cond.selects RX2 yX2_at yX2_at, Cond.initialized RX2, Cond.code yX2_at cX2_at 2 (some .int)]
def wsX3_lengthOf_r2 : List Cond := [Cond.fieldLink RX2 13 "CableBook$Row" "values" "[I", Cond.fieldLink RX2 19 "CableBook$Row" "blank" "I", Cond.methodLink RX3 219 yX3_openStrandFrom, Cond.instanceMethod yX3_openStrandFrom, Cond.selects RX3 yX3_openStrandFrom yX3_openStrandFrom, Cond.code yX3_openStrandFrom cX3_openStrandFrom 2 (some .int), Cond.fieldLink RX3 44 "CableBook" "brokenAt" "LCableBook$Marks;", Cond.fieldLink RX3 33 "CableBook" "strandTo" "LCableBook$Row;", Cond.methodLink RX3 138 yX0_has, Cond.instanceMethod yX0_has, Cond.selects RX0 yX0_has yX0_has, Cond.initialized RX0, Cond.code yX0_has cX0_has 2 (some .boolean), Cond.fieldLink RX0 13 "CableBook$Marks" "marked" "[Z", Cond.methodLink RX3 99 yX2_put, Cond.instanceMethod yX2_put, Cond.selects RX2 yX2_put yX2_put, Cond.code yX2_put cX2_put 3 none, Cond.methodLink RX3 156 yX3_lengthBetween, Cond.instanceMethod yX3_lengthBetween, Cond.selects RX3 yX3_lengthBetween yX3_lengthBetween, Cond.code yX3_lengthBetween cX3_lengthBetween 6 (some .int), Cond.fieldLink RX3 24 "CableBook" "panelAt" "LCableBook$Row;", Cond.fieldLink RX3 14 "CableBook" "rackOf" "LCableBook$Row;"]
def wsX3_lengthOf_r3 : List Cond := [Cond.methodLink RX3 228 Lib.Math.abs.name, Cond.static Lib.Math.abs.name, Cond.initialized "java/lang/Math", Cond.code Lib.Math.abs.name Lib.Math.abs.code 1 (some .int)]
def wsX3_lengthOf : List Cond := .code yX3_lengthOf cX3_lengthOf 9 (some .int) :: ((wsX3_lengthOf_r1 ++ (wsX3_lengthOf_r2 ++ wsX3_lengthOf_r3)) ++ wsX30 ++ wsX20 ++ wsX00 ++ (vx_atS RX3 137 "java/lang/IndexOutOfBoundsException" ["java/lang/RuntimeException", "java/lang/Exception"]).filter goodWord)
def wsX3_isRing_r1 : List Cond := [Cond.methodLink RX3 102 yX3_checkPort, Cond.instanceMethod yX3_checkPort, Cond.selects RX3 yX3_checkPort yX3_checkPort, Cond.initialized RX3, Cond.code yX3_checkPort cX3_checkPort 2 none, Cond.classLink RX3 133 "java/lang/IndexOutOfBoundsException", Cond.initialized "java/lang/IndexOutOfBoundsException", Cond.fieldLink RX3 77 "CableBook" "portCount" "I", Cond.methodLink RX3 83 yX3_isWithin, Cond.static yX3_isWithin, Cond.code yX3_isWithin cX3_isWithin 3 (some .boolean), Cond.methodLink RX3 194 yX3_trace, Cond.instanceMethod yX3_trace, Cond.selects RX3 yX3_trace yX3_trace, Cond.code yX3_trace cX3_trace 6 (some .int), Cond.fieldLink RX3 27 "CableBook" "cableTo" "LCableBook$Row;", Cond.fieldLink RX3 64 "CableBook" "trail" "LCableBook$Row;", Cond.methodLink RX3 107 yX2_at, Cond.instanceMethod yX2_at, Cond.selects RX2 yX2_at yX2_at, Cond.initialized RX2, Cond.code yX2_at cX2_at 2 (some .int), Cond.fieldLink RX2 13 "CableBook$Row" "values" "[I", Cond.fieldLink RX2 19 "CableBook$Row" "blank" "I"]
def wsX3_isRing_r2 : List Cond := [Cond.methodLink RX3 219 yX3_openStrandFrom, Cond.instanceMethod yX3_openStrandFrom, Cond.selects RX3 yX3_openStrandFrom yX3_openStrandFrom, Cond.code yX3_openStrandFrom cX3_openStrandFrom 2 (some .int), Cond.fieldLink RX3 44 "CableBook" "brokenAt" "LCableBook$Marks;", Cond.fieldLink RX3 33 "CableBook" "strandTo" "LCableBook$Row;", Cond.methodLink RX3 138 yX0_has, Cond.instanceMethod yX0_has, Cond.selects RX0 yX0_has yX0_has, Cond.initialized RX0, Cond.code yX0_has cX0_has 2 (some .boolean), Cond.fieldLink RX0 13 "CableBook$Marks" "marked" "[Z", Cond.methodLink RX3 99 yX2_put, Cond.instanceMethod yX2_put, Cond.selects RX2 yX2_put yX2_put, Cond.code yX2_put cX2_put 3 none, Cond.methodLink RX3 198 yX3_endOfTrail, Cond.instanceMethod yX3_endOfTrail, Cond.selects RX3 yX3_endOfTrail yX3_endOfTrail, Cond.code yX3_endOfTrail cX3_endOfTrail 3 (some .int)]
def wsX3_isRing : List Cond := .code yX3_isRing cX3_isRing 3 (some .boolean) :: ((wsX3_isRing_r1 ++ wsX3_isRing_r2) ++ wsX30 ++ wsX20 ++ wsX00 ++ (vx_atS RX3 137 "java/lang/IndexOutOfBoundsException" ["java/lang/RuntimeException", "java/lang/Exception"]).filter goodWord)
def wsX3_isOnTrail : List Cond := .code yX3_isOnTrail cX3_isOnTrail 4 (some .boolean) :: ([.fieldLink RX3 64 "CableBook" "trail" "LCableBook$Row;", .methodLink RX3 107 yX2_at, .instanceMethod yX2_at, .selects RX2 yX2_at yX2_at, .initialized RX2, .code yX2_at cX2_at 2 (some .int), .fieldLink RX2 13 "CableBook$Row" "values" "[I", .fieldLink RX2 19 "CableBook$Row" "blank" "I"] ++ wsX30 ++ wsX20)
def wsX3_areJoined_r1 : List Cond := [Cond.methodLink RX3 102 yX3_checkPort, Cond.instanceMethod yX3_checkPort, Cond.selects RX3 yX3_checkPort yX3_checkPort, Cond.initialized RX3, Cond.code yX3_checkPort cX3_checkPort 2 none, Cond.classLink RX3 133 "java/lang/IndexOutOfBoundsException", Cond.initialized "java/lang/IndexOutOfBoundsException", Cond.fieldLink RX3 77 "CableBook" "portCount" "I", Cond.methodLink RX3 83 yX3_isWithin, Cond.static yX3_isWithin, Cond.code yX3_isWithin cX3_isWithin 3 (some .boolean), Cond.methodLink RX3 194 yX3_trace, Cond.instanceMethod yX3_trace, Cond.selects RX3 yX3_trace yX3_trace, Cond.code yX3_trace cX3_trace 6 (some .int), Cond.fieldLink RX3 27 "CableBook" "cableTo" "LCableBook$Row;", Cond.fieldLink RX3 64 "CableBook" "trail" "LCableBook$Row;", Cond.methodLink RX3 107 yX2_at, Cond.instanceMethod yX2_at, Cond.selects RX2 yX2_at yX2_at, Cond.initialized RX2, Cond.code yX2_at cX2_at 2 (some .int), Cond.fieldLink RX2 13 "CableBook$Row" "values" "[I", Cond.fieldLink RX2 19 "CableBook$Row" "blank" "I"]
def wsX3_areJoined_r2 : List Cond := [Cond.methodLink RX3 219 yX3_openStrandFrom, Cond.instanceMethod yX3_openStrandFrom, Cond.selects RX3 yX3_openStrandFrom yX3_openStrandFrom, Cond.code yX3_openStrandFrom cX3_openStrandFrom 2 (some .int), Cond.fieldLink RX3 44 "CableBook" "brokenAt" "LCableBook$Marks;", Cond.fieldLink RX3 33 "CableBook" "strandTo" "LCableBook$Row;", Cond.methodLink RX3 138 yX0_has, Cond.instanceMethod yX0_has, Cond.selects RX0 yX0_has yX0_has, Cond.initialized RX0, Cond.code yX0_has cX0_has 2 (some .boolean), Cond.fieldLink RX0 13 "CableBook$Marks" "marked" "[Z", Cond.methodLink RX3 99 yX2_put, Cond.instanceMethod yX2_put, Cond.selects RX2 yX2_put yX2_put, Cond.code yX2_put cX2_put 3 none, Cond.methodLink RX3 203 yX3_isOnTrail, Cond.instanceMethod yX3_isOnTrail, Cond.selects RX3 yX3_isOnTrail yX3_isOnTrail, Cond.code yX3_isOnTrail cX3_isOnTrail 4 (some .boolean)]
def wsX3_areJoined : List Cond := .code yX3_areJoined cX3_areJoined 3 (some .boolean) :: ((wsX3_areJoined_r1 ++ wsX3_areJoined_r2) ++ wsX30 ++ wsX20 ++ wsX00 ++ (vx_atS RX3 137 "java/lang/IndexOutOfBoundsException" ["java/lang/RuntimeException", "java/lang/Exception"]).filter goodWord)
def wsX3_reach : List Cond := .code yX3_reach cX3_reach 3 (some .int) :: ([.fieldLink RX3 70 "CableBook" "found" "LCableBook$Marks;", .fieldLink RX3 67 "CableBook" "queue" "LCableBook$Row;", .methodLink RX3 138 yX0_has, .instanceMethod yX0_has, .selects RX0 yX0_has yX0_has, .initialized RX0, .code yX0_has cX0_has 2 (some .boolean), .fieldLink RX0 13 "CableBook$Marks" "marked" "[Z", .methodLink RX3 142 yX0_set, .instanceMethod yX0_set, .selects RX0 yX0_set yX0_set, .code yX0_set cX0_set 3 none, .methodLink RX3 99 yX2_put, .instanceMethod yX2_put, .selects RX2 yX2_put yX2_put, .initialized RX2, .code yX2_put cX2_put 3 none, .fieldLink RX2 13 "CableBook$Row" "values" "[I"] ++ wsX30 ++ wsX00 ++ wsX20)
def wsX3_searchFrom_r1 : List Cond := [Cond.fieldLink RX3 70 "CableBook" "found" "LCableBook$Marks;", Cond.fieldLink RX3 67 "CableBook" "queue" "LCableBook$Row;", Cond.fieldLink RX3 27 "CableBook" "cableTo" "LCableBook$Row;", Cond.methodLink RX3 209 yX0_clear, Cond.instanceMethod yX0_clear, Cond.selects RX0 yX0_clear yX0_clear, Cond.initialized RX0, Cond.code yX0_clear cX0_clear 2 none, Cond.fieldLink RX0 13 "CableBook$Marks" "marked" "[Z", Cond.methodLink RX3 260 yX3_reach, Cond.instanceMethod yX3_reach, Cond.selects RX3 yX3_reach yX3_reach, Cond.initialized RX3, Cond.code yX3_reach cX3_reach 3 (some .int), Cond.methodLink RX3 138 yX0_has, Cond.instanceMethod yX0_has, Cond.selects RX0 yX0_has yX0_has, Cond.code yX0_has cX0_has 2 (some .boolean), Cond.methodLink RX3 142 yX0_set, Cond.instanceMethod yX0_set, Cond.selects RX0 yX0_set yX0_set, Cond.code yX0_set cX0_set 3 none, Cond.methodLink RX3 99 yX2_put, Cond.instanceMethod yX2_put]
def wsX3_searchFrom_r2 : List Cond := [Cond.selects RX2 yX2_put yX2_put, Cond.initialized RX2, Cond.code yX2_put cX2_put 3 none, Cond.fieldLink RX2 13 "CableBook$Row" "values" "[I", Cond.methodLink RX3 107 yX2_at, Cond.instanceMethod yX2_at, Cond.selects RX2 yX2_at yX2_at, Cond.code yX2_at cX2_at 2 (some .int), Cond.fieldLink RX2 19 "CableBook$Row" "blank" "I", Cond.methodLink RX3 219 yX3_openStrandFrom, Cond.instanceMethod yX3_openStrandFrom, Cond.selects RX3 yX3_openStrandFrom yX3_openStrandFrom, Cond.code yX3_openStrandFrom cX3_openStrandFrom 2 (some .int), Cond.fieldLink RX3 44 "CableBook" "brokenAt" "LCableBook$Marks;", Cond.fieldLink RX3 33 "CableBook" "strandTo" "LCableBook$Row;"]
def wsX3_searchFrom : List Cond := .code yX3_searchFrom cX3_searchFrom 5 none :: ((wsX3_searchFrom_r1 ++ wsX3_searchFrom_r2) ++ wsX30 ++ wsX00 ++ wsX20)
def wsX3_areJoinedBySearch_r1 : List Cond := [Cond.fieldLink RX3 70 "CableBook" "found" "LCableBook$Marks;", Cond.methodLink RX3 102 yX3_checkPort, Cond.instanceMethod yX3_checkPort, Cond.selects RX3 yX3_checkPort yX3_checkPort, Cond.initialized RX3, Cond.code yX3_checkPort cX3_checkPort 2 none, Cond.classLink RX3 133 "java/lang/IndexOutOfBoundsException", Cond.initialized "java/lang/IndexOutOfBoundsException", Cond.fieldLink RX3 77 "CableBook" "portCount" "I", Cond.methodLink RX3 83 yX3_isWithin, Cond.static yX3_isWithin, Cond.code yX3_isWithin cX3_isWithin 3 (some .boolean), Cond.methodLink RX3 206 yX3_searchFrom, Cond.instanceMethod yX3_searchFrom, Cond.selects RX3 yX3_searchFrom yX3_searchFrom, Cond.code yX3_searchFrom cX3_searchFrom 5 none, Cond.fieldLink RX3 67 "CableBook" "queue" "LCableBook$Row;", Cond.fieldLink RX3 27 "CableBook" "cableTo" "LCableBook$Row;", Cond.methodLink RX3 209 yX0_clear, Cond.instanceMethod yX0_clear, Cond.selects RX0 yX0_clear yX0_clear, Cond.initialized RX0, Cond.code yX0_clear cX0_clear 2 none, Cond.fieldLink RX0 13 "CableBook$Marks" "marked" "[Z"]
def wsX3_areJoinedBySearch_r2 : List Cond := [Cond.methodLink RX3 260 yX3_reach, Cond.instanceMethod yX3_reach, Cond.selects RX3 yX3_reach yX3_reach, Cond.code yX3_reach cX3_reach 3 (some .int), Cond.methodLink RX3 138 yX0_has, Cond.instanceMethod yX0_has, Cond.selects RX0 yX0_has yX0_has, Cond.code yX0_has cX0_has 2 (some .boolean), Cond.methodLink RX3 142 yX0_set, Cond.instanceMethod yX0_set, Cond.selects RX0 yX0_set yX0_set, Cond.code yX0_set cX0_set 3 none, Cond.methodLink RX3 99 yX2_put, Cond.instanceMethod yX2_put, Cond.selects RX2 yX2_put yX2_put, Cond.initialized RX2, Cond.code yX2_put cX2_put 3 none, Cond.fieldLink RX2 13 "CableBook$Row" "values" "[I", Cond.methodLink RX3 107 yX2_at, Cond.instanceMethod yX2_at, Cond.selects RX2 yX2_at yX2_at, Cond.code yX2_at cX2_at 2 (some .int), Cond.fieldLink RX2 19 "CableBook$Row" "blank" "I", Cond.methodLink RX3 219 yX3_openStrandFrom]
def wsX3_areJoinedBySearch_r3 : List Cond := [Cond.instanceMethod yX3_openStrandFrom, Cond.selects RX3 yX3_openStrandFrom yX3_openStrandFrom, Cond.code yX3_openStrandFrom cX3_openStrandFrom 2 (some .int), Cond.fieldLink RX3 44 "CableBook" "brokenAt" "LCableBook$Marks;", Cond.fieldLink RX3 33 "CableBook" "strandTo" "LCableBook$Row;"]
def wsX3_areJoinedBySearch : List Cond := .code yX3_areJoinedBySearch cX3_areJoinedBySearch 3 (some .boolean) :: ((wsX3_areJoinedBySearch_r1 ++ (wsX3_areJoinedBySearch_r2 ++ wsX3_areJoinedBySearch_r3)) ++ wsX30 ++ wsX00 ++ wsX20 ++ (vx_atS RX3 137 "java/lang/IndexOutOfBoundsException" ["java/lang/RuntimeException", "java/lang/Exception"]).filter goodWord)
def wsX3_markTrail : List Cond := .code yX3_markTrail cX3_markTrail 3 none :: ([.fieldLink RX3 70 "CableBook" "found" "LCableBook$Marks;", .fieldLink RX3 64 "CableBook" "trail" "LCableBook$Row;", .methodLink RX3 107 yX2_at, .instanceMethod yX2_at, .selects RX2 yX2_at yX2_at, .initialized RX2, .code yX2_at cX2_at 2 (some .int), .fieldLink RX2 13 "CableBook$Row" "values" "[I", .fieldLink RX2 19 "CableBook$Row" "blank" "I", .methodLink RX3 142 yX0_set, .instanceMethod yX0_set, .selects RX0 yX0_set yX0_set, .initialized RX0, .code yX0_set cX0_set 3 none, .fieldLink RX0 13 "CableBook$Marks" "marked" "[Z"] ++ wsX30 ++ wsX20 ++ wsX00)
def wsX3_lines_r1 : List Cond := [Cond.fieldLink RX3 70 "CableBook" "found" "LCableBook$Marks;", Cond.fieldLink RX3 77 "CableBook" "portCount" "I", Cond.methodLink RX3 209 yX0_clear, Cond.instanceMethod yX0_clear, Cond.selects RX0 yX0_clear yX0_clear, Cond.initialized RX0, Cond.code yX0_clear cX0_clear 2 none, Cond.fieldLink RX0 13 "CableBook$Marks" "marked" "[Z", Cond.methodLink RX3 138 yX0_has, Cond.instanceMethod yX0_has, Cond.selects RX0 yX0_has yX0_has, Cond.code yX0_has cX0_has 2 (some .boolean), Cond.methodLink RX3 142 yX0_set, Cond.instanceMethod yX0_set, Cond.selects RX0 yX0_set yX0_set, Cond.code yX0_set cX0_set 3 none, Cond.methodLink RX3 194 yX3_trace, Cond.instanceMethod yX3_trace, Cond.selects RX3 yX3_trace yX3_trace, Cond.initialized RX3, Cond.code yX3_trace cX3_trace 6 (some .int), Cond.fieldLink RX3 27 "CableBook" "cableTo" "LCableBook$Row;", Cond.fieldLink RX3 64 "CableBook" "trail" "LCableBook$Row;", Cond.methodLink RX3 107 yX2_at]
def wsX3_lines_r2 : List Cond := [Cond.instanceMethod yX2_at, Cond.selects RX2 yX2_at yX2_at, Cond.initialized RX2, Cond.code yX2_at cX2_at 2 (some .int), Cond.fieldLink RX2 13 "CableBook$Row" "values" "[I", Cond.fieldLink RX2 19 "CableBook$Row" "blank" "I", Cond.methodLink RX3 219 yX3_openStrandFrom, Cond.instanceMethod yX3_openStrandFrom, Cond.selects RX3 yX3_openStrandFrom yX3_openStrandFrom, Cond.code yX3_openStrandFrom cX3_openStrandFrom 2 (some .int), Cond.fieldLink RX3 44 "CableBook" "brokenAt" "LCableBook$Marks;", Cond.fieldLink RX3 33 "CableBook" "strandTo" "LCableBook$Row;", Cond.methodLink RX3 99 yX2_put, Cond.instanceMethod yX2_put, Cond.selects RX2 yX2_put yX2_put, Cond.code yX2_put cX2_put 3 none, Cond.methodLink RX3 210 yX3_markTrail, Cond.instanceMethod yX3_markTrail, Cond.selects RX3 yX3_markTrail yX3_markTrail, Cond.code yX3_markTrail cX3_markTrail 3 none]
def wsX3_lines : List Cond := .code yX3_lines cX3_lines 3 (some .int) :: ((wsX3_lines_r1 ++ wsX3_lines_r2) ++ wsX30 ++ wsX00 ++ wsX20)
def wsX3_checkPanel : List Cond := .code yX3_checkPanel cX3_checkPanel 2 none :: ([.classLink RX3 133 "java/lang/IndexOutOfBoundsException", .initialized "java/lang/IndexOutOfBoundsException", .fieldLink RX3 73 "CableBook" "panelCount" "I", .methodLink RX3 83 yX3_isWithin, .static yX3_isWithin, .initialized RX3, .code yX3_isWithin cX3_isWithin 3 (some .boolean)] ++ wsX30 ++ (vx_atS RX3 137 "java/lang/IndexOutOfBoundsException" ["java/lang/RuntimeException", "java/lang/Exception"]).filter goodWord)
def wsX3_freePort_r1 : List Cond := [Cond.fieldLink RX3 18 "CableBook" "firstPortOf" "LCableBook$Row;", Cond.fieldLink RX3 21 "CableBook" "portCountOf" "LCableBook$Row;", Cond.methodLink RX3 213 yX3_checkPanel, Cond.instanceMethod yX3_checkPanel, Cond.selects RX3 yX3_checkPanel yX3_checkPanel, Cond.initialized RX3, Cond.code yX3_checkPanel cX3_checkPanel 2 none, Cond.classLink RX3 133 "java/lang/IndexOutOfBoundsException", Cond.initialized "java/lang/IndexOutOfBoundsException", Cond.fieldLink RX3 73 "CableBook" "panelCount" "I", Cond.methodLink RX3 83 yX3_isWithin, Cond.static yX3_isWithin, Cond.code yX3_isWithin cX3_isWithin 3 (some .boolean), Cond.methodLink RX3 107 yX2_at, Cond.instanceMethod yX2_at, Cond.selects RX2 yX2_at yX2_at, Cond.initialized RX2, Cond.code yX2_at cX2_at 2 (some .int), Cond.fieldLink RX2 13 "CableBook$Row" "values" "[I", Cond.fieldLink RX2 19 "CableBook$Row" "blank" "I", Cond.methodLink RX3 148 yX3_hasCable, Cond.instanceMethod yX3_hasCable, Cond.selects RX3 yX3_hasCable yX3_hasCable, Cond.code yX3_hasCable cX3_hasCable 2 (some .boolean)]
def wsX3_freePort_r2 : List Cond := [Cond.fieldLink RX3 27 "CableBook" "cableTo" "LCableBook$Row;", Cond.methodLink RX3 216 yX3_hasStrand, Cond.instanceMethod yX3_hasStrand, Cond.selects RX3 yX3_hasStrand yX3_hasStrand, Cond.code yX3_hasStrand cX3_hasStrand 2 (some .boolean), Cond.fieldLink RX3 33 "CableBook" "strandTo" "LCableBook$Row;"]
def wsX3_freePort : List Cond := .code yX3_freePort cX3_freePort 5 (some .int) :: ((wsX3_freePort_r1 ++ wsX3_freePort_r2) ++ wsX30 ++ wsX20 ++ (vx_atS RX3 137 "java/lang/IndexOutOfBoundsException" ["java/lang/RuntimeException", "java/lang/Exception"]).filter goodWord)
def wsX3_freeStrand_r1 : List Cond := [Cond.fieldLink RX3 18 "CableBook" "firstPortOf" "LCableBook$Row;", Cond.fieldLink RX3 21 "CableBook" "portCountOf" "LCableBook$Row;", Cond.fieldLink RX3 24 "CableBook" "panelAt" "LCableBook$Row;", Cond.methodLink RX3 213 yX3_checkPanel, Cond.instanceMethod yX3_checkPanel, Cond.selects RX3 yX3_checkPanel yX3_checkPanel, Cond.initialized RX3, Cond.code yX3_checkPanel cX3_checkPanel 2 none, Cond.classLink RX3 133 "java/lang/IndexOutOfBoundsException", Cond.initialized "java/lang/IndexOutOfBoundsException", Cond.fieldLink RX3 73 "CableBook" "panelCount" "I", Cond.methodLink RX3 83 yX3_isWithin, Cond.static yX3_isWithin, Cond.code yX3_isWithin cX3_isWithin 3 (some .boolean), Cond.methodLink RX3 107 yX2_at, Cond.instanceMethod yX2_at, Cond.selects RX2 yX2_at yX2_at, Cond.initialized RX2, Cond.code yX2_at cX2_at 2 (some .int), Cond.fieldLink RX2 13 "CableBook$Row" "values" "[I", Cond.fieldLink RX2 19 "CableBook$Row" "blank" "I", Cond.methodLink RX3 219 yX3_openStrandFrom, Cond.instanceMethod yX3_openStrandFrom, Cond.selects RX3 yX3_openStrandFrom yX3_openStrandFrom]
def wsX3_freeStrand_r2 : List Cond := [Cond.code yX3_openStrandFrom cX3_openStrandFrom 2 (some .int), Cond.fieldLink RX3 44 "CableBook" "brokenAt" "LCableBook$Marks;", Cond.fieldLink RX3 33 "CableBook" "strandTo" "LCableBook$Row;", Cond.methodLink RX3 138 yX0_has, Cond.instanceMethod yX0_has, Cond.selects RX0 yX0_has yX0_has, Cond.initialized RX0, Cond.code yX0_has cX0_has 2 (some .boolean), Cond.fieldLink RX0 13 "CableBook$Marks" "marked" "[Z", Cond.methodLink RX3 148 yX3_hasCable, Cond.instanceMethod yX3_hasCable, Cond.selects RX3 yX3_hasCable yX3_hasCable, Cond.code yX3_hasCable cX3_hasCable 2 (some .boolean), Cond.fieldLink RX3 27 "CableBook" "cableTo" "LCableBook$Row;"]
def wsX3_freeStrand : List Cond := .code yX3_freeStrand cX3_freeStrand 7 (some .int) :: ((wsX3_freeStrand_r1 ++ wsX3_freeStrand_r2) ++ wsX30 ++ wsX20 ++ wsX00 ++ (vx_atS RX3 137 "java/lang/IndexOutOfBoundsException" ["java/lang/RuntimeException", "java/lang/Exception"]).filter goodWord)
def wsX3_used_r1 : List Cond := [Cond.fieldLink RX3 48 "CableBook" "trunkStart" "LCableBook$Row;", Cond.fieldLink RX3 51 "CableBook" "strandCountOf" "LCableBook$Row;", Cond.fieldLink RX3 33 "CableBook" "strandTo" "LCableBook$Row;", Cond.methodLink RX3 130 yX3_checkTrunk, Cond.instanceMethod yX3_checkTrunk, Cond.selects RX3 yX3_checkTrunk yX3_checkTrunk, Cond.initialized RX3, Cond.code yX3_checkTrunk cX3_checkTrunk 2 none, Cond.classLink RX3 133 "java/lang/IndexOutOfBoundsException", Cond.initialized "java/lang/IndexOutOfBoundsException", Cond.fieldLink RX3 80 "CableBook" "trunkCount" "I", Cond.methodLink RX3 83 yX3_isWithin, Cond.static yX3_isWithin, Cond.code yX3_isWithin cX3_isWithin 3 (some .boolean), Cond.methodLink RX3 107 yX2_at, Cond.instanceMethod yX2_at, Cond.selects RX2 yX2_at yX2_at, Cond.initialized RX2, Cond.code yX2_at cX2_at 2 (some .int), Cond.fieldLink RX2 13 "CableBook$Row" "values" "[I", Cond.fieldLink RX2 19 "CableBook$Row" "blank" "I", Cond.methodLink RX3 148 yX3_hasCable, Cond.instanceMethod yX3_hasCable, Cond.selects RX3 yX3_hasCable yX3_hasCable]
def wsX3_used_r2 : List Cond := [Cond.code yX3_hasCable cX3_hasCable 2 (some .boolean), Cond.fieldLink RX3 27 "CableBook" "cableTo" "LCableBook$Row;"]
def wsX3_used : List Cond := .code yX3_used cX3_used 6 (some .int) :: ((wsX3_used_r1 ++ wsX3_used_r2) ++ wsX30 ++ wsX20 ++ (vx_atS RX3 137 "java/lang/IndexOutOfBoundsException" ["java/lang/RuntimeException", "java/lang/Exception"]).filter goodWord)
def wsX3_canCarryOut_r1 : List Cond := [Cond.methodLink RX3 179 yX3_planIsPossible, Cond.instanceMethod yX3_planIsPossible, Cond.selects RX3 yX3_planIsPossible yX3_planIsPossible, Cond.initialized RX3, Cond.code yX3_planIsPossible cX3_planIsPossible 3 (some .boolean), Cond.fieldLink RX3 60 "CableBook" "plan" "LCableBook$Plan;", Cond.methodLink RX3 167 yX1_size, Cond.instanceMethod yX1_size, Cond.selects RX1 yX1_size yX1_size, Cond.initialized RX1, Cond.code yX1_size cX1_size 1 (some .int), Cond.fieldLink RX1 29 "CableBook$Plan" "count" "I", Cond.methodLink RX3 233 yX1_from, Cond.instanceMethod yX1_from, Cond.selects RX1 yX1_from yX1_from, Cond.code yX1_from cX1_from 2 (some .int), Cond.fieldLink RX1 14 "CableBook$Plan" "sources" "LCableBook$Row;", Cond.methodLink RX1 33 yX2_at, Cond.instanceMethod yX2_at, Cond.selects RX2 yX2_at yX2_at, Cond.initialized RX2, Cond.code yX2_at cX2_at 2 (some .int), Cond.fieldLink RX2 13 "CableBook$Row" "values" "[I", Cond.fieldLink RX2 19 "CableBook$Row" "blank" "I"]
def wsX3_canCarryOut_r2 : List Cond := [Cond.methodLink RX3 148 yX3_hasCable, Cond.instanceMethod yX3_hasCable, Cond.selects RX3 yX3_hasCable yX3_hasCable, Cond.code yX3_hasCable cX3_hasCable 2 (some .boolean), Cond.fieldLink RX3 27 "CableBook" "cableTo" "LCableBook$Row;", Cond.methodLink RX3 107 yX2_at, Cond.methodLink RX3 236 yX1_repeatsEarlier, Cond.instanceMethod yX1_repeatsEarlier, Cond.selects RX1 yX1_repeatsEarlier yX1_repeatsEarlier, Cond.code yX1_repeatsEarlier cX1_repeatsEarlier 3 (some .boolean), Cond.methodLink RX1 40 yX1_from, Cond.methodLink RX1 43 yX1_to, Cond.instanceMethod yX1_to, Cond.selects RX1 yX1_to yX1_to, Cond.code yX1_to cX1_to 2 (some .int), Cond.fieldLink RX1 20 "CableBook$Plan" "targets" "LCableBook$Row;", Cond.methodLink RX3 239 yX1_to, Cond.methodLink RX3 242 yX3_staysTaken, Cond.instanceMethod yX3_staysTaken, Cond.selects RX3 yX3_staysTaken yX3_staysTaken, Cond.code yX3_staysTaken cX3_staysTaken 2 (some .boolean), Cond.methodLink RX3 245 yX1_pulls, Cond.instanceMethod yX1_pulls, Cond.selects RX1 yX1_pulls yX1_pulls]
def wsX3_canCarryOut_r3 : List Cond := [Cond.code yX1_pulls cX1_pulls 3 (some .boolean)]
def wsX3_canCarryOut : List Cond := .code yX3_canCarryOut cX3_canCarryOut 1 (some .boolean) :: ((wsX3_canCarryOut_r1 ++ (wsX3_canCarryOut_r2 ++ wsX3_canCarryOut_r3)) ++ wsX30 ++ wsX10 ++ wsX20)
def wsX3_cableLength : List Cond := .code yX3_cableLength cX3_cableLength 3 (some .int) :: ([.fieldLink RX3 77 "CableBook" "portCount" "I", .fieldLink RX3 27 "CableBook" "cableTo" "LCableBook$Row;", .methodLink RX3 191 yX3_isLowerEnd, .instanceMethod yX3_isLowerEnd, .selects RX3 yX3_isLowerEnd yX3_isLowerEnd, .initialized RX3, .code yX3_isLowerEnd cX3_isLowerEnd 2 (some .boolean), .methodLink RX3 107 yX2_at, .instanceMethod yX2_at, .selects RX2 yX2_at yX2_at, .initialized RX2, .code yX2_at cX2_at 2 (some .int), .fieldLink RX2 13 "CableBook$Row" "values" "[I", .fieldLink RX2 19 "CableBook$Row" "blank" "I", .methodLink RX3 156 yX3_lengthBetween, .instanceMethod yX3_lengthBetween, .selects RX3 yX3_lengthBetween yX3_lengthBetween, .code yX3_lengthBetween cX3_lengthBetween 6 (some .int), .fieldLink RX3 24 "CableBook" "panelAt" "LCableBook$Row;", .fieldLink RX3 14 "CableBook" "rackOf" "LCableBook$Row;", .methodLink RX3 228 Lib.Math.abs.name, .static Lib.Math.abs.name, .initialized "java/lang/Math", .code Lib.Math.abs.name Lib.Math.abs.code 1 (some .int)] ++ wsX30 ++ wsX20)
def wsX4_init : List Cond := .code yX4_init cX4_init 1 none :: ([.methodLink RX4 1 objectInit, .instanceMethod objectInit, .code objectInit ⟨#[0xb1]⟩ 1 none, .arrayClass .int, .fieldLink RX4 7 "CableBookModel" "racks" "[I", .fieldLink RX4 13 "CableBookModel" "firsts" "[I", .fieldLink RX4 16 "CableBookModel" "cables" "[I", .fieldLink RX4 19 "CableBookModel" "colours" "[I", .fieldLink RX4 22 "CableBookModel" "strands" "[I", .fieldLink RX4 25 "CableBookModel" "trunksOf" "[I", .arrayClass .boolean, .fieldLink RX4 28 "CableBookModel" "areBroken" "[Z", .fieldLink RX4 32 "CableBookModel" "trunkFrom" "[I", .fieldLink RX4 35 "CableBookModel" "trunkTo" "[I", .fieldLink RX4 38 "CableBookModel" "trunkStrands" "[I", .fieldLink RX4 41 "CableBookModel" "trunkLengths" "[I", .fieldLink RX4 44 "CableBookModel" "from" "[I", .fieldLink RX4 47 "CableBookModel" "to" "[I", .fieldLink RX4 50 "CableBookModel" "newCables" "[I", .fieldLink RX4 53 "CableBookModel" "newColours" "[I", .fieldLink RX4 56 "CableBookModel" "hops" "[I", .fieldLink RX4 59 "CableBookModel" "lineOf" "[I"] ++ wsX40)
def wsX4_thrown : List Cond := .code yX4_thrown cX4_thrown 1 (some .int) :: ([.fieldLink RX4 62 "CableBookModel" "thrown" "I"] ++ wsX40)
def wsX4_holds : List Cond := .code yX4_holds cX4_holds 2 (some .boolean) :: ([.fieldLink RX4 62 "CableBookModel" "thrown" "I"] ++ wsX40)
def wsX4_in : List Cond := .code yX4_in cX4_in 3 (some .boolean) :: ([])
def wsX4_isPort : List Cond := .code yX4_isPort cX4_isPort 2 (some .boolean) :: ([.fieldLink RX4 66 "CableBookModel" "ports" "I", .methodLink RX4 69 yX4_in, .static yX4_in, .initialized RX4, .code yX4_in cX4_in 3 (some .boolean)] ++ wsX40)
def wsX4_arePorts : List Cond := .code yX4_arePorts cX4_arePorts 3 (some .boolean) :: ([.methodLink RX4 73 yX4_isPort, .instanceMethod yX4_isPort, .selects RX4 yX4_isPort yX4_isPort, .initialized RX4, .code yX4_isPort cX4_isPort 2 (some .boolean), .fieldLink RX4 66 "CableBookModel" "ports" "I", .methodLink RX4 69 yX4_in, .static yX4_in, .code yX4_in cX4_in 3 (some .boolean)] ++ wsX40)
def wsX4_panel : List Cond := .code yX4_panel cX4_panel 3 (some .int) :: ([.fieldLink RX4 13 "CableBookModel" "firsts" "[I"] ++ wsX40)
def wsX4_addPanel : List Cond := .code yX4_addPanel cX4_addPanel 4 (some .int) :: ([.fieldLink RX4 77 "CableBookModel" "panels" "I", .fieldLink RX4 7 "CableBookModel" "racks" "[I", .fieldLink RX4 66 "CableBookModel" "ports" "I", .fieldLink RX4 16 "CableBookModel" "cables" "[I", .fieldLink RX4 22 "CableBookModel" "strands" "[I", .fieldLink RX4 13 "CableBookModel" "firsts" "[I", .methodLink RX4 69 yX4_in, .static yX4_in, .initialized RX4, .code yX4_in cX4_in 3 (some .boolean), .methodLink RX4 80 yX4_holds, .instanceMethod yX4_holds, .selects RX4 yX4_holds yX4_holds, .code yX4_holds cX4_holds 2 (some .boolean), .fieldLink RX4 62 "CableBookModel" "thrown" "I"] ++ wsX40)
def wsX4_isBehind : List Cond := .code yX4_isBehind cX4_isBehind 3 (some .boolean) :: ([.fieldLink RX4 13 "CableBookModel" "firsts" "[I", .methodLink RX4 83 yX4_panel, .instanceMethod yX4_panel, .selects RX4 yX4_panel yX4_panel, .initialized RX4, .code yX4_panel cX4_panel 3 (some .int)] ++ wsX40)
def wsX4_errorOfTrunk : List Cond := .code yX4_errorOfTrunk cX4_errorOfTrunk 7 (some .int) :: ([.fieldLink RX4 94 "CableBookModel" "trunks" "I", .fieldLink RX4 22 "CableBookModel" "strands" "[I", .methodLink RX4 87 yX4_arePorts, .instanceMethod yX4_arePorts, .selects RX4 yX4_arePorts yX4_arePorts, .initialized RX4, .code yX4_arePorts cX4_arePorts 3 (some .boolean), .methodLink RX4 73 yX4_isPort, .instanceMethod yX4_isPort, .selects RX4 yX4_isPort yX4_isPort, .code yX4_isPort cX4_isPort 2 (some .boolean), .fieldLink RX4 66 "CableBookModel" "ports" "I", .methodLink RX4 69 yX4_in, .static yX4_in, .code yX4_in cX4_in 3 (some .boolean), .methodLink RX4 83 yX4_panel, .instanceMethod yX4_panel, .selects RX4 yX4_panel yX4_panel, .code yX4_panel cX4_panel 3 (some .int), .fieldLink RX4 13 "CableBookModel" "firsts" "[I", .methodLink RX4 91 yX4_isBehind, .instanceMethod yX4_isBehind, .selects RX4 yX4_isBehind yX4_isBehind, .code yX4_isBehind cX4_isBehind 3 (some .boolean)] ++ wsX40)
def wsX4_joins : List Cond := .code yX4_joins cX4_joins 3 none :: ([.fieldLink RX4 22 "CableBookModel" "strands" "[I", .fieldLink RX4 25 "CableBookModel" "trunksOf" "[I", .fieldLink RX4 94 "CableBookModel" "trunks" "I", .fieldLink RX4 28 "CableBookModel" "areBroken" "[Z"] ++ wsX40)
def wsX4_addTrunk_r1 : List Cond := [Cond.fieldLink RX4 32 "CableBookModel" "trunkFrom" "[I", Cond.fieldLink RX4 94 "CableBookModel" "trunks" "I", Cond.fieldLink RX4 35 "CableBookModel" "trunkTo" "[I", Cond.fieldLink RX4 38 "CableBookModel" "trunkStrands" "[I", Cond.fieldLink RX4 41 "CableBookModel" "trunkLengths" "[I", Cond.methodLink RX4 97 yX4_errorOfTrunk, Cond.instanceMethod yX4_errorOfTrunk, Cond.selects RX4 yX4_errorOfTrunk yX4_errorOfTrunk, Cond.initialized RX4, Cond.code yX4_errorOfTrunk cX4_errorOfTrunk 7 (some .int), Cond.fieldLink RX4 22 "CableBookModel" "strands" "[I", Cond.methodLink RX4 87 yX4_arePorts, Cond.instanceMethod yX4_arePorts, Cond.selects RX4 yX4_arePorts yX4_arePorts, Cond.code yX4_arePorts cX4_arePorts 3 (some .boolean), Cond.methodLink RX4 73 yX4_isPort, Cond.instanceMethod yX4_isPort, Cond.selects RX4 yX4_isPort yX4_isPort, Cond.code yX4_isPort cX4_isPort 2 (some .boolean), Cond.fieldLink RX4 66 "CableBookModel" "ports" "I", Cond.methodLink RX4 69 yX4_in, Cond.static yX4_in, Cond.code yX4_in cX4_in 3 (some .boolean), Cond.methodLink RX4 83 yX4_panel]
def wsX4_addTrunk_r2 : List Cond := [Cond.instanceMethod yX4_panel, Cond.selects RX4 yX4_panel yX4_panel, Cond.code yX4_panel cX4_panel 3 (some .int), Cond.fieldLink RX4 13 "CableBookModel" "firsts" "[I", Cond.methodLink RX4 91 yX4_isBehind, Cond.instanceMethod yX4_isBehind, Cond.selects RX4 yX4_isBehind yX4_isBehind, Cond.code yX4_isBehind cX4_isBehind 3 (some .boolean), Cond.methodLink RX4 80 yX4_holds, Cond.instanceMethod yX4_holds, Cond.selects RX4 yX4_holds yX4_holds, Cond.code yX4_holds cX4_holds 2 (some .boolean), Cond.fieldLink RX4 62 "CableBookModel" "thrown" "I", Cond.methodLink RX4 101 yX4_joins, Cond.instanceMethod yX4_joins, Cond.selects RX4 yX4_joins yX4_joins, Cond.code yX4_joins cX4_joins 3 none, Cond.fieldLink RX4 25 "CableBookModel" "trunksOf" "[I", Cond.fieldLink RX4 28 "CableBookModel" "areBroken" "[Z"]
def wsX4_addTrunk : List Cond := .code yX4_addTrunk cX4_addTrunk 6 (some .int) :: ((wsX4_addTrunk_r1 ++ wsX4_addTrunk_r2) ++ wsX40)
def wsX4_isTrunk : List Cond := .code yX4_isTrunk cX4_isTrunk 2 (some .boolean) :: ([.fieldLink RX4 94 "CableBookModel" "trunks" "I", .methodLink RX4 69 yX4_in, .static yX4_in, .initialized RX4, .code yX4_in cX4_in 3 (some .boolean)] ++ wsX40)
def wsX4_setBroken : List Cond := .code yX4_setBroken cX4_setBroken 5 (some .boolean) :: ([.fieldLink RX4 38 "CableBookModel" "trunkStrands" "[I", .fieldLink RX4 28 "CableBookModel" "areBroken" "[Z", .fieldLink RX4 32 "CableBookModel" "trunkFrom" "[I", .fieldLink RX4 35 "CableBookModel" "trunkTo" "[I", .methodLink RX4 105 yX4_isTrunk, .instanceMethod yX4_isTrunk, .selects RX4 yX4_isTrunk yX4_isTrunk, .initialized RX4, .code yX4_isTrunk cX4_isTrunk 2 (some .boolean), .fieldLink RX4 94 "CableBookModel" "trunks" "I", .methodLink RX4 69 yX4_in, .static yX4_in, .code yX4_in cX4_in 3 (some .boolean), .methodLink RX4 80 yX4_holds, .instanceMethod yX4_holds, .selects RX4 yX4_holds yX4_holds, .code yX4_holds cX4_holds 2 (some .boolean), .fieldLink RX4 62 "CableBookModel" "thrown" "I"] ++ wsX40)
def wsX4_length : List Cond := .code yX4_length cX4_length 5 (some .int) :: ([.fieldLink RX4 7 "CableBookModel" "racks" "[I", .methodLink RX4 83 yX4_panel, .instanceMethod yX4_panel, .selects RX4 yX4_panel yX4_panel, .initialized RX4, .code yX4_panel cX4_panel 3 (some .int), .fieldLink RX4 13 "CableBookModel" "firsts" "[I"] ++ wsX40)
def wsX4_plug_r1 : List Cond := [Cond.fieldLink RX4 16 "CableBookModel" "cables" "[I", Cond.fieldLink RX4 19 "CableBookModel" "colours" "[I", Cond.methodLink RX4 87 yX4_arePorts, Cond.instanceMethod yX4_arePorts, Cond.selects RX4 yX4_arePorts yX4_arePorts, Cond.initialized RX4, Cond.code yX4_arePorts cX4_arePorts 3 (some .boolean), Cond.methodLink RX4 73 yX4_isPort, Cond.instanceMethod yX4_isPort, Cond.selects RX4 yX4_isPort yX4_isPort, Cond.code yX4_isPort cX4_isPort 2 (some .boolean), Cond.fieldLink RX4 66 "CableBookModel" "ports" "I", Cond.methodLink RX4 69 yX4_in, Cond.static yX4_in, Cond.code yX4_in cX4_in 3 (some .boolean), Cond.methodLink RX4 80 yX4_holds, Cond.instanceMethod yX4_holds, Cond.selects RX4 yX4_holds yX4_holds, Cond.code yX4_holds cX4_holds 2 (some .boolean), Cond.fieldLink RX4 62 "CableBookModel" "thrown" "I", Cond.methodLink RX4 108 yX4_length, Cond.instanceMethod yX4_length, Cond.selects RX4 yX4_length yX4_length, Cond.code yX4_length cX4_length 5 (some .int)]
def wsX4_plug_r2 : List Cond := [Cond.fieldLink RX4 7 "CableBookModel" "racks" "[I", Cond.methodLink RX4 83 yX4_panel, Cond.instanceMethod yX4_panel, Cond.selects RX4 yX4_panel yX4_panel, Cond.code yX4_panel cX4_panel 3 (some .int), Cond.fieldLink RX4 13 "CableBookModel" "firsts" "[I"]
def wsX4_plug : List Cond := .code yX4_plug cX4_plug 4 (some .int) :: ((wsX4_plug_r1 ++ wsX4_plug_r2) ++ wsX40)
def wsX4_pull : List Cond := .code yX4_pull cX4_pull 3 (some .int) :: ([.fieldLink RX4 16 "CableBookModel" "cables" "[I", .methodLink RX4 73 yX4_isPort, .instanceMethod yX4_isPort, .selects RX4 yX4_isPort yX4_isPort, .initialized RX4, .code yX4_isPort cX4_isPort 2 (some .boolean), .fieldLink RX4 66 "CableBookModel" "ports" "I", .methodLink RX4 69 yX4_in, .static yX4_in, .code yX4_in cX4_in 3 (some .boolean), .methodLink RX4 80 yX4_holds, .instanceMethod yX4_holds, .selects RX4 yX4_holds yX4_holds, .code yX4_holds cX4_holds 2 (some .boolean), .fieldLink RX4 62 "CableBookModel" "thrown" "I"] ++ wsX40)
def wsX4_addMove : List Cond := .code yX4_addMove cX4_addMove 3 (some .int) :: ([.fieldLink RX4 112 "CableBookModel" "moves" "I", .fieldLink RX4 44 "CableBookModel" "from" "[I", .fieldLink RX4 47 "CableBookModel" "to" "[I", .methodLink RX4 87 yX4_arePorts, .instanceMethod yX4_arePorts, .selects RX4 yX4_arePorts yX4_arePorts, .initialized RX4, .code yX4_arePorts cX4_arePorts 3 (some .boolean), .methodLink RX4 73 yX4_isPort, .instanceMethod yX4_isPort, .selects RX4 yX4_isPort yX4_isPort, .code yX4_isPort cX4_isPort 2 (some .boolean), .fieldLink RX4 66 "CableBookModel" "ports" "I", .methodLink RX4 69 yX4_in, .static yX4_in, .code yX4_in cX4_in 3 (some .boolean), .methodLink RX4 80 yX4_holds, .instanceMethod yX4_holds, .selects RX4 yX4_holds yX4_holds, .code yX4_holds cX4_holds 2 (some .boolean), .fieldLink RX4 62 "CableBookModel" "thrown" "I"] ++ wsX40)
def wsX4_dropPlan : List Cond := .code yX4_dropPlan cX4_dropPlan 2 (some .int) :: ([.fieldLink RX4 62 "CableBookModel" "thrown" "I", .fieldLink RX4 112 "CableBookModel" "moves" "I"] ++ wsX40)
def wsX4_moved : List Cond := .code yX4_moved cX4_moved 3 (some .int) :: ([.fieldLink RX4 112 "CableBookModel" "moves" "I", .fieldLink RX4 44 "CableBookModel" "from" "[I", .fieldLink RX4 47 "CableBookModel" "to" "[I"] ++ wsX40)
def wsX4_areUnlike : List Cond := .code yX4_areUnlike cX4_areUnlike 4 (some .boolean) :: ([.fieldLink RX4 112 "CableBookModel" "moves" "I"] ++ wsX40)
def wsX4_lays : List Cond := .code yX4_lays cX4_lays 4 (some .boolean) :: ([.fieldLink RX4 44 "CableBookModel" "from" "[I", .fieldLink RX4 47 "CableBookModel" "to" "[I", .fieldLink RX4 112 "CableBookModel" "moves" "I", .fieldLink RX4 16 "CableBookModel" "cables" "[I", .fieldLink RX4 66 "CableBookModel" "ports" "I", .fieldLink RX4 50 "CableBookModel" "newCables" "[I", .fieldLink RX4 53 "CableBookModel" "newColours" "[I", .fieldLink RX4 19 "CableBookModel" "colours" "[I", .methodLink RX4 115 yX4_areUnlike, .instanceMethod yX4_areUnlike, .selects RX4 yX4_areUnlike yX4_areUnlike, .initialized RX4, .code yX4_areUnlike cX4_areUnlike 4 (some .boolean), .methodLink RX4 119 yX4_moved, .instanceMethod yX4_moved, .selects RX4 yX4_moved yX4_moved, .code yX4_moved cX4_moved 3 (some .int)] ++ wsX40)
def wsX4_carryOut_r1 : List Cond := [Cond.fieldLink RX4 66 "CableBookModel" "ports" "I", Cond.fieldLink RX4 16 "CableBookModel" "cables" "[I", Cond.fieldLink RX4 50 "CableBookModel" "newCables" "[I", Cond.fieldLink RX4 19 "CableBookModel" "colours" "[I", Cond.fieldLink RX4 53 "CableBookModel" "newColours" "[I", Cond.fieldLink RX4 112 "CableBookModel" "moves" "I", Cond.methodLink RX4 122 yX4_lays, Cond.instanceMethod yX4_lays, Cond.selects RX4 yX4_lays yX4_lays, Cond.initialized RX4, Cond.code yX4_lays cX4_lays 4 (some .boolean), Cond.fieldLink RX4 44 "CableBookModel" "from" "[I", Cond.fieldLink RX4 47 "CableBookModel" "to" "[I", Cond.methodLink RX4 115 yX4_areUnlike, Cond.instanceMethod yX4_areUnlike, Cond.selects RX4 yX4_areUnlike yX4_areUnlike, Cond.code yX4_areUnlike cX4_areUnlike 4 (some .boolean), Cond.methodLink RX4 119 yX4_moved, Cond.instanceMethod yX4_moved, Cond.selects RX4 yX4_moved yX4_moved, Cond.code yX4_moved cX4_moved 3 (some .int), Cond.methodLink RX4 80 yX4_holds, Cond.instanceMethod yX4_holds, Cond.selects RX4 yX4_holds yX4_holds]
def wsX4_carryOut_r2 : List Cond := [Cond.code yX4_holds cX4_holds 2 (some .boolean), Cond.fieldLink RX4 62 "CableBookModel" "thrown" "I"]
def wsX4_carryOut : List Cond := .code yX4_carryOut cX4_carryOut 2 (some .int) :: ((wsX4_carryOut_r1 ++ wsX4_carryOut_r2) ++ wsX40)
def wsX4_ports : List Cond := .code yX4_ports cX4_ports 1 (some .int) :: ([.fieldLink RX4 62 "CableBookModel" "thrown" "I", .fieldLink RX4 66 "CableBookModel" "ports" "I"] ++ wsX40)
def wsX4_trunks : List Cond := .code yX4_trunks cX4_trunks 1 (some .int) :: ([.fieldLink RX4 62 "CableBookModel" "thrown" "I", .fieldLink RX4 94 "CableBookModel" "trunks" "I"] ++ wsX40)
def wsX4_cables : List Cond := .code yX4_cables cX4_cables 3 (some .int) :: ([.fieldLink RX4 62 "CableBookModel" "thrown" "I", .fieldLink RX4 66 "CableBookModel" "ports" "I", .fieldLink RX4 16 "CableBookModel" "cables" "[I"] ++ wsX40)
def wsX4_panelOf : List Cond := .code yX4_panelOf cX4_panelOf 2 (some .int) :: ([.methodLink RX4 73 yX4_isPort, .instanceMethod yX4_isPort, .selects RX4 yX4_isPort yX4_isPort, .initialized RX4, .code yX4_isPort cX4_isPort 2 (some .boolean), .fieldLink RX4 66 "CableBookModel" "ports" "I", .methodLink RX4 69 yX4_in, .static yX4_in, .code yX4_in cX4_in 3 (some .boolean), .methodLink RX4 80 yX4_holds, .instanceMethod yX4_holds, .selects RX4 yX4_holds yX4_holds, .code yX4_holds cX4_holds 2 (some .boolean), .fieldLink RX4 62 "CableBookModel" "thrown" "I", .methodLink RX4 83 yX4_panel, .instanceMethod yX4_panel, .selects RX4 yX4_panel yX4_panel, .code yX4_panel cX4_panel 3 (some .int), .fieldLink RX4 13 "CableBookModel" "firsts" "[I"] ++ wsX40)
def wsX4_byCable : List Cond := .code yX4_byCable cX4_byCable 2 (some .int) :: ([.fieldLink RX4 16 "CableBookModel" "cables" "[I", .methodLink RX4 73 yX4_isPort, .instanceMethod yX4_isPort, .selects RX4 yX4_isPort yX4_isPort, .initialized RX4, .code yX4_isPort cX4_isPort 2 (some .boolean), .fieldLink RX4 66 "CableBookModel" "ports" "I", .methodLink RX4 69 yX4_in, .static yX4_in, .code yX4_in cX4_in 3 (some .boolean), .methodLink RX4 80 yX4_holds, .instanceMethod yX4_holds, .selects RX4 yX4_holds yX4_holds, .code yX4_holds cX4_holds 2 (some .boolean), .fieldLink RX4 62 "CableBookModel" "thrown" "I"] ++ wsX40)
def wsX4_byStrand : List Cond := .code yX4_byStrand cX4_byStrand 2 (some .int) :: ([.fieldLink RX4 22 "CableBookModel" "strands" "[I", .methodLink RX4 73 yX4_isPort, .instanceMethod yX4_isPort, .selects RX4 yX4_isPort yX4_isPort, .initialized RX4, .code yX4_isPort cX4_isPort 2 (some .boolean), .fieldLink RX4 66 "CableBookModel" "ports" "I", .methodLink RX4 69 yX4_in, .static yX4_in, .code yX4_in cX4_in 3 (some .boolean), .methodLink RX4 80 yX4_holds, .instanceMethod yX4_holds, .selects RX4 yX4_holds yX4_holds, .code yX4_holds cX4_holds 2 (some .boolean), .fieldLink RX4 62 "CableBookModel" "thrown" "I"] ++ wsX40)
def wsX4_colour : List Cond := .code yX4_colour cX4_colour 2 (some .int) :: ([.fieldLink RX4 16 "CableBookModel" "cables" "[I", .fieldLink RX4 19 "CableBookModel" "colours" "[I", .methodLink RX4 73 yX4_isPort, .instanceMethod yX4_isPort, .selects RX4 yX4_isPort yX4_isPort, .initialized RX4, .code yX4_isPort cX4_isPort 2 (some .boolean), .fieldLink RX4 66 "CableBookModel" "ports" "I", .methodLink RX4 69 yX4_in, .static yX4_in, .code yX4_in cX4_in 3 (some .boolean), .methodLink RX4 80 yX4_holds, .instanceMethod yX4_holds, .selects RX4 yX4_holds yX4_holds, .code yX4_holds cX4_holds 2 (some .boolean), .fieldLink RX4 62 "CableBookModel" "thrown" "I"] ++ wsX40)
def wsX4_next : List Cond := .code yX4_next cX4_next 3 (some .int) :: ([.fieldLink RX4 16 "CableBookModel" "cables" "[I", .fieldLink RX4 28 "CableBookModel" "areBroken" "[Z", .fieldLink RX4 22 "CableBookModel" "strands" "[I"] ++ wsX40)
def wsX4_goes : List Cond := .code yX4_goes cX4_goes 6 (some .int) :: ([.fieldLink RX4 126 "CableBookModel" "hopCount" "I", .fieldLink RX4 129 "CableBookModel" "hopLength" "I", .fieldLink RX4 41 "CableBookModel" "trunkLengths" "[I", .fieldLink RX4 25 "CableBookModel" "trunksOf" "[I", .fieldLink RX4 56 "CableBookModel" "hops" "[I", .methodLink RX4 132 yX4_next, .instanceMethod yX4_next, .selects RX4 yX4_next yX4_next, .initialized RX4, .code yX4_next cX4_next 3 (some .int), .fieldLink RX4 16 "CableBookModel" "cables" "[I", .fieldLink RX4 28 "CableBookModel" "areBroken" "[Z", .fieldLink RX4 22 "CableBookModel" "strands" "[I", .methodLink RX4 108 yX4_length, .instanceMethod yX4_length, .selects RX4 yX4_length yX4_length, .code yX4_length cX4_length 5 (some .int), .fieldLink RX4 7 "CableBookModel" "racks" "[I", .methodLink RX4 83 yX4_panel, .instanceMethod yX4_panel, .selects RX4 yX4_panel yX4_panel, .code yX4_panel cX4_panel 3 (some .int), .fieldLink RX4 13 "CableBookModel" "firsts" "[I"] ++ wsX40)
def wsX4_end_r1 : List Cond := [Cond.methodLink RX4 73 yX4_isPort, Cond.instanceMethod yX4_isPort, Cond.selects RX4 yX4_isPort yX4_isPort, Cond.initialized RX4, Cond.code yX4_isPort cX4_isPort 2 (some .boolean), Cond.fieldLink RX4 66 "CableBookModel" "ports" "I", Cond.methodLink RX4 69 yX4_in, Cond.static yX4_in, Cond.code yX4_in cX4_in 3 (some .boolean), Cond.methodLink RX4 80 yX4_holds, Cond.instanceMethod yX4_holds, Cond.selects RX4 yX4_holds yX4_holds, Cond.code yX4_holds cX4_holds 2 (some .boolean), Cond.fieldLink RX4 62 "CableBookModel" "thrown" "I", Cond.methodLink RX4 136 yX4_goes, Cond.instanceMethod yX4_goes, Cond.selects RX4 yX4_goes yX4_goes, Cond.code yX4_goes cX4_goes 6 (some .int), Cond.fieldLink RX4 126 "CableBookModel" "hopCount" "I", Cond.fieldLink RX4 129 "CableBookModel" "hopLength" "I", Cond.fieldLink RX4 41 "CableBookModel" "trunkLengths" "[I", Cond.fieldLink RX4 25 "CableBookModel" "trunksOf" "[I", Cond.fieldLink RX4 56 "CableBookModel" "hops" "[I", Cond.methodLink RX4 132 yX4_next]
def wsX4_end_r2 : List Cond := [Cond.instanceMethod yX4_next, Cond.selects RX4 yX4_next yX4_next, Cond.code yX4_next cX4_next 3 (some .int), Cond.fieldLink RX4 16 "CableBookModel" "cables" "[I", Cond.fieldLink RX4 28 "CableBookModel" "areBroken" "[Z", Cond.fieldLink RX4 22 "CableBookModel" "strands" "[I", Cond.methodLink RX4 108 yX4_length, Cond.instanceMethod yX4_length, Cond.selects RX4 yX4_length yX4_length, Cond.code yX4_length cX4_length 5 (some .int), Cond.fieldLink RX4 7 "CableBookModel" "racks" "[I", Cond.methodLink RX4 83 yX4_panel, Cond.instanceMethod yX4_panel, Cond.selects RX4 yX4_panel yX4_panel, Cond.code yX4_panel cX4_panel 3 (some .int), Cond.fieldLink RX4 13 "CableBookModel" "firsts" "[I"]
def wsX4_end : List Cond := .code yX4_end cX4_end 3 (some .int) :: ((wsX4_end_r1 ++ wsX4_end_r2) ++ wsX40)
def wsX4_hops_r1 : List Cond := [Cond.fieldLink RX4 126 "CableBookModel" "hopCount" "I", Cond.methodLink RX4 73 yX4_isPort, Cond.instanceMethod yX4_isPort, Cond.selects RX4 yX4_isPort yX4_isPort, Cond.initialized RX4, Cond.code yX4_isPort cX4_isPort 2 (some .boolean), Cond.fieldLink RX4 66 "CableBookModel" "ports" "I", Cond.methodLink RX4 69 yX4_in, Cond.static yX4_in, Cond.code yX4_in cX4_in 3 (some .boolean), Cond.methodLink RX4 80 yX4_holds, Cond.instanceMethod yX4_holds, Cond.selects RX4 yX4_holds yX4_holds, Cond.code yX4_holds cX4_holds 2 (some .boolean), Cond.fieldLink RX4 62 "CableBookModel" "thrown" "I", Cond.methodLink RX4 136 yX4_goes, Cond.instanceMethod yX4_goes, Cond.selects RX4 yX4_goes yX4_goes, Cond.code yX4_goes cX4_goes 6 (some .int), Cond.fieldLink RX4 129 "CableBookModel" "hopLength" "I", Cond.fieldLink RX4 41 "CableBookModel" "trunkLengths" "[I", Cond.fieldLink RX4 25 "CableBookModel" "trunksOf" "[I", Cond.fieldLink RX4 56 "CableBookModel" "hops" "[I", Cond.methodLink RX4 132 yX4_next]
def wsX4_hops_r2 : List Cond := [Cond.instanceMethod yX4_next, Cond.selects RX4 yX4_next yX4_next, Cond.code yX4_next cX4_next 3 (some .int), Cond.fieldLink RX4 16 "CableBookModel" "cables" "[I", Cond.fieldLink RX4 28 "CableBookModel" "areBroken" "[Z", Cond.fieldLink RX4 22 "CableBookModel" "strands" "[I", Cond.methodLink RX4 108 yX4_length, Cond.instanceMethod yX4_length, Cond.selects RX4 yX4_length yX4_length, Cond.code yX4_length cX4_length 5 (some .int), Cond.fieldLink RX4 7 "CableBookModel" "racks" "[I", Cond.methodLink RX4 83 yX4_panel, Cond.instanceMethod yX4_panel, Cond.selects RX4 yX4_panel yX4_panel, Cond.code yX4_panel cX4_panel 3 (some .int), Cond.fieldLink RX4 13 "CableBookModel" "firsts" "[I"]
def wsX4_hops : List Cond := .code yX4_hops cX4_hops 3 (some .int) :: ((wsX4_hops_r1 ++ wsX4_hops_r2) ++ wsX40)
def wsX4_hopTo_r1 : List Cond := [Cond.fieldLink RX4 126 "CableBookModel" "hopCount" "I", Cond.fieldLink RX4 56 "CableBookModel" "hops" "[I", Cond.methodLink RX4 73 yX4_isPort, Cond.instanceMethod yX4_isPort, Cond.selects RX4 yX4_isPort yX4_isPort, Cond.initialized RX4, Cond.code yX4_isPort cX4_isPort 2 (some .boolean), Cond.fieldLink RX4 66 "CableBookModel" "ports" "I", Cond.methodLink RX4 69 yX4_in, Cond.static yX4_in, Cond.code yX4_in cX4_in 3 (some .boolean), Cond.methodLink RX4 136 yX4_goes, Cond.instanceMethod yX4_goes, Cond.selects RX4 yX4_goes yX4_goes, Cond.code yX4_goes cX4_goes 6 (some .int), Cond.fieldLink RX4 129 "CableBookModel" "hopLength" "I", Cond.fieldLink RX4 41 "CableBookModel" "trunkLengths" "[I", Cond.fieldLink RX4 25 "CableBookModel" "trunksOf" "[I", Cond.methodLink RX4 132 yX4_next, Cond.instanceMethod yX4_next, Cond.selects RX4 yX4_next yX4_next, Cond.code yX4_next cX4_next 3 (some .int), Cond.fieldLink RX4 16 "CableBookModel" "cables" "[I", Cond.fieldLink RX4 28 "CableBookModel" "areBroken" "[Z"]
def wsX4_hopTo_r2 : List Cond := [Cond.fieldLink RX4 22 "CableBookModel" "strands" "[I", Cond.methodLink RX4 108 yX4_length, Cond.instanceMethod yX4_length, Cond.selects RX4 yX4_length yX4_length, Cond.code yX4_length cX4_length 5 (some .int), Cond.fieldLink RX4 7 "CableBookModel" "racks" "[I", Cond.methodLink RX4 83 yX4_panel, Cond.instanceMethod yX4_panel, Cond.selects RX4 yX4_panel yX4_panel, Cond.code yX4_panel cX4_panel 3 (some .int), Cond.fieldLink RX4 13 "CableBookModel" "firsts" "[I", Cond.methodLink RX4 80 yX4_holds, Cond.instanceMethod yX4_holds, Cond.selects RX4 yX4_holds yX4_holds, Cond.code yX4_holds cX4_holds 2 (some .boolean), Cond.fieldLink RX4 62 "CableBookModel" "thrown" "I"]
def wsX4_hopTo : List Cond := .code yX4_hopTo cX4_hopTo 5 (some .int) :: ((wsX4_hopTo_r1 ++ wsX4_hopTo_r2) ++ wsX40)
def wsX4_lengthOf_r1 : List Cond := [Cond.fieldLink RX4 129 "CableBookModel" "hopLength" "I", Cond.methodLink RX4 73 yX4_isPort, Cond.instanceMethod yX4_isPort, Cond.selects RX4 yX4_isPort yX4_isPort, Cond.initialized RX4, Cond.code yX4_isPort cX4_isPort 2 (some .boolean), Cond.fieldLink RX4 66 "CableBookModel" "ports" "I", Cond.methodLink RX4 69 yX4_in, Cond.static yX4_in, Cond.code yX4_in cX4_in 3 (some .boolean), Cond.methodLink RX4 80 yX4_holds, Cond.instanceMethod yX4_holds, Cond.selects RX4 yX4_holds yX4_holds, Cond.code yX4_holds cX4_holds 2 (some .boolean), Cond.fieldLink RX4 62 "CableBookModel" "thrown" "I", Cond.methodLink RX4 136 yX4_goes, Cond.instanceMethod yX4_goes, Cond.selects RX4 yX4_goes yX4_goes, Cond.code yX4_goes cX4_goes 6 (some .int), Cond.fieldLink RX4 126 "CableBookModel" "hopCount" "I", Cond.fieldLink RX4 41 "CableBookModel" "trunkLengths" "[I", Cond.fieldLink RX4 25 "CableBookModel" "trunksOf" "[I", Cond.fieldLink RX4 56 "CableBookModel" "hops" "[I", Cond.methodLink RX4 132 yX4_next]
def wsX4_lengthOf_r2 : List Cond := [Cond.instanceMethod yX4_next, Cond.selects RX4 yX4_next yX4_next, Cond.code yX4_next cX4_next 3 (some .int), Cond.fieldLink RX4 16 "CableBookModel" "cables" "[I", Cond.fieldLink RX4 28 "CableBookModel" "areBroken" "[Z", Cond.fieldLink RX4 22 "CableBookModel" "strands" "[I", Cond.methodLink RX4 108 yX4_length, Cond.instanceMethod yX4_length, Cond.selects RX4 yX4_length yX4_length, Cond.code yX4_length cX4_length 5 (some .int), Cond.fieldLink RX4 7 "CableBookModel" "racks" "[I", Cond.methodLink RX4 83 yX4_panel, Cond.instanceMethod yX4_panel, Cond.selects RX4 yX4_panel yX4_panel, Cond.code yX4_panel cX4_panel 3 (some .int), Cond.fieldLink RX4 13 "CableBookModel" "firsts" "[I"]
def wsX4_lengthOf : List Cond := .code yX4_lengthOf cX4_lengthOf 3 (some .int) :: ((wsX4_lengthOf_r1 ++ wsX4_lengthOf_r2) ++ wsX40)
def wsX4_isRing_r1 : List Cond := [Cond.fieldLink RX4 126 "CableBookModel" "hopCount" "I", Cond.methodLink RX4 73 yX4_isPort, Cond.instanceMethod yX4_isPort, Cond.selects RX4 yX4_isPort yX4_isPort, Cond.initialized RX4, Cond.code yX4_isPort cX4_isPort 2 (some .boolean), Cond.fieldLink RX4 66 "CableBookModel" "ports" "I", Cond.methodLink RX4 69 yX4_in, Cond.static yX4_in, Cond.code yX4_in cX4_in 3 (some .boolean), Cond.methodLink RX4 80 yX4_holds, Cond.instanceMethod yX4_holds, Cond.selects RX4 yX4_holds yX4_holds, Cond.code yX4_holds cX4_holds 2 (some .boolean), Cond.fieldLink RX4 62 "CableBookModel" "thrown" "I", Cond.methodLink RX4 136 yX4_goes, Cond.instanceMethod yX4_goes, Cond.selects RX4 yX4_goes yX4_goes, Cond.code yX4_goes cX4_goes 6 (some .int), Cond.fieldLink RX4 129 "CableBookModel" "hopLength" "I", Cond.fieldLink RX4 41 "CableBookModel" "trunkLengths" "[I", Cond.fieldLink RX4 25 "CableBookModel" "trunksOf" "[I", Cond.fieldLink RX4 56 "CableBookModel" "hops" "[I", Cond.methodLink RX4 132 yX4_next]
def wsX4_isRing_r2 : List Cond := [Cond.instanceMethod yX4_next, Cond.selects RX4 yX4_next yX4_next, Cond.code yX4_next cX4_next 3 (some .int), Cond.fieldLink RX4 16 "CableBookModel" "cables" "[I", Cond.fieldLink RX4 28 "CableBookModel" "areBroken" "[Z", Cond.fieldLink RX4 22 "CableBookModel" "strands" "[I", Cond.methodLink RX4 108 yX4_length, Cond.instanceMethod yX4_length, Cond.selects RX4 yX4_length yX4_length, Cond.code yX4_length cX4_length 5 (some .int), Cond.fieldLink RX4 7 "CableBookModel" "racks" "[I", Cond.methodLink RX4 83 yX4_panel, Cond.instanceMethod yX4_panel, Cond.selects RX4 yX4_panel yX4_panel, Cond.code yX4_panel cX4_panel 3 (some .int), Cond.fieldLink RX4 13 "CableBookModel" "firsts" "[I"]
def wsX4_isRing : List Cond := .code yX4_isRing cX4_isRing 2 (some .boolean) :: ((wsX4_isRing_r1 ++ wsX4_isRing_r2) ++ wsX40)
def wsX4_isMet_r1 : List Cond := [Cond.fieldLink RX4 126 "CableBookModel" "hopCount" "I", Cond.fieldLink RX4 56 "CableBookModel" "hops" "[I", Cond.methodLink RX4 136 yX4_goes, Cond.instanceMethod yX4_goes, Cond.selects RX4 yX4_goes yX4_goes, Cond.initialized RX4, Cond.code yX4_goes cX4_goes 6 (some .int), Cond.fieldLink RX4 129 "CableBookModel" "hopLength" "I", Cond.fieldLink RX4 41 "CableBookModel" "trunkLengths" "[I", Cond.fieldLink RX4 25 "CableBookModel" "trunksOf" "[I", Cond.methodLink RX4 132 yX4_next, Cond.instanceMethod yX4_next, Cond.selects RX4 yX4_next yX4_next, Cond.code yX4_next cX4_next 3 (some .int), Cond.fieldLink RX4 16 "CableBookModel" "cables" "[I", Cond.fieldLink RX4 28 "CableBookModel" "areBroken" "[Z", Cond.fieldLink RX4 22 "CableBookModel" "strands" "[I", Cond.methodLink RX4 108 yX4_length, Cond.instanceMethod yX4_length, Cond.selects RX4 yX4_length yX4_length, Cond.code yX4_length cX4_length 5 (some .int), Cond.fieldLink RX4 7 "CableBookModel" "racks" "[I", Cond.methodLink RX4 83 yX4_panel, Cond.instanceMethod yX4_panel]
def wsX4_isMet_r2 : List Cond := [Cond.selects RX4 yX4_panel yX4_panel, Cond.code yX4_panel cX4_panel 3 (some .int), Cond.fieldLink RX4 13 "CableBookModel" "firsts" "[I"]
def wsX4_isMet : List Cond := .code yX4_isMet cX4_isMet 5 (some .boolean) :: ((wsX4_isMet_r1 ++ wsX4_isMet_r2) ++ wsX40)
def wsX4_isOnLine_r1 : List Cond := [Cond.methodLink RX4 139 yX4_isMet, Cond.instanceMethod yX4_isMet, Cond.selects RX4 yX4_isMet yX4_isMet, Cond.initialized RX4, Cond.code yX4_isMet cX4_isMet 5 (some .boolean), Cond.fieldLink RX4 126 "CableBookModel" "hopCount" "I", Cond.fieldLink RX4 56 "CableBookModel" "hops" "[I", Cond.methodLink RX4 136 yX4_goes, Cond.instanceMethod yX4_goes, Cond.selects RX4 yX4_goes yX4_goes, Cond.code yX4_goes cX4_goes 6 (some .int), Cond.fieldLink RX4 129 "CableBookModel" "hopLength" "I", Cond.fieldLink RX4 41 "CableBookModel" "trunkLengths" "[I", Cond.fieldLink RX4 25 "CableBookModel" "trunksOf" "[I", Cond.methodLink RX4 132 yX4_next, Cond.instanceMethod yX4_next, Cond.selects RX4 yX4_next yX4_next, Cond.code yX4_next cX4_next 3 (some .int), Cond.fieldLink RX4 16 "CableBookModel" "cables" "[I", Cond.fieldLink RX4 28 "CableBookModel" "areBroken" "[Z", Cond.fieldLink RX4 22 "CableBookModel" "strands" "[I", Cond.methodLink RX4 108 yX4_length, Cond.instanceMethod yX4_length, Cond.selects RX4 yX4_length yX4_length]
def wsX4_isOnLine_r2 : List Cond := [Cond.code yX4_length cX4_length 5 (some .int), Cond.fieldLink RX4 7 "CableBookModel" "racks" "[I", Cond.methodLink RX4 83 yX4_panel, Cond.instanceMethod yX4_panel, Cond.selects RX4 yX4_panel yX4_panel, Cond.code yX4_panel cX4_panel 3 (some .int), Cond.fieldLink RX4 13 "CableBookModel" "firsts" "[I"]
def wsX4_isOnLine : List Cond := .code yX4_isOnLine cX4_isOnLine 3 (some .boolean) :: ((wsX4_isOnLine_r1 ++ wsX4_isOnLine_r2) ++ wsX40)
def wsX4_areJoined_r1 : List Cond := [Cond.methodLink RX4 87 yX4_arePorts, Cond.instanceMethod yX4_arePorts, Cond.selects RX4 yX4_arePorts yX4_arePorts, Cond.initialized RX4, Cond.code yX4_arePorts cX4_arePorts 3 (some .boolean), Cond.methodLink RX4 73 yX4_isPort, Cond.instanceMethod yX4_isPort, Cond.selects RX4 yX4_isPort yX4_isPort, Cond.code yX4_isPort cX4_isPort 2 (some .boolean), Cond.fieldLink RX4 66 "CableBookModel" "ports" "I", Cond.methodLink RX4 69 yX4_in, Cond.static yX4_in, Cond.code yX4_in cX4_in 3 (some .boolean), Cond.methodLink RX4 80 yX4_holds, Cond.instanceMethod yX4_holds, Cond.selects RX4 yX4_holds yX4_holds, Cond.code yX4_holds cX4_holds 2 (some .boolean), Cond.fieldLink RX4 62 "CableBookModel" "thrown" "I", Cond.methodLink RX4 143 yX4_isOnLine, Cond.instanceMethod yX4_isOnLine, Cond.selects RX4 yX4_isOnLine yX4_isOnLine, Cond.code yX4_isOnLine cX4_isOnLine 3 (some .boolean), Cond.methodLink RX4 139 yX4_isMet, Cond.instanceMethod yX4_isMet]
def wsX4_areJoined_r2 : List Cond := [Cond.selects RX4 yX4_isMet yX4_isMet, Cond.code yX4_isMet cX4_isMet 5 (some .boolean), Cond.fieldLink RX4 126 "CableBookModel" "hopCount" "I", Cond.fieldLink RX4 56 "CableBookModel" "hops" "[I", Cond.methodLink RX4 136 yX4_goes, Cond.instanceMethod yX4_goes, Cond.selects RX4 yX4_goes yX4_goes, Cond.code yX4_goes cX4_goes 6 (some .int), Cond.fieldLink RX4 129 "CableBookModel" "hopLength" "I", Cond.fieldLink RX4 41 "CableBookModel" "trunkLengths" "[I", Cond.fieldLink RX4 25 "CableBookModel" "trunksOf" "[I", Cond.methodLink RX4 132 yX4_next, Cond.instanceMethod yX4_next, Cond.selects RX4 yX4_next yX4_next, Cond.code yX4_next cX4_next 3 (some .int), Cond.fieldLink RX4 16 "CableBookModel" "cables" "[I", Cond.fieldLink RX4 28 "CableBookModel" "areBroken" "[Z", Cond.fieldLink RX4 22 "CableBookModel" "strands" "[I", Cond.methodLink RX4 108 yX4_length, Cond.instanceMethod yX4_length, Cond.selects RX4 yX4_length yX4_length, Cond.code yX4_length cX4_length 5 (some .int), Cond.fieldLink RX4 7 "CableBookModel" "racks" "[I", Cond.methodLink RX4 83 yX4_panel]
def wsX4_areJoined_r3 : List Cond := [Cond.instanceMethod yX4_panel, Cond.selects RX4 yX4_panel yX4_panel, Cond.code yX4_panel cX4_panel 3 (some .int), Cond.fieldLink RX4 13 "CableBookModel" "firsts" "[I"]
def wsX4_areJoined : List Cond := .code yX4_areJoined cX4_areJoined 3 (some .boolean) :: ((wsX4_areJoined_r1 ++ (wsX4_areJoined_r2 ++ wsX4_areJoined_r3)) ++ wsX40)
def wsX4_searches : List Cond := .code yX4_searches cX4_searches 5 none :: ([.fieldLink RX4 66 "CableBookModel" "ports" "I", .fieldLink RX4 59 "CableBookModel" "lineOf" "[I", .methodLink RX4 132 yX4_next, .instanceMethod yX4_next, .selects RX4 yX4_next yX4_next, .initialized RX4, .code yX4_next cX4_next 3 (some .int), .fieldLink RX4 16 "CableBookModel" "cables" "[I", .fieldLink RX4 28 "CableBookModel" "areBroken" "[Z", .fieldLink RX4 22 "CableBookModel" "strands" "[I"] ++ wsX40)
def wsX4_areJoinedBySearch_r1 : List Cond := [Cond.fieldLink RX4 59 "CableBookModel" "lineOf" "[I", Cond.methodLink RX4 87 yX4_arePorts, Cond.instanceMethod yX4_arePorts, Cond.selects RX4 yX4_arePorts yX4_arePorts, Cond.initialized RX4, Cond.code yX4_arePorts cX4_arePorts 3 (some .boolean), Cond.methodLink RX4 73 yX4_isPort, Cond.instanceMethod yX4_isPort, Cond.selects RX4 yX4_isPort yX4_isPort, Cond.code yX4_isPort cX4_isPort 2 (some .boolean), Cond.fieldLink RX4 66 "CableBookModel" "ports" "I", Cond.methodLink RX4 69 yX4_in, Cond.static yX4_in, Cond.code yX4_in cX4_in 3 (some .boolean), Cond.methodLink RX4 80 yX4_holds, Cond.instanceMethod yX4_holds, Cond.selects RX4 yX4_holds yX4_holds, Cond.code yX4_holds cX4_holds 2 (some .boolean), Cond.fieldLink RX4 62 "CableBookModel" "thrown" "I", Cond.methodLink RX4 146 yX4_searches, Cond.instanceMethod yX4_searches, Cond.selects RX4 yX4_searches yX4_searches, Cond.code yX4_searches cX4_searches 5 none, Cond.methodLink RX4 132 yX4_next]
def wsX4_areJoinedBySearch_r2 : List Cond := [Cond.instanceMethod yX4_next, Cond.selects RX4 yX4_next yX4_next, Cond.code yX4_next cX4_next 3 (some .int), Cond.fieldLink RX4 16 "CableBookModel" "cables" "[I", Cond.fieldLink RX4 28 "CableBookModel" "areBroken" "[Z", Cond.fieldLink RX4 22 "CableBookModel" "strands" "[I"]
def wsX4_areJoinedBySearch : List Cond := .code yX4_areJoinedBySearch cX4_areJoinedBySearch 3 (some .boolean) :: ((wsX4_areJoinedBySearch_r1 ++ wsX4_areJoinedBySearch_r2) ++ wsX40)
def wsX4_lines : List Cond := .code yX4_lines cX4_lines 3 (some .int) :: ([.fieldLink RX4 62 "CableBookModel" "thrown" "I", .fieldLink RX4 66 "CableBookModel" "ports" "I", .fieldLink RX4 59 "CableBookModel" "lineOf" "[I", .methodLink RX4 146 yX4_searches, .instanceMethod yX4_searches, .selects RX4 yX4_searches yX4_searches, .initialized RX4, .code yX4_searches cX4_searches 5 none, .methodLink RX4 132 yX4_next, .instanceMethod yX4_next, .selects RX4 yX4_next yX4_next, .code yX4_next cX4_next 3 (some .int), .fieldLink RX4 16 "CableBookModel" "cables" "[I", .fieldLink RX4 28 "CableBookModel" "areBroken" "[Z", .fieldLink RX4 22 "CableBookModel" "strands" "[I"] ++ wsX40)
def wsX4_isPanel : List Cond := .code yX4_isPanel cX4_isPanel 2 (some .boolean) :: ([.fieldLink RX4 77 "CableBookModel" "panels" "I", .methodLink RX4 69 yX4_in, .static yX4_in, .initialized RX4, .code yX4_in cX4_in 3 (some .boolean)] ++ wsX40)
def wsX4_freePort : List Cond := .code yX4_freePort cX4_freePort 3 (some .int) :: ([.fieldLink RX4 13 "CableBookModel" "firsts" "[I", .fieldLink RX4 16 "CableBookModel" "cables" "[I", .fieldLink RX4 22 "CableBookModel" "strands" "[I", .methodLink RX4 149 yX4_isPanel, .instanceMethod yX4_isPanel, .selects RX4 yX4_isPanel yX4_isPanel, .initialized RX4, .code yX4_isPanel cX4_isPanel 2 (some .boolean), .fieldLink RX4 77 "CableBookModel" "panels" "I", .methodLink RX4 69 yX4_in, .static yX4_in, .code yX4_in cX4_in 3 (some .boolean), .methodLink RX4 80 yX4_holds, .instanceMethod yX4_holds, .selects RX4 yX4_holds yX4_holds, .code yX4_holds cX4_holds 2 (some .boolean), .fieldLink RX4 62 "CableBookModel" "thrown" "I"] ++ wsX40)
def wsX4_freeStrand_r1 : List Cond := [Cond.fieldLink RX4 13 "CableBookModel" "firsts" "[I", Cond.fieldLink RX4 16 "CableBookModel" "cables" "[I", Cond.methodLink RX4 149 yX4_isPanel, Cond.instanceMethod yX4_isPanel, Cond.selects RX4 yX4_isPanel yX4_isPanel, Cond.initialized RX4, Cond.code yX4_isPanel cX4_isPanel 2 (some .boolean), Cond.fieldLink RX4 77 "CableBookModel" "panels" "I", Cond.methodLink RX4 69 yX4_in, Cond.static yX4_in, Cond.code yX4_in cX4_in 3 (some .boolean), Cond.methodLink RX4 80 yX4_holds, Cond.instanceMethod yX4_holds, Cond.selects RX4 yX4_holds yX4_holds, Cond.code yX4_holds cX4_holds 2 (some .boolean), Cond.fieldLink RX4 62 "CableBookModel" "thrown" "I", Cond.methodLink RX4 132 yX4_next, Cond.instanceMethod yX4_next, Cond.selects RX4 yX4_next yX4_next, Cond.code yX4_next cX4_next 3 (some .int), Cond.fieldLink RX4 28 "CableBookModel" "areBroken" "[Z", Cond.fieldLink RX4 22 "CableBookModel" "strands" "[I", Cond.methodLink RX4 83 yX4_panel, Cond.instanceMethod yX4_panel]
def wsX4_freeStrand_r2 : List Cond := [Cond.selects RX4 yX4_panel yX4_panel, Cond.code yX4_panel cX4_panel 3 (some .int)]
def wsX4_freeStrand : List Cond := .code yX4_freeStrand cX4_freeStrand 5 (some .int) :: ((wsX4_freeStrand_r1 ++ wsX4_freeStrand_r2) ++ wsX40)
def wsX4_used : List Cond := .code yX4_used cX4_used 4 (some .int) :: ([.fieldLink RX4 38 "CableBookModel" "trunkStrands" "[I", .fieldLink RX4 16 "CableBookModel" "cables" "[I", .fieldLink RX4 32 "CableBookModel" "trunkFrom" "[I", .fieldLink RX4 35 "CableBookModel" "trunkTo" "[I", .methodLink RX4 105 yX4_isTrunk, .instanceMethod yX4_isTrunk, .selects RX4 yX4_isTrunk yX4_isTrunk, .initialized RX4, .code yX4_isTrunk cX4_isTrunk 2 (some .boolean), .fieldLink RX4 94 "CableBookModel" "trunks" "I", .methodLink RX4 69 yX4_in, .static yX4_in, .code yX4_in cX4_in 3 (some .boolean), .methodLink RX4 80 yX4_holds, .instanceMethod yX4_holds, .selects RX4 yX4_holds yX4_holds, .code yX4_holds cX4_holds 2 (some .boolean), .fieldLink RX4 62 "CableBookModel" "thrown" "I"] ++ wsX40)
def wsX4_canCarryOut : List Cond := .code yX4_canCarryOut cX4_canCarryOut 1 (some .boolean) :: ([.fieldLink RX4 62 "CableBookModel" "thrown" "I", .methodLink RX4 122 yX4_lays, .instanceMethod yX4_lays, .selects RX4 yX4_lays yX4_lays, .initialized RX4, .code yX4_lays cX4_lays 4 (some .boolean), .fieldLink RX4 44 "CableBookModel" "from" "[I", .fieldLink RX4 47 "CableBookModel" "to" "[I", .fieldLink RX4 112 "CableBookModel" "moves" "I", .fieldLink RX4 16 "CableBookModel" "cables" "[I", .fieldLink RX4 66 "CableBookModel" "ports" "I", .fieldLink RX4 50 "CableBookModel" "newCables" "[I", .fieldLink RX4 53 "CableBookModel" "newColours" "[I", .fieldLink RX4 19 "CableBookModel" "colours" "[I", .methodLink RX4 115 yX4_areUnlike, .instanceMethod yX4_areUnlike, .selects RX4 yX4_areUnlike yX4_areUnlike, .code yX4_areUnlike cX4_areUnlike 4 (some .boolean), .methodLink RX4 119 yX4_moved, .instanceMethod yX4_moved, .selects RX4 yX4_moved yX4_moved, .code yX4_moved cX4_moved 3 (some .int)] ++ wsX40)
def wsX4_cableLength : List Cond := .code yX4_cableLength cX4_cableLength 3 (some .int) :: ([.fieldLink RX4 62 "CableBookModel" "thrown" "I", .fieldLink RX4 66 "CableBookModel" "ports" "I", .fieldLink RX4 16 "CableBookModel" "cables" "[I", .methodLink RX4 108 yX4_length, .instanceMethod yX4_length, .selects RX4 yX4_length yX4_length, .initialized RX4, .code yX4_length cX4_length 5 (some .int), .fieldLink RX4 7 "CableBookModel" "racks" "[I", .methodLink RX4 83 yX4_panel, .instanceMethod yX4_panel, .selects RX4 yX4_panel yX4_panel, .code yX4_panel cX4_panel 3 (some .int), .fieldLink RX4 13 "CableBookModel" "firsts" "[I"] ++ wsX40)
def wsJ9_abs_0f7a4 : List Cond := .code yJ9_abs_0f7a4 cJ9_abs_0f7a4 1 (some .int) :: ([])
def wsJ9_max_7cf53 : List Cond := .code yJ9_max_7cf53 cJ9_max_7cf53 2 (some .int) :: ([])
def wsL_addPanel_r1 : List Cond := [Cond.classLink RL 13 "java/lang/IllegalArgumentException", Cond.classLink RL 15 "java/lang/IllegalStateException", Cond.methodLink RL 7 yX3_addPanel, Cond.instanceMethod yX3_addPanel, Cond.selects RX3 yX3_addPanel yX3_addPanel, Cond.initialized RX3, Cond.code yX3_addPanel cX3_addPanel 5 (some .int), Cond.classLink RX3 87 "java/lang/IllegalArgumentException", Cond.initialized "java/lang/IllegalArgumentException", Cond.classLink RX3 94 "java/lang/IllegalStateException", Cond.initialized "java/lang/IllegalStateException", Cond.fieldLink RX3 73 "CableBook" "panelCount" "I", Cond.fieldLink RX3 77 "CableBook" "portCount" "I", Cond.fieldLink RX3 14 "CableBook" "rackOf" "LCableBook$Row;", Cond.fieldLink RX3 18 "CableBook" "firstPortOf" "LCableBook$Row;", Cond.fieldLink RX3 21 "CableBook" "portCountOf" "LCableBook$Row;", Cond.fieldLink RX3 24 "CableBook" "panelAt" "LCableBook$Row;", Cond.methodLink RX3 83 yX3_isWithin, Cond.static yX3_isWithin, Cond.code yX3_isWithin cX3_isWithin 3 (some .boolean), Cond.methodLink RX3 99 yX2_put, Cond.instanceMethod yX2_put, Cond.selects RX2 yX2_put yX2_put, Cond.initialized RX2]
def wsL_addPanel_r2 : List Cond := [Cond.code yX2_put cX2_put 3 none, Cond.fieldLink RX2 13 "CableBook$Row" "values" "[I"]
def wsL_addPanel : List Cond := .codeWith yL_addPanel cL_addPanel 5 (some .int) [(0, 10, 13, 13), (0, 10, 17, 15)] :: ((wsL_addPanel_r1 ++ wsL_addPanel_r2) ++ wsX30 ++ wsX20 ++ (vx_atS RX3 91 "java/lang/IllegalArgumentException" ["java/lang/RuntimeException", "java/lang/Exception"]).filter goodWord ++ (vx_atS RX3 98 "java/lang/IllegalStateException" ["java/lang/RuntimeException", "java/lang/Exception"]).filter goodWord)
def wsL_addTrunk_r1 : List Cond := [Cond.classLink RL 21 "java/lang/IndexOutOfBoundsException", Cond.classLink RL 13 "java/lang/IllegalArgumentException", Cond.classLink RL 15 "java/lang/IllegalStateException", Cond.methodLink RL 17 yX3_addTrunk, Cond.instanceMethod yX3_addTrunk, Cond.selects RX3 yX3_addTrunk yX3_addTrunk, Cond.initialized RX3, Cond.code yX3_addTrunk cX3_addTrunk 7 (some .int), Cond.classLink RX3 87 "java/lang/IllegalArgumentException", Cond.initialized "java/lang/IllegalArgumentException", Cond.classLink RX3 94 "java/lang/IllegalStateException", Cond.initialized "java/lang/IllegalStateException", Cond.fieldLink RX3 24 "CableBook" "panelAt" "LCableBook$Row;", Cond.fieldLink RX3 80 "CableBook" "trunkCount" "I", Cond.fieldLink RX3 48 "CableBook" "trunkStart" "LCableBook$Row;", Cond.fieldLink RX3 51 "CableBook" "strandCountOf" "LCableBook$Row;", Cond.fieldLink RX3 54 "CableBook" "trunkLength" "LCableBook$Row;", Cond.methodLink RX3 102 yX3_checkPort, Cond.instanceMethod yX3_checkPort, Cond.selects RX3 yX3_checkPort yX3_checkPort, Cond.code yX3_checkPort cX3_checkPort 2 none, Cond.classLink RX3 133 "java/lang/IndexOutOfBoundsException", Cond.initialized "java/lang/IndexOutOfBoundsException", Cond.fieldLink RX3 77 "CableBook" "portCount" "I"]
def wsL_addTrunk_r2 : List Cond := [Cond.methodLink RX3 83 yX3_isWithin, Cond.static yX3_isWithin, Cond.code yX3_isWithin cX3_isWithin 3 (some .boolean), Cond.methodLink RX3 107 yX2_at, Cond.instanceMethod yX2_at, Cond.selects RX2 yX2_at yX2_at, Cond.initialized RX2, Cond.code yX2_at cX2_at 2 (some .int), Cond.fieldLink RX2 13 "CableBook$Row" "values" "[I", Cond.fieldLink RX2 19 "CableBook$Row" "blank" "I", Cond.methodLink RX3 113 yX3_portsFrom, Cond.instanceMethod yX3_portsFrom, Cond.selects RX3 yX3_portsFrom yX3_portsFrom, Cond.code yX3_portsFrom cX3_portsFrom 3 (some .int), Cond.fieldLink RX3 18 "CableBook" "firstPortOf" "LCableBook$Row;", Cond.fieldLink RX3 21 "CableBook" "portCountOf" "LCableBook$Row;", Cond.methodLink RX3 120 yX3_anyStrand, Cond.instanceMethod yX3_anyStrand, Cond.selects RX3 yX3_anyStrand yX3_anyStrand, Cond.code yX3_anyStrand cX3_anyStrand 4 (some .boolean), Cond.methodLink RX3 216 yX3_hasStrand, Cond.instanceMethod yX3_hasStrand, Cond.selects RX3 yX3_hasStrand yX3_hasStrand, Cond.code yX3_hasStrand cX3_hasStrand 2 (some .boolean)]
def wsL_addTrunk_r3 : List Cond := [Cond.fieldLink RX3 33 "CableBook" "strandTo" "LCableBook$Row;", Cond.methodLink RX3 99 yX2_put, Cond.instanceMethod yX2_put, Cond.selects RX2 yX2_put yX2_put, Cond.code yX2_put cX2_put 3 none, Cond.methodLink RX3 126 yX3_joinByStrand, Cond.instanceMethod yX3_joinByStrand, Cond.selects RX3 yX3_joinByStrand yX3_joinByStrand, Cond.code yX3_joinByStrand cX3_joinByStrand 4 none, Cond.fieldLink RX3 36 "CableBook" "trunkAt" "LCableBook$Row;"]
def wsL_addTrunk : List Cond := .codeWith yL_addTrunk cL_addTrunk 7 (some .int) [(0, 14, 17, 21), (0, 14, 21, 13), (0, 14, 25, 15)] :: ((wsL_addTrunk_r1 ++ (wsL_addTrunk_r2 ++ wsL_addTrunk_r3)) ++ wsX30 ++ wsX20 ++ (vx_atS RX3 91 "java/lang/IllegalArgumentException" ["java/lang/RuntimeException", "java/lang/Exception"]).filter goodWord ++ (vx_atS RX3 98 "java/lang/IllegalStateException" ["java/lang/RuntimeException", "java/lang/Exception"]).filter goodWord ++ (vx_atS RX3 137 "java/lang/IndexOutOfBoundsException" ["java/lang/RuntimeException", "java/lang/Exception"]).filter goodWord)
def wsL_setBroken_r1 : List Cond := [Cond.classLink RL 21 "java/lang/IndexOutOfBoundsException", Cond.methodLink RL 23 yX3_setBroken, Cond.instanceMethod yX3_setBroken, Cond.selects RX3 yX3_setBroken yX3_setBroken, Cond.initialized RX3, Cond.code yX3_setBroken cX3_setBroken 6 (some .boolean), Cond.classLink RX3 133 "java/lang/IndexOutOfBoundsException", Cond.initialized "java/lang/IndexOutOfBoundsException", Cond.fieldLink RX3 51 "CableBook" "strandCountOf" "LCableBook$Row;", Cond.fieldLink RX3 48 "CableBook" "trunkStart" "LCableBook$Row;", Cond.fieldLink RX3 44 "CableBook" "brokenAt" "LCableBook$Marks;", Cond.fieldLink RX3 33 "CableBook" "strandTo" "LCableBook$Row;", Cond.methodLink RX3 130 yX3_checkTrunk, Cond.instanceMethod yX3_checkTrunk, Cond.selects RX3 yX3_checkTrunk yX3_checkTrunk, Cond.code yX3_checkTrunk cX3_checkTrunk 2 none, Cond.fieldLink RX3 80 "CableBook" "trunkCount" "I", Cond.methodLink RX3 83 yX3_isWithin, Cond.static yX3_isWithin, Cond.code yX3_isWithin cX3_isWithin 3 (some .boolean), Cond.methodLink RX3 107 yX2_at, Cond.instanceMethod yX2_at, Cond.selects RX2 yX2_at yX2_at, Cond.initialized RX2]
def wsL_setBroken_r2 : List Cond := [Cond.code yX2_at cX2_at 2 (some .int), Cond.fieldLink RX2 13 "CableBook$Row" "values" "[I", Cond.fieldLink RX2 19 "CableBook$Row" "blank" "I", Cond.methodLink RX3 138 yX0_has, Cond.instanceMethod yX0_has, Cond.selects RX0 yX0_has yX0_has, Cond.initialized RX0, Cond.code yX0_has cX0_has 2 (some .boolean), Cond.fieldLink RX0 13 "CableBook$Marks" "marked" "[Z", Cond.methodLink RX3 142 yX0_set, Cond.instanceMethod yX0_set, Cond.selects RX0 yX0_set yX0_set, Cond.code yX0_set cX0_set 3 none]
def wsL_setBroken : List Cond := .codeWith yL_setBroken cL_setBroken 6 (some .int) [(0, 19, 22, 21)] :: ((wsL_setBroken_r1 ++ wsL_setBroken_r2) ++ wsX30 ++ wsX20 ++ wsX00 ++ (vx_atS RX3 137 "java/lang/IndexOutOfBoundsException" ["java/lang/RuntimeException", "java/lang/Exception"]).filter goodWord)
def wsL_plug_r1 : List Cond := [Cond.classLink RL 21 "java/lang/IndexOutOfBoundsException", Cond.classLink RL 13 "java/lang/IllegalArgumentException", Cond.classLink RL 15 "java/lang/IllegalStateException", Cond.methodLink RL 27 yX3_plug, Cond.instanceMethod yX3_plug, Cond.selects RX3 yX3_plug yX3_plug, Cond.initialized RX3, Cond.code yX3_plug cX3_plug 4 (some .int), Cond.classLink RX3 87 "java/lang/IllegalArgumentException", Cond.initialized "java/lang/IllegalArgumentException", Cond.classLink RX3 94 "java/lang/IllegalStateException", Cond.initialized "java/lang/IllegalStateException", Cond.methodLink RX3 102 yX3_checkPort, Cond.instanceMethod yX3_checkPort, Cond.selects RX3 yX3_checkPort yX3_checkPort, Cond.code yX3_checkPort cX3_checkPort 2 none, Cond.classLink RX3 133 "java/lang/IndexOutOfBoundsException", Cond.initialized "java/lang/IndexOutOfBoundsException", Cond.fieldLink RX3 77 "CableBook" "portCount" "I", Cond.methodLink RX3 83 yX3_isWithin, Cond.static yX3_isWithin, Cond.code yX3_isWithin cX3_isWithin 3 (some .boolean), Cond.methodLink RX3 148 yX3_hasCable, Cond.instanceMethod yX3_hasCable]
def wsL_plug_r2 : List Cond := [Cond.selects RX3 yX3_hasCable yX3_hasCable, Cond.code yX3_hasCable cX3_hasCable 2 (some .boolean), Cond.fieldLink RX3 27 "CableBook" "cableTo" "LCableBook$Row;", Cond.methodLink RX3 107 yX2_at, Cond.instanceMethod yX2_at, Cond.selects RX2 yX2_at yX2_at, Cond.initialized RX2, Cond.code yX2_at cX2_at 2 (some .int), Cond.fieldLink RX2 13 "CableBook$Row" "values" "[I", Cond.fieldLink RX2 19 "CableBook$Row" "blank" "I", Cond.methodLink RX3 153 yX3_joinByCable, Cond.instanceMethod yX3_joinByCable, Cond.selects RX3 yX3_joinByCable yX3_joinByCable, Cond.code yX3_joinByCable cX3_joinByCable 4 none, Cond.fieldLink RX3 30 "CableBook" "colourAt" "LCableBook$Row;", Cond.methodLink RX3 99 yX2_put, Cond.instanceMethod yX2_put, Cond.selects RX2 yX2_put yX2_put, Cond.code yX2_put cX2_put 3 none, Cond.methodLink RX3 156 yX3_lengthBetween, Cond.instanceMethod yX3_lengthBetween, Cond.selects RX3 yX3_lengthBetween yX3_lengthBetween, Cond.code yX3_lengthBetween cX3_lengthBetween 6 (some .int), Cond.fieldLink RX3 24 "CableBook" "panelAt" "LCableBook$Row;"]
def wsL_plug_r3 : List Cond := [Cond.fieldLink RX3 14 "CableBook" "rackOf" "LCableBook$Row;", Cond.methodLink RX3 228 Lib.Math.abs.name, Cond.static Lib.Math.abs.name, Cond.initialized "java/lang/Math", Cond.code Lib.Math.abs.name Lib.Math.abs.code 1 (some .int)]
def wsL_plug : List Cond := .codeWith yL_plug cL_plug 6 (some .int) [(0, 12, 15, 21), (0, 12, 19, 13), (0, 12, 23, 15)] :: ((wsL_plug_r1 ++ (wsL_plug_r2 ++ wsL_plug_r3)) ++ wsX30 ++ wsX20 ++ (vx_atS RX3 91 "java/lang/IllegalArgumentException" ["java/lang/RuntimeException", "java/lang/Exception"]).filter goodWord ++ (vx_atS RX3 98 "java/lang/IllegalStateException" ["java/lang/RuntimeException", "java/lang/Exception"]).filter goodWord ++ (vx_atS RX3 137 "java/lang/IndexOutOfBoundsException" ["java/lang/RuntimeException", "java/lang/Exception"]).filter goodWord)
def wsL_pull_r1 : List Cond := [Cond.classLink RL 21 "java/lang/IndexOutOfBoundsException", Cond.classLink RL 15 "java/lang/IllegalStateException", Cond.methodLink RL 31 yX3_pull, Cond.instanceMethod yX3_pull, Cond.selects RX3 yX3_pull yX3_pull, Cond.initialized RX3, Cond.code yX3_pull cX3_pull 3 (some .int), Cond.classLink RX3 94 "java/lang/IllegalStateException", Cond.initialized "java/lang/IllegalStateException", Cond.fieldLink RX3 27 "CableBook" "cableTo" "LCableBook$Row;", Cond.methodLink RX3 102 yX3_checkPort, Cond.instanceMethod yX3_checkPort, Cond.selects RX3 yX3_checkPort yX3_checkPort, Cond.code yX3_checkPort cX3_checkPort 2 none, Cond.classLink RX3 133 "java/lang/IndexOutOfBoundsException", Cond.initialized "java/lang/IndexOutOfBoundsException", Cond.fieldLink RX3 77 "CableBook" "portCount" "I", Cond.methodLink RX3 83 yX3_isWithin, Cond.static yX3_isWithin, Cond.code yX3_isWithin cX3_isWithin 3 (some .boolean), Cond.methodLink RX3 148 yX3_hasCable, Cond.instanceMethod yX3_hasCable, Cond.selects RX3 yX3_hasCable yX3_hasCable, Cond.code yX3_hasCable cX3_hasCable 2 (some .boolean)]
def wsL_pull_r2 : List Cond := [Cond.methodLink RX3 107 yX2_at, Cond.instanceMethod yX2_at, Cond.selects RX2 yX2_at yX2_at, Cond.initialized RX2, Cond.code yX2_at cX2_at 2 (some .int), Cond.fieldLink RX2 13 "CableBook$Row" "values" "[I", Cond.fieldLink RX2 19 "CableBook$Row" "blank" "I", Cond.methodLink RX3 162 yX3_clearCable, Cond.instanceMethod yX3_clearCable, Cond.selects RX3 yX3_clearCable yX3_clearCable, Cond.code yX3_clearCable cX3_clearCable 2 none, Cond.fieldLink RX3 30 "CableBook" "colourAt" "LCableBook$Row;", Cond.methodLink RX3 99 yX2_put, Cond.instanceMethod yX2_put, Cond.selects RX2 yX2_put yX2_put, Cond.code yX2_put cX2_put 3 none]
def wsL_pull : List Cond := .codeWith yL_pull cL_pull 4 (some .int) [(0, 9, 12, 21), (0, 9, 15, 15)] :: ((wsL_pull_r1 ++ wsL_pull_r2) ++ wsX30 ++ wsX20 ++ (vx_atS RX3 98 "java/lang/IllegalStateException" ["java/lang/RuntimeException", "java/lang/Exception"]).filter goodWord ++ (vx_atS RX3 137 "java/lang/IndexOutOfBoundsException" ["java/lang/RuntimeException", "java/lang/Exception"]).filter goodWord)
def wsL_addMove_r1 : List Cond := [Cond.classLink RL 21 "java/lang/IndexOutOfBoundsException", Cond.classLink RL 13 "java/lang/IllegalArgumentException", Cond.classLink RL 15 "java/lang/IllegalStateException", Cond.methodLink RL 35 yX3_addMove, Cond.instanceMethod yX3_addMove, Cond.selects RX3 yX3_addMove yX3_addMove, Cond.initialized RX3, Cond.code yX3_addMove cX3_addMove 3 (some .int), Cond.classLink RX3 87 "java/lang/IllegalArgumentException", Cond.initialized "java/lang/IllegalArgumentException", Cond.classLink RX3 94 "java/lang/IllegalStateException", Cond.initialized "java/lang/IllegalStateException", Cond.fieldLink RX3 60 "CableBook" "plan" "LCableBook$Plan;", Cond.methodLink RX3 102 yX3_checkPort, Cond.instanceMethod yX3_checkPort, Cond.selects RX3 yX3_checkPort yX3_checkPort, Cond.code yX3_checkPort cX3_checkPort 2 none, Cond.classLink RX3 133 "java/lang/IndexOutOfBoundsException", Cond.initialized "java/lang/IndexOutOfBoundsException", Cond.fieldLink RX3 77 "CableBook" "portCount" "I", Cond.methodLink RX3 83 yX3_isWithin, Cond.static yX3_isWithin, Cond.code yX3_isWithin cX3_isWithin 3 (some .boolean), Cond.methodLink RX3 167 yX1_size]
def wsL_addMove_r2 : List Cond := [Cond.instanceMethod yX1_size, Cond.selects RX1 yX1_size yX1_size, Cond.initialized RX1, Cond.code yX1_size cX1_size 1 (some .int), Cond.fieldLink RX1 29 "CableBook$Plan" "count" "I", Cond.methodLink RX3 173 yX1_add, Cond.instanceMethod yX1_add, Cond.selects RX1 yX1_add yX1_add, Cond.code yX1_add cX1_add 3 none, Cond.fieldLink RX1 14 "CableBook$Plan" "sources" "LCableBook$Row;", Cond.fieldLink RX1 20 "CableBook$Plan" "targets" "LCableBook$Row;", Cond.methodLink RX1 37 yX2_put, Cond.instanceMethod yX2_put, Cond.selects RX2 yX2_put yX2_put, Cond.initialized RX2, Cond.code yX2_put cX2_put 3 none, Cond.fieldLink RX2 13 "CableBook$Row" "values" "[I"]
def wsL_addMove : List Cond := .codeWith yL_addMove cL_addMove 5 (some .int) [(0, 10, 13, 21), (0, 10, 17, 13), (0, 10, 21, 15)] :: ((wsL_addMove_r1 ++ wsL_addMove_r2) ++ wsX30 ++ wsX10 ++ wsX20 ++ (vx_atS RX3 91 "java/lang/IllegalArgumentException" ["java/lang/RuntimeException", "java/lang/Exception"]).filter goodWord ++ (vx_atS RX3 98 "java/lang/IllegalStateException" ["java/lang/RuntimeException", "java/lang/Exception"]).filter goodWord ++ (vx_atS RX3 137 "java/lang/IndexOutOfBoundsException" ["java/lang/RuntimeException", "java/lang/Exception"]).filter goodWord)
def wsL_carryOut_r1 : List Cond := [Cond.classLink RL 15 "java/lang/IllegalStateException", Cond.methodLink RL 38 yX3_carryOut, Cond.instanceMethod yX3_carryOut, Cond.selects RX3 yX3_carryOut yX3_carryOut, Cond.initialized RX3, Cond.code yX3_carryOut cX3_carryOut 2 (some .int), Cond.classLink RX3 94 "java/lang/IllegalStateException", Cond.initialized "java/lang/IllegalStateException", Cond.fieldLink RX3 60 "CableBook" "plan" "LCableBook$Plan;", Cond.methodLink RX3 179 yX3_planIsPossible, Cond.instanceMethod yX3_planIsPossible, Cond.selects RX3 yX3_planIsPossible yX3_planIsPossible, Cond.code yX3_planIsPossible cX3_planIsPossible 3 (some .boolean), Cond.methodLink RX3 167 yX1_size, Cond.instanceMethod yX1_size, Cond.selects RX1 yX1_size yX1_size, Cond.initialized RX1, Cond.code yX1_size cX1_size 1 (some .int), Cond.fieldLink RX1 29 "CableBook$Plan" "count" "I", Cond.methodLink RX3 233 yX1_from, Cond.instanceMethod yX1_from, Cond.selects RX1 yX1_from yX1_from, Cond.code yX1_from cX1_from 2 (some .int), Cond.fieldLink RX1 14 "CableBook$Plan" "sources" "LCableBook$Row;"]
def wsL_carryOut_r2 : List Cond := [Cond.methodLink RX1 33 yX2_at, Cond.instanceMethod yX2_at, Cond.selects RX2 yX2_at yX2_at, Cond.initialized RX2, Cond.code yX2_at cX2_at 2 (some .int), Cond.fieldLink RX2 13 "CableBook$Row" "values" "[I", Cond.fieldLink RX2 19 "CableBook$Row" "blank" "I", Cond.methodLink RX3 148 yX3_hasCable, Cond.instanceMethod yX3_hasCable, Cond.selects RX3 yX3_hasCable yX3_hasCable, Cond.code yX3_hasCable cX3_hasCable 2 (some .boolean), Cond.fieldLink RX3 27 "CableBook" "cableTo" "LCableBook$Row;", Cond.methodLink RX3 107 yX2_at, Cond.methodLink RX3 236 yX1_repeatsEarlier, Cond.instanceMethod yX1_repeatsEarlier, Cond.selects RX1 yX1_repeatsEarlier yX1_repeatsEarlier, Cond.code yX1_repeatsEarlier cX1_repeatsEarlier 3 (some .boolean), Cond.methodLink RX1 40 yX1_from, Cond.methodLink RX1 43 yX1_to, Cond.instanceMethod yX1_to, Cond.selects RX1 yX1_to yX1_to, Cond.code yX1_to cX1_to 2 (some .int), Cond.fieldLink RX1 20 "CableBook$Plan" "targets" "LCableBook$Row;", Cond.methodLink RX3 239 yX1_to]
def wsL_carryOut_r3 : List Cond := [Cond.methodLink RX3 242 yX3_staysTaken, Cond.instanceMethod yX3_staysTaken, Cond.selects RX3 yX3_staysTaken yX3_staysTaken, Cond.code yX3_staysTaken cX3_staysTaken 2 (some .boolean), Cond.methodLink RX3 245 yX1_pulls, Cond.instanceMethod yX1_pulls, Cond.selects RX1 yX1_pulls yX1_pulls, Cond.code yX1_pulls cX1_pulls 3 (some .boolean), Cond.methodLink RX3 185 yX3_pullPlannedEnds, Cond.instanceMethod yX3_pullPlannedEnds, Cond.selects RX3 yX3_pullPlannedEnds yX3_pullPlannedEnds, Cond.code yX3_pullPlannedEnds cX3_pullPlannedEnds 4 none, Cond.fieldLink RX3 30 "CableBook" "colourAt" "LCableBook$Row;", Cond.methodLink RX3 248 yX1_keepCable, Cond.instanceMethod yX1_keepCable, Cond.selects RX1 yX1_keepCable yX1_keepCable, Cond.code yX1_keepCable cX1_keepCable 4 none, Cond.fieldLink RX1 23 "CableBook$Plan" "others" "LCableBook$Row;", Cond.fieldLink RX1 26 "CableBook$Plan" "colours" "LCableBook$Row;", Cond.methodLink RX1 37 yX2_put, Cond.instanceMethod yX2_put, Cond.selects RX2 yX2_put yX2_put, Cond.code yX2_put cX2_put 3 none, Cond.methodLink RX3 162 yX3_clearCable]
def wsL_carryOut_r4 : List Cond := [Cond.instanceMethod yX3_clearCable, Cond.selects RX3 yX3_clearCable yX3_clearCable, Cond.code yX3_clearCable cX3_clearCable 2 none, Cond.methodLink RX3 99 yX2_put, Cond.methodLink RX3 188 yX3_plugPlannedEnds, Cond.instanceMethod yX3_plugPlannedEnds, Cond.selects RX3 yX3_plugPlannedEnds yX3_plugPlannedEnds, Cond.code yX3_plugPlannedEnds cX3_plugPlannedEnds 4 none, Cond.methodLink RX3 251 yX1_keptOther, Cond.instanceMethod yX1_keptOther, Cond.selects RX1 yX1_keptOther yX1_keptOther, Cond.code yX1_keptOther cX1_keptOther 2 (some .int), Cond.methodLink RX3 254 yX1_placeAfterwards, Cond.instanceMethod yX1_placeAfterwards, Cond.selects RX1 yX1_placeAfterwards yX1_placeAfterwards, Cond.code yX1_placeAfterwards cX1_placeAfterwards 3 (some .int), Cond.methodLink RX3 257 yX1_keptColour, Cond.instanceMethod yX1_keptColour, Cond.selects RX1 yX1_keptColour yX1_keptColour, Cond.code yX1_keptColour cX1_keptColour 2 (some .int), Cond.methodLink RX3 153 yX3_joinByCable, Cond.instanceMethod yX3_joinByCable, Cond.selects RX3 yX3_joinByCable yX3_joinByCable, Cond.code yX3_joinByCable cX3_joinByCable 4 none]
def wsL_carryOut_r5 : List Cond := [Cond.methodLink RX3 176 yX1_clear, Cond.instanceMethod yX1_clear, Cond.selects RX1 yX1_clear yX1_clear, Cond.code yX1_clear cX1_clear 1 none]
def wsL_carryOut : List Cond := .codeWith yL_carryOut cL_carryOut 3 (some .int) [(0, 8, 11, 15)] :: ((wsL_carryOut_r1 ++ (wsL_carryOut_r2 ++ (wsL_carryOut_r3 ++ (wsL_carryOut_r4 ++ wsL_carryOut_r5)))) ++ wsX30 ++ wsX10 ++ wsX20 ++ (vx_atS RX3 98 "java/lang/IllegalStateException" ["java/lang/RuntimeException", "java/lang/Exception"]).filter goodWord)
def wsL_panelOf : List Cond := .codeWith yL_panelOf cL_panelOf 4 (some .int) [(0, 9, 12, 21)] :: ([.classLink RL 21 "java/lang/IndexOutOfBoundsException", .methodLink RL 42 yX3_panelOf, .instanceMethod yX3_panelOf, .selects RX3 yX3_panelOf yX3_panelOf, .initialized RX3, .code yX3_panelOf cX3_panelOf 2 (some .int), .fieldLink RX3 24 "CableBook" "panelAt" "LCableBook$Row;", .methodLink RX3 102 yX3_checkPort, .instanceMethod yX3_checkPort, .selects RX3 yX3_checkPort yX3_checkPort, .code yX3_checkPort cX3_checkPort 2 none, .classLink RX3 133 "java/lang/IndexOutOfBoundsException", .initialized "java/lang/IndexOutOfBoundsException", .fieldLink RX3 77 "CableBook" "portCount" "I", .methodLink RX3 83 yX3_isWithin, .static yX3_isWithin, .code yX3_isWithin cX3_isWithin 3 (some .boolean), .methodLink RX3 107 yX2_at, .instanceMethod yX2_at, .selects RX2 yX2_at yX2_at, .initialized RX2, .code yX2_at cX2_at 2 (some .int), .fieldLink RX2 13 "CableBook$Row" "values" "[I", .fieldLink RX2 19 "CableBook$Row" "blank" "I"] ++ wsX30 ++ wsX20 ++ (vx_atS RX3 137 "java/lang/IndexOutOfBoundsException" ["java/lang/RuntimeException", "java/lang/Exception"]).filter goodWord)
def wsL_byCable : List Cond := .codeWith yL_byCable cL_byCable 4 (some .int) [(0, 9, 12, 21)] :: ([.classLink RL 21 "java/lang/IndexOutOfBoundsException", .methodLink RL 45 yX3_byCable, .instanceMethod yX3_byCable, .selects RX3 yX3_byCable yX3_byCable, .initialized RX3, .code yX3_byCable cX3_byCable 2 (some .int), .fieldLink RX3 27 "CableBook" "cableTo" "LCableBook$Row;", .methodLink RX3 102 yX3_checkPort, .instanceMethod yX3_checkPort, .selects RX3 yX3_checkPort yX3_checkPort, .code yX3_checkPort cX3_checkPort 2 none, .classLink RX3 133 "java/lang/IndexOutOfBoundsException", .initialized "java/lang/IndexOutOfBoundsException", .fieldLink RX3 77 "CableBook" "portCount" "I", .methodLink RX3 83 yX3_isWithin, .static yX3_isWithin, .code yX3_isWithin cX3_isWithin 3 (some .boolean), .methodLink RX3 107 yX2_at, .instanceMethod yX2_at, .selects RX2 yX2_at yX2_at, .initialized RX2, .code yX2_at cX2_at 2 (some .int), .fieldLink RX2 13 "CableBook$Row" "values" "[I", .fieldLink RX2 19 "CableBook$Row" "blank" "I"] ++ wsX30 ++ wsX20 ++ (vx_atS RX3 137 "java/lang/IndexOutOfBoundsException" ["java/lang/RuntimeException", "java/lang/Exception"]).filter goodWord)
def wsL_byStrand : List Cond := .codeWith yL_byStrand cL_byStrand 4 (some .int) [(0, 9, 12, 21)] :: ([.classLink RL 21 "java/lang/IndexOutOfBoundsException", .methodLink RL 48 yX3_byStrand, .instanceMethod yX3_byStrand, .selects RX3 yX3_byStrand yX3_byStrand, .initialized RX3, .code yX3_byStrand cX3_byStrand 2 (some .int), .fieldLink RX3 33 "CableBook" "strandTo" "LCableBook$Row;", .methodLink RX3 102 yX3_checkPort, .instanceMethod yX3_checkPort, .selects RX3 yX3_checkPort yX3_checkPort, .code yX3_checkPort cX3_checkPort 2 none, .classLink RX3 133 "java/lang/IndexOutOfBoundsException", .initialized "java/lang/IndexOutOfBoundsException", .fieldLink RX3 77 "CableBook" "portCount" "I", .methodLink RX3 83 yX3_isWithin, .static yX3_isWithin, .code yX3_isWithin cX3_isWithin 3 (some .boolean), .methodLink RX3 107 yX2_at, .instanceMethod yX2_at, .selects RX2 yX2_at yX2_at, .initialized RX2, .code yX2_at cX2_at 2 (some .int), .fieldLink RX2 13 "CableBook$Row" "values" "[I", .fieldLink RX2 19 "CableBook$Row" "blank" "I"] ++ wsX30 ++ wsX20 ++ (vx_atS RX3 137 "java/lang/IndexOutOfBoundsException" ["java/lang/RuntimeException", "java/lang/Exception"]).filter goodWord)
def wsL_colour : List Cond := .codeWith yL_colour cL_colour 4 (some .int) [(0, 9, 12, 21)] :: ([.classLink RL 21 "java/lang/IndexOutOfBoundsException", .methodLink RL 51 yX3_colour, .instanceMethod yX3_colour, .selects RX3 yX3_colour yX3_colour, .initialized RX3, .code yX3_colour cX3_colour 2 (some .int), .fieldLink RX3 30 "CableBook" "colourAt" "LCableBook$Row;", .methodLink RX3 102 yX3_checkPort, .instanceMethod yX3_checkPort, .selects RX3 yX3_checkPort yX3_checkPort, .code yX3_checkPort cX3_checkPort 2 none, .classLink RX3 133 "java/lang/IndexOutOfBoundsException", .initialized "java/lang/IndexOutOfBoundsException", .fieldLink RX3 77 "CableBook" "portCount" "I", .methodLink RX3 83 yX3_isWithin, .static yX3_isWithin, .code yX3_isWithin cX3_isWithin 3 (some .boolean), .methodLink RX3 107 yX2_at, .instanceMethod yX2_at, .selects RX2 yX2_at yX2_at, .initialized RX2, .code yX2_at cX2_at 2 (some .int), .fieldLink RX2 13 "CableBook$Row" "values" "[I", .fieldLink RX2 19 "CableBook$Row" "blank" "I"] ++ wsX30 ++ wsX20 ++ (vx_atS RX3 137 "java/lang/IndexOutOfBoundsException" ["java/lang/RuntimeException", "java/lang/Exception"]).filter goodWord)
def wsL_end_r1 : List Cond := [Cond.classLink RL 21 "java/lang/IndexOutOfBoundsException", Cond.methodLink RL 54 yX3_end, Cond.instanceMethod yX3_end, Cond.selects RX3 yX3_end yX3_end, Cond.initialized RX3, Cond.code yX3_end cX3_end 3 (some .int), Cond.methodLink RX3 102 yX3_checkPort, Cond.instanceMethod yX3_checkPort, Cond.selects RX3 yX3_checkPort yX3_checkPort, Cond.code yX3_checkPort cX3_checkPort 2 none, Cond.classLink RX3 133 "java/lang/IndexOutOfBoundsException", Cond.initialized "java/lang/IndexOutOfBoundsException", Cond.fieldLink RX3 77 "CableBook" "portCount" "I", Cond.methodLink RX3 83 yX3_isWithin, Cond.static yX3_isWithin, Cond.code yX3_isWithin cX3_isWithin 3 (some .boolean), Cond.methodLink RX3 194 yX3_trace, Cond.instanceMethod yX3_trace, Cond.selects RX3 yX3_trace yX3_trace, Cond.code yX3_trace cX3_trace 6 (some .int), Cond.fieldLink RX3 27 "CableBook" "cableTo" "LCableBook$Row;", Cond.fieldLink RX3 64 "CableBook" "trail" "LCableBook$Row;", Cond.methodLink RX3 107 yX2_at, Cond.instanceMethod yX2_at]
def wsL_end_r2 : List Cond := [Cond.selects RX2 yX2_at yX2_at, Cond.initialized RX2, Cond.code yX2_at cX2_at 2 (some .int), Cond.fieldLink RX2 13 "CableBook$Row" "values" "[I", Cond.fieldLink RX2 19 "CableBook$Row" "blank" "I", Cond.methodLink RX3 219 yX3_openStrandFrom, Cond.instanceMethod yX3_openStrandFrom, Cond.selects RX3 yX3_openStrandFrom yX3_openStrandFrom, Cond.code yX3_openStrandFrom cX3_openStrandFrom 2 (some .int), Cond.fieldLink RX3 44 "CableBook" "brokenAt" "LCableBook$Marks;", Cond.fieldLink RX3 33 "CableBook" "strandTo" "LCableBook$Row;", Cond.methodLink RX3 138 yX0_has, Cond.instanceMethod yX0_has, Cond.selects RX0 yX0_has yX0_has, Cond.initialized RX0, Cond.code yX0_has cX0_has 2 (some .boolean), Cond.fieldLink RX0 13 "CableBook$Marks" "marked" "[Z", Cond.methodLink RX3 99 yX2_put, Cond.instanceMethod yX2_put, Cond.selects RX2 yX2_put yX2_put, Cond.code yX2_put cX2_put 3 none, Cond.methodLink RX3 198 yX3_endOfTrail, Cond.instanceMethod yX3_endOfTrail, Cond.selects RX3 yX3_endOfTrail yX3_endOfTrail]
def wsL_end_r3 : List Cond := [Cond.code yX3_endOfTrail cX3_endOfTrail 3 (some .int)]
def wsL_end : List Cond := .codeWith yL_end cL_end 5 (some .int) [(0, 10, 13, 21)] :: ((wsL_end_r1 ++ (wsL_end_r2 ++ wsL_end_r3)) ++ wsX30 ++ wsX20 ++ wsX00 ++ (vx_atS RX3 137 "java/lang/IndexOutOfBoundsException" ["java/lang/RuntimeException", "java/lang/Exception"]).filter goodWord)
def wsL_hops_r1 : List Cond := [Cond.classLink RL 21 "java/lang/IndexOutOfBoundsException", Cond.methodLink RL 58 yX3_hops, Cond.instanceMethod yX3_hops, Cond.selects RX3 yX3_hops yX3_hops, Cond.initialized RX3, Cond.code yX3_hops cX3_hops 3 (some .int), Cond.methodLink RX3 102 yX3_checkPort, Cond.instanceMethod yX3_checkPort, Cond.selects RX3 yX3_checkPort yX3_checkPort, Cond.code yX3_checkPort cX3_checkPort 2 none, Cond.classLink RX3 133 "java/lang/IndexOutOfBoundsException", Cond.initialized "java/lang/IndexOutOfBoundsException", Cond.fieldLink RX3 77 "CableBook" "portCount" "I", Cond.methodLink RX3 83 yX3_isWithin, Cond.static yX3_isWithin, Cond.code yX3_isWithin cX3_isWithin 3 (some .boolean), Cond.methodLink RX3 194 yX3_trace, Cond.instanceMethod yX3_trace, Cond.selects RX3 yX3_trace yX3_trace, Cond.code yX3_trace cX3_trace 6 (some .int), Cond.fieldLink RX3 27 "CableBook" "cableTo" "LCableBook$Row;", Cond.fieldLink RX3 64 "CableBook" "trail" "LCableBook$Row;", Cond.methodLink RX3 107 yX2_at, Cond.instanceMethod yX2_at]
def wsL_hops_r2 : List Cond := [Cond.selects RX2 yX2_at yX2_at, Cond.initialized RX2, Cond.code yX2_at cX2_at 2 (some .int), Cond.fieldLink RX2 13 "CableBook$Row" "values" "[I", Cond.fieldLink RX2 19 "CableBook$Row" "blank" "I", Cond.methodLink RX3 219 yX3_openStrandFrom, Cond.instanceMethod yX3_openStrandFrom, Cond.selects RX3 yX3_openStrandFrom yX3_openStrandFrom, Cond.code yX3_openStrandFrom cX3_openStrandFrom 2 (some .int), Cond.fieldLink RX3 44 "CableBook" "brokenAt" "LCableBook$Marks;", Cond.fieldLink RX3 33 "CableBook" "strandTo" "LCableBook$Row;", Cond.methodLink RX3 138 yX0_has, Cond.instanceMethod yX0_has, Cond.selects RX0 yX0_has yX0_has, Cond.initialized RX0, Cond.code yX0_has cX0_has 2 (some .boolean), Cond.fieldLink RX0 13 "CableBook$Marks" "marked" "[Z", Cond.methodLink RX3 99 yX2_put, Cond.instanceMethod yX2_put, Cond.selects RX2 yX2_put yX2_put, Cond.code yX2_put cX2_put 3 none]
def wsL_hops : List Cond := .codeWith yL_hops cL_hops 5 (some .int) [(0, 10, 13, 21)] :: ((wsL_hops_r1 ++ wsL_hops_r2) ++ wsX30 ++ wsX20 ++ wsX00 ++ (vx_atS RX3 137 "java/lang/IndexOutOfBoundsException" ["java/lang/RuntimeException", "java/lang/Exception"]).filter goodWord)
def wsL_hopTo_r1 : List Cond := [Cond.classLink RL 21 "java/lang/IndexOutOfBoundsException", Cond.methodLink RL 61 yX3_hopTo, Cond.instanceMethod yX3_hopTo, Cond.selects RX3 yX3_hopTo yX3_hopTo, Cond.initialized RX3, Cond.code yX3_hopTo cX3_hopTo 4 (some .int), Cond.classLink RX3 133 "java/lang/IndexOutOfBoundsException", Cond.initialized "java/lang/IndexOutOfBoundsException", Cond.fieldLink RX3 64 "CableBook" "trail" "LCableBook$Row;", Cond.methodLink RX3 102 yX3_checkPort, Cond.instanceMethod yX3_checkPort, Cond.selects RX3 yX3_checkPort yX3_checkPort, Cond.code yX3_checkPort cX3_checkPort 2 none, Cond.fieldLink RX3 77 "CableBook" "portCount" "I", Cond.methodLink RX3 83 yX3_isWithin, Cond.static yX3_isWithin, Cond.code yX3_isWithin cX3_isWithin 3 (some .boolean), Cond.methodLink RX3 194 yX3_trace, Cond.instanceMethod yX3_trace, Cond.selects RX3 yX3_trace yX3_trace, Cond.code yX3_trace cX3_trace 6 (some .int), Cond.fieldLink RX3 27 "CableBook" "cableTo" "LCableBook$Row;", Cond.methodLink RX3 107 yX2_at, Cond.instanceMethod yX2_at]
def wsL_hopTo_r2 : List Cond := [Cond.selects RX2 yX2_at yX2_at, Cond.initialized RX2, Cond.code yX2_at cX2_at 2 (some .int), Cond.fieldLink RX2 13 "CableBook$Row" "values" "[I", Cond.fieldLink RX2 19 "CableBook$Row" "blank" "I", Cond.methodLink RX3 219 yX3_openStrandFrom, Cond.instanceMethod yX3_openStrandFrom, Cond.selects RX3 yX3_openStrandFrom yX3_openStrandFrom, Cond.code yX3_openStrandFrom cX3_openStrandFrom 2 (some .int), Cond.fieldLink RX3 44 "CableBook" "brokenAt" "LCableBook$Marks;", Cond.fieldLink RX3 33 "CableBook" "strandTo" "LCableBook$Row;", Cond.methodLink RX3 138 yX0_has, Cond.instanceMethod yX0_has, Cond.selects RX0 yX0_has yX0_has, Cond.initialized RX0, Cond.code yX0_has cX0_has 2 (some .boolean), Cond.fieldLink RX0 13 "CableBook$Marks" "marked" "[Z", Cond.methodLink RX3 99 yX2_put, Cond.instanceMethod yX2_put, Cond.selects RX2 yX2_put yX2_put, Cond.code yX2_put cX2_put 3 none]
def wsL_hopTo : List Cond := .codeWith yL_hopTo cL_hopTo 6 (some .int) [(0, 12, 15, 21)] :: ((wsL_hopTo_r1 ++ wsL_hopTo_r2) ++ wsX30 ++ wsX20 ++ wsX00 ++ (vx_atS RX3 137 "java/lang/IndexOutOfBoundsException" ["java/lang/RuntimeException", "java/lang/Exception"]).filter goodWord)
def wsL_lengthOf_r1 : List Cond := [Cond.classLink RL 21 "java/lang/IndexOutOfBoundsException", Cond.methodLink RL 65 yX3_lengthOf, Cond.instanceMethod yX3_lengthOf, Cond.selects RX3 yX3_lengthOf yX3_lengthOf, Cond.initialized RX3, Cond.code yX3_lengthOf cX3_lengthOf 9 (some .int), Cond.fieldLink RX3 64 "CableBook" "trail" "LCableBook$Row;", Cond.fieldLink RX3 54 "CableBook" "trunkLength" "LCableBook$Row;", Cond.fieldLink RX3 36 "CableBook" "trunkAt" "LCableBook$Row;", Cond.methodLink RX3 102 yX3_checkPort, Cond.instanceMethod yX3_checkPort, Cond.selects RX3 yX3_checkPort yX3_checkPort, Cond.code yX3_checkPort cX3_checkPort 2 none, Cond.classLink RX3 133 "java/lang/IndexOutOfBoundsException", Cond.initialized "java/lang/IndexOutOfBoundsException", Cond.fieldLink RX3 77 "CableBook" "portCount" "I", Cond.methodLink RX3 83 yX3_isWithin, Cond.static yX3_isWithin, Cond.code yX3_isWithin cX3_isWithin 3 (some .boolean), Cond.methodLink RX3 194 yX3_trace, Cond.instanceMethod yX3_trace, Cond.selects RX3 yX3_trace yX3_trace, Cond.code yX3_trace cX3_trace 6 (some .int), Cond.fieldLink RX3 27 "CableBook" "cableTo" "LCableBook$Row;"]
def wsL_lengthOf_r2 : List Cond := [Cond.methodLink RX3 107 yX2_at, Cond.instanceMethod yX2_at, Cond.selects RX2 yX2_at yX2_at, Cond.initialized RX2, Cond.code yX2_at cX2_at 2 (some .int), Cond.fieldLink RX2 13 "CableBook$Row" "values" "[I", Cond.fieldLink RX2 19 "CableBook$Row" "blank" "I", Cond.methodLink RX3 219 yX3_openStrandFrom, Cond.instanceMethod yX3_openStrandFrom, Cond.selects RX3 yX3_openStrandFrom yX3_openStrandFrom, Cond.code yX3_openStrandFrom cX3_openStrandFrom 2 (some .int), Cond.fieldLink RX3 44 "CableBook" "brokenAt" "LCableBook$Marks;", Cond.fieldLink RX3 33 "CableBook" "strandTo" "LCableBook$Row;", Cond.methodLink RX3 138 yX0_has, Cond.instanceMethod yX0_has, Cond.selects RX0 yX0_has yX0_has, Cond.initialized RX0, Cond.code yX0_has cX0_has 2 (some .boolean), Cond.fieldLink RX0 13 "CableBook$Marks" "marked" "[Z", Cond.methodLink RX3 99 yX2_put, Cond.instanceMethod yX2_put, Cond.selects RX2 yX2_put yX2_put, Cond.code yX2_put cX2_put 3 none, Cond.methodLink RX3 156 yX3_lengthBetween]
def wsL_lengthOf_r3 : List Cond := [Cond.instanceMethod yX3_lengthBetween, Cond.selects RX3 yX3_lengthBetween yX3_lengthBetween, Cond.code yX3_lengthBetween cX3_lengthBetween 6 (some .int), Cond.fieldLink RX3 24 "CableBook" "panelAt" "LCableBook$Row;", Cond.fieldLink RX3 14 "CableBook" "rackOf" "LCableBook$Row;", Cond.methodLink RX3 228 Lib.Math.abs.name, Cond.static Lib.Math.abs.name, Cond.initialized "java/lang/Math", Cond.code Lib.Math.abs.name Lib.Math.abs.code 1 (some .int)]
def wsL_lengthOf : List Cond := .codeWith yL_lengthOf cL_lengthOf 5 (some .int) [(0, 10, 13, 21)] :: ((wsL_lengthOf_r1 ++ (wsL_lengthOf_r2 ++ wsL_lengthOf_r3)) ++ wsX30 ++ wsX20 ++ wsX00 ++ (vx_atS RX3 137 "java/lang/IndexOutOfBoundsException" ["java/lang/RuntimeException", "java/lang/Exception"]).filter goodWord)
def wsL_isRing_r1 : List Cond := [Cond.classLink RL 21 "java/lang/IndexOutOfBoundsException", Cond.methodLink RL 68 yX3_isRing, Cond.instanceMethod yX3_isRing, Cond.selects RX3 yX3_isRing yX3_isRing, Cond.initialized RX3, Cond.code yX3_isRing cX3_isRing 3 (some .boolean), Cond.methodLink RX3 102 yX3_checkPort, Cond.instanceMethod yX3_checkPort, Cond.selects RX3 yX3_checkPort yX3_checkPort, Cond.code yX3_checkPort cX3_checkPort 2 none, Cond.classLink RX3 133 "java/lang/IndexOutOfBoundsException", Cond.initialized "java/lang/IndexOutOfBoundsException", Cond.fieldLink RX3 77 "CableBook" "portCount" "I", Cond.methodLink RX3 83 yX3_isWithin, Cond.static yX3_isWithin, Cond.code yX3_isWithin cX3_isWithin 3 (some .boolean), Cond.methodLink RX3 194 yX3_trace, Cond.instanceMethod yX3_trace, Cond.selects RX3 yX3_trace yX3_trace, Cond.code yX3_trace cX3_trace 6 (some .int), Cond.fieldLink RX3 27 "CableBook" "cableTo" "LCableBook$Row;", Cond.fieldLink RX3 64 "CableBook" "trail" "LCableBook$Row;", Cond.methodLink RX3 107 yX2_at, Cond.instanceMethod yX2_at]
def wsL_isRing_r2 : List Cond := [Cond.selects RX2 yX2_at yX2_at, Cond.initialized RX2, Cond.code yX2_at cX2_at 2 (some .int), Cond.fieldLink RX2 13 "CableBook$Row" "values" "[I", Cond.fieldLink RX2 19 "CableBook$Row" "blank" "I", Cond.methodLink RX3 219 yX3_openStrandFrom, Cond.instanceMethod yX3_openStrandFrom, Cond.selects RX3 yX3_openStrandFrom yX3_openStrandFrom, Cond.code yX3_openStrandFrom cX3_openStrandFrom 2 (some .int), Cond.fieldLink RX3 44 "CableBook" "brokenAt" "LCableBook$Marks;", Cond.fieldLink RX3 33 "CableBook" "strandTo" "LCableBook$Row;", Cond.methodLink RX3 138 yX0_has, Cond.instanceMethod yX0_has, Cond.selects RX0 yX0_has yX0_has, Cond.initialized RX0, Cond.code yX0_has cX0_has 2 (some .boolean), Cond.fieldLink RX0 13 "CableBook$Marks" "marked" "[Z", Cond.methodLink RX3 99 yX2_put, Cond.instanceMethod yX2_put, Cond.selects RX2 yX2_put yX2_put, Cond.code yX2_put cX2_put 3 none, Cond.methodLink RX3 198 yX3_endOfTrail, Cond.instanceMethod yX3_endOfTrail, Cond.selects RX3 yX3_endOfTrail yX3_endOfTrail]
def wsL_isRing_r3 : List Cond := [Cond.code yX3_endOfTrail cX3_endOfTrail 3 (some .int)]
def wsL_isRing : List Cond := .codeWith yL_isRing cL_isRing 4 (some .int) [(0, 16, 19, 21)] :: ((wsL_isRing_r1 ++ (wsL_isRing_r2 ++ wsL_isRing_r3)) ++ wsX30 ++ wsX20 ++ wsX00 ++ (vx_atS RX3 137 "java/lang/IndexOutOfBoundsException" ["java/lang/RuntimeException", "java/lang/Exception"]).filter goodWord)
def wsL_areJoined_r1 : List Cond := [Cond.classLink RL 21 "java/lang/IndexOutOfBoundsException", Cond.methodLink RL 72 yX3_areJoined, Cond.instanceMethod yX3_areJoined, Cond.selects RX3 yX3_areJoined yX3_areJoined, Cond.initialized RX3, Cond.code yX3_areJoined cX3_areJoined 3 (some .boolean), Cond.methodLink RX3 102 yX3_checkPort, Cond.instanceMethod yX3_checkPort, Cond.selects RX3 yX3_checkPort yX3_checkPort, Cond.code yX3_checkPort cX3_checkPort 2 none, Cond.classLink RX3 133 "java/lang/IndexOutOfBoundsException", Cond.initialized "java/lang/IndexOutOfBoundsException", Cond.fieldLink RX3 77 "CableBook" "portCount" "I", Cond.methodLink RX3 83 yX3_isWithin, Cond.static yX3_isWithin, Cond.code yX3_isWithin cX3_isWithin 3 (some .boolean), Cond.methodLink RX3 194 yX3_trace, Cond.instanceMethod yX3_trace, Cond.selects RX3 yX3_trace yX3_trace, Cond.code yX3_trace cX3_trace 6 (some .int), Cond.fieldLink RX3 27 "CableBook" "cableTo" "LCableBook$Row;", Cond.fieldLink RX3 64 "CableBook" "trail" "LCableBook$Row;", Cond.methodLink RX3 107 yX2_at, Cond.instanceMethod yX2_at]
def wsL_areJoined_r2 : List Cond := [Cond.selects RX2 yX2_at yX2_at, Cond.initialized RX2, Cond.code yX2_at cX2_at 2 (some .int), Cond.fieldLink RX2 13 "CableBook$Row" "values" "[I", Cond.fieldLink RX2 19 "CableBook$Row" "blank" "I", Cond.methodLink RX3 219 yX3_openStrandFrom, Cond.instanceMethod yX3_openStrandFrom, Cond.selects RX3 yX3_openStrandFrom yX3_openStrandFrom, Cond.code yX3_openStrandFrom cX3_openStrandFrom 2 (some .int), Cond.fieldLink RX3 44 "CableBook" "brokenAt" "LCableBook$Marks;", Cond.fieldLink RX3 33 "CableBook" "strandTo" "LCableBook$Row;", Cond.methodLink RX3 138 yX0_has, Cond.instanceMethod yX0_has, Cond.selects RX0 yX0_has yX0_has, Cond.initialized RX0, Cond.code yX0_has cX0_has 2 (some .boolean), Cond.fieldLink RX0 13 "CableBook$Marks" "marked" "[Z", Cond.methodLink RX3 99 yX2_put, Cond.instanceMethod yX2_put, Cond.selects RX2 yX2_put yX2_put, Cond.code yX2_put cX2_put 3 none, Cond.methodLink RX3 203 yX3_isOnTrail, Cond.instanceMethod yX3_isOnTrail, Cond.selects RX3 yX3_isOnTrail yX3_isOnTrail]
def wsL_areJoined_r3 : List Cond := [Cond.code yX3_isOnTrail cX3_isOnTrail 4 (some .boolean)]
def wsL_areJoined : List Cond := .codeWith yL_areJoined cL_areJoined 5 (some .int) [(0, 17, 20, 21)] :: ((wsL_areJoined_r1 ++ (wsL_areJoined_r2 ++ wsL_areJoined_r3)) ++ wsX30 ++ wsX20 ++ wsX00 ++ (vx_atS RX3 137 "java/lang/IndexOutOfBoundsException" ["java/lang/RuntimeException", "java/lang/Exception"]).filter goodWord)
def wsL_areJoinedBySearch_r1 : List Cond := [Cond.classLink RL 21 "java/lang/IndexOutOfBoundsException", Cond.methodLink RL 76 yX3_areJoinedBySearch, Cond.instanceMethod yX3_areJoinedBySearch, Cond.selects RX3 yX3_areJoinedBySearch yX3_areJoinedBySearch, Cond.initialized RX3, Cond.code yX3_areJoinedBySearch cX3_areJoinedBySearch 3 (some .boolean), Cond.fieldLink RX3 70 "CableBook" "found" "LCableBook$Marks;", Cond.methodLink RX3 102 yX3_checkPort, Cond.instanceMethod yX3_checkPort, Cond.selects RX3 yX3_checkPort yX3_checkPort, Cond.code yX3_checkPort cX3_checkPort 2 none, Cond.classLink RX3 133 "java/lang/IndexOutOfBoundsException", Cond.initialized "java/lang/IndexOutOfBoundsException", Cond.fieldLink RX3 77 "CableBook" "portCount" "I", Cond.methodLink RX3 83 yX3_isWithin, Cond.static yX3_isWithin, Cond.code yX3_isWithin cX3_isWithin 3 (some .boolean), Cond.methodLink RX3 206 yX3_searchFrom, Cond.instanceMethod yX3_searchFrom, Cond.selects RX3 yX3_searchFrom yX3_searchFrom, Cond.code yX3_searchFrom cX3_searchFrom 5 none, Cond.fieldLink RX3 67 "CableBook" "queue" "LCableBook$Row;", Cond.fieldLink RX3 27 "CableBook" "cableTo" "LCableBook$Row;", Cond.methodLink RX3 209 yX0_clear]
def wsL_areJoinedBySearch_r2 : List Cond := [Cond.instanceMethod yX0_clear, Cond.selects RX0 yX0_clear yX0_clear, Cond.initialized RX0, Cond.code yX0_clear cX0_clear 2 none, Cond.fieldLink RX0 13 "CableBook$Marks" "marked" "[Z", Cond.methodLink RX3 260 yX3_reach, Cond.instanceMethod yX3_reach, Cond.selects RX3 yX3_reach yX3_reach, Cond.code yX3_reach cX3_reach 3 (some .int), Cond.methodLink RX3 138 yX0_has, Cond.instanceMethod yX0_has, Cond.selects RX0 yX0_has yX0_has, Cond.code yX0_has cX0_has 2 (some .boolean), Cond.methodLink RX3 142 yX0_set, Cond.instanceMethod yX0_set, Cond.selects RX0 yX0_set yX0_set, Cond.code yX0_set cX0_set 3 none, Cond.methodLink RX3 99 yX2_put, Cond.instanceMethod yX2_put, Cond.selects RX2 yX2_put yX2_put, Cond.initialized RX2, Cond.code yX2_put cX2_put 3 none, Cond.fieldLink RX2 13 "CableBook$Row" "values" "[I", Cond.methodLink RX3 107 yX2_at]
def wsL_areJoinedBySearch_r3 : List Cond := [Cond.instanceMethod yX2_at, Cond.selects RX2 yX2_at yX2_at, Cond.code yX2_at cX2_at 2 (some .int), Cond.fieldLink RX2 19 "CableBook$Row" "blank" "I", Cond.methodLink RX3 219 yX3_openStrandFrom, Cond.instanceMethod yX3_openStrandFrom, Cond.selects RX3 yX3_openStrandFrom yX3_openStrandFrom, Cond.code yX3_openStrandFrom cX3_openStrandFrom 2 (some .int), Cond.fieldLink RX3 44 "CableBook" "brokenAt" "LCableBook$Marks;", Cond.fieldLink RX3 33 "CableBook" "strandTo" "LCableBook$Row;"]
def wsL_areJoinedBySearch : List Cond := .codeWith yL_areJoinedBySearch cL_areJoinedBySearch 5 (some .int) [(0, 17, 20, 21)] :: ((wsL_areJoinedBySearch_r1 ++ (wsL_areJoinedBySearch_r2 ++ wsL_areJoinedBySearch_r3)) ++ wsX30 ++ wsX00 ++ wsX20 ++ (vx_atS RX3 137 "java/lang/IndexOutOfBoundsException" ["java/lang/RuntimeException", "java/lang/Exception"]).filter goodWord)
def wsL_freePort_r1 : List Cond := [Cond.classLink RL 21 "java/lang/IndexOutOfBoundsException", Cond.methodLink RL 79 yX3_freePort, Cond.instanceMethod yX3_freePort, Cond.selects RX3 yX3_freePort yX3_freePort, Cond.initialized RX3, Cond.code yX3_freePort cX3_freePort 5 (some .int), Cond.fieldLink RX3 18 "CableBook" "firstPortOf" "LCableBook$Row;", Cond.fieldLink RX3 21 "CableBook" "portCountOf" "LCableBook$Row;", Cond.methodLink RX3 213 yX3_checkPanel, Cond.instanceMethod yX3_checkPanel, Cond.selects RX3 yX3_checkPanel yX3_checkPanel, Cond.code yX3_checkPanel cX3_checkPanel 2 none, Cond.classLink RX3 133 "java/lang/IndexOutOfBoundsException", Cond.initialized "java/lang/IndexOutOfBoundsException", Cond.fieldLink RX3 73 "CableBook" "panelCount" "I", Cond.methodLink RX3 83 yX3_isWithin, Cond.static yX3_isWithin, Cond.code yX3_isWithin cX3_isWithin 3 (some .boolean), Cond.methodLink RX3 107 yX2_at, Cond.instanceMethod yX2_at, Cond.selects RX2 yX2_at yX2_at, Cond.initialized RX2, Cond.code yX2_at cX2_at 2 (some .int), Cond.fieldLink RX2 13 "CableBook$Row" "values" "[I"]
def wsL_freePort_r2 : List Cond := [Cond.fieldLink RX2 19 "CableBook$Row" "blank" "I", Cond.methodLink RX3 148 yX3_hasCable, Cond.instanceMethod yX3_hasCable, Cond.selects RX3 yX3_hasCable yX3_hasCable, Cond.code yX3_hasCable cX3_hasCable 2 (some .boolean), Cond.fieldLink RX3 27 "CableBook" "cableTo" "LCableBook$Row;", Cond.methodLink RX3 216 yX3_hasStrand, Cond.instanceMethod yX3_hasStrand, Cond.selects RX3 yX3_hasStrand yX3_hasStrand, Cond.code yX3_hasStrand cX3_hasStrand 2 (some .boolean), Cond.fieldLink RX3 33 "CableBook" "strandTo" "LCableBook$Row;"]
def wsL_freePort : List Cond := .codeWith yL_freePort cL_freePort 4 (some .int) [(0, 9, 12, 21)] :: ((wsL_freePort_r1 ++ wsL_freePort_r2) ++ wsX30 ++ wsX20 ++ (vx_atS RX3 137 "java/lang/IndexOutOfBoundsException" ["java/lang/RuntimeException", "java/lang/Exception"]).filter goodWord)
def wsL_freeStrand_r1 : List Cond := [Cond.classLink RL 21 "java/lang/IndexOutOfBoundsException", Cond.methodLink RL 82 yX3_freeStrand, Cond.instanceMethod yX3_freeStrand, Cond.selects RX3 yX3_freeStrand yX3_freeStrand, Cond.initialized RX3, Cond.code yX3_freeStrand cX3_freeStrand 7 (some .int), Cond.fieldLink RX3 18 "CableBook" "firstPortOf" "LCableBook$Row;", Cond.fieldLink RX3 21 "CableBook" "portCountOf" "LCableBook$Row;", Cond.fieldLink RX3 24 "CableBook" "panelAt" "LCableBook$Row;", Cond.methodLink RX3 213 yX3_checkPanel, Cond.instanceMethod yX3_checkPanel, Cond.selects RX3 yX3_checkPanel yX3_checkPanel, Cond.code yX3_checkPanel cX3_checkPanel 2 none, Cond.classLink RX3 133 "java/lang/IndexOutOfBoundsException", Cond.initialized "java/lang/IndexOutOfBoundsException", Cond.fieldLink RX3 73 "CableBook" "panelCount" "I", Cond.methodLink RX3 83 yX3_isWithin, Cond.static yX3_isWithin, Cond.code yX3_isWithin cX3_isWithin 3 (some .boolean), Cond.methodLink RX3 107 yX2_at, Cond.instanceMethod yX2_at, Cond.selects RX2 yX2_at yX2_at, Cond.initialized RX2, Cond.code yX2_at cX2_at 2 (some .int)]
def wsL_freeStrand_r2 : List Cond := [Cond.fieldLink RX2 13 "CableBook$Row" "values" "[I", Cond.fieldLink RX2 19 "CableBook$Row" "blank" "I", Cond.methodLink RX3 219 yX3_openStrandFrom, Cond.instanceMethod yX3_openStrandFrom, Cond.selects RX3 yX3_openStrandFrom yX3_openStrandFrom, Cond.code yX3_openStrandFrom cX3_openStrandFrom 2 (some .int), Cond.fieldLink RX3 44 "CableBook" "brokenAt" "LCableBook$Marks;", Cond.fieldLink RX3 33 "CableBook" "strandTo" "LCableBook$Row;", Cond.methodLink RX3 138 yX0_has, Cond.instanceMethod yX0_has, Cond.selects RX0 yX0_has yX0_has, Cond.initialized RX0, Cond.code yX0_has cX0_has 2 (some .boolean), Cond.fieldLink RX0 13 "CableBook$Marks" "marked" "[Z", Cond.methodLink RX3 148 yX3_hasCable, Cond.instanceMethod yX3_hasCable, Cond.selects RX3 yX3_hasCable yX3_hasCable, Cond.code yX3_hasCable cX3_hasCable 2 (some .boolean), Cond.fieldLink RX3 27 "CableBook" "cableTo" "LCableBook$Row;"]
def wsL_freeStrand : List Cond := .codeWith yL_freeStrand cL_freeStrand 5 (some .int) [(0, 10, 13, 21)] :: ((wsL_freeStrand_r1 ++ wsL_freeStrand_r2) ++ wsX30 ++ wsX20 ++ wsX00 ++ (vx_atS RX3 137 "java/lang/IndexOutOfBoundsException" ["java/lang/RuntimeException", "java/lang/Exception"]).filter goodWord)
def wsL_used_r1 : List Cond := [Cond.classLink RL 21 "java/lang/IndexOutOfBoundsException", Cond.methodLink RL 85 yX3_used, Cond.instanceMethod yX3_used, Cond.selects RX3 yX3_used yX3_used, Cond.initialized RX3, Cond.code yX3_used cX3_used 6 (some .int), Cond.fieldLink RX3 48 "CableBook" "trunkStart" "LCableBook$Row;", Cond.fieldLink RX3 51 "CableBook" "strandCountOf" "LCableBook$Row;", Cond.fieldLink RX3 33 "CableBook" "strandTo" "LCableBook$Row;", Cond.methodLink RX3 130 yX3_checkTrunk, Cond.instanceMethod yX3_checkTrunk, Cond.selects RX3 yX3_checkTrunk yX3_checkTrunk, Cond.code yX3_checkTrunk cX3_checkTrunk 2 none, Cond.classLink RX3 133 "java/lang/IndexOutOfBoundsException", Cond.initialized "java/lang/IndexOutOfBoundsException", Cond.fieldLink RX3 80 "CableBook" "trunkCount" "I", Cond.methodLink RX3 83 yX3_isWithin, Cond.static yX3_isWithin, Cond.code yX3_isWithin cX3_isWithin 3 (some .boolean), Cond.methodLink RX3 107 yX2_at, Cond.instanceMethod yX2_at, Cond.selects RX2 yX2_at yX2_at, Cond.initialized RX2, Cond.code yX2_at cX2_at 2 (some .int)]
def wsL_used_r2 : List Cond := [Cond.fieldLink RX2 13 "CableBook$Row" "values" "[I", Cond.fieldLink RX2 19 "CableBook$Row" "blank" "I", Cond.methodLink RX3 148 yX3_hasCable, Cond.instanceMethod yX3_hasCable, Cond.selects RX3 yX3_hasCable yX3_hasCable, Cond.code yX3_hasCable cX3_hasCable 2 (some .boolean), Cond.fieldLink RX3 27 "CableBook" "cableTo" "LCableBook$Row;"]
def wsL_used : List Cond := .codeWith yL_used cL_used 4 (some .int) [(0, 9, 12, 21)] :: ((wsL_used_r1 ++ wsL_used_r2) ++ wsX30 ++ wsX20 ++ (vx_atS RX3 137 "java/lang/IndexOutOfBoundsException" ["java/lang/RuntimeException", "java/lang/Exception"]).filter goodWord)
def wsL_law0_r1 : List Cond := [Cond.classLink RL 8 RX3, Cond.instantiable RX3 19, Cond.initialized RX3, Cond.classLink RL 89 RX4, Cond.instantiable RX4 24, Cond.initialized RX4, Cond.arrayClass .long, Cond.methodLink RL 88 yX3_init, Cond.instanceMethod yX3_init, Cond.code yX3_init cX3_init 1 none, Cond.methodLink RX3 1 objectInit, Cond.instanceMethod objectInit, Cond.code objectInit ⟨#[0xb1]⟩ 1 none, Cond.classLink RX3 7 RX2, Cond.instantiable RX2 2, Cond.initialized RX2, Cond.fieldLink RX3 14 "CableBook" "rackOf" "LCableBook$Row;", Cond.fieldLink RX3 18 "CableBook" "firstPortOf" "LCableBook$Row;", Cond.fieldLink RX3 21 "CableBook" "portCountOf" "LCableBook$Row;", Cond.fieldLink RX3 24 "CableBook" "panelAt" "LCableBook$Row;", Cond.fieldLink RX3 27 "CableBook" "cableTo" "LCableBook$Row;", Cond.fieldLink RX3 30 "CableBook" "colourAt" "LCableBook$Row;", Cond.fieldLink RX3 33 "CableBook" "strandTo" "LCableBook$Row;", Cond.fieldLink RX3 36 "CableBook" "trunkAt" "LCableBook$Row;"]
def wsL_law0_r2 : List Cond := [Cond.classLink RX3 39 RX0, Cond.instantiable RX0 1, Cond.initialized RX0, Cond.fieldLink RX3 44 "CableBook" "brokenAt" "LCableBook$Marks;", Cond.fieldLink RX3 48 "CableBook" "trunkStart" "LCableBook$Row;", Cond.fieldLink RX3 51 "CableBook" "strandCountOf" "LCableBook$Row;", Cond.fieldLink RX3 54 "CableBook" "trunkLength" "LCableBook$Row;", Cond.classLink RX3 57 RX1, Cond.instantiable RX1 5, Cond.initialized RX1, Cond.fieldLink RX3 60 "CableBook" "plan" "LCableBook$Plan;", Cond.fieldLink RX3 64 "CableBook" "trail" "LCableBook$Row;", Cond.fieldLink RX3 67 "CableBook" "queue" "LCableBook$Row;", Cond.fieldLink RX3 70 "CableBook" "found" "LCableBook$Marks;", Cond.fieldLink RX3 73 "CableBook" "panelCount" "I", Cond.fieldLink RX3 77 "CableBook" "portCount" "I", Cond.fieldLink RX3 80 "CableBook" "trunkCount" "I", Cond.methodLink RX3 11 yX2_init, Cond.instanceMethod yX2_init, Cond.code yX2_init cX2_init 4 none, Cond.methodLink RX2 1 objectInit, Cond.methodLink RX2 7 Lib.Math.max.name, Cond.static Lib.Math.max.name, Cond.initialized "java/lang/Math"]
def wsL_law0_r3 : List Cond := [Cond.code Lib.Math.max.name Lib.Math.max.code 2 (some .int), Cond.arrayClass .int, Cond.fieldLink RX2 13 "CableBook$Row" "values" "[I", Cond.fieldLink RX2 19 "CableBook$Row" "blank" "I", Cond.methodLink RX3 41 yX0_init, Cond.instanceMethod yX0_init, Cond.code yX0_init cX0_init 2 none, Cond.methodLink RX0 1 objectInit, Cond.methodLink RX0 7 Lib.Math.max.name, Cond.arrayClass .boolean, Cond.fieldLink RX0 13 "CableBook$Marks" "marked" "[Z", Cond.instanceMethod yX1_init, Cond.code yX1_init cX1_init 1 none, Cond.methodLink RX1 3 objectInit, Cond.classLink RX1 9 RX2, Cond.fieldLink RX1 14 "CableBook$Plan" "sources" "LCableBook$Row;", Cond.fieldLink RX1 20 "CableBook$Plan" "targets" "LCableBook$Row;", Cond.fieldLink RX1 23 "CableBook$Plan" "others" "LCableBook$Row;", Cond.fieldLink RX1 26 "CableBook$Plan" "colours" "LCableBook$Row;", Cond.methodLink RX1 11 yX2_init, Cond.methodLink RL 91 yX4_init, Cond.instanceMethod yX4_init, Cond.code yX4_init cX4_init 1 none, Cond.methodLink RX4 1 objectInit]
def wsL_law0_r4 : List Cond := [Cond.fieldLink RX4 7 "CableBookModel" "racks" "[I", Cond.fieldLink RX4 13 "CableBookModel" "firsts" "[I", Cond.fieldLink RX4 16 "CableBookModel" "cables" "[I", Cond.fieldLink RX4 19 "CableBookModel" "colours" "[I", Cond.fieldLink RX4 22 "CableBookModel" "strands" "[I", Cond.fieldLink RX4 25 "CableBookModel" "trunksOf" "[I", Cond.fieldLink RX4 28 "CableBookModel" "areBroken" "[Z", Cond.fieldLink RX4 32 "CableBookModel" "trunkFrom" "[I", Cond.fieldLink RX4 35 "CableBookModel" "trunkTo" "[I", Cond.fieldLink RX4 38 "CableBookModel" "trunkStrands" "[I", Cond.fieldLink RX4 41 "CableBookModel" "trunkLengths" "[I", Cond.fieldLink RX4 44 "CableBookModel" "from" "[I", Cond.fieldLink RX4 47 "CableBookModel" "to" "[I", Cond.fieldLink RX4 50 "CableBookModel" "newCables" "[I", Cond.fieldLink RX4 53 "CableBookModel" "newColours" "[I", Cond.fieldLink RX4 56 "CableBookModel" "hops" "[I", Cond.fieldLink RX4 59 "CableBookModel" "lineOf" "[I", Cond.methodLink RL 92 yL_addPanel, Cond.static yL_addPanel, Cond.initialized RL, Cond.codeWith yL_addPanel cL_addPanel 5 (some .int) [(0, 10, 13, 13), (0, 10, 17, 15)], Cond.classLink RL 13 "java/lang/IllegalArgumentException", Cond.classLink RL 15 "java/lang/IllegalStateException", Cond.methodLink RL 7 yX3_addPanel]
def wsL_law0_r5 : List Cond := [Cond.instanceMethod yX3_addPanel, Cond.selects RX3 yX3_addPanel yX3_addPanel, Cond.code yX3_addPanel cX3_addPanel 5 (some .int), Cond.classLink RX3 87 "java/lang/IllegalArgumentException", Cond.initialized "java/lang/IllegalArgumentException", Cond.classLink RX3 94 "java/lang/IllegalStateException", Cond.initialized "java/lang/IllegalStateException", Cond.methodLink RX3 83 yX3_isWithin, Cond.static yX3_isWithin, Cond.code yX3_isWithin cX3_isWithin 3 (some .boolean), Cond.methodLink RX3 99 yX2_put, Cond.instanceMethod yX2_put, Cond.selects RX2 yX2_put yX2_put, Cond.code yX2_put cX2_put 3 none, Cond.methodLink RL 97 yX4_addPanel, Cond.instanceMethod yX4_addPanel, Cond.selects RX4 yX4_addPanel yX4_addPanel, Cond.code yX4_addPanel cX4_addPanel 4 (some .int), Cond.fieldLink RX4 77 "CableBookModel" "panels" "I", Cond.fieldLink RX4 66 "CableBookModel" "ports" "I", Cond.methodLink RX4 69 yX4_in, Cond.static yX4_in, Cond.code yX4_in cX4_in 3 (some .boolean), Cond.methodLink RX4 80 yX4_holds]
def wsL_law0_r6 : List Cond := [Cond.instanceMethod yX4_holds, Cond.selects RX4 yX4_holds yX4_holds, Cond.code yX4_holds cX4_holds 2 (some .boolean), Cond.fieldLink RX4 62 "CableBookModel" "thrown" "I", Cond.methodLink RL 98 yX4_thrown, Cond.instanceMethod yX4_thrown, Cond.selects RX4 yX4_thrown yX4_thrown, Cond.code yX4_thrown cX4_thrown 1 (some .int), Cond.methodLink RL 101 yL_addTrunk, Cond.static yL_addTrunk, Cond.codeWith yL_addTrunk cL_addTrunk 7 (some .int) [(0, 14, 17, 21), (0, 14, 21, 13), (0, 14, 25, 15)], Cond.classLink RL 21 "java/lang/IndexOutOfBoundsException", Cond.methodLink RL 17 yX3_addTrunk, Cond.instanceMethod yX3_addTrunk, Cond.selects RX3 yX3_addTrunk yX3_addTrunk, Cond.code yX3_addTrunk cX3_addTrunk 7 (some .int), Cond.methodLink RX3 102 yX3_checkPort, Cond.instanceMethod yX3_checkPort, Cond.selects RX3 yX3_checkPort yX3_checkPort, Cond.code yX3_checkPort cX3_checkPort 2 none, Cond.classLink RX3 133 "java/lang/IndexOutOfBoundsException", Cond.initialized "java/lang/IndexOutOfBoundsException", Cond.methodLink RX3 107 yX2_at, Cond.instanceMethod yX2_at]
def wsL_law0_r7 : List Cond := [Cond.selects RX2 yX2_at yX2_at, Cond.code yX2_at cX2_at 2 (some .int), Cond.methodLink RX3 113 yX3_portsFrom, Cond.instanceMethod yX3_portsFrom, Cond.selects RX3 yX3_portsFrom yX3_portsFrom, Cond.code yX3_portsFrom cX3_portsFrom 3 (some .int), Cond.methodLink RX3 120 yX3_anyStrand, Cond.instanceMethod yX3_anyStrand, Cond.selects RX3 yX3_anyStrand yX3_anyStrand, Cond.code yX3_anyStrand cX3_anyStrand 4 (some .boolean), Cond.methodLink RX3 216 yX3_hasStrand, Cond.instanceMethod yX3_hasStrand, Cond.selects RX3 yX3_hasStrand yX3_hasStrand, Cond.code yX3_hasStrand cX3_hasStrand 2 (some .boolean), Cond.methodLink RX3 126 yX3_joinByStrand, Cond.instanceMethod yX3_joinByStrand, Cond.selects RX3 yX3_joinByStrand yX3_joinByStrand, Cond.code yX3_joinByStrand cX3_joinByStrand 4 none, Cond.methodLink RL 104 yX4_addTrunk, Cond.instanceMethod yX4_addTrunk, Cond.selects RX4 yX4_addTrunk yX4_addTrunk, Cond.code yX4_addTrunk cX4_addTrunk 6 (some .int), Cond.fieldLink RX4 94 "CableBookModel" "trunks" "I", Cond.methodLink RX4 97 yX4_errorOfTrunk]
def wsL_law0_r8 : List Cond := [Cond.instanceMethod yX4_errorOfTrunk, Cond.selects RX4 yX4_errorOfTrunk yX4_errorOfTrunk, Cond.code yX4_errorOfTrunk cX4_errorOfTrunk 7 (some .int), Cond.methodLink RX4 87 yX4_arePorts, Cond.instanceMethod yX4_arePorts, Cond.selects RX4 yX4_arePorts yX4_arePorts, Cond.code yX4_arePorts cX4_arePorts 3 (some .boolean), Cond.methodLink RX4 73 yX4_isPort, Cond.instanceMethod yX4_isPort, Cond.selects RX4 yX4_isPort yX4_isPort, Cond.code yX4_isPort cX4_isPort 2 (some .boolean), Cond.methodLink RX4 83 yX4_panel, Cond.instanceMethod yX4_panel, Cond.selects RX4 yX4_panel yX4_panel, Cond.code yX4_panel cX4_panel 3 (some .int), Cond.methodLink RX4 91 yX4_isBehind, Cond.instanceMethod yX4_isBehind, Cond.selects RX4 yX4_isBehind yX4_isBehind, Cond.code yX4_isBehind cX4_isBehind 3 (some .boolean), Cond.methodLink RX4 101 yX4_joins, Cond.instanceMethod yX4_joins, Cond.selects RX4 yX4_joins yX4_joins, Cond.code yX4_joins cX4_joins 3 none, Cond.methodLink RL 105 yL_setBroken]
def wsL_law0_r9 : List Cond := [Cond.static yL_setBroken, Cond.codeWith yL_setBroken cL_setBroken 6 (some .int) [(0, 19, 22, 21)], Cond.methodLink RL 23 yX3_setBroken, Cond.instanceMethod yX3_setBroken, Cond.selects RX3 yX3_setBroken yX3_setBroken, Cond.code yX3_setBroken cX3_setBroken 6 (some .boolean), Cond.methodLink RX3 130 yX3_checkTrunk, Cond.instanceMethod yX3_checkTrunk, Cond.selects RX3 yX3_checkTrunk yX3_checkTrunk, Cond.code yX3_checkTrunk cX3_checkTrunk 2 none, Cond.methodLink RX3 138 yX0_has, Cond.instanceMethod yX0_has, Cond.selects RX0 yX0_has yX0_has, Cond.code yX0_has cX0_has 2 (some .boolean), Cond.methodLink RX3 142 yX0_set, Cond.instanceMethod yX0_set, Cond.selects RX0 yX0_set yX0_set, Cond.code yX0_set cX0_set 3 none, Cond.methodLink RL 108 yX4_setBroken, Cond.instanceMethod yX4_setBroken, Cond.selects RX4 yX4_setBroken yX4_setBroken, Cond.code yX4_setBroken cX4_setBroken 5 (some .boolean), Cond.methodLink RX4 105 yX4_isTrunk, Cond.instanceMethod yX4_isTrunk]
def wsL_law0_r10 : List Cond := [Cond.selects RX4 yX4_isTrunk yX4_isTrunk, Cond.code yX4_isTrunk cX4_isTrunk 2 (some .boolean), Cond.methodLink RL 109 yL_plug, Cond.static yL_plug, Cond.codeWith yL_plug cL_plug 6 (some .int) [(0, 12, 15, 21), (0, 12, 19, 13), (0, 12, 23, 15)], Cond.methodLink RL 27 yX3_plug, Cond.instanceMethod yX3_plug, Cond.selects RX3 yX3_plug yX3_plug, Cond.code yX3_plug cX3_plug 4 (some .int), Cond.methodLink RX3 148 yX3_hasCable, Cond.instanceMethod yX3_hasCable, Cond.selects RX3 yX3_hasCable yX3_hasCable, Cond.code yX3_hasCable cX3_hasCable 2 (some .boolean), Cond.methodLink RX3 153 yX3_joinByCable, Cond.instanceMethod yX3_joinByCable, Cond.selects RX3 yX3_joinByCable yX3_joinByCable, Cond.code yX3_joinByCable cX3_joinByCable 4 none, Cond.methodLink RX3 156 yX3_lengthBetween, Cond.instanceMethod yX3_lengthBetween, Cond.selects RX3 yX3_lengthBetween yX3_lengthBetween, Cond.code yX3_lengthBetween cX3_lengthBetween 6 (some .int), Cond.methodLink RX3 228 Lib.Math.abs.name, Cond.static Lib.Math.abs.name, Cond.code Lib.Math.abs.name Lib.Math.abs.code 1 (some .int)]
def wsL_law0_r11 : List Cond := [Cond.methodLink RL 112 yX4_plug, Cond.instanceMethod yX4_plug, Cond.selects RX4 yX4_plug yX4_plug, Cond.code yX4_plug cX4_plug 4 (some .int), Cond.methodLink RX4 108 yX4_length, Cond.instanceMethod yX4_length, Cond.selects RX4 yX4_length yX4_length, Cond.code yX4_length cX4_length 5 (some .int), Cond.methodLink RL 113 yL_pull, Cond.static yL_pull, Cond.codeWith yL_pull cL_pull 4 (some .int) [(0, 9, 12, 21), (0, 9, 15, 15)], Cond.methodLink RL 31 yX3_pull, Cond.instanceMethod yX3_pull, Cond.selects RX3 yX3_pull yX3_pull, Cond.code yX3_pull cX3_pull 3 (some .int), Cond.methodLink RX3 162 yX3_clearCable, Cond.instanceMethod yX3_clearCable, Cond.selects RX3 yX3_clearCable yX3_clearCable, Cond.code yX3_clearCable cX3_clearCable 2 none, Cond.methodLink RL 116 yX4_pull, Cond.instanceMethod yX4_pull, Cond.selects RX4 yX4_pull yX4_pull, Cond.code yX4_pull cX4_pull 3 (some .int), Cond.methodLink RL 117 yL_addMove]
def wsL_law0_r12 : List Cond := [Cond.static yL_addMove, Cond.codeWith yL_addMove cL_addMove 5 (some .int) [(0, 10, 13, 21), (0, 10, 17, 13), (0, 10, 21, 15)], Cond.methodLink RL 35 yX3_addMove, Cond.instanceMethod yX3_addMove, Cond.selects RX3 yX3_addMove yX3_addMove, Cond.code yX3_addMove cX3_addMove 3 (some .int), Cond.methodLink RX3 167 yX1_size, Cond.instanceMethod yX1_size, Cond.selects RX1 yX1_size yX1_size, Cond.code yX1_size cX1_size 1 (some .int), Cond.fieldLink RX1 29 "CableBook$Plan" "count" "I", Cond.methodLink RX3 173 yX1_add, Cond.instanceMethod yX1_add, Cond.selects RX1 yX1_add yX1_add, Cond.code yX1_add cX1_add 3 none, Cond.methodLink RX1 37 yX2_put, Cond.methodLink RL 119 yX4_addMove, Cond.instanceMethod yX4_addMove, Cond.selects RX4 yX4_addMove yX4_addMove, Cond.code yX4_addMove cX4_addMove 3 (some .int), Cond.fieldLink RX4 112 "CableBookModel" "moves" "I", Cond.methodLink RL 120 yX3_dropPlan, Cond.instanceMethod yX3_dropPlan, Cond.selects RX3 yX3_dropPlan yX3_dropPlan]
def wsL_law0_r13 : List Cond := [Cond.code yX3_dropPlan cX3_dropPlan 2 (some .int), Cond.methodLink RX3 176 yX1_clear, Cond.instanceMethod yX1_clear, Cond.selects RX1 yX1_clear yX1_clear, Cond.code yX1_clear cX1_clear 1 none, Cond.methodLink RL 123 yX4_dropPlan, Cond.instanceMethod yX4_dropPlan, Cond.selects RX4 yX4_dropPlan yX4_dropPlan, Cond.code yX4_dropPlan cX4_dropPlan 2 (some .int), Cond.methodLink RL 124 yL_carryOut, Cond.static yL_carryOut, Cond.codeWith yL_carryOut cL_carryOut 3 (some .int) [(0, 8, 11, 15)], Cond.methodLink RL 38 yX3_carryOut, Cond.instanceMethod yX3_carryOut, Cond.selects RX3 yX3_carryOut yX3_carryOut, Cond.code yX3_carryOut cX3_carryOut 2 (some .int), Cond.methodLink RX3 179 yX3_planIsPossible, Cond.instanceMethod yX3_planIsPossible, Cond.selects RX3 yX3_planIsPossible yX3_planIsPossible, Cond.code yX3_planIsPossible cX3_planIsPossible 3 (some .boolean), Cond.methodLink RX3 233 yX1_from, Cond.instanceMethod yX1_from, Cond.selects RX1 yX1_from yX1_from, Cond.code yX1_from cX1_from 2 (some .int)]
def wsL_law0_r14 : List Cond := [Cond.methodLink RX1 33 yX2_at, Cond.methodLink RX3 236 yX1_repeatsEarlier, Cond.instanceMethod yX1_repeatsEarlier, Cond.selects RX1 yX1_repeatsEarlier yX1_repeatsEarlier, Cond.code yX1_repeatsEarlier cX1_repeatsEarlier 3 (some .boolean), Cond.methodLink RX1 40 yX1_from, Cond.methodLink RX1 43 yX1_to, Cond.instanceMethod yX1_to, Cond.selects RX1 yX1_to yX1_to, Cond.code yX1_to cX1_to 2 (some .int), Cond.methodLink RX3 239 yX1_to, Cond.methodLink RX3 242 yX3_staysTaken, Cond.instanceMethod yX3_staysTaken, Cond.selects RX3 yX3_staysTaken yX3_staysTaken, Cond.code yX3_staysTaken cX3_staysTaken 2 (some .boolean), Cond.methodLink RX3 245 yX1_pulls, Cond.instanceMethod yX1_pulls, Cond.selects RX1 yX1_pulls yX1_pulls, Cond.code yX1_pulls cX1_pulls 3 (some .boolean), Cond.methodLink RX3 185 yX3_pullPlannedEnds, Cond.instanceMethod yX3_pullPlannedEnds, Cond.selects RX3 yX3_pullPlannedEnds yX3_pullPlannedEnds, Cond.code yX3_pullPlannedEnds cX3_pullPlannedEnds 4 none, Cond.methodLink RX3 248 yX1_keepCable]
def wsL_law0_r15 : List Cond := [Cond.instanceMethod yX1_keepCable, Cond.selects RX1 yX1_keepCable yX1_keepCable, Cond.code yX1_keepCable cX1_keepCable 4 none, Cond.methodLink RX3 188 yX3_plugPlannedEnds, Cond.instanceMethod yX3_plugPlannedEnds, Cond.selects RX3 yX3_plugPlannedEnds yX3_plugPlannedEnds, Cond.code yX3_plugPlannedEnds cX3_plugPlannedEnds 4 none, Cond.methodLink RX3 251 yX1_keptOther, Cond.instanceMethod yX1_keptOther, Cond.selects RX1 yX1_keptOther yX1_keptOther, Cond.code yX1_keptOther cX1_keptOther 2 (some .int), Cond.methodLink RX3 254 yX1_placeAfterwards, Cond.instanceMethod yX1_placeAfterwards, Cond.selects RX1 yX1_placeAfterwards yX1_placeAfterwards, Cond.code yX1_placeAfterwards cX1_placeAfterwards 3 (some .int), Cond.methodLink RX3 257 yX1_keptColour, Cond.instanceMethod yX1_keptColour, Cond.selects RX1 yX1_keptColour yX1_keptColour, Cond.code yX1_keptColour cX1_keptColour 2 (some .int), Cond.methodLink RL 127 yX4_carryOut, Cond.instanceMethod yX4_carryOut, Cond.selects RX4 yX4_carryOut yX4_carryOut, Cond.code yX4_carryOut cX4_carryOut 2 (some .int), Cond.methodLink RX4 122 yX4_lays]
def wsL_law0_r16 : List Cond := [Cond.instanceMethod yX4_lays, Cond.selects RX4 yX4_lays yX4_lays, Cond.code yX4_lays cX4_lays 4 (some .boolean), Cond.methodLink RX4 115 yX4_areUnlike, Cond.instanceMethod yX4_areUnlike, Cond.selects RX4 yX4_areUnlike yX4_areUnlike, Cond.code yX4_areUnlike cX4_areUnlike 4 (some .boolean), Cond.methodLink RX4 119 yX4_moved, Cond.instanceMethod yX4_moved, Cond.selects RX4 yX4_moved yX4_moved, Cond.code yX4_moved cX4_moved 3 (some .int), Cond.methodLink RL 128 yX3_ports, Cond.instanceMethod yX3_ports, Cond.selects RX3 yX3_ports yX3_ports, Cond.code yX3_ports cX3_ports 1 (some .int), Cond.methodLink RL 131 yX4_ports, Cond.instanceMethod yX4_ports, Cond.selects RX4 yX4_ports yX4_ports, Cond.code yX4_ports cX4_ports 1 (some .int), Cond.methodLink RL 132 yX3_trunks, Cond.instanceMethod yX3_trunks, Cond.selects RX3 yX3_trunks yX3_trunks, Cond.code yX3_trunks cX3_trunks 1 (some .int), Cond.methodLink RL 135 yX4_trunks]
def wsL_law0_r17 : List Cond := [Cond.instanceMethod yX4_trunks, Cond.selects RX4 yX4_trunks yX4_trunks, Cond.code yX4_trunks cX4_trunks 1 (some .int), Cond.methodLink RL 136 yX3_cables, Cond.instanceMethod yX3_cables, Cond.selects RX3 yX3_cables yX3_cables, Cond.code yX3_cables cX3_cables 3 (some .int), Cond.methodLink RX3 191 yX3_isLowerEnd, Cond.instanceMethod yX3_isLowerEnd, Cond.selects RX3 yX3_isLowerEnd yX3_isLowerEnd, Cond.code yX3_isLowerEnd cX3_isLowerEnd 2 (some .boolean), Cond.methodLink RL 139 yX4_cables, Cond.instanceMethod yX4_cables, Cond.selects RX4 yX4_cables yX4_cables, Cond.code yX4_cables cX4_cables 3 (some .int), Cond.methodLink RL 140 yL_panelOf, Cond.static yL_panelOf, Cond.codeWith yL_panelOf cL_panelOf 4 (some .int) [(0, 9, 12, 21)], Cond.methodLink RL 42 yX3_panelOf, Cond.instanceMethod yX3_panelOf, Cond.selects RX3 yX3_panelOf yX3_panelOf, Cond.code yX3_panelOf cX3_panelOf 2 (some .int), Cond.methodLink RL 142 yX4_panelOf, Cond.instanceMethod yX4_panelOf]
def wsL_law0_r18 : List Cond := [Cond.selects RX4 yX4_panelOf yX4_panelOf, Cond.code yX4_panelOf cX4_panelOf 2 (some .int), Cond.methodLink RL 143 yL_byCable, Cond.static yL_byCable, Cond.codeWith yL_byCable cL_byCable 4 (some .int) [(0, 9, 12, 21)], Cond.methodLink RL 45 yX3_byCable, Cond.instanceMethod yX3_byCable, Cond.selects RX3 yX3_byCable yX3_byCable, Cond.code yX3_byCable cX3_byCable 2 (some .int), Cond.methodLink RL 145 yX4_byCable, Cond.instanceMethod yX4_byCable, Cond.selects RX4 yX4_byCable yX4_byCable, Cond.code yX4_byCable cX4_byCable 2 (some .int), Cond.methodLink RL 146 yL_byStrand, Cond.static yL_byStrand, Cond.codeWith yL_byStrand cL_byStrand 4 (some .int) [(0, 9, 12, 21)], Cond.methodLink RL 48 yX3_byStrand, Cond.instanceMethod yX3_byStrand, Cond.selects RX3 yX3_byStrand yX3_byStrand, Cond.code yX3_byStrand cX3_byStrand 2 (some .int), Cond.methodLink RL 148 yX4_byStrand, Cond.instanceMethod yX4_byStrand, Cond.selects RX4 yX4_byStrand yX4_byStrand, Cond.code yX4_byStrand cX4_byStrand 2 (some .int)]
def wsL_law0_r19 : List Cond := [Cond.methodLink RL 149 yL_colour, Cond.static yL_colour, Cond.codeWith yL_colour cL_colour 4 (some .int) [(0, 9, 12, 21)], Cond.methodLink RL 51 yX3_colour, Cond.instanceMethod yX3_colour, Cond.selects RX3 yX3_colour yX3_colour, Cond.code yX3_colour cX3_colour 2 (some .int), Cond.methodLink RL 151 yX4_colour, Cond.instanceMethod yX4_colour, Cond.selects RX4 yX4_colour yX4_colour, Cond.code yX4_colour cX4_colour 2 (some .int), Cond.methodLink RL 152 yL_end, Cond.static yL_end, Cond.codeWith yL_end cL_end 5 (some .int) [(0, 10, 13, 21)], Cond.methodLink RL 54 yX3_end, Cond.instanceMethod yX3_end, Cond.selects RX3 yX3_end yX3_end, Cond.code yX3_end cX3_end 3 (some .int), Cond.methodLink RX3 194 yX3_trace, Cond.instanceMethod yX3_trace, Cond.selects RX3 yX3_trace yX3_trace, Cond.code yX3_trace cX3_trace 6 (some .int), Cond.methodLink RX3 219 yX3_openStrandFrom, Cond.instanceMethod yX3_openStrandFrom]
def wsL_law0_r20 : List Cond := [Cond.selects RX3 yX3_openStrandFrom yX3_openStrandFrom, Cond.code yX3_openStrandFrom cX3_openStrandFrom 2 (some .int), Cond.methodLink RX3 198 yX3_endOfTrail, Cond.instanceMethod yX3_endOfTrail, Cond.selects RX3 yX3_endOfTrail yX3_endOfTrail, Cond.code yX3_endOfTrail cX3_endOfTrail 3 (some .int), Cond.methodLink RL 155 yX4_end, Cond.instanceMethod yX4_end, Cond.selects RX4 yX4_end yX4_end, Cond.code yX4_end cX4_end 3 (some .int), Cond.methodLink RX4 136 yX4_goes, Cond.instanceMethod yX4_goes, Cond.selects RX4 yX4_goes yX4_goes, Cond.code yX4_goes cX4_goes 6 (some .int), Cond.fieldLink RX4 126 "CableBookModel" "hopCount" "I", Cond.fieldLink RX4 129 "CableBookModel" "hopLength" "I", Cond.methodLink RX4 132 yX4_next, Cond.instanceMethod yX4_next, Cond.selects RX4 yX4_next yX4_next, Cond.code yX4_next cX4_next 3 (some .int), Cond.methodLink RL 156 yL_hops, Cond.static yL_hops, Cond.codeWith yL_hops cL_hops 5 (some .int) [(0, 10, 13, 21)], Cond.methodLink RL 58 yX3_hops]
def wsL_law0_r21 : List Cond := [Cond.instanceMethod yX3_hops, Cond.selects RX3 yX3_hops yX3_hops, Cond.code yX3_hops cX3_hops 3 (some .int), Cond.methodLink RL 158 yX4_hops, Cond.instanceMethod yX4_hops, Cond.selects RX4 yX4_hops yX4_hops, Cond.code yX4_hops cX4_hops 3 (some .int), Cond.methodLink RL 159 yL_hopTo, Cond.static yL_hopTo, Cond.codeWith yL_hopTo cL_hopTo 6 (some .int) [(0, 12, 15, 21)], Cond.methodLink RL 61 yX3_hopTo, Cond.instanceMethod yX3_hopTo, Cond.selects RX3 yX3_hopTo yX3_hopTo, Cond.code yX3_hopTo cX3_hopTo 4 (some .int), Cond.methodLink RL 162 yX4_hopTo, Cond.instanceMethod yX4_hopTo, Cond.selects RX4 yX4_hopTo yX4_hopTo, Cond.code yX4_hopTo cX4_hopTo 5 (some .int), Cond.methodLink RL 163 yL_lengthOf, Cond.static yL_lengthOf, Cond.codeWith yL_lengthOf cL_lengthOf 5 (some .int) [(0, 10, 13, 21)], Cond.methodLink RL 65 yX3_lengthOf, Cond.instanceMethod yX3_lengthOf, Cond.selects RX3 yX3_lengthOf yX3_lengthOf]
def wsL_law0_r22 : List Cond := [Cond.code yX3_lengthOf cX3_lengthOf 9 (some .int), Cond.methodLink RL 165 yX4_lengthOf, Cond.instanceMethod yX4_lengthOf, Cond.selects RX4 yX4_lengthOf yX4_lengthOf, Cond.code yX4_lengthOf cX4_lengthOf 3 (some .int), Cond.methodLink RL 166 yL_isRing, Cond.static yL_isRing, Cond.codeWith yL_isRing cL_isRing 4 (some .int) [(0, 16, 19, 21)], Cond.methodLink RL 68 yX3_isRing, Cond.instanceMethod yX3_isRing, Cond.selects RX3 yX3_isRing yX3_isRing, Cond.code yX3_isRing cX3_isRing 3 (some .boolean), Cond.methodLink RL 168 yX4_isRing, Cond.instanceMethod yX4_isRing, Cond.selects RX4 yX4_isRing yX4_isRing, Cond.code yX4_isRing cX4_isRing 2 (some .boolean), Cond.methodLink RL 169 yL_areJoined, Cond.static yL_areJoined, Cond.codeWith yL_areJoined cL_areJoined 5 (some .int) [(0, 17, 20, 21)], Cond.methodLink RL 72 yX3_areJoined, Cond.instanceMethod yX3_areJoined, Cond.selects RX3 yX3_areJoined yX3_areJoined, Cond.code yX3_areJoined cX3_areJoined 3 (some .boolean), Cond.methodLink RX3 203 yX3_isOnTrail]
def wsL_law0_r23 : List Cond := [Cond.instanceMethod yX3_isOnTrail, Cond.selects RX3 yX3_isOnTrail yX3_isOnTrail, Cond.code yX3_isOnTrail cX3_isOnTrail 4 (some .boolean), Cond.methodLink RL 171 yX4_areJoined, Cond.instanceMethod yX4_areJoined, Cond.selects RX4 yX4_areJoined yX4_areJoined, Cond.code yX4_areJoined cX4_areJoined 3 (some .boolean), Cond.methodLink RX4 143 yX4_isOnLine, Cond.instanceMethod yX4_isOnLine, Cond.selects RX4 yX4_isOnLine yX4_isOnLine, Cond.code yX4_isOnLine cX4_isOnLine 3 (some .boolean), Cond.methodLink RX4 139 yX4_isMet, Cond.instanceMethod yX4_isMet, Cond.selects RX4 yX4_isMet yX4_isMet, Cond.code yX4_isMet cX4_isMet 5 (some .boolean), Cond.methodLink RL 172 yL_areJoinedBySearch, Cond.static yL_areJoinedBySearch, Cond.codeWith yL_areJoinedBySearch cL_areJoinedBySearch 5 (some .int) [(0, 17, 20, 21)], Cond.methodLink RL 76 yX3_areJoinedBySearch, Cond.instanceMethod yX3_areJoinedBySearch, Cond.selects RX3 yX3_areJoinedBySearch yX3_areJoinedBySearch, Cond.code yX3_areJoinedBySearch cX3_areJoinedBySearch 3 (some .boolean), Cond.methodLink RX3 206 yX3_searchFrom, Cond.instanceMethod yX3_searchFrom]
def wsL_law0_r24 : List Cond := [Cond.selects RX3 yX3_searchFrom yX3_searchFrom, Cond.code yX3_searchFrom cX3_searchFrom 5 none, Cond.methodLink RX3 209 yX0_clear, Cond.instanceMethod yX0_clear, Cond.selects RX0 yX0_clear yX0_clear, Cond.code yX0_clear cX0_clear 2 none, Cond.methodLink RX3 260 yX3_reach, Cond.instanceMethod yX3_reach, Cond.selects RX3 yX3_reach yX3_reach, Cond.code yX3_reach cX3_reach 3 (some .int), Cond.methodLink RL 174 yX4_areJoinedBySearch, Cond.instanceMethod yX4_areJoinedBySearch, Cond.selects RX4 yX4_areJoinedBySearch yX4_areJoinedBySearch, Cond.code yX4_areJoinedBySearch cX4_areJoinedBySearch 3 (some .boolean), Cond.methodLink RX4 146 yX4_searches, Cond.instanceMethod yX4_searches, Cond.selects RX4 yX4_searches yX4_searches, Cond.code yX4_searches cX4_searches 5 none, Cond.methodLink RL 175 yX3_lines, Cond.instanceMethod yX3_lines, Cond.selects RX3 yX3_lines yX3_lines, Cond.code yX3_lines cX3_lines 3 (some .int), Cond.methodLink RX3 210 yX3_markTrail, Cond.instanceMethod yX3_markTrail]
def wsL_law0_r25 : List Cond := [Cond.selects RX3 yX3_markTrail yX3_markTrail, Cond.code yX3_markTrail cX3_markTrail 3 none, Cond.methodLink RL 178 yX4_lines, Cond.instanceMethod yX4_lines, Cond.selects RX4 yX4_lines yX4_lines, Cond.code yX4_lines cX4_lines 3 (some .int), Cond.methodLink RL 179 yL_freePort, Cond.static yL_freePort, Cond.codeWith yL_freePort cL_freePort 4 (some .int) [(0, 9, 12, 21)], Cond.methodLink RL 79 yX3_freePort, Cond.instanceMethod yX3_freePort, Cond.selects RX3 yX3_freePort yX3_freePort, Cond.code yX3_freePort cX3_freePort 5 (some .int), Cond.methodLink RX3 213 yX3_checkPanel, Cond.instanceMethod yX3_checkPanel, Cond.selects RX3 yX3_checkPanel yX3_checkPanel, Cond.code yX3_checkPanel cX3_checkPanel 2 none, Cond.methodLink RL 181 yX4_freePort, Cond.instanceMethod yX4_freePort, Cond.selects RX4 yX4_freePort yX4_freePort, Cond.code yX4_freePort cX4_freePort 3 (some .int), Cond.methodLink RX4 149 yX4_isPanel, Cond.instanceMethod yX4_isPanel, Cond.selects RX4 yX4_isPanel yX4_isPanel]
def wsL_law0_r26 : List Cond := [Cond.code yX4_isPanel cX4_isPanel 2 (some .boolean), Cond.methodLink RL 182 yL_freeStrand, Cond.static yL_freeStrand, Cond.codeWith yL_freeStrand cL_freeStrand 5 (some .int) [(0, 10, 13, 21)], Cond.methodLink RL 82 yX3_freeStrand, Cond.instanceMethod yX3_freeStrand, Cond.selects RX3 yX3_freeStrand yX3_freeStrand, Cond.code yX3_freeStrand cX3_freeStrand 7 (some .int), Cond.methodLink RL 184 yX4_freeStrand, Cond.instanceMethod yX4_freeStrand, Cond.selects RX4 yX4_freeStrand yX4_freeStrand, Cond.code yX4_freeStrand cX4_freeStrand 5 (some .int), Cond.methodLink RL 185 yL_used, Cond.static yL_used, Cond.codeWith yL_used cL_used 4 (some .int) [(0, 9, 12, 21)], Cond.methodLink RL 85 yX3_used, Cond.instanceMethod yX3_used, Cond.selects RX3 yX3_used yX3_used, Cond.code yX3_used cX3_used 6 (some .int), Cond.methodLink RL 187 yX4_used, Cond.instanceMethod yX4_used, Cond.selects RX4 yX4_used yX4_used, Cond.code yX4_used cX4_used 4 (some .int), Cond.methodLink RL 188 yX3_canCarryOut]
def wsL_law0_r27 : List Cond := [Cond.instanceMethod yX3_canCarryOut, Cond.selects RX3 yX3_canCarryOut yX3_canCarryOut, Cond.code yX3_canCarryOut cX3_canCarryOut 1 (some .boolean), Cond.methodLink RL 192 yX4_canCarryOut, Cond.instanceMethod yX4_canCarryOut, Cond.selects RX4 yX4_canCarryOut yX4_canCarryOut, Cond.code yX4_canCarryOut cX4_canCarryOut 1 (some .boolean), Cond.methodLink RL 193 yX3_cableLength, Cond.instanceMethod yX3_cableLength, Cond.selects RX3 yX3_cableLength yX3_cableLength, Cond.code yX3_cableLength cX3_cableLength 3 (some .int), Cond.methodLink RL 196 yX4_cableLength, Cond.instanceMethod yX4_cableLength, Cond.selects RX4 yX4_cableLength yX4_cableLength, Cond.code yX4_cableLength cX4_cableLength 3 (some .int)]
def wsL_law0 : List Cond := (wsL_law0_r1 ++ (wsL_law0_r2 ++ (wsL_law0_r3 ++ (wsL_law0_r4 ++ (wsL_law0_r5 ++ (wsL_law0_r6 ++ (wsL_law0_r7 ++ (wsL_law0_r8 ++ (wsL_law0_r9 ++ (wsL_law0_r10 ++ (wsL_law0_r11 ++ (wsL_law0_r12 ++ (wsL_law0_r13 ++ (wsL_law0_r14 ++ (wsL_law0_r15 ++ (wsL_law0_r16 ++ (wsL_law0_r17 ++ (wsL_law0_r18 ++ (wsL_law0_r19 ++ (wsL_law0_r20 ++ (wsL_law0_r21 ++ (wsL_law0_r22 ++ (wsL_law0_r23 ++ (wsL_law0_r24 ++ (wsL_law0_r25 ++ (wsL_law0_r26 ++ wsL_law0_r27)))))))))))))))))))))))))) ++ wsX30 ++ wsX40 ++ wsX20 ++ wsX00 ++ wsX10 ++ ([] : List Cond)
def wsL_law : List Cond := wsL_law0 ++ (vx_atS RX3 91 "java/lang/IllegalArgumentException" ["java/lang/RuntimeException", "java/lang/Exception"]).filter goodWord ++ (vx_atS RX3 98 "java/lang/IllegalStateException" ["java/lang/RuntimeException", "java/lang/Exception"]).filter goodWord ++ (vx_atS RX3 137 "java/lang/IndexOutOfBoundsException" ["java/lang/RuntimeException", "java/lang/Exception"]).filter goodWord
end
section
set_option maxRecDepth 20000 in
theorem wsL_law0_r1_in : ∀ w ∈ wsL_law0_r1, w ∈ lw_tbl := fun w h => (goodIn_r wsL_law0_r1 [55, 56, 43, 633, 634, 48, 903, 57, 58, 59, 60, 61, 62, 63, 64, 44, 117, 118, 119, 121, 122, 123, 124, 125] (by decide +kernel) (by decide +kernel) w h).1
set_option maxRecDepth 20000 in
theorem wsL_law0_r2_in : ∀ w ∈ wsL_law0_r2, w ∈ lw_tbl := fun w h => (goodIn_r wsL_law0_r2 [80, 81, 46, 126, 128, 129, 130, 92, 93, 47, 131, 132, 133, 134, 116, 120, 127, 65, 66, 67, 68, 69, 70, 45] (by decide +kernel) (by decide +kernel) w h).1
set_option maxRecDepth 20000 in
theorem wsL_law0_r3_in : ∀ w ∈ wsL_law0_r3, w ∈ lw_tbl := fun w h => (goodIn_r wsL_law0_r3 [71, 79, 72, 73, 82, 83, 84, 85, 86, 91, 87, 95, 96, 97, 98, 101, 102, 103, 104, 99, 635, 636, 637, 638] (by decide +kernel) (by decide +kernel) w h).1
set_option maxRecDepth 20000 in
theorem wsL_law0_r4_in : ∀ w ∈ wsL_law0_r4, w ∈ lw_tbl := fun w h => (goodIn_r wsL_law0_r4 [644, 645, 646, 647, 648, 649, 650, 651, 652, 653, 654, 655, 656, 657, 658, 659, 662, 284, 285, 42, 286, 287, 288, 289] (by decide +kernel) (by decide +kernel) w h).1
set_option maxRecDepth 20000 in
theorem wsL_law0_r5_in : ∀ w ∈ wsL_law0_r5, w ∈ lw_tbl := fun w h => (goodIn_r wsL_law0_r5 [290, 291, 292, 296, 52, 364, 53, 293, 294, 295, 230, 231, 232, 233, 716, 717, 718, 719, 640, 641, 720, 721, 722, 723] (by decide +kernel) (by decide +kernel) w h).1
set_option maxRecDepth 20000 in
theorem wsL_law0_r6_in : ∀ w ∈ wsL_law0_r6, w ∈ lw_tbl := fun w h => (goodIn_r wsL_law0_r6 [725, 24, 726, 639, 712, 713, 714, 715, 380, 381, 382, 383, 384, 385, 386, 387, 388, 390, 9, 391, 392, 54, 202, 203] (by decide +kernel) (by decide +kernel) w h).1
set_option maxRecDepth 20000 in
theorem wsL_law0_r7_in : ∀ w ∈ wsL_law0_r7, w ∈ lw_tbl := fun w h => (goodIn_r wsL_law0_r7 [204, 205, 410, 412, 10, 413, 416, 418, 11, 419, 420, 422, 12, 423, 425, 427, 13, 428, 727, 728, 729, 730, 642, 731] (by decide +kernel) (by decide +kernel) w h).1
set_option maxRecDepth 20000 in
theorem wsL_law0_r8_in : ∀ w ∈ wsL_law0_r8, w ∈ lw_tbl := fun w h => (goodIn_r wsL_law0_r8 [733, 25, 734, 735, 737, 26, 738, 739, 741, 27, 742, 743, 745, 28, 746, 747, 749, 29, 750, 751, 753, 30, 754, 429] (by decide +kernel) (by decide +kernel) w h).1
set_option maxRecDepth 20000 in
theorem wsL_law0_r9_in : ∀ w ∈ wsL_law0_r9, w ∈ lw_tbl := fun w h => (goodIn_r wsL_law0_r9 [430, 431, 432, 433, 434, 435, 436, 438, 14, 439, 214, 215, 216, 217, 218, 219, 220, 221, 755, 756, 757, 758, 759, 761] (by decide +kernel) (by decide +kernel) w h).1
set_option maxRecDepth 20000 in
theorem wsL_law0_r10_in : ∀ w ∈ wsL_law0_r10, w ∈ lw_tbl := fun w h => (goodIn_r wsL_law0_r10 [31, 762, 442, 443, 444, 445, 446, 447, 448, 251, 253, 5, 254, 451, 453, 15, 454, 277, 279, 7, 280, 281, 282, 283] (by decide +kernel) (by decide +kernel) w h).1
set_option maxRecDepth 20000 in
theorem wsL_law0_r11_in : ∀ w ∈ wsL_law0_r11, w ∈ lw_tbl := fun w h => (goodIn_r wsL_law0_r11 [763, 764, 765, 766, 767, 769, 32, 770, 455, 456, 457, 458, 459, 460, 461, 463, 465, 16, 466, 771, 772, 773, 774, 467] (by decide +kernel) (by decide +kernel) w h).1
set_option maxRecDepth 20000 in
theorem wsL_law0_r12_in : ∀ w ∈ wsL_law0_r12, w ∈ lw_tbl := fun w h => (goodIn_r wsL_law0_r12 [468, 469, 470, 471, 472, 473, 178, 179, 180, 181, 100, 476, 477, 478, 479, 480, 775, 776, 777, 778, 643, 174, 175, 176] (by decide +kernel) (by decide +kernel) w h).1
set_option maxRecDepth 20000 in
theorem wsL_law0_r13_in : ∀ w ∈ wsL_law0_r13, w ∈ lw_tbl := fun w h => (goodIn_r wsL_law0_r13 [177, 182, 183, 184, 185, 779, 780, 781, 782, 481, 482, 483, 484, 485, 486, 487, 242, 244, 4, 245, 246, 247, 248, 249] (by decide +kernel) (by decide +kernel) w h).1
set_option maxRecDepth 20000 in
theorem wsL_law0_r14_in : ∀ w ∈ wsL_law0_r14, w ∈ lw_tbl := fun w h => (goodIn_r wsL_law0_r14 [250, 255, 256, 257, 258, 259, 260, 261, 262, 263, 264, 265, 267, 6, 268, 269, 270, 271, 272, 489, 491, 17, 492, 493] (by decide +kernel) (by decide +kernel) w h).1
set_option maxRecDepth 20000 in
theorem wsL_law0_r15_in : ∀ w ∈ wsL_law0_r15, w ∈ lw_tbl := fun w h => (goodIn_r wsL_law0_r15 [494, 495, 496, 497, 499, 18, 500, 501, 502, 503, 504, 505, 506, 507, 508, 509, 510, 511, 512, 783, 784, 785, 786, 787] (by decide +kernel) (by decide +kernel) w h).1
set_option maxRecDepth 20000 in
theorem wsL_law0_r16_in : ∀ w ∈ wsL_law0_r16, w ∈ lw_tbl := fun w h => (goodIn_r wsL_law0_r16 [789, 33, 790, 791, 793, 34, 794, 795, 797, 35, 798, 186, 187, 188, 189, 799, 800, 801, 802, 190, 191, 192, 193, 803] (by decide +kernel) (by decide +kernel) w h).1
set_option maxRecDepth 20000 in
theorem wsL_law0_r17_in : ∀ w ∈ wsL_law0_r17, w ∈ lw_tbl := fun w h => (goodIn_r wsL_law0_r17 [804, 805, 806, 194, 195, 196, 197, 198, 200, 0, 201, 807, 808, 809, 810, 513, 514, 515, 516, 517, 518, 519, 811, 812] (by decide +kernel) (by decide +kernel) w h).1
set_option maxRecDepth 20000 in
theorem wsL_law0_r18_in : ∀ w ∈ wsL_law0_r18, w ∈ lw_tbl := fun w h => (goodIn_r wsL_law0_r18 [813, 814, 520, 521, 522, 523, 524, 525, 526, 815, 816, 817, 818, 527, 528, 529, 530, 531, 532, 533, 819, 820, 821, 822] (by decide +kernel) (by decide +kernel) w h).1
set_option maxRecDepth 20000 in
theorem wsL_law0_r19_in : ∀ w ∈ wsL_law0_r19, w ∈ lw_tbl := fun w h => (goodIn_r wsL_law0_r19 [534, 535, 536, 537, 538, 539, 540, 823, 824, 825, 826, 541, 542, 543, 544, 545, 546, 547, 222, 224, 1, 225, 226, 228] (by decide +kernel) (by decide +kernel) w h).1
set_option maxRecDepth 20000 in
theorem wsL_law0_r20_in : ∀ w ∈ wsL_law0_r20, w ∈ lw_tbl := fun w h => (goodIn_r wsL_law0_r20 [2, 229, 548, 550, 19, 551, 827, 828, 829, 830, 831, 833, 36, 834, 660, 661, 835, 837, 37, 838, 552, 553, 554, 555] (by decide +kernel) (by decide +kernel) w h).1
set_option maxRecDepth 20000 in
theorem wsL_law0_r21_in : ∀ w ∈ wsL_law0_r21, w ∈ lw_tbl := fun w h => (goodIn_r wsL_law0_r21 [556, 557, 558, 839, 840, 841, 842, 559, 560, 561, 562, 563, 564, 565, 843, 844, 845, 846, 567, 568, 569, 570, 571, 572] (by decide +kernel) (by decide +kernel) w h).1
set_option maxRecDepth 20000 in
theorem wsL_law0_r22_in : ∀ w ∈ wsL_law0_r22, w ∈ lw_tbl := fun w h => (goodIn_r wsL_law0_r22 [573, 847, 848, 849, 850, 574, 575, 576, 577, 578, 579, 580, 851, 852, 853, 854, 581, 582, 583, 584, 585, 586, 587, 588] (by decide +kernel) (by decide +kernel) w h).1
set_option maxRecDepth 20000 in
theorem wsL_law0_r23_in : ∀ w ∈ wsL_law0_r23, w ∈ lw_tbl := fun w h => (goodIn_r wsL_law0_r23 [590, 20, 591, 855, 856, 857, 858, 859, 861, 38, 862, 863, 865, 39, 866, 592, 593, 594, 595, 596, 597, 598, 599, 601] (by decide +kernel) (by decide +kernel) w h).1
set_option maxRecDepth 20000 in
theorem wsL_law0_r24_in : ∀ w ∈ wsL_law0_r24, w ∈ lw_tbl := fun w h => (goodIn_r wsL_law0_r24 [21, 602, 210, 211, 212, 213, 603, 605, 22, 606, 867, 868, 869, 870, 871, 873, 40, 874, 206, 207, 208, 209, 234, 236] (by decide +kernel) (by decide +kernel) w h).1
set_option maxRecDepth 20000 in
theorem wsL_law0_r25_in : ∀ w ∈ wsL_law0_r25, w ∈ lw_tbl := fun w h => (goodIn_r wsL_law0_r25 [3, 237, 875, 876, 877, 878, 607, 608, 609, 610, 611, 612, 613, 614, 616, 23, 617, 879, 880, 881, 882, 883, 885, 41] (by decide +kernel) (by decide +kernel) w h).1
set_option maxRecDepth 20000 in
theorem wsL_law0_r26_in : ∀ w ∈ wsL_law0_r26, w ∈ lw_tbl := fun w h => (goodIn_r wsL_law0_r26 [886, 619, 620, 621, 622, 623, 624, 625, 887, 888, 889, 890, 626, 627, 628, 629, 630, 631, 632, 891, 892, 893, 894, 238] (by decide +kernel) (by decide +kernel) w h).1
set_option maxRecDepth 20000 in
theorem wsL_law0_r27_in : ∀ w ∈ wsL_law0_r27, w ∈ lw_tbl := fun w h => (goodIn_r wsL_law0_r27 [239, 240, 241, 895, 896, 897, 898, 273, 274, 275, 276, 899, 900, 901, 902] (by decide +kernel) (by decide +kernel) w h).1
end
section
set_option maxRecDepth 20000 in
theorem wxX3_in : ∀ w ∈ wsX30, w ∈ lw_tbl := by decide +kernel
set_option maxRecDepth 20000 in
theorem wxX4_in : ∀ w ∈ wsX40, w ∈ lw_tbl := by decide +kernel
set_option maxRecDepth 20000 in
theorem wxX2_in : ∀ w ∈ wsX20, w ∈ lw_tbl := by decide +kernel
set_option maxRecDepth 20000 in
theorem wxX0_in : ∀ w ∈ wsX00, w ∈ lw_tbl := by decide +kernel
set_option maxRecDepth 20000 in
theorem wxX1_in : ∀ w ∈ wsX10, w ∈ lw_tbl := by decide +kernel
set_option maxRecDepth 20000 in
theorem wsL_law_in0 : ∀ w ∈ wsL_law0, w ∈ lw_tbl := fun w => fun h => (List.mem_append.mp h).elim (fun h => (List.mem_append.mp h).elim (fun h => (List.mem_append.mp h).elim (fun h => (List.mem_append.mp h).elim (fun h => (List.mem_append.mp h).elim (fun h => (List.mem_append.mp h).elim (fun h => (List.mem_append.mp h).elim (fun h => wsL_law0_r1_in w h) (fun h => (List.mem_append.mp h).elim (fun h => wsL_law0_r2_in w h) (fun h => (List.mem_append.mp h).elim (fun h => wsL_law0_r3_in w h) (fun h => (List.mem_append.mp h).elim (fun h => wsL_law0_r4_in w h) (fun h => (List.mem_append.mp h).elim (fun h => wsL_law0_r5_in w h) (fun h => (List.mem_append.mp h).elim (fun h => wsL_law0_r6_in w h) (fun h => (List.mem_append.mp h).elim (fun h => wsL_law0_r7_in w h) (fun h => (List.mem_append.mp h).elim (fun h => wsL_law0_r8_in w h) (fun h => (List.mem_append.mp h).elim (fun h => wsL_law0_r9_in w h) (fun h => (List.mem_append.mp h).elim (fun h => wsL_law0_r10_in w h) (fun h => (List.mem_append.mp h).elim (fun h => wsL_law0_r11_in w h) (fun h => (List.mem_append.mp h).elim (fun h => wsL_law0_r12_in w h) (fun h => (List.mem_append.mp h).elim (fun h => wsL_law0_r13_in w h) (fun h => (List.mem_append.mp h).elim (fun h => wsL_law0_r14_in w h) (fun h => (List.mem_append.mp h).elim (fun h => wsL_law0_r15_in w h) (fun h => (List.mem_append.mp h).elim (fun h => wsL_law0_r16_in w h) (fun h => (List.mem_append.mp h).elim (fun h => wsL_law0_r17_in w h) (fun h => (List.mem_append.mp h).elim (fun h => wsL_law0_r18_in w h) (fun h => (List.mem_append.mp h).elim (fun h => wsL_law0_r19_in w h) (fun h => (List.mem_append.mp h).elim (fun h => wsL_law0_r20_in w h) (fun h => (List.mem_append.mp h).elim (fun h => wsL_law0_r21_in w h) (fun h => (List.mem_append.mp h).elim (fun h => wsL_law0_r22_in w h) (fun h => (List.mem_append.mp h).elim (fun h => wsL_law0_r23_in w h) (fun h => (List.mem_append.mp h).elim (fun h => wsL_law0_r24_in w h) (fun h => (List.mem_append.mp h).elim (fun h => wsL_law0_r25_in w h) (fun h => (List.mem_append.mp h).elim (fun h => wsL_law0_r26_in w h) (fun h => wsL_law0_r27_in w h))))))))))))))))))))))))))) (fun h => wxX3_in w h)) (fun h => wxX4_in w h)) (fun h => wxX2_in w h)) (fun h => wxX0_in w h)) (fun h => wxX1_in w h)) (fun h => absurd h List.not_mem_nil)
theorem wsL_law_x0 : ∀ w ∈ (vx_atS RX3 91 "java/lang/IllegalArgumentException" ["java/lang/RuntimeException", "java/lang/Exception"]).filter goodWord, w ∈ lw_tbl := by decide +kernel
theorem wsL_law_x1 : ∀ w ∈ (vx_atS RX3 98 "java/lang/IllegalStateException" ["java/lang/RuntimeException", "java/lang/Exception"]).filter goodWord, w ∈ lw_tbl := by decide +kernel
theorem wsL_law_x2 : ∀ w ∈ (vx_atS RX3 137 "java/lang/IndexOutOfBoundsException" ["java/lang/RuntimeException", "java/lang/Exception"]).filter goodWord, w ∈ lw_tbl := by decide +kernel
theorem wsL_law_in : ∀ w ∈ wsL_law, w ∈ lw_tbl := fun w h => (List.mem_append.mp h).elim (fun h => (List.mem_append.mp h).elim (fun h => (List.mem_append.mp h).elim (fun h => wsL_law_in0 w h) (fun h => wsL_law_x0 w h)) (fun h => wsL_law_x1 w h)) (fun h => wsL_law_x2 w h)
theorem inlX0 : ∀ w ∈ wsX00, w ∈ wsL_law := fun _ h => List.mem_append_left _ (List.mem_append_left _ (List.mem_append_left _ (List.mem_append_left _ (List.mem_append_left _ (List.mem_append_right _ h)))))
theorem inX0 : ∀ w ∈ wsX00, w ∈ lw_tbl := fun w h => wsL_law_in w (inlX0 w h)
theorem inlX1 : ∀ w ∈ wsX10, w ∈ wsL_law := fun _ h => List.mem_append_left _ (List.mem_append_left _ (List.mem_append_left _ (List.mem_append_left _ (List.mem_append_right _ h))))
theorem inX1 : ∀ w ∈ wsX10, w ∈ lw_tbl := fun w h => wsL_law_in w (inlX1 w h)
theorem inlX2 : ∀ w ∈ wsX20, w ∈ wsL_law := fun _ h => List.mem_append_left _ (List.mem_append_left _ (List.mem_append_left _ (List.mem_append_left _ (List.mem_append_left _ (List.mem_append_left _ (List.mem_append_right _ h))))))
theorem inX2 : ∀ w ∈ wsX20, w ∈ lw_tbl := fun w h => wsL_law_in w (inlX2 w h)
theorem inlX3 : ∀ w ∈ wsX30, w ∈ wsL_law := fun _ h => List.mem_append_left _ (List.mem_append_left _ (List.mem_append_left _ (List.mem_append_left _ (List.mem_append_left _ (List.mem_append_left _ (List.mem_append_left _ (List.mem_append_left _ (List.mem_append_right _ h))))))))
theorem inX3 : ∀ w ∈ wsX30, w ∈ lw_tbl := fun w h => wsL_law_in w (inlX3 w h)
theorem inlX4 : ∀ w ∈ wsX40, w ∈ wsL_law := fun _ h => List.mem_append_left _ (List.mem_append_left _ (List.mem_append_left _ (List.mem_append_left _ (List.mem_append_left _ (List.mem_append_left _ (List.mem_append_left _ (List.mem_append_right _ h)))))))
theorem inX4 : ∀ w ∈ wsX40, w ∈ lw_tbl := fun w h => wsL_law_in w (inlX4 w h)
theorem inJ9 : ∀ w ∈ wsJ90, w ∈ lw_tbl := by decide +kernel
theorem inJ0 : ∀ w ∈ wsJ00, w ∈ lw_tbl := by decide +kernel
end
section
theorem dX0_init_0 : decode cX0_init 0 = .ok (.aload_n 0, 1) := by decide +kernel
theorem dX0_init_1 : decode cX0_init 1 = .ok (.invokespecial 1, 3) := by decide +kernel
theorem dX0_init_4 : decode cX0_init 4 = .ok (.aload_n 0, 1) := by decide +kernel
theorem dX0_init_5 : decode cX0_init 5 = .ok (.iload_n 1, 1) := by decide +kernel
theorem dX0_init_6 : decode cX0_init 6 = .ok (.iconst 0, 1) := by decide +kernel
theorem dX0_init_7 : decode cX0_init 7 = .ok (.invokestatic 7, 3) := by decide +kernel
theorem dX0_init_10 : decode cX0_init 10 = .ok (.newarray .boolean, 2) := by decide +kernel
theorem dX0_init_12 : decode cX0_init 12 = .ok (.putfield 13, 3) := by decide +kernel
theorem dX0_init_15 : decode cX0_init 15 = .ok (.return_, 1) := by decide +kernel
theorem dX0_has_0 : decode cX0_has 0 = .ok (.iload_n 1, 1) := by decide +kernel
theorem dX0_has_1 : decode cX0_has 1 = .ok (.ifCond .lt 25, 3) := by decide +kernel
theorem dX0_has_4 : decode cX0_has 4 = .ok (.iload_n 1, 1) := by decide +kernel
theorem dX0_has_5 : decode cX0_has 5 = .ok (.aload_n 0, 1) := by decide +kernel
theorem dX0_has_6 : decode cX0_has 6 = .ok (.getfield 13, 3) := by decide +kernel
theorem dX0_has_9 : decode cX0_has 9 = .ok (.arraylength, 1) := by decide +kernel
theorem dX0_has_10 : decode cX0_has 10 = .ok (.if_icmp .ge 16, 3) := by decide +kernel
theorem dX0_has_13 : decode cX0_has 13 = .ok (.aload_n 0, 1) := by decide +kernel
theorem dX0_has_14 : decode cX0_has 14 = .ok (.getfield 13, 3) := by decide +kernel
theorem dX0_has_17 : decode cX0_has 17 = .ok (.iload_n 1, 1) := by decide +kernel
theorem dX0_has_18 : decode cX0_has 18 = .ok (.baload, 1) := by decide +kernel
theorem dX0_has_19 : decode cX0_has 19 = .ok (.ifCond .eq 7, 3) := by decide +kernel
theorem dX0_has_22 : decode cX0_has 22 = .ok (.iconst 1, 1) := by decide +kernel
theorem dX0_has_23 : decode cX0_has 23 = .ok (.goto 4, 3) := by decide +kernel
theorem dX0_has_26 : decode cX0_has 26 = .ok (.iconst 0, 1) := by decide +kernel
theorem dX0_has_27 : decode cX0_has 27 = .ok (.ireturn, 1) := by decide +kernel
theorem dX0_set_0 : decode cX0_set 0 = .ok (.iload_n 1, 1) := by decide +kernel
theorem dX0_set_1 : decode cX0_set 1 = .ok (.ifCond .lt 19, 3) := by decide +kernel
theorem dX0_set_4 : decode cX0_set 4 = .ok (.iload_n 1, 1) := by decide +kernel
theorem dX0_set_5 : decode cX0_set 5 = .ok (.aload_n 0, 1) := by decide +kernel
theorem dX0_set_6 : decode cX0_set 6 = .ok (.getfield 13, 3) := by decide +kernel
theorem dX0_set_9 : decode cX0_set 9 = .ok (.arraylength, 1) := by decide +kernel
theorem dX0_set_10 : decode cX0_set 10 = .ok (.if_icmp .ge 10, 3) := by decide +kernel
theorem dX0_set_13 : decode cX0_set 13 = .ok (.aload_n 0, 1) := by decide +kernel
theorem dX0_set_14 : decode cX0_set 14 = .ok (.getfield 13, 3) := by decide +kernel
theorem dX0_set_17 : decode cX0_set 17 = .ok (.iload_n 1, 1) := by decide +kernel
theorem dX0_set_18 : decode cX0_set 18 = .ok (.iload_n 2, 1) := by decide +kernel
theorem dX0_set_19 : decode cX0_set 19 = .ok (.bastore, 1) := by decide +kernel
theorem dX0_set_20 : decode cX0_set 20 = .ok (.return_, 1) := by decide +kernel
theorem dX0_clear_0 : decode cX0_clear 0 = .ok (.iconst 0, 1) := by decide +kernel
theorem dX0_clear_1 : decode cX0_clear 1 = .ok (.istore_n 1, 1) := by decide +kernel
theorem dX0_clear_2 : decode cX0_clear 2 = .ok (.iload_n 1, 1) := by decide +kernel
theorem dX0_clear_3 : decode cX0_clear 3 = .ok (.aload_n 0, 1) := by decide +kernel
theorem dX0_clear_4 : decode cX0_clear 4 = .ok (.getfield 13, 3) := by decide +kernel
theorem dX0_clear_7 : decode cX0_clear 7 = .ok (.arraylength, 1) := by decide +kernel
theorem dX0_clear_8 : decode cX0_clear 8 = .ok (.if_icmp .ge 16, 3) := by decide +kernel
theorem dX0_clear_11 : decode cX0_clear 11 = .ok (.aload_n 0, 1) := by decide +kernel
theorem dX0_clear_12 : decode cX0_clear 12 = .ok (.getfield 13, 3) := by decide +kernel
theorem dX0_clear_15 : decode cX0_clear 15 = .ok (.iload_n 1, 1) := by decide +kernel
theorem dX0_clear_16 : decode cX0_clear 16 = .ok (.iconst 0, 1) := by decide +kernel
theorem dX0_clear_17 : decode cX0_clear 17 = .ok (.bastore, 1) := by decide +kernel
theorem dX0_clear_18 : decode cX0_clear 18 = .ok (.iinc 1 1, 3) := by decide +kernel
theorem dX0_clear_21 : decode cX0_clear 21 = .ok (.goto (-19), 3) := by decide +kernel
theorem dX0_clear_24 : decode cX0_clear 24 = .ok (.return_, 1) := by decide +kernel
set_option maxRecDepth 20000 in
theorem ggX1_init_X2_init : GoodIn wsX1_init wsX2_init := goodIn_r _ [13, 14, 2, 3, 15, 16, 17, 18, 19, 20, 21, 22, 23] (by decide +kernel) (by decide +kernel)
set_option maxRecDepth 20000 in
theorem gX1_init_X2_init : GoodIn wsX1_init (wsX2_init) := ggX1_init_X2_init
theorem dX1_init_0 : decode cX1_init 0 = .ok (.aload_n 0, 1) := by decide +kernel
theorem dX1_init_1 : decode cX1_init 1 = .ok (.invokespecial 3, 3) := by decide +kernel
theorem dX1_init_4 : decode cX1_init 4 = .ok (.aload_n 0, 1) := by decide +kernel
theorem dX1_init_5 : decode cX1_init 5 = .ok (.new 9, 3) := by decide +kernel
theorem dX1_init_8 : decode cX1_init 8 = .ok (.dup, 1) := by decide +kernel
theorem dX1_init_9 : decode cX1_init 9 = .ok (.bipush 12, 2) := by decide +kernel
theorem dX1_init_11 : decode cX1_init 11 = .ok (.iconst (-1), 1) := by decide +kernel
theorem dX1_init_12 : decode cX1_init 12 = .ok (.invokespecial 11, 3) := by decide +kernel
theorem dX1_init_15 : decode cX1_init 15 = .ok (.putfield 14, 3) := by decide +kernel
theorem dX1_init_18 : decode cX1_init 18 = .ok (.aload_n 0, 1) := by decide +kernel
theorem dX1_init_19 : decode cX1_init 19 = .ok (.new 9, 3) := by decide +kernel
theorem dX1_init_22 : decode cX1_init 22 = .ok (.dup, 1) := by decide +kernel
theorem dX1_init_23 : decode cX1_init 23 = .ok (.bipush 12, 2) := by decide +kernel
theorem dX1_init_25 : decode cX1_init 25 = .ok (.iconst (-1), 1) := by decide +kernel
theorem dX1_init_26 : decode cX1_init 26 = .ok (.invokespecial 11, 3) := by decide +kernel
theorem dX1_init_29 : decode cX1_init 29 = .ok (.putfield 20, 3) := by decide +kernel
theorem dX1_init_32 : decode cX1_init 32 = .ok (.aload_n 0, 1) := by decide +kernel
theorem dX1_init_33 : decode cX1_init 33 = .ok (.new 9, 3) := by decide +kernel
theorem dX1_init_36 : decode cX1_init 36 = .ok (.dup, 1) := by decide +kernel
theorem dX1_init_37 : decode cX1_init 37 = .ok (.bipush 12, 2) := by decide +kernel
theorem dX1_init_39 : decode cX1_init 39 = .ok (.iconst (-1), 1) := by decide +kernel
theorem dX1_init_40 : decode cX1_init 40 = .ok (.invokespecial 11, 3) := by decide +kernel
theorem dX1_init_43 : decode cX1_init 43 = .ok (.putfield 23, 3) := by decide +kernel
theorem dX1_init_46 : decode cX1_init 46 = .ok (.aload_n 0, 1) := by decide +kernel
theorem dX1_init_47 : decode cX1_init 47 = .ok (.new 9, 3) := by decide +kernel
theorem dX1_init_50 : decode cX1_init 50 = .ok (.dup, 1) := by decide +kernel
theorem dX1_init_51 : decode cX1_init 51 = .ok (.bipush 12, 2) := by decide +kernel
theorem dX1_init_53 : decode cX1_init 53 = .ok (.iconst 0, 1) := by decide +kernel
theorem dX1_init_54 : decode cX1_init 54 = .ok (.invokespecial 11, 3) := by decide +kernel
theorem dX1_init_57 : decode cX1_init 57 = .ok (.putfield 26, 3) := by decide +kernel
theorem dX1_init_60 : decode cX1_init 60 = .ok (.return_, 1) := by decide +kernel
theorem dX1_size_0 : decode cX1_size 0 = .ok (.aload_n 0, 1) := by decide +kernel
theorem dX1_size_1 : decode cX1_size 1 = .ok (.getfield 29, 3) := by decide +kernel
theorem dX1_size_4 : decode cX1_size 4 = .ok (.ireturn, 1) := by decide +kernel
set_option maxRecDepth 20000 in
theorem ggX1_from_X2_at : GoodIn wsX1_from wsX2_at := goodIn_r _ [6, 7, 8, 14, 15] (by decide +kernel) (by decide +kernel)
set_option maxRecDepth 20000 in
theorem gX1_from_X2_at : GoodIn wsX1_from (wsV RX1 33 RX2 yX2_at wsX2_at) := goodIn_app (goodIn_of _ (by decide +kernel)) ggX1_from_X2_at
theorem dX1_from_0 : decode cX1_from 0 = .ok (.aload_n 0, 1) := by decide +kernel
theorem dX1_from_1 : decode cX1_from 1 = .ok (.getfield 14, 3) := by decide +kernel
theorem dX1_from_4 : decode cX1_from 4 = .ok (.iload_n 1, 1) := by decide +kernel
theorem dX1_from_5 : decode cX1_from 5 = .ok (.invokevirtual 33, 3) := by decide +kernel
theorem dX1_from_8 : decode cX1_from 8 = .ok (.ireturn, 1) := by decide +kernel
set_option maxRecDepth 20000 in
theorem ggX1_to_X2_at : GoodIn wsX1_to wsX2_at := goodIn_r _ [6, 7, 8, 14, 15] (by decide +kernel) (by decide +kernel)
set_option maxRecDepth 20000 in
theorem gX1_to_X2_at : GoodIn wsX1_to (wsV RX1 33 RX2 yX2_at wsX2_at) := goodIn_app (goodIn_of _ (by decide +kernel)) ggX1_to_X2_at
theorem dX1_to_0 : decode cX1_to 0 = .ok (.aload_n 0, 1) := by decide +kernel
theorem dX1_to_1 : decode cX1_to 1 = .ok (.getfield 20, 3) := by decide +kernel
theorem dX1_to_4 : decode cX1_to 4 = .ok (.iload_n 1, 1) := by decide +kernel
theorem dX1_to_5 : decode cX1_to 5 = .ok (.invokevirtual 33, 3) := by decide +kernel
theorem dX1_to_8 : decode cX1_to 8 = .ok (.ireturn, 1) := by decide +kernel
set_option maxRecDepth 20000 in
theorem ggX1_add_X2_put : GoodIn wsX1_add wsX2_put := goodIn_r _ [8, 9, 15, 16] (by decide +kernel) (by decide +kernel)
set_option maxRecDepth 20000 in
theorem gX1_add_X2_put : GoodIn wsX1_add (wsV RX1 37 RX2 yX2_put wsX2_put) := goodIn_app (goodIn_of _ (by decide +kernel)) ggX1_add_X2_put
theorem dX1_add_0 : decode cX1_add 0 = .ok (.aload_n 0, 1) := by decide +kernel
theorem dX1_add_1 : decode cX1_add 1 = .ok (.getfield 29, 3) := by decide +kernel
theorem dX1_add_4 : decode cX1_add 4 = .ok (.bipush 12, 2) := by decide +kernel
theorem dX1_add_6 : decode cX1_add 6 = .ok (.if_icmp .ge 37, 3) := by decide +kernel
theorem dX1_add_9 : decode cX1_add 9 = .ok (.aload_n 0, 1) := by decide +kernel
theorem dX1_add_10 : decode cX1_add 10 = .ok (.getfield 14, 3) := by decide +kernel
theorem dX1_add_13 : decode cX1_add 13 = .ok (.aload_n 0, 1) := by decide +kernel
theorem dX1_add_14 : decode cX1_add 14 = .ok (.getfield 29, 3) := by decide +kernel
theorem dX1_add_17 : decode cX1_add 17 = .ok (.iload_n 1, 1) := by decide +kernel
theorem dX1_add_18 : decode cX1_add 18 = .ok (.invokevirtual 37, 3) := by decide +kernel
theorem dX1_add_21 : decode cX1_add 21 = .ok (.aload_n 0, 1) := by decide +kernel
theorem dX1_add_22 : decode cX1_add 22 = .ok (.getfield 20, 3) := by decide +kernel
theorem dX1_add_25 : decode cX1_add 25 = .ok (.aload_n 0, 1) := by decide +kernel
theorem dX1_add_26 : decode cX1_add 26 = .ok (.getfield 29, 3) := by decide +kernel
theorem dX1_add_29 : decode cX1_add 29 = .ok (.iload_n 2, 1) := by decide +kernel
theorem dX1_add_30 : decode cX1_add 30 = .ok (.invokevirtual 37, 3) := by decide +kernel
theorem dX1_add_33 : decode cX1_add 33 = .ok (.aload_n 0, 1) := by decide +kernel
theorem dX1_add_34 : decode cX1_add 34 = .ok (.dup, 1) := by decide +kernel
theorem dX1_add_35 : decode cX1_add 35 = .ok (.getfield 29, 3) := by decide +kernel
theorem dX1_add_38 : decode cX1_add 38 = .ok (.iconst 1, 1) := by decide +kernel
theorem dX1_add_39 : decode cX1_add 39 = .ok (.iadd, 1) := by decide +kernel
theorem dX1_add_40 : decode cX1_add 40 = .ok (.putfield 29, 3) := by decide +kernel
theorem dX1_add_43 : decode cX1_add 43 = .ok (.return_, 1) := by decide +kernel
theorem dX1_clear_0 : decode cX1_clear 0 = .ok (.aload_n 0, 1) := by decide +kernel
theorem dX1_clear_1 : decode cX1_clear 1 = .ok (.iconst 0, 1) := by decide +kernel
theorem dX1_clear_2 : decode cX1_clear 2 = .ok (.putfield 29, 3) := by decide +kernel
theorem dX1_clear_5 : decode cX1_clear 5 = .ok (.return_, 1) := by decide +kernel
set_option maxRecDepth 20000 in
theorem ggX1_repeatsEarlier_X1_from : GoodIn wsX1_repeatsEarlier wsX1_from := goodIn_r _ [5, 6, 7, 8, 9, 10, 11, 12, 13, 19, 20, 21, 22, 23, 24, 25] (by decide +kernel) (by decide +kernel)
set_option maxRecDepth 20000 in
theorem gX1_repeatsEarlier_X1_from : GoodIn wsX1_repeatsEarlier (wsV RX1 40 RX1 yX1_from wsX1_from) := goodIn_app (goodIn_of _ (by decide +kernel)) ggX1_repeatsEarlier_X1_from
set_option maxRecDepth 20000 in
theorem ggX1_repeatsEarlier_X1_to : GoodIn wsX1_repeatsEarlier wsX1_to := goodIn_r _ [17, 18, 7, 8, 9, 10, 11, 12, 13, 19, 20, 21, 22, 23, 24, 25] (by decide +kernel) (by decide +kernel)
set_option maxRecDepth 20000 in
theorem gX1_repeatsEarlier_X1_to : GoodIn wsX1_repeatsEarlier (wsV RX1 43 RX1 yX1_to wsX1_to) := goodIn_app (goodIn_of _ (by decide +kernel)) ggX1_repeatsEarlier_X1_to
theorem dX1_repeatsEarlier_0 : decode cX1_repeatsEarlier 0 = .ok (.iconst 0, 1) := by decide +kernel
theorem dX1_repeatsEarlier_1 : decode cX1_repeatsEarlier 1 = .ok (.istore_n 2, 1) := by decide +kernel
theorem dX1_repeatsEarlier_2 : decode cX1_repeatsEarlier 2 = .ok (.iload_n 2, 1) := by decide +kernel
theorem dX1_repeatsEarlier_3 : decode cX1_repeatsEarlier 3 = .ok (.iload_n 1, 1) := by decide +kernel
theorem dX1_repeatsEarlier_4 : decode cX1_repeatsEarlier 4 = .ok (.if_icmp .ge 37, 3) := by decide +kernel
theorem dX1_repeatsEarlier_7 : decode cX1_repeatsEarlier 7 = .ok (.aload_n 0, 1) := by decide +kernel
theorem dX1_repeatsEarlier_8 : decode cX1_repeatsEarlier 8 = .ok (.iload_n 2, 1) := by decide +kernel
theorem dX1_repeatsEarlier_9 : decode cX1_repeatsEarlier 9 = .ok (.invokevirtual 40, 3) := by decide +kernel
theorem dX1_repeatsEarlier_12 : decode cX1_repeatsEarlier 12 = .ok (.aload_n 0, 1) := by decide +kernel
theorem dX1_repeatsEarlier_13 : decode cX1_repeatsEarlier 13 = .ok (.iload_n 1, 1) := by decide +kernel
theorem dX1_repeatsEarlier_14 : decode cX1_repeatsEarlier 14 = .ok (.invokevirtual 40, 3) := by decide +kernel
theorem dX1_repeatsEarlier_17 : decode cX1_repeatsEarlier 17 = .ok (.if_icmp .eq 16, 3) := by decide +kernel
theorem dX1_repeatsEarlier_20 : decode cX1_repeatsEarlier 20 = .ok (.aload_n 0, 1) := by decide +kernel
theorem dX1_repeatsEarlier_21 : decode cX1_repeatsEarlier 21 = .ok (.iload_n 2, 1) := by decide +kernel
theorem dX1_repeatsEarlier_22 : decode cX1_repeatsEarlier 22 = .ok (.invokevirtual 43, 3) := by decide +kernel
theorem dX1_repeatsEarlier_25 : decode cX1_repeatsEarlier 25 = .ok (.aload_n 0, 1) := by decide +kernel
theorem dX1_repeatsEarlier_26 : decode cX1_repeatsEarlier 26 = .ok (.iload_n 1, 1) := by decide +kernel
theorem dX1_repeatsEarlier_27 : decode cX1_repeatsEarlier 27 = .ok (.invokevirtual 43, 3) := by decide +kernel
theorem dX1_repeatsEarlier_30 : decode cX1_repeatsEarlier 30 = .ok (.if_icmp .ne 5, 3) := by decide +kernel
theorem dX1_repeatsEarlier_33 : decode cX1_repeatsEarlier 33 = .ok (.iconst 1, 1) := by decide +kernel
theorem dX1_repeatsEarlier_34 : decode cX1_repeatsEarlier 34 = .ok (.ireturn, 1) := by decide +kernel
theorem dX1_repeatsEarlier_35 : decode cX1_repeatsEarlier 35 = .ok (.iinc 2 1, 3) := by decide +kernel
theorem dX1_repeatsEarlier_38 : decode cX1_repeatsEarlier 38 = .ok (.goto (-36), 3) := by decide +kernel
theorem dX1_repeatsEarlier_41 : decode cX1_repeatsEarlier 41 = .ok (.iconst 0, 1) := by decide +kernel
theorem dX1_repeatsEarlier_42 : decode cX1_repeatsEarlier 42 = .ok (.ireturn, 1) := by decide +kernel
set_option maxRecDepth 20000 in
theorem ggX1_pulls_X1_from : GoodIn wsX1_pulls wsX1_from := goodIn_r _ [6, 7, 8, 9, 10, 11, 12, 13, 14, 15, 16, 17, 18, 19, 20, 21] (by decide +kernel) (by decide +kernel)
set_option maxRecDepth 20000 in
theorem gX1_pulls_X1_from : GoodIn wsX1_pulls (wsV RX1 40 RX1 yX1_from wsX1_from) := goodIn_app (goodIn_of _ (by decide +kernel)) ggX1_pulls_X1_from
theorem dX1_pulls_0 : decode cX1_pulls 0 = .ok (.iconst 0, 1) := by decide +kernel
theorem dX1_pulls_1 : decode cX1_pulls 1 = .ok (.istore_n 2, 1) := by decide +kernel
theorem dX1_pulls_2 : decode cX1_pulls 2 = .ok (.iload_n 2, 1) := by decide +kernel
theorem dX1_pulls_3 : decode cX1_pulls 3 = .ok (.aload_n 0, 1) := by decide +kernel
theorem dX1_pulls_4 : decode cX1_pulls 4 = .ok (.getfield 29, 3) := by decide +kernel
theorem dX1_pulls_7 : decode cX1_pulls 7 = .ok (.if_icmp .ge 20, 3) := by decide +kernel
theorem dX1_pulls_10 : decode cX1_pulls 10 = .ok (.aload_n 0, 1) := by decide +kernel
theorem dX1_pulls_11 : decode cX1_pulls 11 = .ok (.iload_n 2, 1) := by decide +kernel
theorem dX1_pulls_12 : decode cX1_pulls 12 = .ok (.invokevirtual 40, 3) := by decide +kernel
theorem dX1_pulls_15 : decode cX1_pulls 15 = .ok (.iload_n 1, 1) := by decide +kernel
theorem dX1_pulls_16 : decode cX1_pulls 16 = .ok (.if_icmp .ne 5, 3) := by decide +kernel
theorem dX1_pulls_19 : decode cX1_pulls 19 = .ok (.iconst 1, 1) := by decide +kernel
theorem dX1_pulls_20 : decode cX1_pulls 20 = .ok (.ireturn, 1) := by decide +kernel
theorem dX1_pulls_21 : decode cX1_pulls 21 = .ok (.iinc 2 1, 3) := by decide +kernel
theorem dX1_pulls_24 : decode cX1_pulls 24 = .ok (.goto (-22), 3) := by decide +kernel
theorem dX1_pulls_27 : decode cX1_pulls 27 = .ok (.iconst 0, 1) := by decide +kernel
theorem dX1_pulls_28 : decode cX1_pulls 28 = .ok (.ireturn, 1) := by decide +kernel
set_option maxRecDepth 20000 in
theorem ggX1_placeAfterwards_X1_from : GoodIn wsX1_placeAfterwards wsX1_from := goodIn_r _ [6, 7, 8, 9, 10, 11, 12, 13, 14, 20, 21, 22, 23, 24, 25, 26] (by decide +kernel) (by decide +kernel)
set_option maxRecDepth 20000 in
theorem gX1_placeAfterwards_X1_from : GoodIn wsX1_placeAfterwards (wsV RX1 40 RX1 yX1_from wsX1_from) := goodIn_app (goodIn_of _ (by decide +kernel)) ggX1_placeAfterwards_X1_from
set_option maxRecDepth 20000 in
theorem ggX1_placeAfterwards_X1_to : GoodIn wsX1_placeAfterwards wsX1_to := goodIn_r _ [18, 19, 8, 9, 10, 11, 12, 13, 14, 20, 21, 22, 23, 24, 25, 26] (by decide +kernel) (by decide +kernel)
set_option maxRecDepth 20000 in
theorem gX1_placeAfterwards_X1_to : GoodIn wsX1_placeAfterwards (wsV RX1 43 RX1 yX1_to wsX1_to) := goodIn_app (goodIn_of _ (by decide +kernel)) ggX1_placeAfterwards_X1_to
theorem dX1_placeAfterwards_0 : decode cX1_placeAfterwards 0 = .ok (.iconst 0, 1) := by decide +kernel
theorem dX1_placeAfterwards_1 : decode cX1_placeAfterwards 1 = .ok (.istore_n 2, 1) := by decide +kernel
theorem dX1_placeAfterwards_2 : decode cX1_placeAfterwards 2 = .ok (.iload_n 2, 1) := by decide +kernel
theorem dX1_placeAfterwards_3 : decode cX1_placeAfterwards 3 = .ok (.aload_n 0, 1) := by decide +kernel
theorem dX1_placeAfterwards_4 : decode cX1_placeAfterwards 4 = .ok (.getfield 29, 3) := by decide +kernel
theorem dX1_placeAfterwards_7 : decode cX1_placeAfterwards 7 = .ok (.if_icmp .ge 24, 3) := by decide +kernel
theorem dX1_placeAfterwards_10 : decode cX1_placeAfterwards 10 = .ok (.aload_n 0, 1) := by decide +kernel
theorem dX1_placeAfterwards_11 : decode cX1_placeAfterwards 11 = .ok (.iload_n 2, 1) := by decide +kernel
theorem dX1_placeAfterwards_12 : decode cX1_placeAfterwards 12 = .ok (.invokevirtual 40, 3) := by decide +kernel
theorem dX1_placeAfterwards_15 : decode cX1_placeAfterwards 15 = .ok (.iload_n 1, 1) := by decide +kernel
theorem dX1_placeAfterwards_16 : decode cX1_placeAfterwards 16 = .ok (.if_icmp .ne 9, 3) := by decide +kernel
theorem dX1_placeAfterwards_19 : decode cX1_placeAfterwards 19 = .ok (.aload_n 0, 1) := by decide +kernel
theorem dX1_placeAfterwards_20 : decode cX1_placeAfterwards 20 = .ok (.iload_n 2, 1) := by decide +kernel
theorem dX1_placeAfterwards_21 : decode cX1_placeAfterwards 21 = .ok (.invokevirtual 43, 3) := by decide +kernel
theorem dX1_placeAfterwards_24 : decode cX1_placeAfterwards 24 = .ok (.ireturn, 1) := by decide +kernel
theorem dX1_placeAfterwards_25 : decode cX1_placeAfterwards 25 = .ok (.iinc 2 1, 3) := by decide +kernel
theorem dX1_placeAfterwards_28 : decode cX1_placeAfterwards 28 = .ok (.goto (-26), 3) := by decide +kernel
theorem dX1_placeAfterwards_31 : decode cX1_placeAfterwards 31 = .ok (.iload_n 1, 1) := by decide +kernel
theorem dX1_placeAfterwards_32 : decode cX1_placeAfterwards 32 = .ok (.ireturn, 1) := by decide +kernel
set_option maxRecDepth 20000 in
theorem ggX1_keepCable_X2_put : GoodIn wsX1_keepCable wsX2_put := goodIn_r _ [7, 8, 14, 15] (by decide +kernel) (by decide +kernel)
set_option maxRecDepth 20000 in
theorem gX1_keepCable_X2_put : GoodIn wsX1_keepCable (wsV RX1 37 RX2 yX2_put wsX2_put) := goodIn_app (goodIn_of _ (by decide +kernel)) ggX1_keepCable_X2_put
theorem dX1_keepCable_0 : decode cX1_keepCable 0 = .ok (.aload_n 0, 1) := by decide +kernel
theorem dX1_keepCable_1 : decode cX1_keepCable 1 = .ok (.getfield 23, 3) := by decide +kernel
theorem dX1_keepCable_4 : decode cX1_keepCable 4 = .ok (.iload_n 1, 1) := by decide +kernel
theorem dX1_keepCable_5 : decode cX1_keepCable 5 = .ok (.iload_n 2, 1) := by decide +kernel
theorem dX1_keepCable_6 : decode cX1_keepCable 6 = .ok (.invokevirtual 37, 3) := by decide +kernel
theorem dX1_keepCable_9 : decode cX1_keepCable 9 = .ok (.aload_n 0, 1) := by decide +kernel
theorem dX1_keepCable_10 : decode cX1_keepCable 10 = .ok (.getfield 26, 3) := by decide +kernel
theorem dX1_keepCable_13 : decode cX1_keepCable 13 = .ok (.iload_n 1, 1) := by decide +kernel
theorem dX1_keepCable_14 : decode cX1_keepCable 14 = .ok (.iload_n 3, 1) := by decide +kernel
theorem dX1_keepCable_15 : decode cX1_keepCable 15 = .ok (.invokevirtual 37, 3) := by decide +kernel
theorem dX1_keepCable_18 : decode cX1_keepCable 18 = .ok (.return_, 1) := by decide +kernel
set_option maxRecDepth 20000 in
theorem ggX1_keptOther_X2_at : GoodIn wsX1_keptOther wsX2_at := goodIn_r _ [6, 7, 8, 14, 15] (by decide +kernel) (by decide +kernel)
set_option maxRecDepth 20000 in
theorem gX1_keptOther_X2_at : GoodIn wsX1_keptOther (wsV RX1 33 RX2 yX2_at wsX2_at) := goodIn_app (goodIn_of _ (by decide +kernel)) ggX1_keptOther_X2_at
theorem dX1_keptOther_0 : decode cX1_keptOther 0 = .ok (.aload_n 0, 1) := by decide +kernel
theorem dX1_keptOther_1 : decode cX1_keptOther 1 = .ok (.getfield 23, 3) := by decide +kernel
theorem dX1_keptOther_4 : decode cX1_keptOther 4 = .ok (.iload_n 1, 1) := by decide +kernel
theorem dX1_keptOther_5 : decode cX1_keptOther 5 = .ok (.invokevirtual 33, 3) := by decide +kernel
theorem dX1_keptOther_8 : decode cX1_keptOther 8 = .ok (.ireturn, 1) := by decide +kernel
set_option maxRecDepth 20000 in
theorem ggX1_keptColour_X2_at : GoodIn wsX1_keptColour wsX2_at := goodIn_r _ [6, 7, 8, 14, 15] (by decide +kernel) (by decide +kernel)
set_option maxRecDepth 20000 in
theorem gX1_keptColour_X2_at : GoodIn wsX1_keptColour (wsV RX1 33 RX2 yX2_at wsX2_at) := goodIn_app (goodIn_of _ (by decide +kernel)) ggX1_keptColour_X2_at
theorem dX1_keptColour_0 : decode cX1_keptColour 0 = .ok (.aload_n 0, 1) := by decide +kernel
theorem dX1_keptColour_1 : decode cX1_keptColour 1 = .ok (.getfield 26, 3) := by decide +kernel
theorem dX1_keptColour_4 : decode cX1_keptColour 4 = .ok (.iload_n 1, 1) := by decide +kernel
theorem dX1_keptColour_5 : decode cX1_keptColour 5 = .ok (.invokevirtual 33, 3) := by decide +kernel
theorem dX1_keptColour_8 : decode cX1_keptColour 8 = .ok (.ireturn, 1) := by decide +kernel
theorem dX2_init_0 : decode cX2_init 0 = .ok (.aload_n 0, 1) := by decide +kernel
theorem dX2_init_1 : decode cX2_init 1 = .ok (.invokespecial 1, 3) := by decide +kernel
theorem dX2_init_4 : decode cX2_init 4 = .ok (.aload_n 0, 1) := by decide +kernel
theorem dX2_init_5 : decode cX2_init 5 = .ok (.iload_n 1, 1) := by decide +kernel
theorem dX2_init_6 : decode cX2_init 6 = .ok (.iconst 0, 1) := by decide +kernel
theorem dX2_init_7 : decode cX2_init 7 = .ok (.invokestatic 7, 3) := by decide +kernel
theorem dX2_init_10 : decode cX2_init 10 = .ok (.newarray .int, 2) := by decide +kernel
theorem dX2_init_12 : decode cX2_init 12 = .ok (.putfield 13, 3) := by decide +kernel
theorem dX2_init_15 : decode cX2_init 15 = .ok (.aload_n 0, 1) := by decide +kernel
theorem dX2_init_16 : decode cX2_init 16 = .ok (.iload_n 2, 1) := by decide +kernel
theorem dX2_init_17 : decode cX2_init 17 = .ok (.putfield 19, 3) := by decide +kernel
theorem dX2_init_20 : decode cX2_init 20 = .ok (.iconst 0, 1) := by decide +kernel
theorem dX2_init_21 : decode cX2_init 21 = .ok (.istore_n 3, 1) := by decide +kernel
theorem dX2_init_22 : decode cX2_init 22 = .ok (.iload_n 3, 1) := by decide +kernel
theorem dX2_init_23 : decode cX2_init 23 = .ok (.aload_n 0, 1) := by decide +kernel
theorem dX2_init_24 : decode cX2_init 24 = .ok (.getfield 13, 3) := by decide +kernel
theorem dX2_init_27 : decode cX2_init 27 = .ok (.arraylength, 1) := by decide +kernel
theorem dX2_init_28 : decode cX2_init 28 = .ok (.if_icmp .ge 16, 3) := by decide +kernel
theorem dX2_init_31 : decode cX2_init 31 = .ok (.aload_n 0, 1) := by decide +kernel
theorem dX2_init_32 : decode cX2_init 32 = .ok (.getfield 13, 3) := by decide +kernel
theorem dX2_init_35 : decode cX2_init 35 = .ok (.iload_n 3, 1) := by decide +kernel
theorem dX2_init_36 : decode cX2_init 36 = .ok (.iload_n 2, 1) := by decide +kernel
theorem dX2_init_37 : decode cX2_init 37 = .ok (.iastore, 1) := by decide +kernel
theorem dX2_init_38 : decode cX2_init 38 = .ok (.iinc 3 1, 3) := by decide +kernel
theorem dX2_init_41 : decode cX2_init 41 = .ok (.goto (-19), 3) := by decide +kernel
theorem dX2_init_44 : decode cX2_init 44 = .ok (.return_, 1) := by decide +kernel
theorem dX2_at_0 : decode cX2_at 0 = .ok (.iload_n 1, 1) := by decide +kernel
theorem dX2_at_1 : decode cX2_at 1 = .ok (.ifCond .lt 21, 3) := by decide +kernel
theorem dX2_at_4 : decode cX2_at 4 = .ok (.iload_n 1, 1) := by decide +kernel
theorem dX2_at_5 : decode cX2_at 5 = .ok (.aload_n 0, 1) := by decide +kernel
theorem dX2_at_6 : decode cX2_at 6 = .ok (.getfield 13, 3) := by decide +kernel
theorem dX2_at_9 : decode cX2_at 9 = .ok (.arraylength, 1) := by decide +kernel
theorem dX2_at_10 : decode cX2_at 10 = .ok (.if_icmp .ge 12, 3) := by decide +kernel
theorem dX2_at_13 : decode cX2_at 13 = .ok (.aload_n 0, 1) := by decide +kernel
theorem dX2_at_14 : decode cX2_at 14 = .ok (.getfield 13, 3) := by decide +kernel
theorem dX2_at_17 : decode cX2_at 17 = .ok (.iload_n 1, 1) := by decide +kernel
theorem dX2_at_18 : decode cX2_at 18 = .ok (.iaload, 1) := by decide +kernel
theorem dX2_at_19 : decode cX2_at 19 = .ok (.goto 7, 3) := by decide +kernel
theorem dX2_at_22 : decode cX2_at 22 = .ok (.aload_n 0, 1) := by decide +kernel
theorem dX2_at_23 : decode cX2_at 23 = .ok (.getfield 19, 3) := by decide +kernel
theorem dX2_at_26 : decode cX2_at 26 = .ok (.ireturn, 1) := by decide +kernel
theorem dX2_put_0 : decode cX2_put 0 = .ok (.iload_n 1, 1) := by decide +kernel
theorem dX2_put_1 : decode cX2_put 1 = .ok (.ifCond .lt 19, 3) := by decide +kernel
theorem dX2_put_4 : decode cX2_put 4 = .ok (.iload_n 1, 1) := by decide +kernel
theorem dX2_put_5 : decode cX2_put 5 = .ok (.aload_n 0, 1) := by decide +kernel
theorem dX2_put_6 : decode cX2_put 6 = .ok (.getfield 13, 3) := by decide +kernel
theorem dX2_put_9 : decode cX2_put 9 = .ok (.arraylength, 1) := by decide +kernel
theorem dX2_put_10 : decode cX2_put 10 = .ok (.if_icmp .ge 10, 3) := by decide +kernel
theorem dX2_put_13 : decode cX2_put 13 = .ok (.aload_n 0, 1) := by decide +kernel
theorem dX2_put_14 : decode cX2_put 14 = .ok (.getfield 13, 3) := by decide +kernel
theorem dX2_put_17 : decode cX2_put 17 = .ok (.iload_n 1, 1) := by decide +kernel
theorem dX2_put_18 : decode cX2_put 18 = .ok (.iload_n 2, 1) := by decide +kernel
theorem dX2_put_19 : decode cX2_put 19 = .ok (.iastore, 1) := by decide +kernel
theorem dX2_put_20 : decode cX2_put 20 = .ok (.return_, 1) := by decide +kernel
set_option maxRecDepth 20000 in
theorem ggX3_init_X2_init : GoodIn wsX3_init wsX2_init := goodIn_r _ [34, 35, 2, 3, 36, 37, 38, 39, 40, 41, 42, 59, 60] (by decide +kernel) (by decide +kernel)
set_option maxRecDepth 20000 in
theorem gX3_init_X2_init : GoodIn wsX3_init (wsX2_init) := ggX3_init_X2_init
set_option maxRecDepth 20000 in
theorem ggX3_init_X0_init : GoodIn wsX3_init wsX0_init := goodIn_r _ [45, 46, 2, 3, 47, 37, 38, 39, 48, 49, 80] (by decide +kernel) (by decide +kernel)
set_option maxRecDepth 20000 in
theorem gX3_init_X0_init : GoodIn wsX3_init (wsX0_init) := ggX3_init_X0_init
set_option maxRecDepth 20000 in
theorem ggX3_init_X1_init : GoodIn wsX3_init wsX1_init := goodIn_r _ [51, 52, 2, 3, 53, 5, 6, 54, 55, 56, 57, 58, 33, 34, 35, 36, 37, 38, 39, 40, 41, 42, 59, 60, 81, 82, 83, 84, 85] (by decide +kernel) (by decide +kernel)
set_option maxRecDepth 20000 in
theorem gX3_init_X1_init_n59 : GoodIn wsX3_init (wsX1_init) := ggX3_init_X1_init
theorem dX3_init_0 : decode cX3_init 0 = .ok (.aload_n 0, 1) := by decide +kernel
theorem dX3_init_1 : decode cX3_init 1 = .ok (.invokespecial 1, 3) := by decide +kernel
theorem dX3_init_4 : decode cX3_init 4 = .ok (.aload_n 0, 1) := by decide +kernel
theorem dX3_init_5 : decode cX3_init 5 = .ok (.new 7, 3) := by decide +kernel
theorem dX3_init_8 : decode cX3_init 8 = .ok (.dup, 1) := by decide +kernel
theorem dX3_init_9 : decode cX3_init 9 = .ok (.bipush 12, 2) := by decide +kernel
theorem dX3_init_11 : decode cX3_init 11 = .ok (.iconst (-1), 1) := by decide +kernel
theorem dX3_init_12 : decode cX3_init 12 = .ok (.invokespecial 11, 3) := by decide +kernel
theorem dX3_init_15 : decode cX3_init 15 = .ok (.putfield 14, 3) := by decide +kernel
theorem dX3_init_18 : decode cX3_init 18 = .ok (.aload_n 0, 1) := by decide +kernel
theorem dX3_init_19 : decode cX3_init 19 = .ok (.new 7, 3) := by decide +kernel
theorem dX3_init_22 : decode cX3_init 22 = .ok (.dup, 1) := by decide +kernel
theorem dX3_init_23 : decode cX3_init 23 = .ok (.bipush 12, 2) := by decide +kernel
theorem dX3_init_25 : decode cX3_init 25 = .ok (.iconst (-1), 1) := by decide +kernel
theorem dX3_init_26 : decode cX3_init 26 = .ok (.invokespecial 11, 3) := by decide +kernel
theorem dX3_init_29 : decode cX3_init 29 = .ok (.putfield 18, 3) := by decide +kernel
theorem dX3_init_32 : decode cX3_init 32 = .ok (.aload_n 0, 1) := by decide +kernel
theorem dX3_init_33 : decode cX3_init 33 = .ok (.new 7, 3) := by decide +kernel
theorem dX3_init_36 : decode cX3_init 36 = .ok (.dup, 1) := by decide +kernel
theorem dX3_init_37 : decode cX3_init 37 = .ok (.bipush 12, 2) := by decide +kernel
theorem dX3_init_39 : decode cX3_init 39 = .ok (.iconst 0, 1) := by decide +kernel
theorem dX3_init_40 : decode cX3_init 40 = .ok (.invokespecial 11, 3) := by decide +kernel
theorem dX3_init_43 : decode cX3_init 43 = .ok (.putfield 21, 3) := by decide +kernel
theorem dX3_init_46 : decode cX3_init 46 = .ok (.aload_n 0, 1) := by decide +kernel
theorem dX3_init_47 : decode cX3_init 47 = .ok (.new 7, 3) := by decide +kernel
theorem dX3_init_50 : decode cX3_init 50 = .ok (.dup, 1) := by decide +kernel
theorem dX3_init_51 : decode cX3_init 51 = .ok (.sipush 144, 3) := by decide +kernel
theorem dX3_init_54 : decode cX3_init 54 = .ok (.iconst (-1), 1) := by decide +kernel
theorem dX3_init_55 : decode cX3_init 55 = .ok (.invokespecial 11, 3) := by decide +kernel
theorem dX3_init_58 : decode cX3_init 58 = .ok (.putfield 24, 3) := by decide +kernel
theorem dX3_init_61 : decode cX3_init 61 = .ok (.aload_n 0, 1) := by decide +kernel
theorem dX3_init_62 : decode cX3_init 62 = .ok (.new 7, 3) := by decide +kernel
theorem dX3_init_65 : decode cX3_init 65 = .ok (.dup, 1) := by decide +kernel
theorem dX3_init_66 : decode cX3_init 66 = .ok (.sipush 144, 3) := by decide +kernel
theorem dX3_init_69 : decode cX3_init 69 = .ok (.iconst (-1), 1) := by decide +kernel
theorem dX3_init_70 : decode cX3_init 70 = .ok (.invokespecial 11, 3) := by decide +kernel
theorem dX3_init_73 : decode cX3_init 73 = .ok (.putfield 27, 3) := by decide +kernel
theorem dX3_init_76 : decode cX3_init 76 = .ok (.aload_n 0, 1) := by decide +kernel
theorem dX3_init_77 : decode cX3_init 77 = .ok (.new 7, 3) := by decide +kernel
theorem dX3_init_80 : decode cX3_init 80 = .ok (.dup, 1) := by decide +kernel
theorem dX3_init_81 : decode cX3_init 81 = .ok (.sipush 144, 3) := by decide +kernel
theorem dX3_init_84 : decode cX3_init 84 = .ok (.iconst 0, 1) := by decide +kernel
theorem dX3_init_85 : decode cX3_init 85 = .ok (.invokespecial 11, 3) := by decide +kernel
theorem dX3_init_88 : decode cX3_init 88 = .ok (.putfield 30, 3) := by decide +kernel
theorem dX3_init_91 : decode cX3_init 91 = .ok (.aload_n 0, 1) := by decide +kernel
theorem dX3_init_92 : decode cX3_init 92 = .ok (.new 7, 3) := by decide +kernel
theorem dX3_init_95 : decode cX3_init 95 = .ok (.dup, 1) := by decide +kernel
theorem dX3_init_96 : decode cX3_init 96 = .ok (.sipush 144, 3) := by decide +kernel
theorem dX3_init_99 : decode cX3_init 99 = .ok (.iconst (-1), 1) := by decide +kernel
theorem dX3_init_100 : decode cX3_init 100 = .ok (.invokespecial 11, 3) := by decide +kernel
theorem dX3_init_103 : decode cX3_init 103 = .ok (.putfield 33, 3) := by decide +kernel
theorem dX3_init_106 : decode cX3_init 106 = .ok (.aload_n 0, 1) := by decide +kernel
theorem dX3_init_107 : decode cX3_init 107 = .ok (.new 7, 3) := by decide +kernel
theorem dX3_init_110 : decode cX3_init 110 = .ok (.dup, 1) := by decide +kernel
theorem dX3_init_111 : decode cX3_init 111 = .ok (.sipush 144, 3) := by decide +kernel
theorem dX3_init_114 : decode cX3_init 114 = .ok (.iconst (-1), 1) := by decide +kernel
theorem dX3_init_115 : decode cX3_init 115 = .ok (.invokespecial 11, 3) := by decide +kernel
theorem dX3_init_118 : decode cX3_init 118 = .ok (.putfield 36, 3) := by decide +kernel
theorem dX3_init_121 : decode cX3_init 121 = .ok (.aload_n 0, 1) := by decide +kernel
theorem dX3_init_122 : decode cX3_init 122 = .ok (.new 39, 3) := by decide +kernel
theorem dX3_init_125 : decode cX3_init 125 = .ok (.dup, 1) := by decide +kernel
theorem dX3_init_126 : decode cX3_init 126 = .ok (.sipush 144, 3) := by decide +kernel
theorem dX3_init_129 : decode cX3_init 129 = .ok (.invokespecial 41, 3) := by decide +kernel
theorem dX3_init_132 : decode cX3_init 132 = .ok (.putfield 44, 3) := by decide +kernel
theorem dX3_init_135 : decode cX3_init 135 = .ok (.aload_n 0, 1) := by decide +kernel
theorem dX3_init_136 : decode cX3_init 136 = .ok (.new 7, 3) := by decide +kernel
theorem dX3_init_139 : decode cX3_init 139 = .ok (.dup, 1) := by decide +kernel
theorem dX3_init_140 : decode cX3_init 140 = .ok (.bipush 10, 2) := by decide +kernel
theorem dX3_init_142 : decode cX3_init 142 = .ok (.iconst (-1), 1) := by decide +kernel
theorem dX3_init_143 : decode cX3_init 143 = .ok (.invokespecial 11, 3) := by decide +kernel
theorem dX3_init_146 : decode cX3_init 146 = .ok (.putfield 48, 3) := by decide +kernel
theorem dX3_init_149 : decode cX3_init 149 = .ok (.aload_n 0, 1) := by decide +kernel
theorem dX3_init_150 : decode cX3_init 150 = .ok (.new 7, 3) := by decide +kernel
theorem dX3_init_153 : decode cX3_init 153 = .ok (.dup, 1) := by decide +kernel
theorem dX3_init_154 : decode cX3_init 154 = .ok (.bipush 10, 2) := by decide +kernel
theorem dX3_init_156 : decode cX3_init 156 = .ok (.iconst 0, 1) := by decide +kernel
theorem dX3_init_157 : decode cX3_init 157 = .ok (.invokespecial 11, 3) := by decide +kernel
theorem dX3_init_160 : decode cX3_init 160 = .ok (.putfield 51, 3) := by decide +kernel
theorem dX3_init_163 : decode cX3_init 163 = .ok (.aload_n 0, 1) := by decide +kernel
theorem dX3_init_164 : decode cX3_init 164 = .ok (.new 7, 3) := by decide +kernel
theorem dX3_init_167 : decode cX3_init 167 = .ok (.dup, 1) := by decide +kernel
theorem dX3_init_168 : decode cX3_init 168 = .ok (.bipush 10, 2) := by decide +kernel
theorem dX3_init_170 : decode cX3_init 170 = .ok (.iconst 0, 1) := by decide +kernel
theorem dX3_init_171 : decode cX3_init 171 = .ok (.invokespecial 11, 3) := by decide +kernel
theorem dX3_init_174 : decode cX3_init 174 = .ok (.putfield 54, 3) := by decide +kernel
theorem dX3_init_177 : decode cX3_init 177 = .ok (.aload_n 0, 1) := by decide +kernel
theorem dX3_init_178 : decode cX3_init 178 = .ok (.new 57, 3) := by decide +kernel
theorem dX3_init_181 : decode cX3_init 181 = .ok (.dup, 1) := by decide +kernel
theorem dX3_init_182 : decode cX3_init 182 = .ok (.invokespecial 59, 3) := by decide +kernel
theorem dX3_init_185 : decode cX3_init 185 = .ok (.putfield 60, 3) := by decide +kernel
theorem dX3_init_188 : decode cX3_init 188 = .ok (.aload_n 0, 1) := by decide +kernel
theorem dX3_init_189 : decode cX3_init 189 = .ok (.new 7, 3) := by decide +kernel
theorem dX3_init_192 : decode cX3_init 192 = .ok (.dup, 1) := by decide +kernel
theorem dX3_init_193 : decode cX3_init 193 = .ok (.sipush 144, 3) := by decide +kernel
theorem dX3_init_196 : decode cX3_init 196 = .ok (.iconst (-1), 1) := by decide +kernel
theorem dX3_init_197 : decode cX3_init 197 = .ok (.invokespecial 11, 3) := by decide +kernel
theorem dX3_init_200 : decode cX3_init 200 = .ok (.putfield 64, 3) := by decide +kernel
theorem dX3_init_203 : decode cX3_init 203 = .ok (.aload_n 0, 1) := by decide +kernel
theorem dX3_init_204 : decode cX3_init 204 = .ok (.new 7, 3) := by decide +kernel
theorem dX3_init_207 : decode cX3_init 207 = .ok (.dup, 1) := by decide +kernel
theorem dX3_init_208 : decode cX3_init 208 = .ok (.sipush 144, 3) := by decide +kernel
theorem dX3_init_211 : decode cX3_init 211 = .ok (.iconst (-1), 1) := by decide +kernel
theorem dX3_init_212 : decode cX3_init 212 = .ok (.invokespecial 11, 3) := by decide +kernel
theorem dX3_init_215 : decode cX3_init 215 = .ok (.putfield 67, 3) := by decide +kernel
theorem dX3_init_218 : decode cX3_init 218 = .ok (.aload_n 0, 1) := by decide +kernel
theorem dX3_init_219 : decode cX3_init 219 = .ok (.new 39, 3) := by decide +kernel
theorem dX3_init_222 : decode cX3_init 222 = .ok (.dup, 1) := by decide +kernel
theorem dX3_init_223 : decode cX3_init 223 = .ok (.sipush 144, 3) := by decide +kernel
theorem dX3_init_226 : decode cX3_init 226 = .ok (.invokespecial 41, 3) := by decide +kernel
theorem dX3_init_229 : decode cX3_init 229 = .ok (.putfield 70, 3) := by decide +kernel
theorem dX3_init_232 : decode cX3_init 232 = .ok (.aload_n 0, 1) := by decide +kernel
theorem dX3_init_233 : decode cX3_init 233 = .ok (.iconst 0, 1) := by decide +kernel
theorem dX3_init_234 : decode cX3_init 234 = .ok (.putfield 73, 3) := by decide +kernel
theorem dX3_init_237 : decode cX3_init 237 = .ok (.aload_n 0, 1) := by decide +kernel
theorem dX3_init_238 : decode cX3_init 238 = .ok (.iconst 0, 1) := by decide +kernel
theorem dX3_init_239 : decode cX3_init 239 = .ok (.putfield 77, 3) := by decide +kernel
theorem dX3_init_242 : decode cX3_init 242 = .ok (.aload_n 0, 1) := by decide +kernel
theorem dX3_init_243 : decode cX3_init 243 = .ok (.iconst 0, 1) := by decide +kernel
theorem dX3_init_244 : decode cX3_init 244 = .ok (.putfield 80, 3) := by decide +kernel
theorem dX3_init_247 : decode cX3_init 247 = .ok (.return_, 1) := by decide +kernel
set_option maxRecDepth 20000 in
theorem ggX3_addPanel_X3_isWithin : GoodIn wsX3_addPanel wsX3_isWithin := goodIn_r _ [14] (by decide +kernel) (by decide +kernel)
set_option maxRecDepth 20000 in
theorem gX3_addPanel_X3_isWithin : GoodIn wsX3_addPanel (va_wsS RX3 83 yX3_isWithin wsX3_isWithin) := goodIn_app (goodIn_of _ (by decide +kernel)) ggX3_addPanel_X3_isWithin
set_option maxRecDepth 20000 in
theorem ggX3_addPanel_X2_put : GoodIn wsX3_addPanel wsX2_put := goodIn_r _ [19, 20, 40, 41] (by decide +kernel) (by decide +kernel)
set_option maxRecDepth 20000 in
theorem gX3_addPanel_X2_put : GoodIn wsX3_addPanel (wsV RX3 99 RX2 yX2_put wsX2_put) := goodIn_app (goodIn_of _ (by decide +kernel)) ggX3_addPanel_X2_put
theorem dX3_addPanel_0 : decode cX3_addPanel 0 = .ok (.iload_n 1, 1) := by decide +kernel
theorem dX3_addPanel_1 : decode cX3_addPanel 1 = .ok (.iconst 0, 1) := by decide +kernel
theorem dX3_addPanel_2 : decode cX3_addPanel 2 = .ok (.bipush 9, 2) := by decide +kernel
theorem dX3_addPanel_4 : decode cX3_addPanel 4 = .ok (.invokestatic 83, 3) := by decide +kernel
theorem dX3_addPanel_7 : decode cX3_addPanel 7 = .ok (.ifCond .eq 13, 3) := by decide +kernel
theorem dX3_addPanel_10 : decode cX3_addPanel 10 = .ok (.iload_n 2, 1) := by decide +kernel
theorem dX3_addPanel_11 : decode cX3_addPanel 11 = .ok (.iconst 1, 1) := by decide +kernel
theorem dX3_addPanel_12 : decode cX3_addPanel 12 = .ok (.bipush 12, 2) := by decide +kernel
theorem dX3_addPanel_14 : decode cX3_addPanel 14 = .ok (.invokestatic 83, 3) := by decide +kernel
theorem dX3_addPanel_17 : decode cX3_addPanel 17 = .ok (.ifCond .ne 13, 3) := by decide +kernel
theorem dX3_addPanel_20 : decode cX3_addPanel 20 = .ok (.new 87, 3) := by decide +kernel
theorem dX3_addPanel_23 : decode cX3_addPanel 23 = .ok (.dup, 1) := by decide +kernel
theorem dX3_addPanel_24 : decode cX3_addPanel 24 = .ok (.ldc 89, 2) := by decide +kernel
theorem dX3_addPanel_26 : decode cX3_addPanel 26 = .ok (.invokespecial 91, 3) := by decide +kernel
theorem dX3_addPanel_29 : decode cX3_addPanel 29 = .ok (.athrow, 1) := by decide +kernel
theorem dX3_addPanel_30 : decode cX3_addPanel 30 = .ok (.aload_n 0, 1) := by decide +kernel
theorem dX3_addPanel_31 : decode cX3_addPanel 31 = .ok (.getfield 73, 3) := by decide +kernel
theorem dX3_addPanel_34 : decode cX3_addPanel 34 = .ok (.bipush 12, 2) := by decide +kernel
theorem dX3_addPanel_36 : decode cX3_addPanel 36 = .ok (.if_icmp .lt 13, 3) := by decide +kernel
theorem dX3_addPanel_39 : decode cX3_addPanel 39 = .ok (.new 94, 3) := by decide +kernel
theorem dX3_addPanel_42 : decode cX3_addPanel 42 = .ok (.dup, 1) := by decide +kernel
theorem dX3_addPanel_43 : decode cX3_addPanel 43 = .ok (.ldc 96, 2) := by decide +kernel
theorem dX3_addPanel_45 : decode cX3_addPanel 45 = .ok (.invokespecial 98, 3) := by decide +kernel
theorem dX3_addPanel_48 : decode cX3_addPanel 48 = .ok (.athrow, 1) := by decide +kernel
theorem dX3_addPanel_49 : decode cX3_addPanel 49 = .ok (.aload_n 0, 1) := by decide +kernel
theorem dX3_addPanel_50 : decode cX3_addPanel 50 = .ok (.getfield 77, 3) := by decide +kernel
theorem dX3_addPanel_53 : decode cX3_addPanel 53 = .ok (.istore_n 3, 1) := by decide +kernel
theorem dX3_addPanel_54 : decode cX3_addPanel 54 = .ok (.aload_n 0, 1) := by decide +kernel
theorem dX3_addPanel_55 : decode cX3_addPanel 55 = .ok (.getfield 14, 3) := by decide +kernel
theorem dX3_addPanel_58 : decode cX3_addPanel 58 = .ok (.aload_n 0, 1) := by decide +kernel
theorem dX3_addPanel_59 : decode cX3_addPanel 59 = .ok (.getfield 73, 3) := by decide +kernel
theorem dX3_addPanel_62 : decode cX3_addPanel 62 = .ok (.iload_n 1, 1) := by decide +kernel
theorem dX3_addPanel_63 : decode cX3_addPanel 63 = .ok (.invokevirtual 99, 3) := by decide +kernel
theorem dX3_addPanel_66 : decode cX3_addPanel 66 = .ok (.aload_n 0, 1) := by decide +kernel
theorem dX3_addPanel_67 : decode cX3_addPanel 67 = .ok (.getfield 18, 3) := by decide +kernel
theorem dX3_addPanel_70 : decode cX3_addPanel 70 = .ok (.aload_n 0, 1) := by decide +kernel
theorem dX3_addPanel_71 : decode cX3_addPanel 71 = .ok (.getfield 73, 3) := by decide +kernel
theorem dX3_addPanel_74 : decode cX3_addPanel 74 = .ok (.iload_n 3, 1) := by decide +kernel
theorem dX3_addPanel_75 : decode cX3_addPanel 75 = .ok (.invokevirtual 99, 3) := by decide +kernel
theorem dX3_addPanel_78 : decode cX3_addPanel 78 = .ok (.aload_n 0, 1) := by decide +kernel
theorem dX3_addPanel_79 : decode cX3_addPanel 79 = .ok (.getfield 21, 3) := by decide +kernel
theorem dX3_addPanel_82 : decode cX3_addPanel 82 = .ok (.aload_n 0, 1) := by decide +kernel
theorem dX3_addPanel_83 : decode cX3_addPanel 83 = .ok (.getfield 73, 3) := by decide +kernel
theorem dX3_addPanel_86 : decode cX3_addPanel 86 = .ok (.iload_n 2, 1) := by decide +kernel
theorem dX3_addPanel_87 : decode cX3_addPanel 87 = .ok (.invokevirtual 99, 3) := by decide +kernel
theorem dX3_addPanel_90 : decode cX3_addPanel 90 = .ok (.iconst 0, 1) := by decide +kernel
theorem dX3_addPanel_91 : decode cX3_addPanel 91 = .ok (.istore 4, 2) := by decide +kernel
theorem dX3_addPanel_93 : decode cX3_addPanel 93 = .ok (.iload 4, 2) := by decide +kernel
theorem dX3_addPanel_95 : decode cX3_addPanel 95 = .ok (.iload_n 2, 1) := by decide +kernel
theorem dX3_addPanel_96 : decode cX3_addPanel 96 = .ok (.if_icmp .ge 24, 3) := by decide +kernel
theorem dX3_addPanel_99 : decode cX3_addPanel 99 = .ok (.aload_n 0, 1) := by decide +kernel
theorem dX3_addPanel_100 : decode cX3_addPanel 100 = .ok (.getfield 24, 3) := by decide +kernel
theorem dX3_addPanel_103 : decode cX3_addPanel 103 = .ok (.iload_n 3, 1) := by decide +kernel
theorem dX3_addPanel_104 : decode cX3_addPanel 104 = .ok (.iload 4, 2) := by decide +kernel
theorem dX3_addPanel_106 : decode cX3_addPanel 106 = .ok (.iadd, 1) := by decide +kernel
theorem dX3_addPanel_107 : decode cX3_addPanel 107 = .ok (.aload_n 0, 1) := by decide +kernel
theorem dX3_addPanel_108 : decode cX3_addPanel 108 = .ok (.getfield 73, 3) := by decide +kernel
theorem dX3_addPanel_111 : decode cX3_addPanel 111 = .ok (.invokevirtual 99, 3) := by decide +kernel
theorem dX3_addPanel_114 : decode cX3_addPanel 114 = .ok (.iinc 4 1, 3) := by decide +kernel
theorem dX3_addPanel_117 : decode cX3_addPanel 117 = .ok (.goto (-24), 3) := by decide +kernel
theorem dX3_addPanel_120 : decode cX3_addPanel 120 = .ok (.aload_n 0, 1) := by decide +kernel
theorem dX3_addPanel_121 : decode cX3_addPanel 121 = .ok (.dup, 1) := by decide +kernel
theorem dX3_addPanel_122 : decode cX3_addPanel 122 = .ok (.getfield 73, 3) := by decide +kernel
theorem dX3_addPanel_125 : decode cX3_addPanel 125 = .ok (.iconst 1, 1) := by decide +kernel
theorem dX3_addPanel_126 : decode cX3_addPanel 126 = .ok (.iadd, 1) := by decide +kernel
theorem dX3_addPanel_127 : decode cX3_addPanel 127 = .ok (.putfield 73, 3) := by decide +kernel
theorem dX3_addPanel_130 : decode cX3_addPanel 130 = .ok (.aload_n 0, 1) := by decide +kernel
theorem dX3_addPanel_131 : decode cX3_addPanel 131 = .ok (.dup, 1) := by decide +kernel
theorem dX3_addPanel_132 : decode cX3_addPanel 132 = .ok (.getfield 77, 3) := by decide +kernel
theorem dX3_addPanel_135 : decode cX3_addPanel 135 = .ok (.iload_n 2, 1) := by decide +kernel
theorem dX3_addPanel_136 : decode cX3_addPanel 136 = .ok (.iadd, 1) := by decide +kernel
theorem dX3_addPanel_137 : decode cX3_addPanel 137 = .ok (.putfield 77, 3) := by decide +kernel
theorem dX3_addPanel_140 : decode cX3_addPanel 140 = .ok (.iload_n 3, 1) := by decide +kernel
theorem dX3_addPanel_141 : decode cX3_addPanel 141 = .ok (.ireturn, 1) := by decide +kernel
set_option maxRecDepth 20000 in
theorem ggX3_addTrunk_X3_checkPort : GoodIn wsX3_addTrunk wsX3_checkPort := goodIn_ca (goodIn_r _ [14, 15, 16, 17, 18, 19, 13, 20, 52, 53, 54, 55, 56, 57, 58, 59, 60, 61, 62, 63, 64, 65, 66, 67, 68, 69, 70] (by decide +kernel) (by decide +kernel)) (goodIn_sub (fun _ h => List.mem_cons_of_mem _ (List.mem_append_right _ h)) (by decide +kernel))
set_option maxRecDepth 20000 in
theorem gX3_addTrunk_X3_checkPort : GoodIn wsX3_addTrunk (wsV RX3 102 RX3 yX3_checkPort wsX3_checkPort) := goodIn_app (goodIn_of _ (by decide +kernel)) ggX3_addTrunk_X3_checkPort
set_option maxRecDepth 20000 in
theorem ggX3_addTrunk_X3_isWithin : GoodIn wsX3_addTrunk wsX3_isWithin := goodIn_r _ [20] (by decide +kernel) (by decide +kernel)
set_option maxRecDepth 20000 in
theorem gX3_addTrunk_X3_isWithin : GoodIn wsX3_addTrunk (va_wsS RX3 83 yX3_isWithin wsX3_isWithin) := goodIn_app (goodIn_of _ (by decide +kernel)) ggX3_addTrunk_X3_isWithin
set_option maxRecDepth 20000 in
theorem ggX3_addTrunk_X2_at : GoodIn wsX3_addTrunk wsX2_at := goodIn_r _ [25, 26, 27, 71, 72] (by decide +kernel) (by decide +kernel)
set_option maxRecDepth 20000 in
theorem gX3_addTrunk_X2_at : GoodIn wsX3_addTrunk (wsV RX3 107 RX2 yX2_at wsX2_at) := goodIn_app (goodIn_of _ (by decide +kernel)) ggX3_addTrunk_X2_at
set_option maxRecDepth 20000 in
theorem ggX3_addTrunk_X3_portsFrom : GoodIn wsX3_addTrunk wsX3_portsFrom := goodIn_r _ [31, 5, 32, 33, 21, 22, 23, 24, 25, 26, 27, 52, 53, 54, 55, 56, 57, 58, 59, 60, 61, 62, 63, 64, 65, 66, 67, 68, 69, 70, 71, 72] (by decide +kernel) (by decide +kernel)
set_option maxRecDepth 20000 in
theorem gX3_addTrunk_X3_portsFrom : GoodIn wsX3_addTrunk (wsV RX3 113 RX3 yX3_portsFrom wsX3_portsFrom) := goodIn_app (goodIn_of _ (by decide +kernel)) ggX3_addTrunk_X3_portsFrom
set_option maxRecDepth 20000 in
theorem ggX3_addTrunk_X3_anyStrand : GoodIn wsX3_addTrunk wsX3_anyStrand := goodIn_r _ [37, 38, 39, 40, 13, 41, 42, 21, 22, 23, 24, 25, 26, 27, 52, 53, 54, 55, 56, 57, 58, 59, 60, 61, 62, 63, 64, 65, 66, 67, 68, 69, 70, 71, 72] (by decide +kernel) (by decide +kernel)
set_option maxRecDepth 20000 in
theorem gX3_addTrunk_X3_anyStrand : GoodIn wsX3_addTrunk (wsV RX3 120 RX3 yX3_anyStrand wsX3_anyStrand) := goodIn_app (goodIn_of _ (by decide +kernel)) ggX3_addTrunk_X3_anyStrand
set_option maxRecDepth 20000 in
theorem ggX3_addTrunk_X2_put : GoodIn wsX3_addTrunk wsX2_put := goodIn_r _ [46, 26, 71, 72] (by decide +kernel) (by decide +kernel)
set_option maxRecDepth 20000 in
theorem gX3_addTrunk_X2_put : GoodIn wsX3_addTrunk (wsV RX3 99 RX2 yX2_put wsX2_put) := goodIn_app (goodIn_of _ (by decide +kernel)) ggX3_addTrunk_X2_put
set_option maxRecDepth 20000 in
theorem ggX3_addTrunk_X3_joinByStrand : GoodIn wsX3_addTrunk wsX3_joinByStrand := goodIn_r _ [50, 42, 51, 43, 44, 45, 24, 46, 26, 52, 53, 54, 55, 56, 57, 58, 59, 60, 61, 62, 63, 64, 65, 66, 67, 68, 69, 70, 71, 72] (by decide +kernel) (by decide +kernel)
set_option maxRecDepth 20000 in
theorem gX3_addTrunk_X3_joinByStrand : GoodIn wsX3_addTrunk (wsV RX3 126 RX3 yX3_joinByStrand wsX3_joinByStrand) := goodIn_app (goodIn_of _ (by decide +kernel)) ggX3_addTrunk_X3_joinByStrand
theorem dX3_addTrunk_0 : decode cX3_addTrunk 0 = .ok (.aload_n 0, 1) := by decide +kernel
theorem dX3_addTrunk_1 : decode cX3_addTrunk 1 = .ok (.iload_n 1, 1) := by decide +kernel
theorem dX3_addTrunk_2 : decode cX3_addTrunk 2 = .ok (.invokevirtual 102, 3) := by decide +kernel
theorem dX3_addTrunk_5 : decode cX3_addTrunk 5 = .ok (.aload_n 0, 1) := by decide +kernel
theorem dX3_addTrunk_6 : decode cX3_addTrunk 6 = .ok (.iload_n 2, 1) := by decide +kernel
theorem dX3_addTrunk_7 : decode cX3_addTrunk 7 = .ok (.invokevirtual 102, 3) := by decide +kernel
theorem dX3_addTrunk_10 : decode cX3_addTrunk 10 = .ok (.iload_n 3, 1) := by decide +kernel
theorem dX3_addTrunk_11 : decode cX3_addTrunk 11 = .ok (.iconst 1, 1) := by decide +kernel
theorem dX3_addTrunk_12 : decode cX3_addTrunk 12 = .ok (.bipush 12, 2) := by decide +kernel
theorem dX3_addTrunk_14 : decode cX3_addTrunk 14 = .ok (.invokestatic 83, 3) := by decide +kernel
theorem dX3_addTrunk_17 : decode cX3_addTrunk 17 = .ok (.ifCond .eq 15, 3) := by decide +kernel
theorem dX3_addTrunk_20 : decode cX3_addTrunk 20 = .ok (.iload 4, 2) := by decide +kernel
theorem dX3_addTrunk_22 : decode cX3_addTrunk 22 = .ok (.iconst 1, 1) := by decide +kernel
theorem dX3_addTrunk_23 : decode cX3_addTrunk 23 = .ok (.sipush 500, 3) := by decide +kernel
theorem dX3_addTrunk_26 : decode cX3_addTrunk 26 = .ok (.invokestatic 83, 3) := by decide +kernel
theorem dX3_addTrunk_29 : decode cX3_addTrunk 29 = .ok (.ifCond .ne 13, 3) := by decide +kernel
theorem dX3_addTrunk_32 : decode cX3_addTrunk 32 = .ok (.new 87, 3) := by decide +kernel
theorem dX3_addTrunk_35 : decode cX3_addTrunk 35 = .ok (.dup, 1) := by decide +kernel
theorem dX3_addTrunk_36 : decode cX3_addTrunk 36 = .ok (.ldc 105, 2) := by decide +kernel
theorem dX3_addTrunk_38 : decode cX3_addTrunk 38 = .ok (.invokespecial 91, 3) := by decide +kernel
theorem dX3_addTrunk_41 : decode cX3_addTrunk 41 = .ok (.athrow, 1) := by decide +kernel
theorem dX3_addTrunk_42 : decode cX3_addTrunk 42 = .ok (.aload_n 0, 1) := by decide +kernel
theorem dX3_addTrunk_43 : decode cX3_addTrunk 43 = .ok (.getfield 24, 3) := by decide +kernel
theorem dX3_addTrunk_46 : decode cX3_addTrunk 46 = .ok (.iload_n 1, 1) := by decide +kernel
theorem dX3_addTrunk_47 : decode cX3_addTrunk 47 = .ok (.invokevirtual 107, 3) := by decide +kernel
theorem dX3_addTrunk_50 : decode cX3_addTrunk 50 = .ok (.aload_n 0, 1) := by decide +kernel
theorem dX3_addTrunk_51 : decode cX3_addTrunk 51 = .ok (.getfield 24, 3) := by decide +kernel
theorem dX3_addTrunk_54 : decode cX3_addTrunk 54 = .ok (.iload_n 2, 1) := by decide +kernel
theorem dX3_addTrunk_55 : decode cX3_addTrunk 55 = .ok (.invokevirtual 107, 3) := by decide +kernel
theorem dX3_addTrunk_58 : decode cX3_addTrunk 58 = .ok (.if_icmp .ne 13, 3) := by decide +kernel
theorem dX3_addTrunk_61 : decode cX3_addTrunk 61 = .ok (.new 87, 3) := by decide +kernel
theorem dX3_addTrunk_64 : decode cX3_addTrunk 64 = .ok (.dup, 1) := by decide +kernel
theorem dX3_addTrunk_65 : decode cX3_addTrunk 65 = .ok (.ldc 111, 2) := by decide +kernel
theorem dX3_addTrunk_67 : decode cX3_addTrunk 67 = .ok (.invokespecial 91, 3) := by decide +kernel
theorem dX3_addTrunk_70 : decode cX3_addTrunk 70 = .ok (.athrow, 1) := by decide +kernel
theorem dX3_addTrunk_71 : decode cX3_addTrunk 71 = .ok (.aload_n 0, 1) := by decide +kernel
theorem dX3_addTrunk_72 : decode cX3_addTrunk 72 = .ok (.iload_n 1, 1) := by decide +kernel
theorem dX3_addTrunk_73 : decode cX3_addTrunk 73 = .ok (.invokevirtual 113, 3) := by decide +kernel
theorem dX3_addTrunk_76 : decode cX3_addTrunk 76 = .ok (.iload_n 3, 1) := by decide +kernel
theorem dX3_addTrunk_77 : decode cX3_addTrunk 77 = .ok (.if_icmp .lt 12, 3) := by decide +kernel
theorem dX3_addTrunk_80 : decode cX3_addTrunk 80 = .ok (.aload_n 0, 1) := by decide +kernel
theorem dX3_addTrunk_81 : decode cX3_addTrunk 81 = .ok (.iload_n 2, 1) := by decide +kernel
theorem dX3_addTrunk_82 : decode cX3_addTrunk 82 = .ok (.invokevirtual 113, 3) := by decide +kernel
theorem dX3_addTrunk_85 : decode cX3_addTrunk 85 = .ok (.iload_n 3, 1) := by decide +kernel
theorem dX3_addTrunk_86 : decode cX3_addTrunk 86 = .ok (.if_icmp .ge 13, 3) := by decide +kernel
theorem dX3_addTrunk_89 : decode cX3_addTrunk 89 = .ok (.new 87, 3) := by decide +kernel
theorem dX3_addTrunk_92 : decode cX3_addTrunk 92 = .ok (.dup, 1) := by decide +kernel
theorem dX3_addTrunk_93 : decode cX3_addTrunk 93 = .ok (.ldc 116, 2) := by decide +kernel
theorem dX3_addTrunk_95 : decode cX3_addTrunk 95 = .ok (.invokespecial 91, 3) := by decide +kernel
theorem dX3_addTrunk_98 : decode cX3_addTrunk 98 = .ok (.athrow, 1) := by decide +kernel
theorem dX3_addTrunk_99 : decode cX3_addTrunk 99 = .ok (.aload_n 0, 1) := by decide +kernel
theorem dX3_addTrunk_100 : decode cX3_addTrunk 100 = .ok (.getfield 80, 3) := by decide +kernel
theorem dX3_addTrunk_103 : decode cX3_addTrunk 103 = .ok (.bipush 10, 2) := by decide +kernel
theorem dX3_addTrunk_105 : decode cX3_addTrunk 105 = .ok (.if_icmp .lt 13, 3) := by decide +kernel
theorem dX3_addTrunk_108 : decode cX3_addTrunk 108 = .ok (.new 94, 3) := by decide +kernel
theorem dX3_addTrunk_111 : decode cX3_addTrunk 111 = .ok (.dup, 1) := by decide +kernel
theorem dX3_addTrunk_112 : decode cX3_addTrunk 112 = .ok (.ldc 118, 2) := by decide +kernel
theorem dX3_addTrunk_114 : decode cX3_addTrunk 114 = .ok (.invokespecial 98, 3) := by decide +kernel
theorem dX3_addTrunk_117 : decode cX3_addTrunk 117 = .ok (.athrow, 1) := by decide +kernel
theorem dX3_addTrunk_118 : decode cX3_addTrunk 118 = .ok (.aload_n 0, 1) := by decide +kernel
theorem dX3_addTrunk_119 : decode cX3_addTrunk 119 = .ok (.iload_n 1, 1) := by decide +kernel
theorem dX3_addTrunk_120 : decode cX3_addTrunk 120 = .ok (.iload_n 3, 1) := by decide +kernel
theorem dX3_addTrunk_121 : decode cX3_addTrunk 121 = .ok (.invokevirtual 120, 3) := by decide +kernel
theorem dX3_addTrunk_124 : decode cX3_addTrunk 124 = .ok (.ifCond .ne 12, 3) := by decide +kernel
theorem dX3_addTrunk_127 : decode cX3_addTrunk 127 = .ok (.aload_n 0, 1) := by decide +kernel
theorem dX3_addTrunk_128 : decode cX3_addTrunk 128 = .ok (.iload_n 2, 1) := by decide +kernel
theorem dX3_addTrunk_129 : decode cX3_addTrunk 129 = .ok (.iload_n 3, 1) := by decide +kernel
theorem dX3_addTrunk_130 : decode cX3_addTrunk 130 = .ok (.invokevirtual 120, 3) := by decide +kernel
theorem dX3_addTrunk_133 : decode cX3_addTrunk 133 = .ok (.ifCond .eq 13, 3) := by decide +kernel
theorem dX3_addTrunk_136 : decode cX3_addTrunk 136 = .ok (.new 94, 3) := by decide +kernel
theorem dX3_addTrunk_139 : decode cX3_addTrunk 139 = .ok (.dup, 1) := by decide +kernel
theorem dX3_addTrunk_140 : decode cX3_addTrunk 140 = .ok (.ldc 124, 2) := by decide +kernel
theorem dX3_addTrunk_142 : decode cX3_addTrunk 142 = .ok (.invokespecial 98, 3) := by decide +kernel
theorem dX3_addTrunk_145 : decode cX3_addTrunk 145 = .ok (.athrow, 1) := by decide +kernel
theorem dX3_addTrunk_146 : decode cX3_addTrunk 146 = .ok (.aload_n 0, 1) := by decide +kernel
theorem dX3_addTrunk_147 : decode cX3_addTrunk 147 = .ok (.getfield 80, 3) := by decide +kernel
theorem dX3_addTrunk_150 : decode cX3_addTrunk 150 = .ok (.istore 5, 2) := by decide +kernel
theorem dX3_addTrunk_152 : decode cX3_addTrunk 152 = .ok (.aload_n 0, 1) := by decide +kernel
theorem dX3_addTrunk_153 : decode cX3_addTrunk 153 = .ok (.getfield 48, 3) := by decide +kernel
theorem dX3_addTrunk_156 : decode cX3_addTrunk 156 = .ok (.iload 5, 2) := by decide +kernel
theorem dX3_addTrunk_158 : decode cX3_addTrunk 158 = .ok (.iload_n 1, 1) := by decide +kernel
theorem dX3_addTrunk_159 : decode cX3_addTrunk 159 = .ok (.invokevirtual 99, 3) := by decide +kernel
theorem dX3_addTrunk_162 : decode cX3_addTrunk 162 = .ok (.aload_n 0, 1) := by decide +kernel
theorem dX3_addTrunk_163 : decode cX3_addTrunk 163 = .ok (.getfield 51, 3) := by decide +kernel
theorem dX3_addTrunk_166 : decode cX3_addTrunk 166 = .ok (.iload 5, 2) := by decide +kernel
theorem dX3_addTrunk_168 : decode cX3_addTrunk 168 = .ok (.iload_n 3, 1) := by decide +kernel
theorem dX3_addTrunk_169 : decode cX3_addTrunk 169 = .ok (.invokevirtual 99, 3) := by decide +kernel
theorem dX3_addTrunk_172 : decode cX3_addTrunk 172 = .ok (.aload_n 0, 1) := by decide +kernel
theorem dX3_addTrunk_173 : decode cX3_addTrunk 173 = .ok (.getfield 54, 3) := by decide +kernel
theorem dX3_addTrunk_176 : decode cX3_addTrunk 176 = .ok (.iload 5, 2) := by decide +kernel
theorem dX3_addTrunk_178 : decode cX3_addTrunk 178 = .ok (.iload 4, 2) := by decide +kernel
theorem dX3_addTrunk_180 : decode cX3_addTrunk 180 = .ok (.invokevirtual 99, 3) := by decide +kernel
theorem dX3_addTrunk_183 : decode cX3_addTrunk 183 = .ok (.iconst 0, 1) := by decide +kernel
theorem dX3_addTrunk_184 : decode cX3_addTrunk 184 = .ok (.istore 6, 2) := by decide +kernel
theorem dX3_addTrunk_186 : decode cX3_addTrunk 186 = .ok (.iload 6, 2) := by decide +kernel
theorem dX3_addTrunk_188 : decode cX3_addTrunk 188 = .ok (.iload_n 3, 1) := by decide +kernel
theorem dX3_addTrunk_189 : decode cX3_addTrunk 189 = .ok (.if_icmp .ge 23, 3) := by decide +kernel
theorem dX3_addTrunk_192 : decode cX3_addTrunk 192 = .ok (.aload_n 0, 1) := by decide +kernel
theorem dX3_addTrunk_193 : decode cX3_addTrunk 193 = .ok (.iload_n 1, 1) := by decide +kernel
theorem dX3_addTrunk_194 : decode cX3_addTrunk 194 = .ok (.iload 6, 2) := by decide +kernel
theorem dX3_addTrunk_196 : decode cX3_addTrunk 196 = .ok (.iadd, 1) := by decide +kernel
theorem dX3_addTrunk_197 : decode cX3_addTrunk 197 = .ok (.iload_n 2, 1) := by decide +kernel
theorem dX3_addTrunk_198 : decode cX3_addTrunk 198 = .ok (.iload 6, 2) := by decide +kernel
theorem dX3_addTrunk_200 : decode cX3_addTrunk 200 = .ok (.iadd, 1) := by decide +kernel
theorem dX3_addTrunk_201 : decode cX3_addTrunk 201 = .ok (.iload 5, 2) := by decide +kernel
theorem dX3_addTrunk_203 : decode cX3_addTrunk 203 = .ok (.invokevirtual 126, 3) := by decide +kernel
theorem dX3_addTrunk_206 : decode cX3_addTrunk 206 = .ok (.iinc 6 1, 3) := by decide +kernel
theorem dX3_addTrunk_209 : decode cX3_addTrunk 209 = .ok (.goto (-23), 3) := by decide +kernel
theorem dX3_addTrunk_212 : decode cX3_addTrunk 212 = .ok (.aload_n 0, 1) := by decide +kernel
theorem dX3_addTrunk_213 : decode cX3_addTrunk 213 = .ok (.dup, 1) := by decide +kernel
theorem dX3_addTrunk_214 : decode cX3_addTrunk 214 = .ok (.getfield 80, 3) := by decide +kernel
theorem dX3_addTrunk_217 : decode cX3_addTrunk 217 = .ok (.iconst 1, 1) := by decide +kernel
theorem dX3_addTrunk_218 : decode cX3_addTrunk 218 = .ok (.iadd, 1) := by decide +kernel
theorem dX3_addTrunk_219 : decode cX3_addTrunk 219 = .ok (.putfield 80, 3) := by decide +kernel
theorem dX3_addTrunk_222 : decode cX3_addTrunk 222 = .ok (.iload 5, 2) := by decide +kernel
theorem dX3_addTrunk_224 : decode cX3_addTrunk 224 = .ok (.ireturn, 1) := by decide +kernel
set_option maxRecDepth 20000 in
theorem ggX3_setBroken_X3_checkTrunk : GoodIn wsX3_setBroken wsX3_checkTrunk := goodIn_ca (goodIn_r _ [11, 1, 2, 12, 13, 14, 10, 15, 33, 34, 35, 36, 37, 38, 39, 40, 41, 42, 43, 44, 45, 46, 47, 48, 49, 50, 51] (by decide +kernel) (by decide +kernel)) (goodIn_sub (fun _ h => List.mem_cons_of_mem _ (List.mem_append_right _ h)) (by decide +kernel))
set_option maxRecDepth 20000 in
theorem gX3_setBroken_X3_checkTrunk : GoodIn wsX3_setBroken (wsV RX3 130 RX3 yX3_checkTrunk wsX3_checkTrunk) := goodIn_app (goodIn_of _ (by decide +kernel)) ggX3_setBroken_X3_checkTrunk
set_option maxRecDepth 20000 in
theorem ggX3_setBroken_X2_at : GoodIn wsX3_setBroken wsX2_at := goodIn_r _ [20, 21, 22, 52, 53] (by decide +kernel) (by decide +kernel)
set_option maxRecDepth 20000 in
theorem gX3_setBroken_X2_at : GoodIn wsX3_setBroken (wsV RX3 107 RX2 yX2_at wsX2_at) := goodIn_app (goodIn_of _ (by decide +kernel)) ggX3_setBroken_X2_at
set_option maxRecDepth 20000 in
theorem ggX3_setBroken_X3_isWithin : GoodIn wsX3_setBroken wsX3_isWithin := goodIn_r _ [15] (by decide +kernel) (by decide +kernel)
set_option maxRecDepth 20000 in
theorem gX3_setBroken_X3_isWithin : GoodIn wsX3_setBroken (va_wsS RX3 83 yX3_isWithin wsX3_isWithin) := goodIn_app (goodIn_of _ (by decide +kernel)) ggX3_setBroken_X3_isWithin
set_option maxRecDepth 20000 in
theorem ggX3_setBroken_X0_has : GoodIn wsX3_setBroken wsX0_has := goodIn_r _ [27, 28, 54] (by decide +kernel) (by decide +kernel)
set_option maxRecDepth 20000 in
theorem gX3_setBroken_X0_has : GoodIn wsX3_setBroken (wsV RX3 138 RX0 yX0_has wsX0_has) := goodIn_app (goodIn_of _ (by decide +kernel)) ggX3_setBroken_X0_has
set_option maxRecDepth 20000 in
theorem ggX3_setBroken_X0_set : GoodIn wsX3_setBroken wsX0_set := goodIn_r _ [32, 28, 54] (by decide +kernel) (by decide +kernel)
set_option maxRecDepth 20000 in
theorem gX3_setBroken_X0_set : GoodIn wsX3_setBroken (wsV RX3 142 RX0 yX0_set wsX0_set) := goodIn_app (goodIn_of _ (by decide +kernel)) ggX3_setBroken_X0_set
theorem dX3_setBroken_0 : decode cX3_setBroken 0 = .ok (.aload_n 0, 1) := by decide +kernel
theorem dX3_setBroken_1 : decode cX3_setBroken 1 = .ok (.iload_n 1, 1) := by decide +kernel
theorem dX3_setBroken_2 : decode cX3_setBroken 2 = .ok (.invokevirtual 130, 3) := by decide +kernel
theorem dX3_setBroken_5 : decode cX3_setBroken 5 = .ok (.iload_n 2, 1) := by decide +kernel
theorem dX3_setBroken_6 : decode cX3_setBroken 6 = .ok (.iconst 0, 1) := by decide +kernel
theorem dX3_setBroken_7 : decode cX3_setBroken 7 = .ok (.aload_n 0, 1) := by decide +kernel
theorem dX3_setBroken_8 : decode cX3_setBroken 8 = .ok (.getfield 51, 3) := by decide +kernel
theorem dX3_setBroken_11 : decode cX3_setBroken 11 = .ok (.iload_n 1, 1) := by decide +kernel
theorem dX3_setBroken_12 : decode cX3_setBroken 12 = .ok (.invokevirtual 107, 3) := by decide +kernel
theorem dX3_setBroken_15 : decode cX3_setBroken 15 = .ok (.iconst 1, 1) := by decide +kernel
theorem dX3_setBroken_16 : decode cX3_setBroken 16 = .ok (.isub, 1) := by decide +kernel
theorem dX3_setBroken_17 : decode cX3_setBroken 17 = .ok (.invokestatic 83, 3) := by decide +kernel
theorem dX3_setBroken_20 : decode cX3_setBroken 20 = .ok (.ifCond .ne 13, 3) := by decide +kernel
theorem dX3_setBroken_23 : decode cX3_setBroken 23 = .ok (.new 133, 3) := by decide +kernel
theorem dX3_setBroken_26 : decode cX3_setBroken 26 = .ok (.dup, 1) := by decide +kernel
theorem dX3_setBroken_27 : decode cX3_setBroken 27 = .ok (.ldc 135, 2) := by decide +kernel
theorem dX3_setBroken_29 : decode cX3_setBroken 29 = .ok (.invokespecial 137, 3) := by decide +kernel
theorem dX3_setBroken_32 : decode cX3_setBroken 32 = .ok (.athrow, 1) := by decide +kernel
theorem dX3_setBroken_33 : decode cX3_setBroken 33 = .ok (.aload_n 0, 1) := by decide +kernel
theorem dX3_setBroken_34 : decode cX3_setBroken 34 = .ok (.getfield 48, 3) := by decide +kernel
theorem dX3_setBroken_37 : decode cX3_setBroken 37 = .ok (.iload_n 1, 1) := by decide +kernel
theorem dX3_setBroken_38 : decode cX3_setBroken 38 = .ok (.invokevirtual 107, 3) := by decide +kernel
theorem dX3_setBroken_41 : decode cX3_setBroken 41 = .ok (.iload_n 2, 1) := by decide +kernel
theorem dX3_setBroken_42 : decode cX3_setBroken 42 = .ok (.iadd, 1) := by decide +kernel
theorem dX3_setBroken_43 : decode cX3_setBroken 43 = .ok (.istore 4, 2) := by decide +kernel
theorem dX3_setBroken_45 : decode cX3_setBroken 45 = .ok (.aload_n 0, 1) := by decide +kernel
theorem dX3_setBroken_46 : decode cX3_setBroken 46 = .ok (.getfield 44, 3) := by decide +kernel
theorem dX3_setBroken_49 : decode cX3_setBroken 49 = .ok (.iload 4, 2) := by decide +kernel
theorem dX3_setBroken_51 : decode cX3_setBroken 51 = .ok (.invokevirtual 138, 3) := by decide +kernel
theorem dX3_setBroken_54 : decode cX3_setBroken 54 = .ok (.istore 5, 2) := by decide +kernel
theorem dX3_setBroken_56 : decode cX3_setBroken 56 = .ok (.aload_n 0, 1) := by decide +kernel
theorem dX3_setBroken_57 : decode cX3_setBroken 57 = .ok (.getfield 44, 3) := by decide +kernel
theorem dX3_setBroken_60 : decode cX3_setBroken 60 = .ok (.iload 4, 2) := by decide +kernel
theorem dX3_setBroken_62 : decode cX3_setBroken 62 = .ok (.iload_n 3, 1) := by decide +kernel
theorem dX3_setBroken_63 : decode cX3_setBroken 63 = .ok (.invokevirtual 142, 3) := by decide +kernel
theorem dX3_setBroken_66 : decode cX3_setBroken 66 = .ok (.aload_n 0, 1) := by decide +kernel
theorem dX3_setBroken_67 : decode cX3_setBroken 67 = .ok (.getfield 44, 3) := by decide +kernel
theorem dX3_setBroken_70 : decode cX3_setBroken 70 = .ok (.aload_n 0, 1) := by decide +kernel
theorem dX3_setBroken_71 : decode cX3_setBroken 71 = .ok (.getfield 33, 3) := by decide +kernel
theorem dX3_setBroken_74 : decode cX3_setBroken 74 = .ok (.iload 4, 2) := by decide +kernel
theorem dX3_setBroken_76 : decode cX3_setBroken 76 = .ok (.invokevirtual 107, 3) := by decide +kernel
theorem dX3_setBroken_79 : decode cX3_setBroken 79 = .ok (.iload_n 3, 1) := by decide +kernel
theorem dX3_setBroken_80 : decode cX3_setBroken 80 = .ok (.invokevirtual 142, 3) := by decide +kernel
theorem dX3_setBroken_83 : decode cX3_setBroken 83 = .ok (.iload 5, 2) := by decide +kernel
theorem dX3_setBroken_85 : decode cX3_setBroken 85 = .ok (.ireturn, 1) := by decide +kernel
set_option maxRecDepth 20000 in
theorem ggX3_plug_X3_checkPort : GoodIn wsX3_plug wsX3_checkPort := goodIn_ca (goodIn_r _ [9, 10, 11, 12, 13, 14, 8, 15, 47, 48, 49, 50, 51, 52, 53, 54, 55, 56, 57, 58, 59, 60, 61, 62, 63, 64, 65] (by decide +kernel) (by decide +kernel)) (goodIn_sub (fun _ h => List.mem_cons_of_mem _ (List.mem_append_right _ h)) (by decide +kernel))
set_option maxRecDepth 20000 in
theorem gX3_plug_X3_checkPort : GoodIn wsX3_plug (wsV RX3 102 RX3 yX3_checkPort wsX3_checkPort) := goodIn_app (goodIn_of _ (by decide +kernel)) ggX3_plug_X3_checkPort
set_option maxRecDepth 20000 in
theorem ggX3_plug_X3_isWithin : GoodIn wsX3_plug wsX3_isWithin := goodIn_r _ [15] (by decide +kernel) (by decide +kernel)
set_option maxRecDepth 20000 in
theorem gX3_plug_X3_isWithin : GoodIn wsX3_plug (va_wsS RX3 83 yX3_isWithin wsX3_isWithin) := goodIn_app (goodIn_of _ (by decide +kernel)) ggX3_plug_X3_isWithin
set_option maxRecDepth 20000 in
theorem ggX3_plug_X3_hasCable : GoodIn wsX3_plug wsX3_hasCable := goodIn_r _ [19, 20, 21, 22, 23, 24, 25, 26, 27, 47, 48, 49, 50, 51, 52, 53, 54, 55, 56, 57, 58, 59, 60, 61, 62, 63, 64, 65, 66, 67] (by decide +kernel) (by decide +kernel)
set_option maxRecDepth 20000 in
theorem gX3_plug_X3_hasCable : GoodIn wsX3_plug (wsV RX3 148 RX3 yX3_hasCable wsX3_hasCable) := goodIn_app (goodIn_of _ (by decide +kernel)) ggX3_plug_X3_hasCable
set_option maxRecDepth 20000 in
theorem ggX3_plug_X3_joinByCable : GoodIn wsX3_plug wsX3_joinByCable := goodIn_r _ [31, 20, 32, 33, 34, 35, 24, 36, 26, 47, 48, 49, 50, 51, 52, 53, 54, 55, 56, 57, 58, 59, 60, 61, 62, 63, 64, 65, 66, 67] (by decide +kernel) (by decide +kernel)
set_option maxRecDepth 20000 in
theorem gX3_plug_X3_joinByCable : GoodIn wsX3_plug (wsV RX3 153 RX3 yX3_joinByCable wsX3_joinByCable) := goodIn_app (goodIn_of _ (by decide +kernel)) ggX3_plug_X3_joinByCable
set_option maxRecDepth 20000 in
theorem ggX3_plug_X3_lengthBetween : GoodIn wsX3_plug wsX3_lengthBetween := goodIn_r _ [40, 41, 42, 43, 44, 45, 46, 21, 22, 23, 24, 25, 26, 27, 47, 48, 49, 50, 51, 52, 53, 54, 55, 56, 57, 58, 59, 60, 61, 62, 63, 64, 65, 66, 67] (by decide +kernel) (by decide +kernel)
set_option maxRecDepth 20000 in
theorem gX3_plug_X3_lengthBetween : GoodIn wsX3_plug (wsV RX3 156 RX3 yX3_lengthBetween wsX3_lengthBetween) := goodIn_app (goodIn_of _ (by decide +kernel)) ggX3_plug_X3_lengthBetween
theorem dX3_plug_0 : decode cX3_plug 0 = .ok (.aload_n 0, 1) := by decide +kernel
theorem dX3_plug_1 : decode cX3_plug 1 = .ok (.iload_n 1, 1) := by decide +kernel
theorem dX3_plug_2 : decode cX3_plug 2 = .ok (.invokevirtual 102, 3) := by decide +kernel
theorem dX3_plug_5 : decode cX3_plug 5 = .ok (.aload_n 0, 1) := by decide +kernel
theorem dX3_plug_6 : decode cX3_plug 6 = .ok (.iload_n 2, 1) := by decide +kernel
theorem dX3_plug_7 : decode cX3_plug 7 = .ok (.invokevirtual 102, 3) := by decide +kernel
theorem dX3_plug_10 : decode cX3_plug 10 = .ok (.iload_n 3, 1) := by decide +kernel
theorem dX3_plug_11 : decode cX3_plug 11 = .ok (.iconst 1, 1) := by decide +kernel
theorem dX3_plug_12 : decode cX3_plug 12 = .ok (.bipush 9, 2) := by decide +kernel
theorem dX3_plug_14 : decode cX3_plug 14 = .ok (.invokestatic 83, 3) := by decide +kernel
theorem dX3_plug_17 : decode cX3_plug 17 = .ok (.ifCond .eq 8, 3) := by decide +kernel
theorem dX3_plug_20 : decode cX3_plug 20 = .ok (.iload_n 1, 1) := by decide +kernel
theorem dX3_plug_21 : decode cX3_plug 21 = .ok (.iload_n 2, 1) := by decide +kernel
theorem dX3_plug_22 : decode cX3_plug 22 = .ok (.if_icmp .ne 13, 3) := by decide +kernel
theorem dX3_plug_25 : decode cX3_plug 25 = .ok (.new 87, 3) := by decide +kernel
theorem dX3_plug_28 : decode cX3_plug 28 = .ok (.dup, 1) := by decide +kernel
theorem dX3_plug_29 : decode cX3_plug 29 = .ok (.ldc 146, 2) := by decide +kernel
theorem dX3_plug_31 : decode cX3_plug 31 = .ok (.invokespecial 91, 3) := by decide +kernel
theorem dX3_plug_34 : decode cX3_plug 34 = .ok (.athrow, 1) := by decide +kernel
theorem dX3_plug_35 : decode cX3_plug 35 = .ok (.aload_n 0, 1) := by decide +kernel
theorem dX3_plug_36 : decode cX3_plug 36 = .ok (.iload_n 1, 1) := by decide +kernel
theorem dX3_plug_37 : decode cX3_plug 37 = .ok (.invokevirtual 148, 3) := by decide +kernel
theorem dX3_plug_40 : decode cX3_plug 40 = .ok (.ifCond .ne 11, 3) := by decide +kernel
theorem dX3_plug_43 : decode cX3_plug 43 = .ok (.aload_n 0, 1) := by decide +kernel
theorem dX3_plug_44 : decode cX3_plug 44 = .ok (.iload_n 2, 1) := by decide +kernel
theorem dX3_plug_45 : decode cX3_plug 45 = .ok (.invokevirtual 148, 3) := by decide +kernel
theorem dX3_plug_48 : decode cX3_plug 48 = .ok (.ifCond .eq 13, 3) := by decide +kernel
theorem dX3_plug_51 : decode cX3_plug 51 = .ok (.new 94, 3) := by decide +kernel
theorem dX3_plug_54 : decode cX3_plug 54 = .ok (.dup, 1) := by decide +kernel
theorem dX3_plug_55 : decode cX3_plug 55 = .ok (.ldc 151, 2) := by decide +kernel
theorem dX3_plug_57 : decode cX3_plug 57 = .ok (.invokespecial 98, 3) := by decide +kernel
theorem dX3_plug_60 : decode cX3_plug 60 = .ok (.athrow, 1) := by decide +kernel
theorem dX3_plug_61 : decode cX3_plug 61 = .ok (.aload_n 0, 1) := by decide +kernel
theorem dX3_plug_62 : decode cX3_plug 62 = .ok (.iload_n 1, 1) := by decide +kernel
theorem dX3_plug_63 : decode cX3_plug 63 = .ok (.iload_n 2, 1) := by decide +kernel
theorem dX3_plug_64 : decode cX3_plug 64 = .ok (.iload_n 3, 1) := by decide +kernel
theorem dX3_plug_65 : decode cX3_plug 65 = .ok (.invokevirtual 153, 3) := by decide +kernel
theorem dX3_plug_68 : decode cX3_plug 68 = .ok (.aload_n 0, 1) := by decide +kernel
theorem dX3_plug_69 : decode cX3_plug 69 = .ok (.iload_n 1, 1) := by decide +kernel
theorem dX3_plug_70 : decode cX3_plug 70 = .ok (.iload_n 2, 1) := by decide +kernel
theorem dX3_plug_71 : decode cX3_plug 71 = .ok (.invokevirtual 156, 3) := by decide +kernel
theorem dX3_plug_74 : decode cX3_plug 74 = .ok (.ireturn, 1) := by decide +kernel
set_option maxRecDepth 20000 in
theorem ggX3_pull_X3_checkPort : GoodIn wsX3_pull wsX3_checkPort := goodIn_ca (goodIn_r _ [8, 9, 10, 11, 12, 13, 7, 14, 35, 36, 37, 38, 39, 40, 41, 42, 43, 44, 45, 46, 47, 48, 49, 50, 51, 52, 53] (by decide +kernel) (by decide +kernel)) (goodIn_sub (fun _ h => List.mem_cons_of_mem _ (List.mem_append_right _ h)) (by decide +kernel))
set_option maxRecDepth 20000 in
theorem gX3_pull_X3_checkPort : GoodIn wsX3_pull (wsV RX3 102 RX3 yX3_checkPort wsX3_checkPort) := goodIn_app (goodIn_of _ (by decide +kernel)) ggX3_pull_X3_checkPort
set_option maxRecDepth 20000 in
theorem ggX3_pull_X3_hasCable : GoodIn wsX3_pull wsX3_hasCable := goodIn_r _ [18, 3, 19, 20, 21, 22, 23, 24, 25, 35, 36, 37, 38, 39, 40, 41, 42, 43, 44, 45, 46, 47, 48, 49, 50, 51, 52, 53, 54, 55] (by decide +kernel) (by decide +kernel)
set_option maxRecDepth 20000 in
theorem gX3_pull_X3_hasCable : GoodIn wsX3_pull (wsV RX3 148 RX3 yX3_hasCable wsX3_hasCable) := goodIn_app (goodIn_of _ (by decide +kernel)) ggX3_pull_X3_hasCable
set_option maxRecDepth 20000 in
theorem ggX3_pull_X2_at : GoodIn wsX3_pull wsX2_at := goodIn_r _ [23, 24, 25, 54, 55] (by decide +kernel) (by decide +kernel)
set_option maxRecDepth 20000 in
theorem gX3_pull_X2_at : GoodIn wsX3_pull (wsV RX3 107 RX2 yX2_at wsX2_at) := goodIn_app (goodIn_of _ (by decide +kernel)) ggX3_pull_X2_at
set_option maxRecDepth 20000 in
theorem ggX3_pull_X3_clearCable : GoodIn wsX3_pull wsX3_clearCable := goodIn_r _ [29, 3, 30, 31, 32, 33, 22, 34, 24, 35, 36, 37, 38, 39, 40, 41, 42, 43, 44, 45, 46, 47, 48, 49, 50, 51, 52, 53, 54, 55] (by decide +kernel) (by decide +kernel)
set_option maxRecDepth 20000 in
theorem gX3_pull_X3_clearCable : GoodIn wsX3_pull (wsV RX3 162 RX3 yX3_clearCable wsX3_clearCable) := goodIn_app (goodIn_of _ (by decide +kernel)) ggX3_pull_X3_clearCable
theorem dX3_pull_0 : decode cX3_pull 0 = .ok (.aload_n 0, 1) := by decide +kernel
theorem dX3_pull_1 : decode cX3_pull 1 = .ok (.iload_n 1, 1) := by decide +kernel
theorem dX3_pull_2 : decode cX3_pull 2 = .ok (.invokevirtual 102, 3) := by decide +kernel
theorem dX3_pull_5 : decode cX3_pull 5 = .ok (.aload_n 0, 1) := by decide +kernel
theorem dX3_pull_6 : decode cX3_pull 6 = .ok (.iload_n 1, 1) := by decide +kernel
theorem dX3_pull_7 : decode cX3_pull 7 = .ok (.invokevirtual 148, 3) := by decide +kernel
theorem dX3_pull_10 : decode cX3_pull 10 = .ok (.ifCond .ne 13, 3) := by decide +kernel
theorem dX3_pull_13 : decode cX3_pull 13 = .ok (.new 94, 3) := by decide +kernel
theorem dX3_pull_16 : decode cX3_pull 16 = .ok (.dup, 1) := by decide +kernel
theorem dX3_pull_17 : decode cX3_pull 17 = .ok (.ldc 160, 2) := by decide +kernel
theorem dX3_pull_19 : decode cX3_pull 19 = .ok (.invokespecial 98, 3) := by decide +kernel
theorem dX3_pull_22 : decode cX3_pull 22 = .ok (.athrow, 1) := by decide +kernel
theorem dX3_pull_23 : decode cX3_pull 23 = .ok (.aload_n 0, 1) := by decide +kernel
theorem dX3_pull_24 : decode cX3_pull 24 = .ok (.getfield 27, 3) := by decide +kernel
theorem dX3_pull_27 : decode cX3_pull 27 = .ok (.iload_n 1, 1) := by decide +kernel
theorem dX3_pull_28 : decode cX3_pull 28 = .ok (.invokevirtual 107, 3) := by decide +kernel
theorem dX3_pull_31 : decode cX3_pull 31 = .ok (.istore_n 2, 1) := by decide +kernel
theorem dX3_pull_32 : decode cX3_pull 32 = .ok (.aload_n 0, 1) := by decide +kernel
theorem dX3_pull_33 : decode cX3_pull 33 = .ok (.iload_n 1, 1) := by decide +kernel
theorem dX3_pull_34 : decode cX3_pull 34 = .ok (.invokevirtual 162, 3) := by decide +kernel
theorem dX3_pull_37 : decode cX3_pull 37 = .ok (.aload_n 0, 1) := by decide +kernel
theorem dX3_pull_38 : decode cX3_pull 38 = .ok (.iload_n 2, 1) := by decide +kernel
theorem dX3_pull_39 : decode cX3_pull 39 = .ok (.invokevirtual 162, 3) := by decide +kernel
theorem dX3_pull_42 : decode cX3_pull 42 = .ok (.iload_n 2, 1) := by decide +kernel
theorem dX3_pull_43 : decode cX3_pull 43 = .ok (.ireturn, 1) := by decide +kernel
set_option maxRecDepth 20000 in
theorem ggX3_addMove_X3_checkPort : GoodIn wsX3_addMove wsX3_checkPort := goodIn_ca (goodIn_r _ [10, 11, 12, 13, 14, 15, 9, 16, 35, 36, 37, 38, 39, 40, 41, 42, 43, 44, 45, 46, 47, 48, 49, 50, 51, 52, 53] (by decide +kernel) (by decide +kernel)) (goodIn_sub (fun _ h => List.mem_cons_of_mem _ (List.mem_append_right _ h)) (by decide +kernel))
set_option maxRecDepth 20000 in
theorem gX3_addMove_X3_checkPort : GoodIn wsX3_addMove (wsV RX3 102 RX3 yX3_checkPort wsX3_checkPort) := goodIn_app (goodIn_of _ (by decide +kernel)) ggX3_addMove_X3_checkPort
set_option maxRecDepth 20000 in
theorem ggX3_addMove_X1_size : GoodIn wsX3_addMove wsX1_size := goodIn_r _ [21, 22, 54, 55, 56, 57, 58] (by decide +kernel) (by decide +kernel)
set_option maxRecDepth 20000 in
theorem gX3_addMove_X1_size : GoodIn wsX3_addMove (wsV RX3 167 RX1 yX1_size wsX1_size) := goodIn_app (goodIn_of _ (by decide +kernel)) ggX3_addMove_X1_size
set_option maxRecDepth 20000 in
theorem ggX3_addMove_X1_add : GoodIn wsX3_addMove wsX1_add := goodIn_r _ [26, 22, 27, 28, 29, 30, 31, 32, 33, 34, 54, 55, 56, 57, 58, 59, 60] (by decide +kernel) (by decide +kernel)
set_option maxRecDepth 20000 in
theorem gX3_addMove_X1_add : GoodIn wsX3_addMove (wsV RX3 173 RX1 yX1_add wsX1_add) := goodIn_app (goodIn_of _ (by decide +kernel)) ggX3_addMove_X1_add
theorem dX3_addMove_0 : decode cX3_addMove 0 = .ok (.aload_n 0, 1) := by decide +kernel
theorem dX3_addMove_1 : decode cX3_addMove 1 = .ok (.iload_n 1, 1) := by decide +kernel
theorem dX3_addMove_2 : decode cX3_addMove 2 = .ok (.invokevirtual 102, 3) := by decide +kernel
theorem dX3_addMove_5 : decode cX3_addMove 5 = .ok (.aload_n 0, 1) := by decide +kernel
theorem dX3_addMove_6 : decode cX3_addMove 6 = .ok (.iload_n 2, 1) := by decide +kernel
theorem dX3_addMove_7 : decode cX3_addMove 7 = .ok (.invokevirtual 102, 3) := by decide +kernel
theorem dX3_addMove_10 : decode cX3_addMove 10 = .ok (.iload_n 1, 1) := by decide +kernel
theorem dX3_addMove_11 : decode cX3_addMove 11 = .ok (.iload_n 2, 1) := by decide +kernel
theorem dX3_addMove_12 : decode cX3_addMove 12 = .ok (.if_icmp .ne 13, 3) := by decide +kernel
theorem dX3_addMove_15 : decode cX3_addMove 15 = .ok (.new 87, 3) := by decide +kernel
theorem dX3_addMove_18 : decode cX3_addMove 18 = .ok (.dup, 1) := by decide +kernel
theorem dX3_addMove_19 : decode cX3_addMove 19 = .ok (.ldc 165, 2) := by decide +kernel
theorem dX3_addMove_21 : decode cX3_addMove 21 = .ok (.invokespecial 91, 3) := by decide +kernel
theorem dX3_addMove_24 : decode cX3_addMove 24 = .ok (.athrow, 1) := by decide +kernel
theorem dX3_addMove_25 : decode cX3_addMove 25 = .ok (.aload_n 0, 1) := by decide +kernel
theorem dX3_addMove_26 : decode cX3_addMove 26 = .ok (.getfield 60, 3) := by decide +kernel
theorem dX3_addMove_29 : decode cX3_addMove 29 = .ok (.invokevirtual 167, 3) := by decide +kernel
theorem dX3_addMove_32 : decode cX3_addMove 32 = .ok (.bipush 12, 2) := by decide +kernel
theorem dX3_addMove_34 : decode cX3_addMove 34 = .ok (.if_icmp .lt 13, 3) := by decide +kernel
theorem dX3_addMove_37 : decode cX3_addMove 37 = .ok (.new 94, 3) := by decide +kernel
theorem dX3_addMove_40 : decode cX3_addMove 40 = .ok (.dup, 1) := by decide +kernel
theorem dX3_addMove_41 : decode cX3_addMove 41 = .ok (.ldc 171, 2) := by decide +kernel
theorem dX3_addMove_43 : decode cX3_addMove 43 = .ok (.invokespecial 98, 3) := by decide +kernel
theorem dX3_addMove_46 : decode cX3_addMove 46 = .ok (.athrow, 1) := by decide +kernel
theorem dX3_addMove_47 : decode cX3_addMove 47 = .ok (.aload_n 0, 1) := by decide +kernel
theorem dX3_addMove_48 : decode cX3_addMove 48 = .ok (.getfield 60, 3) := by decide +kernel
theorem dX3_addMove_51 : decode cX3_addMove 51 = .ok (.iload_n 1, 1) := by decide +kernel
theorem dX3_addMove_52 : decode cX3_addMove 52 = .ok (.iload_n 2, 1) := by decide +kernel
theorem dX3_addMove_53 : decode cX3_addMove 53 = .ok (.invokevirtual 173, 3) := by decide +kernel
theorem dX3_addMove_56 : decode cX3_addMove 56 = .ok (.aload_n 0, 1) := by decide +kernel
theorem dX3_addMove_57 : decode cX3_addMove 57 = .ok (.getfield 60, 3) := by decide +kernel
theorem dX3_addMove_60 : decode cX3_addMove 60 = .ok (.invokevirtual 167, 3) := by decide +kernel
theorem dX3_addMove_63 : decode cX3_addMove 63 = .ok (.ireturn, 1) := by decide +kernel
set_option maxRecDepth 20000 in
theorem ggX3_dropPlan_X1_size : GoodIn wsX3_dropPlan wsX1_size := goodIn_r _ [6, 7, 31, 32, 33, 34, 35] (by decide +kernel) (by decide +kernel)
set_option maxRecDepth 20000 in
theorem gX3_dropPlan_X1_size : GoodIn wsX3_dropPlan (wsV RX3 167 RX1 yX1_size wsX1_size) := goodIn_app (goodIn_of _ (by decide +kernel)) ggX3_dropPlan_X1_size
set_option maxRecDepth 20000 in
theorem ggX3_dropPlan_X1_clear : GoodIn wsX3_dropPlan wsX1_clear := goodIn_r _ [11, 7, 31, 32, 33, 34, 35] (by decide +kernel) (by decide +kernel)
set_option maxRecDepth 20000 in
theorem gX3_dropPlan_X1_clear : GoodIn wsX3_dropPlan (wsV RX3 176 RX1 yX1_clear wsX1_clear) := goodIn_app (goodIn_of _ (by decide +kernel)) ggX3_dropPlan_X1_clear
theorem dX3_dropPlan_0 : decode cX3_dropPlan 0 = .ok (.aload_n 0, 1) := by decide +kernel
theorem dX3_dropPlan_1 : decode cX3_dropPlan 1 = .ok (.getfield 60, 3) := by decide +kernel
theorem dX3_dropPlan_4 : decode cX3_dropPlan 4 = .ok (.invokevirtual 167, 3) := by decide +kernel
theorem dX3_dropPlan_7 : decode cX3_dropPlan 7 = .ok (.istore_n 1, 1) := by decide +kernel
theorem dX3_dropPlan_8 : decode cX3_dropPlan 8 = .ok (.aload_n 0, 1) := by decide +kernel
theorem dX3_dropPlan_9 : decode cX3_dropPlan 9 = .ok (.getfield 60, 3) := by decide +kernel
theorem dX3_dropPlan_12 : decode cX3_dropPlan 12 = .ok (.invokevirtual 176, 3) := by decide +kernel
theorem dX3_dropPlan_15 : decode cX3_dropPlan 15 = .ok (.iload_n 1, 1) := by decide +kernel
theorem dX3_dropPlan_16 : decode cX3_dropPlan 16 = .ok (.ireturn, 1) := by decide +kernel
set_option maxRecDepth 20000 in
theorem ggX3_carryOut_X3_planIsPossible : GoodIn wsX3_carryOut wsX3_planIsPossible := goodIn_r _ [8, 3, 9, 10, 11, 12, 13, 14, 15, 16, 17, 18, 19, 20, 21, 22, 23, 24, 25, 26, 27, 28, 29, 7, 30, 31, 32, 33, 34, 35, 36, 37, 38, 39, 40, 41, 42, 43, 44, 45, 46, 47, 48, 49, 50, 51, 96, 97, 98, 99, 100, 101, 102, 103, 104, 105, 106, 107, 108, 109, 110, 111, 112, 113, 114, 115, 116, 117, 118, 119, 120, 121] (by decide +kernel) (by decide +kernel)
set_option maxRecDepth 20000 in
theorem gX3_carryOut_X3_planIsPossible : GoodIn wsX3_carryOut (wsV RX3 179 RX3 yX3_planIsPossible wsX3_planIsPossible) := goodIn_app (goodIn_of _ (by decide +kernel)) ggX3_carryOut_X3_planIsPossible
set_option maxRecDepth 20000 in
theorem ggX3_carryOut_X1_size : GoodIn wsX3_carryOut wsX1_size := goodIn_r _ [13, 14, 115, 116, 117, 118, 119] (by decide +kernel) (by decide +kernel)
set_option maxRecDepth 20000 in
theorem gX3_carryOut_X1_size : GoodIn wsX3_carryOut (wsV RX3 167 RX1 yX1_size wsX1_size) := goodIn_app (goodIn_of _ (by decide +kernel)) ggX3_carryOut_X1_size
set_option maxRecDepth 20000 in
theorem ggX3_carryOut_X3_pullPlannedEnds : GoodIn wsX3_carryOut wsX3_pullPlannedEnds := goodIn_r _ [55, 3, 31, 56, 9, 10, 11, 12, 13, 14, 15, 16, 17, 18, 19, 20, 21, 22, 23, 24, 25, 26, 32, 57, 58, 59, 60, 61, 62, 63, 64, 65, 66, 67, 68, 69, 7, 70, 71, 96, 97, 98, 99, 100, 101, 102, 103, 104, 105, 106, 107, 108, 109, 110, 111, 112, 113, 114, 115, 116, 117, 118, 119, 120, 121] (by decide +kernel) (by decide +kernel)
set_option maxRecDepth 20000 in
theorem gX3_carryOut_X3_pullPlannedEnds : GoodIn wsX3_carryOut (wsV RX3 185 RX3 yX3_pullPlannedEnds wsX3_pullPlannedEnds) := goodIn_app (goodIn_of _ (by decide +kernel)) ggX3_carryOut_X3_pullPlannedEnds
set_option maxRecDepth 20000 in
theorem ggX3_carryOut_X3_plugPlannedEnds : GoodIn wsX3_carryOut wsX3_plugPlannedEnds := goodIn_r _ [75, 3, 9, 10, 11, 12, 13, 14, 76, 77, 78, 79, 61, 20, 21, 22, 23, 24, 25, 26, 80, 81, 82, 83, 37, 16, 17, 18, 19, 38, 39, 40, 41, 42, 43, 84, 85, 86, 87, 62, 88, 89, 90, 7, 91, 31, 56, 71, 64, 65, 66, 96, 97, 98, 99, 100, 101, 102, 103, 104, 105, 106, 107, 108, 109, 110, 111, 112, 113, 114, 115, 116, 117, 118, 119, 120, 121] (by decide +kernel) (by decide +kernel)
set_option maxRecDepth 20000 in
theorem gX3_carryOut_X3_plugPlannedEnds : GoodIn wsX3_carryOut (wsV RX3 188 RX3 yX3_plugPlannedEnds wsX3_plugPlannedEnds) := goodIn_app (goodIn_of _ (by decide +kernel)) ggX3_carryOut_X3_plugPlannedEnds
set_option maxRecDepth 20000 in
theorem ggX3_carryOut_X1_clear : GoodIn wsX3_carryOut wsX1_clear := goodIn_r _ [95, 14, 115, 116, 117, 118, 119] (by decide +kernel) (by decide +kernel)
set_option maxRecDepth 20000 in
theorem gX3_carryOut_X1_clear : GoodIn wsX3_carryOut (wsV RX3 176 RX1 yX1_clear wsX1_clear) := goodIn_app (goodIn_of _ (by decide +kernel)) ggX3_carryOut_X1_clear
theorem dX3_carryOut_0 : decode cX3_carryOut 0 = .ok (.aload_n 0, 1) := by decide +kernel
theorem dX3_carryOut_1 : decode cX3_carryOut 1 = .ok (.invokevirtual 179, 3) := by decide +kernel
theorem dX3_carryOut_4 : decode cX3_carryOut 4 = .ok (.ifCond .ne 13, 3) := by decide +kernel
theorem dX3_carryOut_7 : decode cX3_carryOut 7 = .ok (.new 94, 3) := by decide +kernel
theorem dX3_carryOut_10 : decode cX3_carryOut 10 = .ok (.dup, 1) := by decide +kernel
theorem dX3_carryOut_11 : decode cX3_carryOut 11 = .ok (.ldc 183, 2) := by decide +kernel
theorem dX3_carryOut_13 : decode cX3_carryOut 13 = .ok (.invokespecial 98, 3) := by decide +kernel
theorem dX3_carryOut_16 : decode cX3_carryOut 16 = .ok (.athrow, 1) := by decide +kernel
theorem dX3_carryOut_17 : decode cX3_carryOut 17 = .ok (.aload_n 0, 1) := by decide +kernel
theorem dX3_carryOut_18 : decode cX3_carryOut 18 = .ok (.getfield 60, 3) := by decide +kernel
theorem dX3_carryOut_21 : decode cX3_carryOut 21 = .ok (.invokevirtual 167, 3) := by decide +kernel
theorem dX3_carryOut_24 : decode cX3_carryOut 24 = .ok (.istore_n 1, 1) := by decide +kernel
theorem dX3_carryOut_25 : decode cX3_carryOut 25 = .ok (.aload_n 0, 1) := by decide +kernel
theorem dX3_carryOut_26 : decode cX3_carryOut 26 = .ok (.invokevirtual 185, 3) := by decide +kernel
theorem dX3_carryOut_29 : decode cX3_carryOut 29 = .ok (.aload_n 0, 1) := by decide +kernel
theorem dX3_carryOut_30 : decode cX3_carryOut 30 = .ok (.invokevirtual 188, 3) := by decide +kernel
theorem dX3_carryOut_33 : decode cX3_carryOut 33 = .ok (.aload_n 0, 1) := by decide +kernel
theorem dX3_carryOut_34 : decode cX3_carryOut 34 = .ok (.getfield 60, 3) := by decide +kernel
theorem dX3_carryOut_37 : decode cX3_carryOut 37 = .ok (.invokevirtual 176, 3) := by decide +kernel
theorem dX3_carryOut_40 : decode cX3_carryOut 40 = .ok (.iload_n 1, 1) := by decide +kernel
theorem dX3_carryOut_41 : decode cX3_carryOut 41 = .ok (.ireturn, 1) := by decide +kernel
theorem dX3_ports_0 : decode cX3_ports 0 = .ok (.aload_n 0, 1) := by decide +kernel
theorem dX3_ports_1 : decode cX3_ports 1 = .ok (.getfield 77, 3) := by decide +kernel
theorem dX3_ports_4 : decode cX3_ports 4 = .ok (.ireturn, 1) := by decide +kernel
theorem dX3_trunks_0 : decode cX3_trunks 0 = .ok (.aload_n 0, 1) := by decide +kernel
theorem dX3_trunks_1 : decode cX3_trunks 1 = .ok (.getfield 80, 3) := by decide +kernel
theorem dX3_trunks_4 : decode cX3_trunks 4 = .ok (.ireturn, 1) := by decide +kernel
set_option maxRecDepth 20000 in
theorem ggX3_cables_X3_isLowerEnd : GoodIn wsX3_cables wsX3_isLowerEnd := goodIn_r _ [6, 7, 8, 9, 10, 11, 12, 13, 14, 15, 16, 17, 18, 19, 20, 21, 22, 23, 24, 25, 26, 27, 28, 29, 30, 31, 32, 33, 34, 35] (by decide +kernel) (by decide +kernel)
set_option maxRecDepth 20000 in
theorem gX3_cables_X3_isLowerEnd : GoodIn wsX3_cables (wsV RX3 191 RX3 yX3_isLowerEnd wsX3_isLowerEnd) := goodIn_app (goodIn_of _ (by decide +kernel)) ggX3_cables_X3_isLowerEnd
theorem dX3_cables_0 : decode cX3_cables 0 = .ok (.iconst 0, 1) := by decide +kernel
theorem dX3_cables_1 : decode cX3_cables 1 = .ok (.istore_n 1, 1) := by decide +kernel
theorem dX3_cables_2 : decode cX3_cables 2 = .ok (.iconst 0, 1) := by decide +kernel
theorem dX3_cables_3 : decode cX3_cables 3 = .ok (.istore_n 2, 1) := by decide +kernel
theorem dX3_cables_4 : decode cX3_cables 4 = .ok (.iload_n 2, 1) := by decide +kernel
theorem dX3_cables_5 : decode cX3_cables 5 = .ok (.aload_n 0, 1) := by decide +kernel
theorem dX3_cables_6 : decode cX3_cables 6 = .ok (.getfield 77, 3) := by decide +kernel
theorem dX3_cables_9 : decode cX3_cables 9 = .ok (.if_icmp .ge 20, 3) := by decide +kernel
theorem dX3_cables_12 : decode cX3_cables 12 = .ok (.aload_n 0, 1) := by decide +kernel
theorem dX3_cables_13 : decode cX3_cables 13 = .ok (.iload_n 2, 1) := by decide +kernel
theorem dX3_cables_14 : decode cX3_cables 14 = .ok (.invokevirtual 191, 3) := by decide +kernel
end
section
theorem dX3_cables_17 : decode cX3_cables 17 = .ok (.ifCond .eq 6, 3) := by decide +kernel
theorem dX3_cables_20 : decode cX3_cables 20 = .ok (.iinc 1 1, 3) := by decide +kernel
theorem dX3_cables_23 : decode cX3_cables 23 = .ok (.iinc 2 1, 3) := by decide +kernel
theorem dX3_cables_26 : decode cX3_cables 26 = .ok (.goto (-22), 3) := by decide +kernel
theorem dX3_cables_29 : decode cX3_cables 29 = .ok (.iload_n 1, 1) := by decide +kernel
theorem dX3_cables_30 : decode cX3_cables 30 = .ok (.ireturn, 1) := by decide +kernel
set_option maxRecDepth 20000 in
theorem ggX3_panelOf_X3_checkPort : GoodIn wsX3_panelOf wsX3_checkPort := goodIn_ca (goodIn_r _ [6, 7, 8, 9, 10, 11, 5, 12, 20, 21, 22, 23, 24, 25, 26, 27, 28, 29, 30, 31, 32, 33, 34, 35, 36, 37, 38] (by decide +kernel) (by decide +kernel)) (goodIn_sub (fun _ h => List.mem_cons_of_mem _ (List.mem_append_right _ h)) (by decide +kernel))
set_option maxRecDepth 20000 in
theorem gX3_panelOf_X3_checkPort : GoodIn wsX3_panelOf (wsV RX3 102 RX3 yX3_checkPort wsX3_checkPort) := goodIn_app (goodIn_of _ (by decide +kernel)) ggX3_panelOf_X3_checkPort
set_option maxRecDepth 20000 in
theorem ggX3_panelOf_X2_at : GoodIn wsX3_panelOf wsX2_at := goodIn_r _ [17, 18, 19, 39, 40] (by decide +kernel) (by decide +kernel)
set_option maxRecDepth 20000 in
theorem gX3_panelOf_X2_at : GoodIn wsX3_panelOf (wsV RX3 107 RX2 yX2_at wsX2_at) := goodIn_app (goodIn_of _ (by decide +kernel)) ggX3_panelOf_X2_at
theorem dX3_panelOf_0 : decode cX3_panelOf 0 = .ok (.aload_n 0, 1) := by decide +kernel
theorem dX3_panelOf_1 : decode cX3_panelOf 1 = .ok (.iload_n 1, 1) := by decide +kernel
theorem dX3_panelOf_2 : decode cX3_panelOf 2 = .ok (.invokevirtual 102, 3) := by decide +kernel
theorem dX3_panelOf_5 : decode cX3_panelOf 5 = .ok (.aload_n 0, 1) := by decide +kernel
theorem dX3_panelOf_6 : decode cX3_panelOf 6 = .ok (.getfield 24, 3) := by decide +kernel
theorem dX3_panelOf_9 : decode cX3_panelOf 9 = .ok (.iload_n 1, 1) := by decide +kernel
theorem dX3_panelOf_10 : decode cX3_panelOf 10 = .ok (.invokevirtual 107, 3) := by decide +kernel
theorem dX3_panelOf_13 : decode cX3_panelOf 13 = .ok (.ireturn, 1) := by decide +kernel
set_option maxRecDepth 20000 in
theorem ggX3_byCable_X3_checkPort : GoodIn wsX3_byCable wsX3_checkPort := goodIn_ca (goodIn_r _ [6, 7, 8, 9, 10, 11, 5, 12, 20, 21, 22, 23, 24, 25, 26, 27, 28, 29, 30, 31, 32, 33, 34, 35, 36, 37, 38] (by decide +kernel) (by decide +kernel)) (goodIn_sub (fun _ h => List.mem_cons_of_mem _ (List.mem_append_right _ h)) (by decide +kernel))
set_option maxRecDepth 20000 in
theorem gX3_byCable_X3_checkPort : GoodIn wsX3_byCable (wsV RX3 102 RX3 yX3_checkPort wsX3_checkPort) := goodIn_app (goodIn_of _ (by decide +kernel)) ggX3_byCable_X3_checkPort
set_option maxRecDepth 20000 in
theorem ggX3_byCable_X2_at : GoodIn wsX3_byCable wsX2_at := goodIn_r _ [17, 18, 19, 39, 40] (by decide +kernel) (by decide +kernel)
set_option maxRecDepth 20000 in
theorem gX3_byCable_X2_at : GoodIn wsX3_byCable (wsV RX3 107 RX2 yX2_at wsX2_at) := goodIn_app (goodIn_of _ (by decide +kernel)) ggX3_byCable_X2_at
theorem dX3_byCable_0 : decode cX3_byCable 0 = .ok (.aload_n 0, 1) := by decide +kernel
theorem dX3_byCable_1 : decode cX3_byCable 1 = .ok (.iload_n 1, 1) := by decide +kernel
theorem dX3_byCable_2 : decode cX3_byCable 2 = .ok (.invokevirtual 102, 3) := by decide +kernel
theorem dX3_byCable_5 : decode cX3_byCable 5 = .ok (.aload_n 0, 1) := by decide +kernel
theorem dX3_byCable_6 : decode cX3_byCable 6 = .ok (.getfield 27, 3) := by decide +kernel
theorem dX3_byCable_9 : decode cX3_byCable 9 = .ok (.iload_n 1, 1) := by decide +kernel
theorem dX3_byCable_10 : decode cX3_byCable 10 = .ok (.invokevirtual 107, 3) := by decide +kernel
theorem dX3_byCable_13 : decode cX3_byCable 13 = .ok (.ireturn, 1) := by decide +kernel
set_option maxRecDepth 20000 in
theorem ggX3_byStrand_X3_checkPort : GoodIn wsX3_byStrand wsX3_checkPort := goodIn_ca (goodIn_r _ [6, 7, 8, 9, 10, 11, 5, 12, 20, 21, 22, 23, 24, 25, 26, 27, 28, 29, 30, 31, 32, 33, 34, 35, 36, 37, 38] (by decide +kernel) (by decide +kernel)) (goodIn_sub (fun _ h => List.mem_cons_of_mem _ (List.mem_append_right _ h)) (by decide +kernel))
set_option maxRecDepth 20000 in
theorem gX3_byStrand_X3_checkPort : GoodIn wsX3_byStrand (wsV RX3 102 RX3 yX3_checkPort wsX3_checkPort) := goodIn_app (goodIn_of _ (by decide +kernel)) ggX3_byStrand_X3_checkPort
set_option maxRecDepth 20000 in
theorem ggX3_byStrand_X2_at : GoodIn wsX3_byStrand wsX2_at := goodIn_r _ [17, 18, 19, 39, 40] (by decide +kernel) (by decide +kernel)
set_option maxRecDepth 20000 in
theorem gX3_byStrand_X2_at : GoodIn wsX3_byStrand (wsV RX3 107 RX2 yX2_at wsX2_at) := goodIn_app (goodIn_of _ (by decide +kernel)) ggX3_byStrand_X2_at
theorem dX3_byStrand_0 : decode cX3_byStrand 0 = .ok (.aload_n 0, 1) := by decide +kernel
theorem dX3_byStrand_1 : decode cX3_byStrand 1 = .ok (.iload_n 1, 1) := by decide +kernel
theorem dX3_byStrand_2 : decode cX3_byStrand 2 = .ok (.invokevirtual 102, 3) := by decide +kernel
theorem dX3_byStrand_5 : decode cX3_byStrand 5 = .ok (.aload_n 0, 1) := by decide +kernel
theorem dX3_byStrand_6 : decode cX3_byStrand 6 = .ok (.getfield 33, 3) := by decide +kernel
theorem dX3_byStrand_9 : decode cX3_byStrand 9 = .ok (.iload_n 1, 1) := by decide +kernel
theorem dX3_byStrand_10 : decode cX3_byStrand 10 = .ok (.invokevirtual 107, 3) := by decide +kernel
theorem dX3_byStrand_13 : decode cX3_byStrand 13 = .ok (.ireturn, 1) := by decide +kernel
set_option maxRecDepth 20000 in
theorem ggX3_colour_X3_checkPort : GoodIn wsX3_colour wsX3_checkPort := goodIn_ca (goodIn_r _ [6, 7, 8, 9, 10, 11, 5, 12, 20, 21, 22, 23, 24, 25, 26, 27, 28, 29, 30, 31, 32, 33, 34, 35, 36, 37, 38] (by decide +kernel) (by decide +kernel)) (goodIn_sub (fun _ h => List.mem_cons_of_mem _ (List.mem_append_right _ h)) (by decide +kernel))
set_option maxRecDepth 20000 in
theorem gX3_colour_X3_checkPort : GoodIn wsX3_colour (wsV RX3 102 RX3 yX3_checkPort wsX3_checkPort) := goodIn_app (goodIn_of _ (by decide +kernel)) ggX3_colour_X3_checkPort
set_option maxRecDepth 20000 in
theorem ggX3_colour_X2_at : GoodIn wsX3_colour wsX2_at := goodIn_r _ [17, 18, 19, 39, 40] (by decide +kernel) (by decide +kernel)
set_option maxRecDepth 20000 in
theorem gX3_colour_X2_at : GoodIn wsX3_colour (wsV RX3 107 RX2 yX2_at wsX2_at) := goodIn_app (goodIn_of _ (by decide +kernel)) ggX3_colour_X2_at
theorem dX3_colour_0 : decode cX3_colour 0 = .ok (.aload_n 0, 1) := by decide +kernel
theorem dX3_colour_1 : decode cX3_colour 1 = .ok (.iload_n 1, 1) := by decide +kernel
theorem dX3_colour_2 : decode cX3_colour 2 = .ok (.invokevirtual 102, 3) := by decide +kernel
theorem dX3_colour_5 : decode cX3_colour 5 = .ok (.aload_n 0, 1) := by decide +kernel
theorem dX3_colour_6 : decode cX3_colour 6 = .ok (.getfield 30, 3) := by decide +kernel
theorem dX3_colour_9 : decode cX3_colour 9 = .ok (.iload_n 1, 1) := by decide +kernel
theorem dX3_colour_10 : decode cX3_colour 10 = .ok (.invokevirtual 107, 3) := by decide +kernel
theorem dX3_colour_13 : decode cX3_colour 13 = .ok (.ireturn, 1) := by decide +kernel
set_option maxRecDepth 20000 in
theorem ggX3_end_X3_checkPort : GoodIn wsX3_end wsX3_checkPort := goodIn_ca (goodIn_r _ [5, 6, 7, 8, 9, 10, 4, 11, 45, 46, 47, 48, 49, 50, 51, 52, 53, 54, 55, 56, 57, 58, 59, 60, 61, 62, 63] (by decide +kernel) (by decide +kernel)) (goodIn_sub (fun _ h => List.mem_cons_of_mem _ (List.mem_append_right _ h)) (by decide +kernel))
set_option maxRecDepth 20000 in
theorem gX3_end_X3_checkPort : GoodIn wsX3_end (wsV RX3 102 RX3 yX3_checkPort wsX3_checkPort) := goodIn_app (goodIn_of _ (by decide +kernel)) ggX3_end_X3_checkPort
set_option maxRecDepth 20000 in
theorem ggX3_end_X3_trace : GoodIn wsX3_end wsX3_trace := goodIn_r _ [15, 16, 17, 18, 19, 20, 21, 22, 23, 24, 25, 26, 27, 4, 28, 29, 30, 31, 32, 33, 34, 35, 36, 37, 38, 39, 40, 45, 46, 47, 48, 49, 50, 51, 52, 53, 54, 55, 56, 57, 58, 59, 60, 61, 62, 63, 64, 65, 66] (by decide +kernel) (by decide +kernel)
set_option maxRecDepth 20000 in
theorem gX3_end_X3_trace : GoodIn wsX3_end (wsV RX3 194 RX3 yX3_trace wsX3_trace) := goodIn_app (goodIn_of _ (by decide +kernel)) ggX3_end_X3_trace
set_option maxRecDepth 20000 in
theorem ggX3_end_X3_endOfTrail : GoodIn wsX3_end wsX3_endOfTrail := goodIn_r _ [44, 17, 18, 19, 20, 21, 22, 23, 24, 45, 46, 47, 48, 49, 50, 51, 52, 53, 54, 55, 56, 57, 58, 59, 60, 61, 62, 63, 64, 65] (by decide +kernel) (by decide +kernel)
set_option maxRecDepth 20000 in
theorem gX3_end_X3_endOfTrail : GoodIn wsX3_end (wsV RX3 198 RX3 yX3_endOfTrail wsX3_endOfTrail) := goodIn_app (goodIn_of _ (by decide +kernel)) ggX3_end_X3_endOfTrail
theorem dX3_end_0 : decode cX3_end 0 = .ok (.aload_n 0, 1) := by decide +kernel
theorem dX3_end_1 : decode cX3_end 1 = .ok (.iload_n 1, 1) := by decide +kernel
theorem dX3_end_2 : decode cX3_end 2 = .ok (.invokevirtual 102, 3) := by decide +kernel
theorem dX3_end_5 : decode cX3_end 5 = .ok (.aload_n 0, 1) := by decide +kernel
theorem dX3_end_6 : decode cX3_end 6 = .ok (.iload_n 1, 1) := by decide +kernel
theorem dX3_end_7 : decode cX3_end 7 = .ok (.aload_n 0, 1) := by decide +kernel
theorem dX3_end_8 : decode cX3_end 8 = .ok (.iload_n 1, 1) := by decide +kernel
theorem dX3_end_9 : decode cX3_end 9 = .ok (.iload_n 2, 1) := by decide +kernel
theorem dX3_end_10 : decode cX3_end 10 = .ok (.invokevirtual 194, 3) := by decide +kernel
theorem dX3_end_13 : decode cX3_end 13 = .ok (.invokevirtual 198, 3) := by decide +kernel
theorem dX3_end_16 : decode cX3_end 16 = .ok (.ireturn, 1) := by decide +kernel
set_option maxRecDepth 20000 in
theorem ggX3_hops_X3_checkPort : GoodIn wsX3_hops wsX3_checkPort := goodIn_ca (goodIn_r _ [5, 6, 7, 8, 9, 10, 4, 11, 41, 42, 43, 44, 45, 46, 47, 48, 49, 50, 51, 52, 53, 54, 55, 56, 57, 58, 59] (by decide +kernel) (by decide +kernel)) (goodIn_sub (fun _ h => List.mem_cons_of_mem _ (List.mem_append_right _ h)) (by decide +kernel))
set_option maxRecDepth 20000 in
theorem gX3_hops_X3_checkPort : GoodIn wsX3_hops (wsV RX3 102 RX3 yX3_checkPort wsX3_checkPort) := goodIn_app (goodIn_of _ (by decide +kernel)) ggX3_hops_X3_checkPort
set_option maxRecDepth 20000 in
theorem ggX3_hops_X3_trace : GoodIn wsX3_hops wsX3_trace := goodIn_r _ [15, 16, 17, 18, 19, 20, 21, 22, 23, 24, 25, 26, 27, 4, 28, 29, 30, 31, 32, 33, 34, 35, 36, 37, 38, 39, 40, 41, 42, 43, 44, 45, 46, 47, 48, 49, 50, 51, 52, 53, 54, 55, 56, 57, 58, 59, 60, 61, 62] (by decide +kernel) (by decide +kernel)
set_option maxRecDepth 20000 in
theorem gX3_hops_X3_trace : GoodIn wsX3_hops (wsV RX3 194 RX3 yX3_trace wsX3_trace) := goodIn_app (goodIn_of _ (by decide +kernel)) ggX3_hops_X3_trace
theorem dX3_hops_0 : decode cX3_hops 0 = .ok (.aload_n 0, 1) := by decide +kernel
theorem dX3_hops_1 : decode cX3_hops 1 = .ok (.iload_n 1, 1) := by decide +kernel
theorem dX3_hops_2 : decode cX3_hops 2 = .ok (.invokevirtual 102, 3) := by decide +kernel
theorem dX3_hops_5 : decode cX3_hops 5 = .ok (.aload_n 0, 1) := by decide +kernel
theorem dX3_hops_6 : decode cX3_hops 6 = .ok (.iload_n 1, 1) := by decide +kernel
theorem dX3_hops_7 : decode cX3_hops 7 = .ok (.iload_n 2, 1) := by decide +kernel
theorem dX3_hops_8 : decode cX3_hops 8 = .ok (.invokevirtual 194, 3) := by decide +kernel
theorem dX3_hops_11 : decode cX3_hops 11 = .ok (.ireturn, 1) := by decide +kernel
set_option maxRecDepth 20000 in
theorem ggX3_hopTo_X3_checkPort : GoodIn wsX3_hopTo wsX3_checkPort := goodIn_ca (goodIn_r _ [8, 1, 2, 9, 10, 11, 7, 12, 41, 42, 43, 44, 45, 46, 47, 48, 49, 50, 51, 52, 53, 54, 55, 56, 57, 58, 59] (by decide +kernel) (by decide +kernel)) (goodIn_sub (fun _ h => List.mem_cons_of_mem _ (List.mem_append_right _ h)) (by decide +kernel))
set_option maxRecDepth 20000 in
theorem gX3_hopTo_X3_checkPort : GoodIn wsX3_hopTo (wsV RX3 102 RX3 yX3_checkPort wsX3_checkPort) := goodIn_app (goodIn_of _ (by decide +kernel)) ggX3_hopTo_X3_checkPort
set_option maxRecDepth 20000 in
theorem ggX3_hopTo_X3_trace : GoodIn wsX3_hopTo wsX3_trace := goodIn_r _ [16, 17, 3, 18, 19, 20, 21, 22, 23, 24, 25, 26, 27, 7, 28, 29, 30, 31, 32, 33, 34, 35, 36, 37, 38, 39, 40, 41, 42, 43, 44, 45, 46, 47, 48, 49, 50, 51, 52, 53, 54, 55, 56, 57, 58, 59, 60, 61, 62] (by decide +kernel) (by decide +kernel)
set_option maxRecDepth 20000 in
theorem gX3_hopTo_X3_trace : GoodIn wsX3_hopTo (wsV RX3 194 RX3 yX3_trace wsX3_trace) := goodIn_app (goodIn_of _ (by decide +kernel)) ggX3_hopTo_X3_trace
set_option maxRecDepth 20000 in
theorem ggX3_hopTo_X3_isWithin : GoodIn wsX3_hopTo wsX3_isWithin := goodIn_r _ [12] (by decide +kernel) (by decide +kernel)
set_option maxRecDepth 20000 in
theorem gX3_hopTo_X3_isWithin : GoodIn wsX3_hopTo (va_wsS RX3 83 yX3_isWithin wsX3_isWithin) := goodIn_app (goodIn_of _ (by decide +kernel)) ggX3_hopTo_X3_isWithin
set_option maxRecDepth 20000 in
theorem ggX3_hopTo_X2_at : GoodIn wsX3_hopTo wsX2_at := goodIn_r _ [22, 23, 24, 60, 61] (by decide +kernel) (by decide +kernel)
set_option maxRecDepth 20000 in
theorem gX3_hopTo_X2_at : GoodIn wsX3_hopTo (wsV RX3 107 RX2 yX2_at wsX2_at) := goodIn_app (goodIn_of _ (by decide +kernel)) ggX3_hopTo_X2_at
theorem dX3_hopTo_0 : decode cX3_hopTo 0 = .ok (.aload_n 0, 1) := by decide +kernel
theorem dX3_hopTo_1 : decode cX3_hopTo 1 = .ok (.iload_n 1, 1) := by decide +kernel
theorem dX3_hopTo_2 : decode cX3_hopTo 2 = .ok (.invokevirtual 102, 3) := by decide +kernel
theorem dX3_hopTo_5 : decode cX3_hopTo 5 = .ok (.iload_n 3, 1) := by decide +kernel
theorem dX3_hopTo_6 : decode cX3_hopTo 6 = .ok (.iconst 0, 1) := by decide +kernel
theorem dX3_hopTo_7 : decode cX3_hopTo 7 = .ok (.aload_n 0, 1) := by decide +kernel
theorem dX3_hopTo_8 : decode cX3_hopTo 8 = .ok (.iload_n 1, 1) := by decide +kernel
theorem dX3_hopTo_9 : decode cX3_hopTo 9 = .ok (.iload_n 2, 1) := by decide +kernel
theorem dX3_hopTo_10 : decode cX3_hopTo 10 = .ok (.invokevirtual 194, 3) := by decide +kernel
theorem dX3_hopTo_13 : decode cX3_hopTo 13 = .ok (.iconst 1, 1) := by decide +kernel
theorem dX3_hopTo_14 : decode cX3_hopTo 14 = .ok (.isub, 1) := by decide +kernel
theorem dX3_hopTo_15 : decode cX3_hopTo 15 = .ok (.invokestatic 83, 3) := by decide +kernel
theorem dX3_hopTo_18 : decode cX3_hopTo 18 = .ok (.ifCond .ne 13, 3) := by decide +kernel
theorem dX3_hopTo_21 : decode cX3_hopTo 21 = .ok (.new 133, 3) := by decide +kernel
theorem dX3_hopTo_24 : decode cX3_hopTo 24 = .ok (.dup, 1) := by decide +kernel
theorem dX3_hopTo_25 : decode cX3_hopTo 25 = .ok (.ldc 201, 2) := by decide +kernel
theorem dX3_hopTo_27 : decode cX3_hopTo 27 = .ok (.invokespecial 137, 3) := by decide +kernel
theorem dX3_hopTo_30 : decode cX3_hopTo 30 = .ok (.athrow, 1) := by decide +kernel
theorem dX3_hopTo_31 : decode cX3_hopTo 31 = .ok (.aload_n 0, 1) := by decide +kernel
theorem dX3_hopTo_32 : decode cX3_hopTo 32 = .ok (.getfield 64, 3) := by decide +kernel
theorem dX3_hopTo_35 : decode cX3_hopTo 35 = .ok (.iload_n 3, 1) := by decide +kernel
theorem dX3_hopTo_36 : decode cX3_hopTo 36 = .ok (.invokevirtual 107, 3) := by decide +kernel
theorem dX3_hopTo_39 : decode cX3_hopTo 39 = .ok (.ireturn, 1) := by decide +kernel
set_option maxRecDepth 20000 in
theorem ggX3_lengthOf_X3_checkPort : GoodIn wsX3_lengthOf wsX3_checkPort := goodIn_ca (goodIn_r _ [8, 9, 10, 11, 12, 13, 7, 14, 53, 54, 55, 56, 57, 58, 59, 60, 61, 62, 63, 64, 65, 66, 67, 68, 69, 70, 71] (by decide +kernel) (by decide +kernel)) (goodIn_sub (fun _ h => List.mem_cons_of_mem _ (List.mem_append_right _ h)) (by decide +kernel))
set_option maxRecDepth 20000 in
theorem gX3_lengthOf_X3_checkPort : GoodIn wsX3_lengthOf (wsV RX3 102 RX3 yX3_checkPort wsX3_checkPort) := goodIn_app (goodIn_of _ (by decide +kernel)) ggX3_lengthOf_X3_checkPort
set_option maxRecDepth 20000 in
theorem ggX3_lengthOf_X3_trace : GoodIn wsX3_lengthOf wsX3_trace := goodIn_r _ [18, 19, 1, 20, 21, 22, 23, 24, 25, 26, 27, 28, 29, 7, 30, 31, 32, 33, 34, 35, 36, 37, 38, 39, 40, 41, 42, 53, 54, 55, 56, 57, 58, 59, 60, 61, 62, 63, 64, 65, 66, 67, 68, 69, 70, 71, 72, 73, 74] (by decide +kernel) (by decide +kernel)
set_option maxRecDepth 20000 in
theorem gX3_lengthOf_X3_trace : GoodIn wsX3_lengthOf (wsV RX3 194 RX3 yX3_trace wsX3_trace) := goodIn_app (goodIn_of _ (by decide +kernel)) ggX3_lengthOf_X3_trace
set_option maxRecDepth 20000 in
theorem ggX3_lengthOf_X2_at : GoodIn wsX3_lengthOf wsX2_at := goodIn_r _ [24, 25, 26, 72, 73] (by decide +kernel) (by decide +kernel)
set_option maxRecDepth 20000 in
theorem gX3_lengthOf_X2_at : GoodIn wsX3_lengthOf (wsV RX3 107 RX2 yX2_at wsX2_at) := goodIn_app (goodIn_of _ (by decide +kernel)) ggX3_lengthOf_X2_at
set_option maxRecDepth 20000 in
theorem ggX3_lengthOf_X3_lengthBetween : GoodIn wsX3_lengthOf wsX3_lengthBetween := goodIn_r _ [46, 47, 48, 49, 50, 51, 52, 20, 21, 22, 23, 24, 25, 26, 53, 54, 55, 56, 57, 58, 59, 60, 61, 62, 63, 64, 65, 66, 67, 68, 69, 70, 71, 72, 73] (by decide +kernel) (by decide +kernel)
set_option maxRecDepth 20000 in
theorem gX3_lengthOf_X3_lengthBetween : GoodIn wsX3_lengthOf (wsV RX3 156 RX3 yX3_lengthBetween wsX3_lengthBetween) := goodIn_app (goodIn_of _ (by decide +kernel)) ggX3_lengthOf_X3_lengthBetween
theorem dX3_lengthOf_0 : decode cX3_lengthOf 0 = .ok (.aload_n 0, 1) := by decide +kernel
theorem dX3_lengthOf_1 : decode cX3_lengthOf 1 = .ok (.iload_n 1, 1) := by decide +kernel
theorem dX3_lengthOf_2 : decode cX3_lengthOf 2 = .ok (.invokevirtual 102, 3) := by decide +kernel
theorem dX3_lengthOf_5 : decode cX3_lengthOf 5 = .ok (.aload_n 0, 1) := by decide +kernel
theorem dX3_lengthOf_6 : decode cX3_lengthOf 6 = .ok (.iload_n 1, 1) := by decide +kernel
theorem dX3_lengthOf_7 : decode cX3_lengthOf 7 = .ok (.iload_n 2, 1) := by decide +kernel
theorem dX3_lengthOf_8 : decode cX3_lengthOf 8 = .ok (.invokevirtual 194, 3) := by decide +kernel
theorem dX3_lengthOf_11 : decode cX3_lengthOf 11 = .ok (.istore_n 3, 1) := by decide +kernel
theorem dX3_lengthOf_12 : decode cX3_lengthOf 12 = .ok (.iconst 0, 1) := by decide +kernel
theorem dX3_lengthOf_13 : decode cX3_lengthOf 13 = .ok (.istore 4, 2) := by decide +kernel
theorem dX3_lengthOf_15 : decode cX3_lengthOf 15 = .ok (.iload_n 1, 1) := by decide +kernel
theorem dX3_lengthOf_16 : decode cX3_lengthOf 16 = .ok (.istore 5, 2) := by decide +kernel
theorem dX3_lengthOf_18 : decode cX3_lengthOf 18 = .ok (.iload_n 2, 1) := by decide +kernel
theorem dX3_lengthOf_19 : decode cX3_lengthOf 19 = .ok (.istore 6, 2) := by decide +kernel
theorem dX3_lengthOf_21 : decode cX3_lengthOf 21 = .ok (.iconst 0, 1) := by decide +kernel
theorem dX3_lengthOf_22 : decode cX3_lengthOf 22 = .ok (.istore 7, 2) := by decide +kernel
theorem dX3_lengthOf_24 : decode cX3_lengthOf 24 = .ok (.iload 7, 2) := by decide +kernel
theorem dX3_lengthOf_26 : decode cX3_lengthOf 26 = .ok (.iload_n 3, 1) := by decide +kernel
theorem dX3_lengthOf_27 : decode cX3_lengthOf 27 = .ok (.if_icmp .ge 73, 3) := by decide +kernel
theorem dX3_lengthOf_30 : decode cX3_lengthOf 30 = .ok (.aload_n 0, 1) := by decide +kernel
theorem dX3_lengthOf_31 : decode cX3_lengthOf 31 = .ok (.getfield 64, 3) := by decide +kernel
theorem dX3_lengthOf_34 : decode cX3_lengthOf 34 = .ok (.iload 7, 2) := by decide +kernel
theorem dX3_lengthOf_36 : decode cX3_lengthOf 36 = .ok (.invokevirtual 107, 3) := by decide +kernel
theorem dX3_lengthOf_39 : decode cX3_lengthOf 39 = .ok (.istore 8, 2) := by decide +kernel
theorem dX3_lengthOf_41 : decode cX3_lengthOf 41 = .ok (.iload 4, 2) := by decide +kernel
theorem dX3_lengthOf_43 : decode cX3_lengthOf 43 = .ok (.iload 6, 2) := by decide +kernel
theorem dX3_lengthOf_45 : decode cX3_lengthOf 45 = .ok (.ifCond .eq 14, 3) := by decide +kernel
theorem dX3_lengthOf_48 : decode cX3_lengthOf 48 = .ok (.aload_n 0, 1) := by decide +kernel
theorem dX3_lengthOf_49 : decode cX3_lengthOf 49 = .ok (.iload 5, 2) := by decide +kernel
theorem dX3_lengthOf_51 : decode cX3_lengthOf 51 = .ok (.iload 8, 2) := by decide +kernel
theorem dX3_lengthOf_53 : decode cX3_lengthOf 53 = .ok (.invokevirtual 156, 3) := by decide +kernel
theorem dX3_lengthOf_56 : decode cX3_lengthOf 56 = .ok (.goto 19, 3) := by decide +kernel
theorem dX3_lengthOf_59 : decode cX3_lengthOf 59 = .ok (.aload_n 0, 1) := by decide +kernel
theorem dX3_lengthOf_60 : decode cX3_lengthOf 60 = .ok (.getfield 54, 3) := by decide +kernel
theorem dX3_lengthOf_63 : decode cX3_lengthOf 63 = .ok (.aload_n 0, 1) := by decide +kernel
theorem dX3_lengthOf_64 : decode cX3_lengthOf 64 = .ok (.getfield 36, 3) := by decide +kernel
theorem dX3_lengthOf_67 : decode cX3_lengthOf 67 = .ok (.iload 5, 2) := by decide +kernel
theorem dX3_lengthOf_69 : decode cX3_lengthOf 69 = .ok (.invokevirtual 107, 3) := by decide +kernel
theorem dX3_lengthOf_72 : decode cX3_lengthOf 72 = .ok (.invokevirtual 107, 3) := by decide +kernel
theorem dX3_lengthOf_75 : decode cX3_lengthOf 75 = .ok (.iadd, 1) := by decide +kernel
theorem dX3_lengthOf_76 : decode cX3_lengthOf 76 = .ok (.istore 4, 2) := by decide +kernel
theorem dX3_lengthOf_78 : decode cX3_lengthOf 78 = .ok (.iload 8, 2) := by decide +kernel
theorem dX3_lengthOf_80 : decode cX3_lengthOf 80 = .ok (.istore 5, 2) := by decide +kernel
theorem dX3_lengthOf_82 : decode cX3_lengthOf 82 = .ok (.iload 6, 2) := by decide +kernel
theorem dX3_lengthOf_84 : decode cX3_lengthOf 84 = .ok (.ifCond .ne 7, 3) := by decide +kernel
theorem dX3_lengthOf_87 : decode cX3_lengthOf 87 = .ok (.iconst 1, 1) := by decide +kernel
theorem dX3_lengthOf_88 : decode cX3_lengthOf 88 = .ok (.goto 4, 3) := by decide +kernel
theorem dX3_lengthOf_91 : decode cX3_lengthOf 91 = .ok (.iconst 0, 1) := by decide +kernel
theorem dX3_lengthOf_92 : decode cX3_lengthOf 92 = .ok (.istore 6, 2) := by decide +kernel
theorem dX3_lengthOf_94 : decode cX3_lengthOf 94 = .ok (.iinc 7 1, 3) := by decide +kernel
theorem dX3_lengthOf_97 : decode cX3_lengthOf 97 = .ok (.goto (-73), 3) := by decide +kernel
theorem dX3_lengthOf_100 : decode cX3_lengthOf 100 = .ok (.iload 4, 2) := by decide +kernel
theorem dX3_lengthOf_102 : decode cX3_lengthOf 102 = .ok (.ireturn, 1) := by decide +kernel
set_option maxRecDepth 20000 in
theorem ggX3_isRing_X3_checkPort : GoodIn wsX3_isRing wsX3_checkPort := goodIn_ca (goodIn_r _ [5, 6, 7, 8, 9, 10, 4, 11, 45, 46, 47, 48, 49, 50, 51, 52, 53, 54, 55, 56, 57, 58, 59, 60, 61, 62, 63] (by decide +kernel) (by decide +kernel)) (goodIn_sub (fun _ h => List.mem_cons_of_mem _ (List.mem_append_right _ h)) (by decide +kernel))
set_option maxRecDepth 20000 in
theorem gX3_isRing_X3_checkPort : GoodIn wsX3_isRing (wsV RX3 102 RX3 yX3_checkPort wsX3_checkPort) := goodIn_app (goodIn_of _ (by decide +kernel)) ggX3_isRing_X3_checkPort
set_option maxRecDepth 20000 in
theorem ggX3_isRing_X3_trace : GoodIn wsX3_isRing wsX3_trace := goodIn_r _ [15, 16, 17, 18, 19, 20, 21, 22, 23, 24, 25, 26, 27, 4, 28, 29, 30, 31, 32, 33, 34, 35, 36, 37, 38, 39, 40, 45, 46, 47, 48, 49, 50, 51, 52, 53, 54, 55, 56, 57, 58, 59, 60, 61, 62, 63, 64, 65, 66] (by decide +kernel) (by decide +kernel)
set_option maxRecDepth 20000 in
theorem gX3_isRing_X3_trace : GoodIn wsX3_isRing (wsV RX3 194 RX3 yX3_trace wsX3_trace) := goodIn_app (goodIn_of _ (by decide +kernel)) ggX3_isRing_X3_trace
set_option maxRecDepth 20000 in
theorem ggX3_isRing_X3_endOfTrail : GoodIn wsX3_isRing wsX3_endOfTrail := goodIn_r _ [44, 17, 18, 19, 20, 21, 22, 23, 24, 45, 46, 47, 48, 49, 50, 51, 52, 53, 54, 55, 56, 57, 58, 59, 60, 61, 62, 63, 64, 65] (by decide +kernel) (by decide +kernel)
set_option maxRecDepth 20000 in
theorem gX3_isRing_X3_endOfTrail : GoodIn wsX3_isRing (wsV RX3 198 RX3 yX3_endOfTrail wsX3_endOfTrail) := goodIn_app (goodIn_of _ (by decide +kernel)) ggX3_isRing_X3_endOfTrail
theorem dX3_isRing_0 : decode cX3_isRing 0 = .ok (.aload_n 0, 1) := by decide +kernel
theorem dX3_isRing_1 : decode cX3_isRing 1 = .ok (.iload_n 1, 1) := by decide +kernel
theorem dX3_isRing_2 : decode cX3_isRing 2 = .ok (.invokevirtual 102, 3) := by decide +kernel
theorem dX3_isRing_5 : decode cX3_isRing 5 = .ok (.aload_n 0, 1) := by decide +kernel
theorem dX3_isRing_6 : decode cX3_isRing 6 = .ok (.iload_n 1, 1) := by decide +kernel
theorem dX3_isRing_7 : decode cX3_isRing 7 = .ok (.iconst 1, 1) := by decide +kernel
theorem dX3_isRing_8 : decode cX3_isRing 8 = .ok (.invokevirtual 194, 3) := by decide +kernel
theorem dX3_isRing_11 : decode cX3_isRing 11 = .ok (.istore_n 2, 1) := by decide +kernel
theorem dX3_isRing_12 : decode cX3_isRing 12 = .ok (.iload_n 2, 1) := by decide +kernel
theorem dX3_isRing_13 : decode cX3_isRing 13 = .ok (.ifCond .le 17, 3) := by decide +kernel
theorem dX3_isRing_16 : decode cX3_isRing 16 = .ok (.aload_n 0, 1) := by decide +kernel
theorem dX3_isRing_17 : decode cX3_isRing 17 = .ok (.iload_n 1, 1) := by decide +kernel
theorem dX3_isRing_18 : decode cX3_isRing 18 = .ok (.iload_n 2, 1) := by decide +kernel
theorem dX3_isRing_19 : decode cX3_isRing 19 = .ok (.invokevirtual 198, 3) := by decide +kernel
theorem dX3_isRing_22 : decode cX3_isRing 22 = .ok (.iload_n 1, 1) := by decide +kernel
theorem dX3_isRing_23 : decode cX3_isRing 23 = .ok (.if_icmp .ne 7, 3) := by decide +kernel
theorem dX3_isRing_26 : decode cX3_isRing 26 = .ok (.iconst 1, 1) := by decide +kernel
theorem dX3_isRing_27 : decode cX3_isRing 27 = .ok (.goto 4, 3) := by decide +kernel
theorem dX3_isRing_30 : decode cX3_isRing 30 = .ok (.iconst 0, 1) := by decide +kernel
theorem dX3_isRing_31 : decode cX3_isRing 31 = .ok (.ireturn, 1) := by decide +kernel
set_option maxRecDepth 20000 in
theorem ggX3_areJoined_X3_checkPort : GoodIn wsX3_areJoined wsX3_checkPort := goodIn_ca (goodIn_r _ [5, 6, 7, 8, 9, 10, 4, 11, 45, 46, 47, 48, 49, 50, 51, 52, 53, 54, 55, 56, 57, 58, 59, 60, 61, 62, 63] (by decide +kernel) (by decide +kernel)) (goodIn_sub (fun _ h => List.mem_cons_of_mem _ (List.mem_append_right _ h)) (by decide +kernel))
set_option maxRecDepth 20000 in
theorem gX3_areJoined_X3_checkPort : GoodIn wsX3_areJoined (wsV RX3 102 RX3 yX3_checkPort wsX3_checkPort) := goodIn_app (goodIn_of _ (by decide +kernel)) ggX3_areJoined_X3_checkPort
set_option maxRecDepth 20000 in
theorem ggX3_areJoined_X3_trace : GoodIn wsX3_areJoined wsX3_trace := goodIn_r _ [15, 16, 17, 18, 19, 20, 21, 22, 23, 24, 25, 26, 27, 4, 28, 29, 30, 31, 32, 33, 34, 35, 36, 37, 38, 39, 40, 45, 46, 47, 48, 49, 50, 51, 52, 53, 54, 55, 56, 57, 58, 59, 60, 61, 62, 63, 64, 65, 66] (by decide +kernel) (by decide +kernel)
set_option maxRecDepth 20000 in
theorem gX3_areJoined_X3_trace : GoodIn wsX3_areJoined (wsV RX3 194 RX3 yX3_trace wsX3_trace) := goodIn_app (goodIn_of _ (by decide +kernel)) ggX3_areJoined_X3_trace
set_option maxRecDepth 20000 in
theorem ggX3_areJoined_X3_isOnTrail : GoodIn wsX3_areJoined wsX3_isOnTrail := goodIn_r _ [44, 17, 18, 19, 20, 21, 22, 23, 24, 45, 46, 47, 48, 49, 50, 51, 52, 53, 54, 55, 56, 57, 58, 59, 60, 61, 62, 63, 64, 65] (by decide +kernel) (by decide +kernel)
set_option maxRecDepth 20000 in
theorem gX3_areJoined_X3_isOnTrail : GoodIn wsX3_areJoined (wsV RX3 203 RX3 yX3_isOnTrail wsX3_isOnTrail) := goodIn_app (goodIn_of _ (by decide +kernel)) ggX3_areJoined_X3_isOnTrail
theorem dX3_areJoined_0 : decode cX3_areJoined 0 = .ok (.aload_n 0, 1) := by decide +kernel
theorem dX3_areJoined_1 : decode cX3_areJoined 1 = .ok (.iload_n 1, 1) := by decide +kernel
theorem dX3_areJoined_2 : decode cX3_areJoined 2 = .ok (.invokevirtual 102, 3) := by decide +kernel
theorem dX3_areJoined_5 : decode cX3_areJoined 5 = .ok (.aload_n 0, 1) := by decide +kernel
theorem dX3_areJoined_6 : decode cX3_areJoined 6 = .ok (.iload_n 2, 1) := by decide +kernel
theorem dX3_areJoined_7 : decode cX3_areJoined 7 = .ok (.invokevirtual 102, 3) := by decide +kernel
theorem dX3_areJoined_10 : decode cX3_areJoined 10 = .ok (.iload_n 1, 1) := by decide +kernel
theorem dX3_areJoined_11 : decode cX3_areJoined 11 = .ok (.iload_n 2, 1) := by decide +kernel
theorem dX3_areJoined_12 : decode cX3_areJoined 12 = .ok (.if_icmp .eq 31, 3) := by decide +kernel
theorem dX3_areJoined_15 : decode cX3_areJoined 15 = .ok (.aload_n 0, 1) := by decide +kernel
theorem dX3_areJoined_16 : decode cX3_areJoined 16 = .ok (.iload_n 2, 1) := by decide +kernel
theorem dX3_areJoined_17 : decode cX3_areJoined 17 = .ok (.aload_n 0, 1) := by decide +kernel
theorem dX3_areJoined_18 : decode cX3_areJoined 18 = .ok (.iload_n 1, 1) := by decide +kernel
theorem dX3_areJoined_19 : decode cX3_areJoined 19 = .ok (.iconst 1, 1) := by decide +kernel
theorem dX3_areJoined_20 : decode cX3_areJoined 20 = .ok (.invokevirtual 194, 3) := by decide +kernel
theorem dX3_areJoined_23 : decode cX3_areJoined 23 = .ok (.invokevirtual 203, 3) := by decide +kernel
theorem dX3_areJoined_26 : decode cX3_areJoined 26 = .ok (.ifCond .ne 17, 3) := by decide +kernel
theorem dX3_areJoined_29 : decode cX3_areJoined 29 = .ok (.aload_n 0, 1) := by decide +kernel
theorem dX3_areJoined_30 : decode cX3_areJoined 30 = .ok (.iload_n 2, 1) := by decide +kernel
theorem dX3_areJoined_31 : decode cX3_areJoined 31 = .ok (.aload_n 0, 1) := by decide +kernel
theorem dX3_areJoined_32 : decode cX3_areJoined 32 = .ok (.iload_n 1, 1) := by decide +kernel
theorem dX3_areJoined_33 : decode cX3_areJoined 33 = .ok (.iconst 0, 1) := by decide +kernel
theorem dX3_areJoined_34 : decode cX3_areJoined 34 = .ok (.invokevirtual 194, 3) := by decide +kernel
theorem dX3_areJoined_37 : decode cX3_areJoined 37 = .ok (.invokevirtual 203, 3) := by decide +kernel
theorem dX3_areJoined_40 : decode cX3_areJoined 40 = .ok (.ifCond .eq 7, 3) := by decide +kernel
theorem dX3_areJoined_43 : decode cX3_areJoined 43 = .ok (.iconst 1, 1) := by decide +kernel
theorem dX3_areJoined_44 : decode cX3_areJoined 44 = .ok (.goto 4, 3) := by decide +kernel
theorem dX3_areJoined_47 : decode cX3_areJoined 47 = .ok (.iconst 0, 1) := by decide +kernel
theorem dX3_areJoined_48 : decode cX3_areJoined 48 = .ok (.ireturn, 1) := by decide +kernel
set_option maxRecDepth 20000 in
theorem ggX3_areJoinedBySearch_X3_checkPort : GoodIn wsX3_areJoinedBySearch wsX3_checkPort := goodIn_ca (goodIn_r _ [6, 7, 8, 9, 10, 11, 5, 12, 54, 55, 56, 57, 58, 59, 60, 61, 62, 63, 64, 65, 66, 67, 68, 69, 70, 71, 72] (by decide +kernel) (by decide +kernel)) (goodIn_sub (fun _ h => List.mem_cons_of_mem _ (List.mem_append_right _ h)) (by decide +kernel))
set_option maxRecDepth 20000 in
theorem gX3_areJoinedBySearch_X3_checkPort : GoodIn wsX3_areJoinedBySearch (wsV RX3 102 RX3 yX3_checkPort wsX3_checkPort) := goodIn_app (goodIn_of _ (by decide +kernel)) ggX3_areJoinedBySearch_X3_checkPort
set_option maxRecDepth 20000 in
theorem ggX3_areJoinedBySearch_X3_searchFrom : GoodIn wsX3_areJoinedBySearch wsX3_searchFrom := goodIn_r _ [16, 1, 17, 18, 19, 20, 21, 22, 23, 24, 25, 26, 27, 5, 28, 29, 30, 31, 32, 33, 34, 35, 36, 37, 38, 39, 40, 41, 42, 43, 44, 45, 46, 47, 48, 49, 50, 51, 52, 53, 54, 55, 56, 57, 58, 59, 60, 61, 62, 63, 64, 65, 66, 67, 68, 69, 70, 71, 72, 73, 74, 75] (by decide +kernel) (by decide +kernel)
set_option maxRecDepth 20000 in
theorem gX3_areJoinedBySearch_X3_searchFrom : GoodIn wsX3_areJoinedBySearch (wsV RX3 206 RX3 yX3_searchFrom wsX3_searchFrom) := goodIn_app (goodIn_of _ (by decide +kernel)) ggX3_areJoinedBySearch_X3_searchFrom
set_option maxRecDepth 20000 in
theorem ggX3_areJoinedBySearch_X0_has : GoodIn wsX3_areJoinedBySearch wsX0_has := goodIn_r _ [32, 24, 73] (by decide +kernel) (by decide +kernel)
set_option maxRecDepth 20000 in
theorem gX3_areJoinedBySearch_X0_has : GoodIn wsX3_areJoinedBySearch (wsV RX3 138 RX0 yX0_has wsX0_has) := goodIn_app (goodIn_of _ (by decide +kernel)) ggX3_areJoinedBySearch_X0_has
theorem dX3_areJoinedBySearch_0 : decode cX3_areJoinedBySearch 0 = .ok (.aload_n 0, 1) := by decide +kernel
theorem dX3_areJoinedBySearch_1 : decode cX3_areJoinedBySearch 1 = .ok (.iload_n 1, 1) := by decide +kernel
theorem dX3_areJoinedBySearch_2 : decode cX3_areJoinedBySearch 2 = .ok (.invokevirtual 102, 3) := by decide +kernel
theorem dX3_areJoinedBySearch_5 : decode cX3_areJoinedBySearch 5 = .ok (.aload_n 0, 1) := by decide +kernel
theorem dX3_areJoinedBySearch_6 : decode cX3_areJoinedBySearch 6 = .ok (.iload_n 2, 1) := by decide +kernel
theorem dX3_areJoinedBySearch_7 : decode cX3_areJoinedBySearch 7 = .ok (.invokevirtual 102, 3) := by decide +kernel
theorem dX3_areJoinedBySearch_10 : decode cX3_areJoinedBySearch 10 = .ok (.aload_n 0, 1) := by decide +kernel
theorem dX3_areJoinedBySearch_11 : decode cX3_areJoinedBySearch 11 = .ok (.iload_n 1, 1) := by decide +kernel
theorem dX3_areJoinedBySearch_12 : decode cX3_areJoinedBySearch 12 = .ok (.invokevirtual 206, 3) := by decide +kernel
theorem dX3_areJoinedBySearch_15 : decode cX3_areJoinedBySearch 15 = .ok (.aload_n 0, 1) := by decide +kernel
theorem dX3_areJoinedBySearch_16 : decode cX3_areJoinedBySearch 16 = .ok (.getfield 70, 3) := by decide +kernel
theorem dX3_areJoinedBySearch_19 : decode cX3_areJoinedBySearch 19 = .ok (.iload_n 2, 1) := by decide +kernel
theorem dX3_areJoinedBySearch_20 : decode cX3_areJoinedBySearch 20 = .ok (.invokevirtual 138, 3) := by decide +kernel
theorem dX3_areJoinedBySearch_23 : decode cX3_areJoinedBySearch 23 = .ok (.ireturn, 1) := by decide +kernel
set_option maxRecDepth 20000 in
theorem ggX3_lines_X0_clear : GoodIn wsX3_lines wsX0_clear := goodIn_r _ [7, 8, 64] (by decide +kernel) (by decide +kernel)
set_option maxRecDepth 20000 in
theorem gX3_lines_X0_clear : GoodIn wsX3_lines (wsV RX3 209 RX0 yX0_clear wsX0_clear) := goodIn_app (goodIn_of _ (by decide +kernel)) ggX3_lines_X0_clear
set_option maxRecDepth 20000 in
theorem ggX3_lines_X0_has : GoodIn wsX3_lines wsX0_has := goodIn_r _ [12, 8, 64] (by decide +kernel) (by decide +kernel)
set_option maxRecDepth 20000 in
theorem gX3_lines_X0_has : GoodIn wsX3_lines (wsV RX3 138 RX0 yX0_has wsX0_has) := goodIn_app (goodIn_of _ (by decide +kernel)) ggX3_lines_X0_has
set_option maxRecDepth 20000 in
theorem ggX3_lines_X0_set : GoodIn wsX3_lines wsX0_set := goodIn_r _ [16, 8, 64] (by decide +kernel) (by decide +kernel)
set_option maxRecDepth 20000 in
theorem gX3_lines_X0_set : GoodIn wsX3_lines (wsV RX3 142 RX0 yX0_set wsX0_set) := goodIn_app (goodIn_of _ (by decide +kernel)) ggX3_lines_X0_set
set_option maxRecDepth 20000 in
theorem ggX3_lines_X3_trace : GoodIn wsX3_lines wsX3_trace := goodIn_r _ [21, 22, 23, 24, 25, 26, 27, 28, 29, 30, 31, 32, 33, 20, 34, 35, 36, 9, 10, 11, 6, 12, 8, 37, 38, 39, 40, 45, 46, 47, 48, 49, 50, 51, 52, 53, 54, 55, 56, 57, 58, 59, 60, 61, 62, 63, 65, 66, 64] (by decide +kernel) (by decide +kernel)
set_option maxRecDepth 20000 in
theorem gX3_lines_X3_trace : GoodIn wsX3_lines (wsV RX3 194 RX3 yX3_trace wsX3_trace) := goodIn_app (goodIn_of _ (by decide +kernel)) ggX3_lines_X3_trace
set_option maxRecDepth 20000 in
theorem ggX3_lines_X3_markTrail : GoodIn wsX3_lines wsX3_markTrail := goodIn_r _ [44, 1, 23, 24, 25, 26, 27, 28, 29, 30, 13, 14, 15, 6, 16, 8, 45, 46, 47, 48, 49, 50, 51, 52, 53, 54, 55, 56, 57, 58, 59, 60, 61, 62, 63, 65, 66, 64] (by decide +kernel) (by decide +kernel)
set_option maxRecDepth 20000 in
theorem gX3_lines_X3_markTrail : GoodIn wsX3_lines (wsV RX3 210 RX3 yX3_markTrail wsX3_markTrail) := goodIn_app (goodIn_of _ (by decide +kernel)) ggX3_lines_X3_markTrail
theorem dX3_lines_0 : decode cX3_lines 0 = .ok (.aload_n 0, 1) := by decide +kernel
theorem dX3_lines_1 : decode cX3_lines 1 = .ok (.getfield 70, 3) := by decide +kernel
theorem dX3_lines_4 : decode cX3_lines 4 = .ok (.invokevirtual 209, 3) := by decide +kernel
theorem dX3_lines_7 : decode cX3_lines 7 = .ok (.iconst 0, 1) := by decide +kernel
theorem dX3_lines_8 : decode cX3_lines 8 = .ok (.istore_n 1, 1) := by decide +kernel
theorem dX3_lines_9 : decode cX3_lines 9 = .ok (.iconst 0, 1) := by decide +kernel
theorem dX3_lines_10 : decode cX3_lines 10 = .ok (.istore_n 2, 1) := by decide +kernel
theorem dX3_lines_11 : decode cX3_lines 11 = .ok (.iload_n 2, 1) := by decide +kernel
theorem dX3_lines_12 : decode cX3_lines 12 = .ok (.aload_n 0, 1) := by decide +kernel
theorem dX3_lines_13 : decode cX3_lines 13 = .ok (.getfield 77, 3) := by decide +kernel
theorem dX3_lines_16 : decode cX3_lines 16 = .ok (.if_icmp .ge 52, 3) := by decide +kernel
theorem dX3_lines_19 : decode cX3_lines 19 = .ok (.aload_n 0, 1) := by decide +kernel
theorem dX3_lines_20 : decode cX3_lines 20 = .ok (.getfield 70, 3) := by decide +kernel
theorem dX3_lines_23 : decode cX3_lines 23 = .ok (.iload_n 2, 1) := by decide +kernel
theorem dX3_lines_24 : decode cX3_lines 24 = .ok (.invokevirtual 138, 3) := by decide +kernel
theorem dX3_lines_27 : decode cX3_lines 27 = .ok (.ifCond .ne 35, 3) := by decide +kernel
theorem dX3_lines_30 : decode cX3_lines 30 = .ok (.iinc 1 1, 3) := by decide +kernel
theorem dX3_lines_33 : decode cX3_lines 33 = .ok (.aload_n 0, 1) := by decide +kernel
theorem dX3_lines_34 : decode cX3_lines 34 = .ok (.getfield 70, 3) := by decide +kernel
theorem dX3_lines_37 : decode cX3_lines 37 = .ok (.iload_n 2, 1) := by decide +kernel
theorem dX3_lines_38 : decode cX3_lines 38 = .ok (.iconst 1, 1) := by decide +kernel
theorem dX3_lines_39 : decode cX3_lines 39 = .ok (.invokevirtual 142, 3) := by decide +kernel
theorem dX3_lines_42 : decode cX3_lines 42 = .ok (.aload_n 0, 1) := by decide +kernel
theorem dX3_lines_43 : decode cX3_lines 43 = .ok (.aload_n 0, 1) := by decide +kernel
theorem dX3_lines_44 : decode cX3_lines 44 = .ok (.iload_n 2, 1) := by decide +kernel
theorem dX3_lines_45 : decode cX3_lines 45 = .ok (.iconst 1, 1) := by decide +kernel
theorem dX3_lines_46 : decode cX3_lines 46 = .ok (.invokevirtual 194, 3) := by decide +kernel
theorem dX3_lines_49 : decode cX3_lines 49 = .ok (.invokevirtual 210, 3) := by decide +kernel
theorem dX3_lines_52 : decode cX3_lines 52 = .ok (.aload_n 0, 1) := by decide +kernel
theorem dX3_lines_53 : decode cX3_lines 53 = .ok (.aload_n 0, 1) := by decide +kernel
theorem dX3_lines_54 : decode cX3_lines 54 = .ok (.iload_n 2, 1) := by decide +kernel
theorem dX3_lines_55 : decode cX3_lines 55 = .ok (.iconst 0, 1) := by decide +kernel
theorem dX3_lines_56 : decode cX3_lines 56 = .ok (.invokevirtual 194, 3) := by decide +kernel
theorem dX3_lines_59 : decode cX3_lines 59 = .ok (.invokevirtual 210, 3) := by decide +kernel
theorem dX3_lines_62 : decode cX3_lines 62 = .ok (.iinc 2 1, 3) := by decide +kernel
theorem dX3_lines_65 : decode cX3_lines 65 = .ok (.goto (-54), 3) := by decide +kernel
theorem dX3_lines_68 : decode cX3_lines 68 = .ok (.iload_n 1, 1) := by decide +kernel
theorem dX3_lines_69 : decode cX3_lines 69 = .ok (.ireturn, 1) := by decide +kernel
set_option maxRecDepth 20000 in
theorem ggX3_freePort_X3_checkPanel : GoodIn wsX3_freePort wsX3_checkPanel := goodIn_ca (goodIn_r _ [7, 8, 9, 10, 11, 12, 6, 13, 31, 32, 33, 34, 35, 36, 37, 38, 39, 40, 41, 42, 43, 44, 45, 46, 47, 48, 49] (by decide +kernel) (by decide +kernel)) (goodIn_sub (fun _ h => List.mem_cons_of_mem _ (List.mem_append_right _ h)) (by decide +kernel))
set_option maxRecDepth 20000 in
theorem gX3_freePort_X3_checkPanel : GoodIn wsX3_freePort (wsV RX3 213 RX3 yX3_checkPanel wsX3_checkPanel) := goodIn_app (goodIn_of _ (by decide +kernel)) ggX3_freePort_X3_checkPanel
set_option maxRecDepth 20000 in
theorem ggX3_freePort_X2_at : GoodIn wsX3_freePort wsX2_at := goodIn_r _ [18, 19, 20, 50, 51] (by decide +kernel) (by decide +kernel)
set_option maxRecDepth 20000 in
theorem gX3_freePort_X2_at : GoodIn wsX3_freePort (wsV RX3 107 RX2 yX2_at wsX2_at) := goodIn_app (goodIn_of _ (by decide +kernel)) ggX3_freePort_X2_at
set_option maxRecDepth 20000 in
theorem ggX3_freePort_X3_hasCable : GoodIn wsX3_freePort wsX3_hasCable := goodIn_r _ [24, 25, 14, 15, 16, 17, 18, 19, 20, 31, 32, 33, 34, 35, 36, 37, 38, 39, 40, 41, 42, 43, 44, 45, 46, 47, 48, 49, 50, 51] (by decide +kernel) (by decide +kernel)
set_option maxRecDepth 20000 in
theorem gX3_freePort_X3_hasCable : GoodIn wsX3_freePort (wsV RX3 148 RX3 yX3_hasCable wsX3_hasCable) := goodIn_app (goodIn_of _ (by decide +kernel)) ggX3_freePort_X3_hasCable
set_option maxRecDepth 20000 in
theorem ggX3_freePort_X3_hasStrand : GoodIn wsX3_freePort wsX3_hasStrand := goodIn_r _ [29, 30, 14, 15, 16, 17, 18, 19, 20, 31, 32, 33, 34, 35, 36, 37, 38, 39, 40, 41, 42, 43, 44, 45, 46, 47, 48, 49, 50, 51] (by decide +kernel) (by decide +kernel)
set_option maxRecDepth 20000 in
theorem gX3_freePort_X3_hasStrand : GoodIn wsX3_freePort (wsV RX3 216 RX3 yX3_hasStrand wsX3_hasStrand) := goodIn_app (goodIn_of _ (by decide +kernel)) ggX3_freePort_X3_hasStrand
theorem dX3_freePort_0 : decode cX3_freePort 0 = .ok (.aload_n 0, 1) := by decide +kernel
theorem dX3_freePort_1 : decode cX3_freePort 1 = .ok (.iload_n 1, 1) := by decide +kernel
theorem dX3_freePort_2 : decode cX3_freePort 2 = .ok (.invokevirtual 213, 3) := by decide +kernel
theorem dX3_freePort_5 : decode cX3_freePort 5 = .ok (.aload_n 0, 1) := by decide +kernel
theorem dX3_freePort_6 : decode cX3_freePort 6 = .ok (.getfield 18, 3) := by decide +kernel
theorem dX3_freePort_9 : decode cX3_freePort 9 = .ok (.iload_n 1, 1) := by decide +kernel
theorem dX3_freePort_10 : decode cX3_freePort 10 = .ok (.invokevirtual 107, 3) := by decide +kernel
theorem dX3_freePort_13 : decode cX3_freePort 13 = .ok (.istore_n 2, 1) := by decide +kernel
theorem dX3_freePort_14 : decode cX3_freePort 14 = .ok (.aload_n 0, 1) := by decide +kernel
theorem dX3_freePort_15 : decode cX3_freePort 15 = .ok (.getfield 21, 3) := by decide +kernel
theorem dX3_freePort_18 : decode cX3_freePort 18 = .ok (.iload_n 1, 1) := by decide +kernel
theorem dX3_freePort_19 : decode cX3_freePort 19 = .ok (.invokevirtual 107, 3) := by decide +kernel
theorem dX3_freePort_22 : decode cX3_freePort 22 = .ok (.istore_n 3, 1) := by decide +kernel
theorem dX3_freePort_23 : decode cX3_freePort 23 = .ok (.iconst 0, 1) := by decide +kernel
theorem dX3_freePort_24 : decode cX3_freePort 24 = .ok (.istore 4, 2) := by decide +kernel
theorem dX3_freePort_26 : decode cX3_freePort 26 = .ok (.iload 4, 2) := by decide +kernel
theorem dX3_freePort_28 : decode cX3_freePort 28 = .ok (.iload_n 3, 1) := by decide +kernel
theorem dX3_freePort_29 : decode cX3_freePort 29 = .ok (.if_icmp .ge 36, 3) := by decide +kernel
theorem dX3_freePort_32 : decode cX3_freePort 32 = .ok (.aload_n 0, 1) := by decide +kernel
theorem dX3_freePort_33 : decode cX3_freePort 33 = .ok (.iload_n 2, 1) := by decide +kernel
theorem dX3_freePort_34 : decode cX3_freePort 34 = .ok (.iload 4, 2) := by decide +kernel
theorem dX3_freePort_36 : decode cX3_freePort 36 = .ok (.iadd, 1) := by decide +kernel
theorem dX3_freePort_37 : decode cX3_freePort 37 = .ok (.invokevirtual 148, 3) := by decide +kernel
theorem dX3_freePort_40 : decode cX3_freePort 40 = .ok (.ifCond .ne 19, 3) := by decide +kernel
theorem dX3_freePort_43 : decode cX3_freePort 43 = .ok (.aload_n 0, 1) := by decide +kernel
theorem dX3_freePort_44 : decode cX3_freePort 44 = .ok (.iload_n 2, 1) := by decide +kernel
theorem dX3_freePort_45 : decode cX3_freePort 45 = .ok (.iload 4, 2) := by decide +kernel
theorem dX3_freePort_47 : decode cX3_freePort 47 = .ok (.iadd, 1) := by decide +kernel
theorem dX3_freePort_48 : decode cX3_freePort 48 = .ok (.invokevirtual 216, 3) := by decide +kernel
theorem dX3_freePort_51 : decode cX3_freePort 51 = .ok (.ifCond .ne 8, 3) := by decide +kernel
theorem dX3_freePort_54 : decode cX3_freePort 54 = .ok (.iload_n 2, 1) := by decide +kernel
theorem dX3_freePort_55 : decode cX3_freePort 55 = .ok (.iload 4, 2) := by decide +kernel
theorem dX3_freePort_57 : decode cX3_freePort 57 = .ok (.iadd, 1) := by decide +kernel
theorem dX3_freePort_58 : decode cX3_freePort 58 = .ok (.ireturn, 1) := by decide +kernel
theorem dX3_freePort_59 : decode cX3_freePort 59 = .ok (.iinc 4 1, 3) := by decide +kernel
theorem dX3_freePort_62 : decode cX3_freePort 62 = .ok (.goto (-36), 3) := by decide +kernel
theorem dX3_freePort_65 : decode cX3_freePort 65 = .ok (.iconst (-1), 1) := by decide +kernel
theorem dX3_freePort_66 : decode cX3_freePort 66 = .ok (.ireturn, 1) := by decide +kernel
set_option maxRecDepth 20000 in
theorem ggX3_freeStrand_X3_checkPanel : GoodIn wsX3_freeStrand wsX3_checkPanel := goodIn_ca (goodIn_r _ [8, 9, 10, 11, 12, 13, 7, 14, 39, 40, 41, 42, 43, 44, 45, 46, 47, 48, 49, 50, 51, 52, 53, 54, 55, 56, 57] (by decide +kernel) (by decide +kernel)) (goodIn_sub (fun _ h => List.mem_cons_of_mem _ (List.mem_append_right _ h)) (by decide +kernel))
set_option maxRecDepth 20000 in
theorem gX3_freeStrand_X3_checkPanel : GoodIn wsX3_freeStrand (wsV RX3 213 RX3 yX3_checkPanel wsX3_checkPanel) := goodIn_app (goodIn_of _ (by decide +kernel)) ggX3_freeStrand_X3_checkPanel
set_option maxRecDepth 20000 in
theorem ggX3_freeStrand_X2_at : GoodIn wsX3_freeStrand wsX2_at := goodIn_r _ [19, 20, 21, 58, 59] (by decide +kernel) (by decide +kernel)
set_option maxRecDepth 20000 in
theorem gX3_freeStrand_X2_at : GoodIn wsX3_freeStrand (wsV RX3 107 RX2 yX2_at wsX2_at) := goodIn_app (goodIn_of _ (by decide +kernel)) ggX3_freeStrand_X2_at
set_option maxRecDepth 20000 in
theorem ggX3_freeStrand_X3_openStrandFrom : GoodIn wsX3_freeStrand wsX3_openStrandFrom := goodIn_r _ [25, 26, 27, 28, 29, 30, 31, 32, 33, 15, 16, 17, 18, 19, 20, 21, 39, 40, 41, 42, 43, 44, 45, 46, 47, 48, 49, 50, 51, 52, 53, 54, 55, 56, 57, 60, 58, 59] (by decide +kernel) (by decide +kernel)
set_option maxRecDepth 20000 in
theorem gX3_freeStrand_X3_openStrandFrom : GoodIn wsX3_freeStrand (wsV RX3 219 RX3 yX3_openStrandFrom wsX3_openStrandFrom) := goodIn_app (goodIn_of _ (by decide +kernel)) ggX3_freeStrand_X3_openStrandFrom
set_option maxRecDepth 20000 in
theorem ggX3_freeStrand_X3_hasCable : GoodIn wsX3_freeStrand wsX3_hasCable := goodIn_r _ [37, 38, 15, 16, 17, 18, 19, 20, 21, 39, 40, 41, 42, 43, 44, 45, 46, 47, 48, 49, 50, 51, 52, 53, 54, 55, 56, 57, 58, 59] (by decide +kernel) (by decide +kernel)
set_option maxRecDepth 20000 in
theorem gX3_freeStrand_X3_hasCable : GoodIn wsX3_freeStrand (wsV RX3 148 RX3 yX3_hasCable wsX3_hasCable) := goodIn_app (goodIn_of _ (by decide +kernel)) ggX3_freeStrand_X3_hasCable
theorem dX3_freeStrand_0 : decode cX3_freeStrand 0 = .ok (.aload_n 0, 1) := by decide +kernel
theorem dX3_freeStrand_1 : decode cX3_freeStrand 1 = .ok (.iload_n 1, 1) := by decide +kernel
theorem dX3_freeStrand_2 : decode cX3_freeStrand 2 = .ok (.invokevirtual 213, 3) := by decide +kernel
theorem dX3_freeStrand_5 : decode cX3_freeStrand 5 = .ok (.aload_n 0, 1) := by decide +kernel
theorem dX3_freeStrand_6 : decode cX3_freeStrand 6 = .ok (.iload_n 2, 1) := by decide +kernel
theorem dX3_freeStrand_7 : decode cX3_freeStrand 7 = .ok (.invokevirtual 213, 3) := by decide +kernel
theorem dX3_freeStrand_10 : decode cX3_freeStrand 10 = .ok (.aload_n 0, 1) := by decide +kernel
theorem dX3_freeStrand_11 : decode cX3_freeStrand 11 = .ok (.getfield 18, 3) := by decide +kernel
theorem dX3_freeStrand_14 : decode cX3_freeStrand 14 = .ok (.iload_n 1, 1) := by decide +kernel
theorem dX3_freeStrand_15 : decode cX3_freeStrand 15 = .ok (.invokevirtual 107, 3) := by decide +kernel
theorem dX3_freeStrand_18 : decode cX3_freeStrand 18 = .ok (.istore_n 3, 1) := by decide +kernel
theorem dX3_freeStrand_19 : decode cX3_freeStrand 19 = .ok (.aload_n 0, 1) := by decide +kernel
theorem dX3_freeStrand_20 : decode cX3_freeStrand 20 = .ok (.getfield 21, 3) := by decide +kernel
theorem dX3_freeStrand_23 : decode cX3_freeStrand 23 = .ok (.iload_n 1, 1) := by decide +kernel
theorem dX3_freeStrand_24 : decode cX3_freeStrand 24 = .ok (.invokevirtual 107, 3) := by decide +kernel
theorem dX3_freeStrand_27 : decode cX3_freeStrand 27 = .ok (.istore 4, 2) := by decide +kernel
theorem dX3_freeStrand_29 : decode cX3_freeStrand 29 = .ok (.iconst 0, 1) := by decide +kernel
theorem dX3_freeStrand_30 : decode cX3_freeStrand 30 = .ok (.istore 5, 2) := by decide +kernel
theorem dX3_freeStrand_32 : decode cX3_freeStrand 32 = .ok (.iload 5, 2) := by decide +kernel
theorem dX3_freeStrand_34 : decode cX3_freeStrand 34 = .ok (.iload 4, 2) := by decide +kernel
theorem dX3_freeStrand_36 : decode cX3_freeStrand 36 = .ok (.if_icmp .ge 63, 3) := by decide +kernel
theorem dX3_freeStrand_39 : decode cX3_freeStrand 39 = .ok (.aload_n 0, 1) := by decide +kernel
theorem dX3_freeStrand_40 : decode cX3_freeStrand 40 = .ok (.iload_n 3, 1) := by decide +kernel
theorem dX3_freeStrand_41 : decode cX3_freeStrand 41 = .ok (.iload 5, 2) := by decide +kernel
theorem dX3_freeStrand_43 : decode cX3_freeStrand 43 = .ok (.iadd, 1) := by decide +kernel
theorem dX3_freeStrand_44 : decode cX3_freeStrand 44 = .ok (.invokevirtual 219, 3) := by decide +kernel
theorem dX3_freeStrand_47 : decode cX3_freeStrand 47 = .ok (.istore 6, 2) := by decide +kernel
theorem dX3_freeStrand_49 : decode cX3_freeStrand 49 = .ok (.iload 6, 2) := by decide +kernel
theorem dX3_freeStrand_51 : decode cX3_freeStrand 51 = .ok (.iconst (-1), 1) := by decide +kernel
theorem dX3_freeStrand_52 : decode cX3_freeStrand 52 = .ok (.if_icmp .eq 41, 3) := by decide +kernel
theorem dX3_freeStrand_55 : decode cX3_freeStrand 55 = .ok (.aload_n 0, 1) := by decide +kernel
theorem dX3_freeStrand_56 : decode cX3_freeStrand 56 = .ok (.getfield 24, 3) := by decide +kernel
theorem dX3_freeStrand_59 : decode cX3_freeStrand 59 = .ok (.iload 6, 2) := by decide +kernel
theorem dX3_freeStrand_61 : decode cX3_freeStrand 61 = .ok (.invokevirtual 107, 3) := by decide +kernel
theorem dX3_freeStrand_64 : decode cX3_freeStrand 64 = .ok (.iload_n 2, 1) := by decide +kernel
theorem dX3_freeStrand_65 : decode cX3_freeStrand 65 = .ok (.if_icmp .ne 28, 3) := by decide +kernel
theorem dX3_freeStrand_68 : decode cX3_freeStrand 68 = .ok (.aload_n 0, 1) := by decide +kernel
theorem dX3_freeStrand_69 : decode cX3_freeStrand 69 = .ok (.iload_n 3, 1) := by decide +kernel
theorem dX3_freeStrand_70 : decode cX3_freeStrand 70 = .ok (.iload 5, 2) := by decide +kernel
theorem dX3_freeStrand_72 : decode cX3_freeStrand 72 = .ok (.iadd, 1) := by decide +kernel
theorem dX3_freeStrand_73 : decode cX3_freeStrand 73 = .ok (.invokevirtual 148, 3) := by decide +kernel
theorem dX3_freeStrand_76 : decode cX3_freeStrand 76 = .ok (.ifCond .ne 17, 3) := by decide +kernel
theorem dX3_freeStrand_79 : decode cX3_freeStrand 79 = .ok (.aload_n 0, 1) := by decide +kernel
theorem dX3_freeStrand_80 : decode cX3_freeStrand 80 = .ok (.iload 6, 2) := by decide +kernel
theorem dX3_freeStrand_82 : decode cX3_freeStrand 82 = .ok (.invokevirtual 148, 3) := by decide +kernel
theorem dX3_freeStrand_85 : decode cX3_freeStrand 85 = .ok (.ifCond .ne 8, 3) := by decide +kernel
theorem dX3_freeStrand_88 : decode cX3_freeStrand 88 = .ok (.iload_n 3, 1) := by decide +kernel
theorem dX3_freeStrand_89 : decode cX3_freeStrand 89 = .ok (.iload 5, 2) := by decide +kernel
theorem dX3_freeStrand_91 : decode cX3_freeStrand 91 = .ok (.iadd, 1) := by decide +kernel
theorem dX3_freeStrand_92 : decode cX3_freeStrand 92 = .ok (.ireturn, 1) := by decide +kernel
theorem dX3_freeStrand_93 : decode cX3_freeStrand 93 = .ok (.iinc 5 1, 3) := by decide +kernel
theorem dX3_freeStrand_96 : decode cX3_freeStrand 96 = .ok (.goto (-64), 3) := by decide +kernel
theorem dX3_freeStrand_99 : decode cX3_freeStrand 99 = .ok (.iconst (-1), 1) := by decide +kernel
theorem dX3_freeStrand_100 : decode cX3_freeStrand 100 = .ok (.ireturn, 1) := by decide +kernel
set_option maxRecDepth 20000 in
theorem ggX3_used_X3_checkTrunk : GoodIn wsX3_used wsX3_checkTrunk := goodIn_ca (goodIn_r _ [8, 9, 10, 11, 12, 13, 7, 14, 27, 28, 29, 30, 31, 32, 33, 34, 35, 36, 37, 38, 39, 40, 41, 42, 43, 44, 45] (by decide +kernel) (by decide +kernel)) (goodIn_sub (fun _ h => List.mem_cons_of_mem _ (List.mem_append_right _ h)) (by decide +kernel))
set_option maxRecDepth 20000 in
theorem gX3_used_X3_checkTrunk : GoodIn wsX3_used (wsV RX3 130 RX3 yX3_checkTrunk wsX3_checkTrunk) := goodIn_app (goodIn_of _ (by decide +kernel)) ggX3_used_X3_checkTrunk
set_option maxRecDepth 20000 in
theorem ggX3_used_X2_at : GoodIn wsX3_used wsX2_at := goodIn_r _ [19, 20, 21, 46, 47] (by decide +kernel) (by decide +kernel)
set_option maxRecDepth 20000 in
theorem gX3_used_X2_at : GoodIn wsX3_used (wsV RX3 107 RX2 yX2_at wsX2_at) := goodIn_app (goodIn_of _ (by decide +kernel)) ggX3_used_X2_at
set_option maxRecDepth 20000 in
theorem ggX3_used_X3_hasCable : GoodIn wsX3_used wsX3_hasCable := goodIn_r _ [25, 26, 15, 16, 17, 18, 19, 20, 21, 27, 28, 29, 30, 31, 32, 33, 34, 35, 36, 37, 38, 39, 40, 41, 42, 43, 44, 45, 46, 47] (by decide +kernel) (by decide +kernel)
set_option maxRecDepth 20000 in
theorem gX3_used_X3_hasCable : GoodIn wsX3_used (wsV RX3 148 RX3 yX3_hasCable wsX3_hasCable) := goodIn_app (goodIn_of _ (by decide +kernel)) ggX3_used_X3_hasCable
theorem dX3_used_0 : decode cX3_used 0 = .ok (.aload_n 0, 1) := by decide +kernel
theorem dX3_used_1 : decode cX3_used 1 = .ok (.iload_n 1, 1) := by decide +kernel
theorem dX3_used_2 : decode cX3_used 2 = .ok (.invokevirtual 130, 3) := by decide +kernel
theorem dX3_used_5 : decode cX3_used 5 = .ok (.aload_n 0, 1) := by decide +kernel
theorem dX3_used_6 : decode cX3_used 6 = .ok (.getfield 48, 3) := by decide +kernel
theorem dX3_used_9 : decode cX3_used 9 = .ok (.iload_n 1, 1) := by decide +kernel
theorem dX3_used_10 : decode cX3_used 10 = .ok (.invokevirtual 107, 3) := by decide +kernel
theorem dX3_used_13 : decode cX3_used 13 = .ok (.istore_n 2, 1) := by decide +kernel
theorem dX3_used_14 : decode cX3_used 14 = .ok (.aload_n 0, 1) := by decide +kernel
theorem dX3_used_15 : decode cX3_used 15 = .ok (.getfield 51, 3) := by decide +kernel
theorem dX3_used_18 : decode cX3_used 18 = .ok (.iload_n 1, 1) := by decide +kernel
theorem dX3_used_19 : decode cX3_used 19 = .ok (.invokevirtual 107, 3) := by decide +kernel
theorem dX3_used_22 : decode cX3_used 22 = .ok (.istore_n 3, 1) := by decide +kernel
theorem dX3_used_23 : decode cX3_used 23 = .ok (.iconst 0, 1) := by decide +kernel
theorem dX3_used_24 : decode cX3_used 24 = .ok (.istore 4, 2) := by decide +kernel
theorem dX3_used_26 : decode cX3_used 26 = .ok (.iconst 0, 1) := by decide +kernel
theorem dX3_used_27 : decode cX3_used 27 = .ok (.istore 5, 2) := by decide +kernel
theorem dX3_used_29 : decode cX3_used 29 = .ok (.iload 5, 2) := by decide +kernel
theorem dX3_used_31 : decode cX3_used 31 = .ok (.iload_n 3, 1) := by decide +kernel
theorem dX3_used_32 : decode cX3_used 32 = .ok (.if_icmp .ge 41, 3) := by decide +kernel
theorem dX3_used_35 : decode cX3_used 35 = .ok (.aload_n 0, 1) := by decide +kernel
theorem dX3_used_36 : decode cX3_used 36 = .ok (.iload_n 2, 1) := by decide +kernel
theorem dX3_used_37 : decode cX3_used 37 = .ok (.iload 5, 2) := by decide +kernel
theorem dX3_used_39 : decode cX3_used 39 = .ok (.iadd, 1) := by decide +kernel
theorem dX3_used_40 : decode cX3_used 40 = .ok (.invokevirtual 148, 3) := by decide +kernel
theorem dX3_used_43 : decode cX3_used 43 = .ok (.ifCond .eq 24, 3) := by decide +kernel
theorem dX3_used_46 : decode cX3_used 46 = .ok (.aload_n 0, 1) := by decide +kernel
theorem dX3_used_47 : decode cX3_used 47 = .ok (.aload_n 0, 1) := by decide +kernel
theorem dX3_used_48 : decode cX3_used 48 = .ok (.getfield 33, 3) := by decide +kernel
theorem dX3_used_51 : decode cX3_used 51 = .ok (.iload_n 2, 1) := by decide +kernel
theorem dX3_used_52 : decode cX3_used 52 = .ok (.iload 5, 2) := by decide +kernel
theorem dX3_used_54 : decode cX3_used 54 = .ok (.iadd, 1) := by decide +kernel
theorem dX3_used_55 : decode cX3_used 55 = .ok (.invokevirtual 107, 3) := by decide +kernel
theorem dX3_used_58 : decode cX3_used 58 = .ok (.invokevirtual 148, 3) := by decide +kernel
theorem dX3_used_61 : decode cX3_used 61 = .ok (.ifCond .eq 6, 3) := by decide +kernel
theorem dX3_used_64 : decode cX3_used 64 = .ok (.iinc 4 1, 3) := by decide +kernel
theorem dX3_used_67 : decode cX3_used 67 = .ok (.iinc 5 1, 3) := by decide +kernel
theorem dX3_used_70 : decode cX3_used 70 = .ok (.goto (-41), 3) := by decide +kernel
theorem dX3_used_73 : decode cX3_used 73 = .ok (.iload 4, 2) := by decide +kernel
theorem dX3_used_75 : decode cX3_used 75 = .ok (.ireturn, 1) := by decide +kernel
set_option maxRecDepth 20000 in
theorem ggX3_canCarryOut_X3_planIsPossible : GoodIn wsX3_canCarryOut wsX3_planIsPossible := goodIn_r _ [5, 6, 7, 8, 9, 10, 11, 12, 13, 14, 15, 16, 17, 18, 19, 20, 21, 22, 23, 24, 25, 26, 27, 4, 28, 29, 30, 31, 32, 33, 34, 35, 36, 37, 38, 39, 40, 41, 42, 43, 44, 45, 46, 47, 48, 49, 50, 51, 52, 53, 54, 55, 56, 57, 58, 59, 60, 61, 62, 63, 64, 65, 66, 67, 68, 69, 70, 71, 72, 73, 74, 75] (by decide +kernel) (by decide +kernel)
set_option maxRecDepth 20000 in
theorem gX3_canCarryOut_X3_planIsPossible : GoodIn wsX3_canCarryOut (wsV RX3 179 RX3 yX3_planIsPossible wsX3_planIsPossible) := goodIn_app (goodIn_of _ (by decide +kernel)) ggX3_canCarryOut_X3_planIsPossible
theorem dX3_canCarryOut_0 : decode cX3_canCarryOut 0 = .ok (.aload_n 0, 1) := by decide +kernel
theorem dX3_canCarryOut_1 : decode cX3_canCarryOut 1 = .ok (.invokevirtual 179, 3) := by decide +kernel
theorem dX3_canCarryOut_4 : decode cX3_canCarryOut 4 = .ok (.ireturn, 1) := by decide +kernel
set_option maxRecDepth 20000 in
theorem ggX3_cableLength_X3_isLowerEnd : GoodIn wsX3_cableLength wsX3_isLowerEnd := goodIn_r _ [7, 2, 8, 9, 10, 11, 12, 13, 14, 25, 26, 27, 28, 29, 30, 31, 32, 33, 34, 35, 36, 37, 38, 39, 40, 41, 42, 43, 44, 45] (by decide +kernel) (by decide +kernel)
set_option maxRecDepth 20000 in
theorem gX3_cableLength_X3_isLowerEnd : GoodIn wsX3_cableLength (wsV RX3 191 RX3 yX3_isLowerEnd wsX3_isLowerEnd) := goodIn_app (goodIn_of _ (by decide +kernel)) ggX3_cableLength_X3_isLowerEnd
set_option maxRecDepth 20000 in
theorem ggX3_cableLength_X2_at : GoodIn wsX3_cableLength wsX2_at := goodIn_r _ [12, 13, 14, 44, 45] (by decide +kernel) (by decide +kernel)
set_option maxRecDepth 20000 in
theorem gX3_cableLength_X2_at : GoodIn wsX3_cableLength (wsV RX3 107 RX2 yX2_at wsX2_at) := goodIn_app (goodIn_of _ (by decide +kernel)) ggX3_cableLength_X2_at
set_option maxRecDepth 20000 in
theorem ggX3_cableLength_X3_lengthBetween : GoodIn wsX3_cableLength wsX3_lengthBetween := goodIn_r _ [18, 19, 20, 21, 22, 23, 24, 8, 9, 10, 11, 12, 13, 14, 25, 26, 27, 28, 29, 30, 31, 32, 33, 34, 35, 36, 37, 38, 39, 40, 41, 42, 43, 44, 45] (by decide +kernel) (by decide +kernel)
set_option maxRecDepth 20000 in
theorem gX3_cableLength_X3_lengthBetween : GoodIn wsX3_cableLength (wsV RX3 156 RX3 yX3_lengthBetween wsX3_lengthBetween) := goodIn_app (goodIn_of _ (by decide +kernel)) ggX3_cableLength_X3_lengthBetween
theorem dX3_cableLength_0 : decode cX3_cableLength 0 = .ok (.iconst 0, 1) := by decide +kernel
theorem dX3_cableLength_1 : decode cX3_cableLength 1 = .ok (.istore_n 1, 1) := by decide +kernel
theorem dX3_cableLength_2 : decode cX3_cableLength 2 = .ok (.iconst 0, 1) := by decide +kernel
theorem dX3_cableLength_3 : decode cX3_cableLength 3 = .ok (.istore_n 2, 1) := by decide +kernel
theorem dX3_cableLength_4 : decode cX3_cableLength 4 = .ok (.iload_n 2, 1) := by decide +kernel
theorem dX3_cableLength_5 : decode cX3_cableLength 5 = .ok (.aload_n 0, 1) := by decide +kernel
theorem dX3_cableLength_6 : decode cX3_cableLength 6 = .ok (.getfield 77, 3) := by decide +kernel
theorem dX3_cableLength_9 : decode cX3_cableLength 9 = .ok (.if_icmp .ge 33, 3) := by decide +kernel
theorem dX3_cableLength_12 : decode cX3_cableLength 12 = .ok (.aload_n 0, 1) := by decide +kernel
theorem dX3_cableLength_13 : decode cX3_cableLength 13 = .ok (.iload_n 2, 1) := by decide +kernel
theorem dX3_cableLength_14 : decode cX3_cableLength 14 = .ok (.invokevirtual 191, 3) := by decide +kernel
theorem dX3_cableLength_17 : decode cX3_cableLength 17 = .ok (.ifCond .eq 19, 3) := by decide +kernel
theorem dX3_cableLength_20 : decode cX3_cableLength 20 = .ok (.iload_n 1, 1) := by decide +kernel
theorem dX3_cableLength_21 : decode cX3_cableLength 21 = .ok (.aload_n 0, 1) := by decide +kernel
theorem dX3_cableLength_22 : decode cX3_cableLength 22 = .ok (.iload_n 2, 1) := by decide +kernel
theorem dX3_cableLength_23 : decode cX3_cableLength 23 = .ok (.aload_n 0, 1) := by decide +kernel
theorem dX3_cableLength_24 : decode cX3_cableLength 24 = .ok (.getfield 27, 3) := by decide +kernel
theorem dX3_cableLength_27 : decode cX3_cableLength 27 = .ok (.iload_n 2, 1) := by decide +kernel
theorem dX3_cableLength_28 : decode cX3_cableLength 28 = .ok (.invokevirtual 107, 3) := by decide +kernel
theorem dX3_cableLength_31 : decode cX3_cableLength 31 = .ok (.invokevirtual 156, 3) := by decide +kernel
theorem dX3_cableLength_34 : decode cX3_cableLength 34 = .ok (.iadd, 1) := by decide +kernel
theorem dX3_cableLength_35 : decode cX3_cableLength 35 = .ok (.istore_n 1, 1) := by decide +kernel
theorem dX3_cableLength_36 : decode cX3_cableLength 36 = .ok (.iinc 2 1, 3) := by decide +kernel
theorem dX3_cableLength_39 : decode cX3_cableLength 39 = .ok (.goto (-35), 3) := by decide +kernel
theorem dX3_cableLength_42 : decode cX3_cableLength 42 = .ok (.iload_n 1, 1) := by decide +kernel
theorem dX3_cableLength_43 : decode cX3_cableLength 43 = .ok (.ireturn, 1) := by decide +kernel
theorem dX3_isWithin_0 : decode cX3_isWithin 0 = .ok (.iload_n 0, 1) := by decide +kernel
theorem dX3_isWithin_1 : decode cX3_isWithin 1 = .ok (.iload_n 1, 1) := by decide +kernel
theorem dX3_isWithin_2 : decode cX3_isWithin 2 = .ok (.if_icmp .lt 12, 3) := by decide +kernel
theorem dX3_isWithin_5 : decode cX3_isWithin 5 = .ok (.iload_n 0, 1) := by decide +kernel
theorem dX3_isWithin_6 : decode cX3_isWithin 6 = .ok (.iload_n 2, 1) := by decide +kernel
theorem dX3_isWithin_7 : decode cX3_isWithin 7 = .ok (.if_icmp .gt 7, 3) := by decide +kernel
theorem dX3_isWithin_10 : decode cX3_isWithin 10 = .ok (.iconst 1, 1) := by decide +kernel
theorem dX3_isWithin_11 : decode cX3_isWithin 11 = .ok (.goto 4, 3) := by decide +kernel
theorem dX3_isWithin_14 : decode cX3_isWithin 14 = .ok (.iconst 0, 1) := by decide +kernel
theorem dX3_isWithin_15 : decode cX3_isWithin 15 = .ok (.ireturn, 1) := by decide +kernel
set_option maxRecDepth 20000 in
theorem ggX3_checkPort_X3_isWithin : GoodIn wsX3_checkPort wsX3_isWithin := goodIn_r _ [7] (by decide +kernel) (by decide +kernel)
set_option maxRecDepth 20000 in
theorem gX3_checkPort_X3_isWithin : GoodIn wsX3_checkPort (va_wsS RX3 83 yX3_isWithin wsX3_isWithin) := goodIn_app (goodIn_of _ (by decide +kernel)) ggX3_checkPort_X3_isWithin
theorem dX3_checkPort_0 : decode cX3_checkPort 0 = .ok (.iload_n 1, 1) := by decide +kernel
theorem dX3_checkPort_1 : decode cX3_checkPort 1 = .ok (.iconst 0, 1) := by decide +kernel
theorem dX3_checkPort_2 : decode cX3_checkPort 2 = .ok (.aload_n 0, 1) := by decide +kernel
theorem dX3_checkPort_3 : decode cX3_checkPort 3 = .ok (.getfield 77, 3) := by decide +kernel
theorem dX3_checkPort_6 : decode cX3_checkPort 6 = .ok (.iconst 1, 1) := by decide +kernel
theorem dX3_checkPort_7 : decode cX3_checkPort 7 = .ok (.isub, 1) := by decide +kernel
theorem dX3_checkPort_8 : decode cX3_checkPort 8 = .ok (.invokestatic 83, 3) := by decide +kernel
theorem dX3_checkPort_11 : decode cX3_checkPort 11 = .ok (.ifCond .ne 13, 3) := by decide +kernel
theorem dX3_checkPort_14 : decode cX3_checkPort 14 = .ok (.new 133, 3) := by decide +kernel
theorem dX3_checkPort_17 : decode cX3_checkPort 17 = .ok (.dup, 1) := by decide +kernel
theorem dX3_checkPort_18 : decode cX3_checkPort 18 = .ok (.ldc 222, 2) := by decide +kernel
theorem dX3_checkPort_20 : decode cX3_checkPort 20 = .ok (.invokespecial 137, 3) := by decide +kernel
theorem dX3_checkPort_23 : decode cX3_checkPort 23 = .ok (.athrow, 1) := by decide +kernel
theorem dX3_checkPort_24 : decode cX3_checkPort 24 = .ok (.return_, 1) := by decide +kernel
set_option maxRecDepth 20000 in
theorem ggX3_checkPanel_X3_isWithin : GoodIn wsX3_checkPanel wsX3_isWithin := goodIn_r _ [7] (by decide +kernel) (by decide +kernel)
set_option maxRecDepth 20000 in
theorem gX3_checkPanel_X3_isWithin : GoodIn wsX3_checkPanel (va_wsS RX3 83 yX3_isWithin wsX3_isWithin) := goodIn_app (goodIn_of _ (by decide +kernel)) ggX3_checkPanel_X3_isWithin
theorem dX3_checkPanel_0 : decode cX3_checkPanel 0 = .ok (.iload_n 1, 1) := by decide +kernel
theorem dX3_checkPanel_1 : decode cX3_checkPanel 1 = .ok (.iconst 0, 1) := by decide +kernel
theorem dX3_checkPanel_2 : decode cX3_checkPanel 2 = .ok (.aload_n 0, 1) := by decide +kernel
theorem dX3_checkPanel_3 : decode cX3_checkPanel 3 = .ok (.getfield 73, 3) := by decide +kernel
theorem dX3_checkPanel_6 : decode cX3_checkPanel 6 = .ok (.iconst 1, 1) := by decide +kernel
theorem dX3_checkPanel_7 : decode cX3_checkPanel 7 = .ok (.isub, 1) := by decide +kernel
theorem dX3_checkPanel_8 : decode cX3_checkPanel 8 = .ok (.invokestatic 83, 3) := by decide +kernel
theorem dX3_checkPanel_11 : decode cX3_checkPanel 11 = .ok (.ifCond .ne 13, 3) := by decide +kernel
theorem dX3_checkPanel_14 : decode cX3_checkPanel 14 = .ok (.new 133, 3) := by decide +kernel
theorem dX3_checkPanel_17 : decode cX3_checkPanel 17 = .ok (.dup, 1) := by decide +kernel
theorem dX3_checkPanel_18 : decode cX3_checkPanel 18 = .ok (.ldc 224, 2) := by decide +kernel
theorem dX3_checkPanel_20 : decode cX3_checkPanel 20 = .ok (.invokespecial 137, 3) := by decide +kernel
theorem dX3_checkPanel_23 : decode cX3_checkPanel 23 = .ok (.athrow, 1) := by decide +kernel
theorem dX3_checkPanel_24 : decode cX3_checkPanel 24 = .ok (.return_, 1) := by decide +kernel
set_option maxRecDepth 20000 in
theorem ggX3_checkTrunk_X3_isWithin : GoodIn wsX3_checkTrunk wsX3_isWithin := goodIn_r _ [7] (by decide +kernel) (by decide +kernel)
set_option maxRecDepth 20000 in
theorem gX3_checkTrunk_X3_isWithin : GoodIn wsX3_checkTrunk (va_wsS RX3 83 yX3_isWithin wsX3_isWithin) := goodIn_app (goodIn_of _ (by decide +kernel)) ggX3_checkTrunk_X3_isWithin
theorem dX3_checkTrunk_0 : decode cX3_checkTrunk 0 = .ok (.iload_n 1, 1) := by decide +kernel
theorem dX3_checkTrunk_1 : decode cX3_checkTrunk 1 = .ok (.iconst 0, 1) := by decide +kernel
theorem dX3_checkTrunk_2 : decode cX3_checkTrunk 2 = .ok (.aload_n 0, 1) := by decide +kernel
theorem dX3_checkTrunk_3 : decode cX3_checkTrunk 3 = .ok (.getfield 80, 3) := by decide +kernel
theorem dX3_checkTrunk_6 : decode cX3_checkTrunk 6 = .ok (.iconst 1, 1) := by decide +kernel
theorem dX3_checkTrunk_7 : decode cX3_checkTrunk 7 = .ok (.isub, 1) := by decide +kernel
theorem dX3_checkTrunk_8 : decode cX3_checkTrunk 8 = .ok (.invokestatic 83, 3) := by decide +kernel
theorem dX3_checkTrunk_11 : decode cX3_checkTrunk 11 = .ok (.ifCond .ne 13, 3) := by decide +kernel
theorem dX3_checkTrunk_14 : decode cX3_checkTrunk 14 = .ok (.new 133, 3) := by decide +kernel
theorem dX3_checkTrunk_17 : decode cX3_checkTrunk 17 = .ok (.dup, 1) := by decide +kernel
theorem dX3_checkTrunk_18 : decode cX3_checkTrunk 18 = .ok (.ldc 226, 2) := by decide +kernel
theorem dX3_checkTrunk_20 : decode cX3_checkTrunk 20 = .ok (.invokespecial 137, 3) := by decide +kernel
theorem dX3_checkTrunk_23 : decode cX3_checkTrunk 23 = .ok (.athrow, 1) := by decide +kernel
theorem dX3_checkTrunk_24 : decode cX3_checkTrunk 24 = .ok (.return_, 1) := by decide +kernel
set_option maxRecDepth 20000 in
theorem ggX3_portsFrom_X2_at : GoodIn wsX3_portsFrom wsX2_at := goodIn_r _ [8, 9, 10, 30, 31] (by decide +kernel) (by decide +kernel)
set_option maxRecDepth 20000 in
theorem gX3_portsFrom_X2_at : GoodIn wsX3_portsFrom (wsV RX3 107 RX2 yX2_at wsX2_at) := goodIn_app (goodIn_of _ (by decide +kernel)) ggX3_portsFrom_X2_at
theorem dX3_portsFrom_0 : decode cX3_portsFrom 0 = .ok (.aload_n 0, 1) := by decide +kernel
theorem dX3_portsFrom_1 : decode cX3_portsFrom 1 = .ok (.getfield 24, 3) := by decide +kernel
theorem dX3_portsFrom_4 : decode cX3_portsFrom 4 = .ok (.iload_n 1, 1) := by decide +kernel
theorem dX3_portsFrom_5 : decode cX3_portsFrom 5 = .ok (.invokevirtual 107, 3) := by decide +kernel
theorem dX3_portsFrom_8 : decode cX3_portsFrom 8 = .ok (.istore_n 2, 1) := by decide +kernel
theorem dX3_portsFrom_9 : decode cX3_portsFrom 9 = .ok (.aload_n 0, 1) := by decide +kernel
theorem dX3_portsFrom_10 : decode cX3_portsFrom 10 = .ok (.getfield 18, 3) := by decide +kernel
theorem dX3_portsFrom_13 : decode cX3_portsFrom 13 = .ok (.iload_n 2, 1) := by decide +kernel
theorem dX3_portsFrom_14 : decode cX3_portsFrom 14 = .ok (.invokevirtual 107, 3) := by decide +kernel
theorem dX3_portsFrom_17 : decode cX3_portsFrom 17 = .ok (.aload_n 0, 1) := by decide +kernel
theorem dX3_portsFrom_18 : decode cX3_portsFrom 18 = .ok (.getfield 21, 3) := by decide +kernel
theorem dX3_portsFrom_21 : decode cX3_portsFrom 21 = .ok (.iload_n 2, 1) := by decide +kernel
theorem dX3_portsFrom_22 : decode cX3_portsFrom 22 = .ok (.invokevirtual 107, 3) := by decide +kernel
theorem dX3_portsFrom_25 : decode cX3_portsFrom 25 = .ok (.iadd, 1) := by decide +kernel
theorem dX3_portsFrom_26 : decode cX3_portsFrom 26 = .ok (.iload_n 1, 1) := by decide +kernel
theorem dX3_portsFrom_27 : decode cX3_portsFrom 27 = .ok (.isub, 1) := by decide +kernel
theorem dX3_portsFrom_28 : decode cX3_portsFrom 28 = .ok (.ireturn, 1) := by decide +kernel
set_option maxRecDepth 20000 in
theorem ggX3_hasStrand_X2_at : GoodIn wsX3_hasStrand wsX2_at := goodIn_r _ [6, 7, 8, 28, 29] (by decide +kernel) (by decide +kernel)
set_option maxRecDepth 20000 in
theorem gX3_hasStrand_X2_at : GoodIn wsX3_hasStrand (wsV RX3 107 RX2 yX2_at wsX2_at) := goodIn_app (goodIn_of _ (by decide +kernel)) ggX3_hasStrand_X2_at
theorem dX3_hasStrand_0 : decode cX3_hasStrand 0 = .ok (.aload_n 0, 1) := by decide +kernel
theorem dX3_hasStrand_1 : decode cX3_hasStrand 1 = .ok (.getfield 33, 3) := by decide +kernel
theorem dX3_hasStrand_4 : decode cX3_hasStrand 4 = .ok (.iload_n 1, 1) := by decide +kernel
theorem dX3_hasStrand_5 : decode cX3_hasStrand 5 = .ok (.invokevirtual 107, 3) := by decide +kernel
theorem dX3_hasStrand_8 : decode cX3_hasStrand 8 = .ok (.iconst (-1), 1) := by decide +kernel
theorem dX3_hasStrand_9 : decode cX3_hasStrand 9 = .ok (.if_icmp .eq 7, 3) := by decide +kernel
theorem dX3_hasStrand_12 : decode cX3_hasStrand 12 = .ok (.iconst 1, 1) := by decide +kernel
theorem dX3_hasStrand_13 : decode cX3_hasStrand 13 = .ok (.goto 4, 3) := by decide +kernel
theorem dX3_hasStrand_16 : decode cX3_hasStrand 16 = .ok (.iconst 0, 1) := by decide +kernel
theorem dX3_hasStrand_17 : decode cX3_hasStrand 17 = .ok (.ireturn, 1) := by decide +kernel
set_option maxRecDepth 20000 in
theorem ggX3_anyStrand_X3_hasStrand : GoodIn wsX3_anyStrand wsX3_hasStrand := goodIn_r _ [5, 6, 7, 8, 9, 10, 11, 12, 13, 14, 15, 16, 17, 18, 19, 20, 21, 22, 23, 24, 25, 26, 27, 28, 29, 30, 31, 32, 33, 34] (by decide +kernel) (by decide +kernel)
set_option maxRecDepth 20000 in
theorem gX3_anyStrand_X3_hasStrand : GoodIn wsX3_anyStrand (wsV RX3 216 RX3 yX3_hasStrand wsX3_hasStrand) := goodIn_app (goodIn_of _ (by decide +kernel)) ggX3_anyStrand_X3_hasStrand
theorem dX3_anyStrand_0 : decode cX3_anyStrand 0 = .ok (.iconst 0, 1) := by decide +kernel
theorem dX3_anyStrand_1 : decode cX3_anyStrand 1 = .ok (.istore_n 3, 1) := by decide +kernel
theorem dX3_anyStrand_2 : decode cX3_anyStrand 2 = .ok (.iload_n 3, 1) := by decide +kernel
theorem dX3_anyStrand_3 : decode cX3_anyStrand 3 = .ok (.iload_n 2, 1) := by decide +kernel
theorem dX3_anyStrand_4 : decode cX3_anyStrand 4 = .ok (.if_icmp .ge 21, 3) := by decide +kernel
theorem dX3_anyStrand_7 : decode cX3_anyStrand 7 = .ok (.aload_n 0, 1) := by decide +kernel
theorem dX3_anyStrand_8 : decode cX3_anyStrand 8 = .ok (.iload_n 1, 1) := by decide +kernel
theorem dX3_anyStrand_9 : decode cX3_anyStrand 9 = .ok (.iload_n 3, 1) := by decide +kernel
theorem dX3_anyStrand_10 : decode cX3_anyStrand 10 = .ok (.iadd, 1) := by decide +kernel
theorem dX3_anyStrand_11 : decode cX3_anyStrand 11 = .ok (.invokevirtual 216, 3) := by decide +kernel
theorem dX3_anyStrand_14 : decode cX3_anyStrand 14 = .ok (.ifCond .eq 5, 3) := by decide +kernel
theorem dX3_anyStrand_17 : decode cX3_anyStrand 17 = .ok (.iconst 1, 1) := by decide +kernel
theorem dX3_anyStrand_18 : decode cX3_anyStrand 18 = .ok (.ireturn, 1) := by decide +kernel
theorem dX3_anyStrand_19 : decode cX3_anyStrand 19 = .ok (.iinc 3 1, 3) := by decide +kernel
theorem dX3_anyStrand_22 : decode cX3_anyStrand 22 = .ok (.goto (-20), 3) := by decide +kernel
theorem dX3_anyStrand_25 : decode cX3_anyStrand 25 = .ok (.iconst 0, 1) := by decide +kernel
theorem dX3_anyStrand_26 : decode cX3_anyStrand 26 = .ok (.ireturn, 1) := by decide +kernel
set_option maxRecDepth 20000 in
theorem ggX3_joinByStrand_X2_put : GoodIn wsX3_joinByStrand wsX2_put := goodIn_r _ [7, 8, 28, 29] (by decide +kernel) (by decide +kernel)
set_option maxRecDepth 20000 in
theorem gX3_joinByStrand_X2_put : GoodIn wsX3_joinByStrand (wsV RX3 99 RX2 yX2_put wsX2_put) := goodIn_app (goodIn_of _ (by decide +kernel)) ggX3_joinByStrand_X2_put
theorem dX3_joinByStrand_0 : decode cX3_joinByStrand 0 = .ok (.aload_n 0, 1) := by decide +kernel
theorem dX3_joinByStrand_1 : decode cX3_joinByStrand 1 = .ok (.getfield 33, 3) := by decide +kernel
theorem dX3_joinByStrand_4 : decode cX3_joinByStrand 4 = .ok (.iload_n 1, 1) := by decide +kernel
theorem dX3_joinByStrand_5 : decode cX3_joinByStrand 5 = .ok (.iload_n 2, 1) := by decide +kernel
theorem dX3_joinByStrand_6 : decode cX3_joinByStrand 6 = .ok (.invokevirtual 99, 3) := by decide +kernel
theorem dX3_joinByStrand_9 : decode cX3_joinByStrand 9 = .ok (.aload_n 0, 1) := by decide +kernel
theorem dX3_joinByStrand_10 : decode cX3_joinByStrand 10 = .ok (.getfield 33, 3) := by decide +kernel
theorem dX3_joinByStrand_13 : decode cX3_joinByStrand 13 = .ok (.iload_n 2, 1) := by decide +kernel
theorem dX3_joinByStrand_14 : decode cX3_joinByStrand 14 = .ok (.iload_n 1, 1) := by decide +kernel
theorem dX3_joinByStrand_15 : decode cX3_joinByStrand 15 = .ok (.invokevirtual 99, 3) := by decide +kernel
theorem dX3_joinByStrand_18 : decode cX3_joinByStrand 18 = .ok (.aload_n 0, 1) := by decide +kernel
theorem dX3_joinByStrand_19 : decode cX3_joinByStrand 19 = .ok (.getfield 36, 3) := by decide +kernel
theorem dX3_joinByStrand_22 : decode cX3_joinByStrand 22 = .ok (.iload_n 1, 1) := by decide +kernel
theorem dX3_joinByStrand_23 : decode cX3_joinByStrand 23 = .ok (.iload_n 3, 1) := by decide +kernel
theorem dX3_joinByStrand_24 : decode cX3_joinByStrand 24 = .ok (.invokevirtual 99, 3) := by decide +kernel
theorem dX3_joinByStrand_27 : decode cX3_joinByStrand 27 = .ok (.aload_n 0, 1) := by decide +kernel
theorem dX3_joinByStrand_28 : decode cX3_joinByStrand 28 = .ok (.getfield 36, 3) := by decide +kernel
theorem dX3_joinByStrand_31 : decode cX3_joinByStrand 31 = .ok (.iload_n 2, 1) := by decide +kernel
theorem dX3_joinByStrand_32 : decode cX3_joinByStrand 32 = .ok (.iload_n 3, 1) := by decide +kernel
theorem dX3_joinByStrand_33 : decode cX3_joinByStrand 33 = .ok (.invokevirtual 99, 3) := by decide +kernel
theorem dX3_joinByStrand_36 : decode cX3_joinByStrand 36 = .ok (.return_, 1) := by decide +kernel
set_option maxRecDepth 20000 in
theorem ggX3_openStrandFrom_X0_has : GoodIn wsX3_openStrandFrom wsX0_has := goodIn_r _ [7, 8, 35] (by decide +kernel) (by decide +kernel)
set_option maxRecDepth 20000 in
theorem gX3_openStrandFrom_X0_has : GoodIn wsX3_openStrandFrom (wsV RX3 138 RX0 yX0_has wsX0_has) := goodIn_app (goodIn_of _ (by decide +kernel)) ggX3_openStrandFrom_X0_has
set_option maxRecDepth 20000 in
theorem ggX3_openStrandFrom_X2_at : GoodIn wsX3_openStrandFrom wsX2_at := goodIn_r _ [13, 14, 15, 36, 37] (by decide +kernel) (by decide +kernel)
set_option maxRecDepth 20000 in
theorem gX3_openStrandFrom_X2_at : GoodIn wsX3_openStrandFrom (wsV RX3 107 RX2 yX2_at wsX2_at) := goodIn_app (goodIn_of _ (by decide +kernel)) ggX3_openStrandFrom_X2_at
theorem dX3_openStrandFrom_0 : decode cX3_openStrandFrom 0 = .ok (.aload_n 0, 1) := by decide +kernel
theorem dX3_openStrandFrom_1 : decode cX3_openStrandFrom 1 = .ok (.getfield 44, 3) := by decide +kernel
theorem dX3_openStrandFrom_4 : decode cX3_openStrandFrom 4 = .ok (.iload_n 1, 1) := by decide +kernel
theorem dX3_openStrandFrom_5 : decode cX3_openStrandFrom 5 = .ok (.invokevirtual 138, 3) := by decide +kernel
theorem dX3_openStrandFrom_8 : decode cX3_openStrandFrom 8 = .ok (.ifCond .eq 7, 3) := by decide +kernel
theorem dX3_openStrandFrom_11 : decode cX3_openStrandFrom 11 = .ok (.iconst (-1), 1) := by decide +kernel
theorem dX3_openStrandFrom_12 : decode cX3_openStrandFrom 12 = .ok (.goto 11, 3) := by decide +kernel
theorem dX3_openStrandFrom_15 : decode cX3_openStrandFrom 15 = .ok (.aload_n 0, 1) := by decide +kernel
theorem dX3_openStrandFrom_16 : decode cX3_openStrandFrom 16 = .ok (.getfield 33, 3) := by decide +kernel
theorem dX3_openStrandFrom_19 : decode cX3_openStrandFrom 19 = .ok (.iload_n 1, 1) := by decide +kernel
theorem dX3_openStrandFrom_20 : decode cX3_openStrandFrom 20 = .ok (.invokevirtual 107, 3) := by decide +kernel
theorem dX3_openStrandFrom_23 : decode cX3_openStrandFrom 23 = .ok (.ireturn, 1) := by decide +kernel
set_option maxRecDepth 20000 in
theorem ggX3_hasCable_X2_at : GoodIn wsX3_hasCable wsX2_at := goodIn_r _ [6, 7, 8, 28, 29] (by decide +kernel) (by decide +kernel)
set_option maxRecDepth 20000 in
theorem gX3_hasCable_X2_at : GoodIn wsX3_hasCable (wsV RX3 107 RX2 yX2_at wsX2_at) := goodIn_app (goodIn_of _ (by decide +kernel)) ggX3_hasCable_X2_at
theorem dX3_hasCable_0 : decode cX3_hasCable 0 = .ok (.aload_n 0, 1) := by decide +kernel
theorem dX3_hasCable_1 : decode cX3_hasCable 1 = .ok (.getfield 27, 3) := by decide +kernel
theorem dX3_hasCable_4 : decode cX3_hasCable 4 = .ok (.iload_n 1, 1) := by decide +kernel
theorem dX3_hasCable_5 : decode cX3_hasCable 5 = .ok (.invokevirtual 107, 3) := by decide +kernel
theorem dX3_hasCable_8 : decode cX3_hasCable 8 = .ok (.iconst (-1), 1) := by decide +kernel
theorem dX3_hasCable_9 : decode cX3_hasCable 9 = .ok (.if_icmp .eq 7, 3) := by decide +kernel
theorem dX3_hasCable_12 : decode cX3_hasCable 12 = .ok (.iconst 1, 1) := by decide +kernel
theorem dX3_hasCable_13 : decode cX3_hasCable 13 = .ok (.goto 4, 3) := by decide +kernel
theorem dX3_hasCable_16 : decode cX3_hasCable 16 = .ok (.iconst 0, 1) := by decide +kernel
theorem dX3_hasCable_17 : decode cX3_hasCable 17 = .ok (.ireturn, 1) := by decide +kernel
set_option maxRecDepth 20000 in
theorem ggX3_isLowerEnd_X2_at : GoodIn wsX3_isLowerEnd wsX2_at := goodIn_r _ [6, 7, 8, 28, 29] (by decide +kernel) (by decide +kernel)
set_option maxRecDepth 20000 in
theorem gX3_isLowerEnd_X2_at : GoodIn wsX3_isLowerEnd (wsV RX3 107 RX2 yX2_at wsX2_at) := goodIn_app (goodIn_of _ (by decide +kernel)) ggX3_isLowerEnd_X2_at
theorem dX3_isLowerEnd_0 : decode cX3_isLowerEnd 0 = .ok (.aload_n 0, 1) := by decide +kernel
theorem dX3_isLowerEnd_1 : decode cX3_isLowerEnd 1 = .ok (.getfield 27, 3) := by decide +kernel
theorem dX3_isLowerEnd_4 : decode cX3_isLowerEnd 4 = .ok (.iload_n 1, 1) := by decide +kernel
theorem dX3_isLowerEnd_5 : decode cX3_isLowerEnd 5 = .ok (.invokevirtual 107, 3) := by decide +kernel
theorem dX3_isLowerEnd_8 : decode cX3_isLowerEnd 8 = .ok (.iload_n 1, 1) := by decide +kernel
theorem dX3_isLowerEnd_9 : decode cX3_isLowerEnd 9 = .ok (.if_icmp .le 7, 3) := by decide +kernel
theorem dX3_isLowerEnd_12 : decode cX3_isLowerEnd 12 = .ok (.iconst 1, 1) := by decide +kernel
theorem dX3_isLowerEnd_13 : decode cX3_isLowerEnd 13 = .ok (.goto 4, 3) := by decide +kernel
theorem dX3_isLowerEnd_16 : decode cX3_isLowerEnd 16 = .ok (.iconst 0, 1) := by decide +kernel
theorem dX3_isLowerEnd_17 : decode cX3_isLowerEnd 17 = .ok (.ireturn, 1) := by decide +kernel
set_option maxRecDepth 20000 in
theorem ggX3_joinByCable_X2_put : GoodIn wsX3_joinByCable wsX2_put := goodIn_r _ [7, 8, 28, 29] (by decide +kernel) (by decide +kernel)
set_option maxRecDepth 20000 in
theorem gX3_joinByCable_X2_put : GoodIn wsX3_joinByCable (wsV RX3 99 RX2 yX2_put wsX2_put) := goodIn_app (goodIn_of _ (by decide +kernel)) ggX3_joinByCable_X2_put
theorem dX3_joinByCable_0 : decode cX3_joinByCable 0 = .ok (.aload_n 0, 1) := by decide +kernel
theorem dX3_joinByCable_1 : decode cX3_joinByCable 1 = .ok (.getfield 27, 3) := by decide +kernel
theorem dX3_joinByCable_4 : decode cX3_joinByCable 4 = .ok (.iload_n 1, 1) := by decide +kernel
theorem dX3_joinByCable_5 : decode cX3_joinByCable 5 = .ok (.iload_n 2, 1) := by decide +kernel
theorem dX3_joinByCable_6 : decode cX3_joinByCable 6 = .ok (.invokevirtual 99, 3) := by decide +kernel
theorem dX3_joinByCable_9 : decode cX3_joinByCable 9 = .ok (.aload_n 0, 1) := by decide +kernel
theorem dX3_joinByCable_10 : decode cX3_joinByCable 10 = .ok (.getfield 27, 3) := by decide +kernel
theorem dX3_joinByCable_13 : decode cX3_joinByCable 13 = .ok (.iload_n 2, 1) := by decide +kernel
theorem dX3_joinByCable_14 : decode cX3_joinByCable 14 = .ok (.iload_n 1, 1) := by decide +kernel
theorem dX3_joinByCable_15 : decode cX3_joinByCable 15 = .ok (.invokevirtual 99, 3) := by decide +kernel
theorem dX3_joinByCable_18 : decode cX3_joinByCable 18 = .ok (.aload_n 0, 1) := by decide +kernel
theorem dX3_joinByCable_19 : decode cX3_joinByCable 19 = .ok (.getfield 30, 3) := by decide +kernel
theorem dX3_joinByCable_22 : decode cX3_joinByCable 22 = .ok (.iload_n 1, 1) := by decide +kernel
theorem dX3_joinByCable_23 : decode cX3_joinByCable 23 = .ok (.iload_n 3, 1) := by decide +kernel
theorem dX3_joinByCable_24 : decode cX3_joinByCable 24 = .ok (.invokevirtual 99, 3) := by decide +kernel
theorem dX3_joinByCable_27 : decode cX3_joinByCable 27 = .ok (.aload_n 0, 1) := by decide +kernel
theorem dX3_joinByCable_28 : decode cX3_joinByCable 28 = .ok (.getfield 30, 3) := by decide +kernel
theorem dX3_joinByCable_31 : decode cX3_joinByCable 31 = .ok (.iload_n 2, 1) := by decide +kernel
theorem dX3_joinByCable_32 : decode cX3_joinByCable 32 = .ok (.iload_n 3, 1) := by decide +kernel
theorem dX3_joinByCable_33 : decode cX3_joinByCable 33 = .ok (.invokevirtual 99, 3) := by decide +kernel
theorem dX3_joinByCable_36 : decode cX3_joinByCable 36 = .ok (.return_, 1) := by decide +kernel
set_option maxRecDepth 20000 in
theorem ggX3_clearCable_X2_put : GoodIn wsX3_clearCable wsX2_put := goodIn_r _ [7, 8, 28, 29] (by decide +kernel) (by decide +kernel)
set_option maxRecDepth 20000 in
theorem gX3_clearCable_X2_put : GoodIn wsX3_clearCable (wsV RX3 99 RX2 yX2_put wsX2_put) := goodIn_app (goodIn_of _ (by decide +kernel)) ggX3_clearCable_X2_put
theorem dX3_clearCable_0 : decode cX3_clearCable 0 = .ok (.aload_n 0, 1) := by decide +kernel
theorem dX3_clearCable_1 : decode cX3_clearCable 1 = .ok (.getfield 27, 3) := by decide +kernel
theorem dX3_clearCable_4 : decode cX3_clearCable 4 = .ok (.iload_n 1, 1) := by decide +kernel
theorem dX3_clearCable_5 : decode cX3_clearCable 5 = .ok (.iconst (-1), 1) := by decide +kernel
theorem dX3_clearCable_6 : decode cX3_clearCable 6 = .ok (.invokevirtual 99, 3) := by decide +kernel
theorem dX3_clearCable_9 : decode cX3_clearCable 9 = .ok (.aload_n 0, 1) := by decide +kernel
theorem dX3_clearCable_10 : decode cX3_clearCable 10 = .ok (.getfield 30, 3) := by decide +kernel
theorem dX3_clearCable_13 : decode cX3_clearCable 13 = .ok (.iload_n 1, 1) := by decide +kernel
theorem dX3_clearCable_14 : decode cX3_clearCable 14 = .ok (.iconst 0, 1) := by decide +kernel
theorem dX3_clearCable_15 : decode cX3_clearCable 15 = .ok (.invokevirtual 99, 3) := by decide +kernel
theorem dX3_clearCable_18 : decode cX3_clearCable 18 = .ok (.return_, 1) := by decide +kernel
set_option maxRecDepth 20000 in
theorem ggX3_lengthBetween_X2_at : GoodIn wsX3_lengthBetween wsX2_at := goodIn_r _ [11, 12, 13, 33, 34] (by decide +kernel) (by decide +kernel)
set_option maxRecDepth 20000 in
theorem gX3_lengthBetween_X2_at : GoodIn wsX3_lengthBetween (wsV RX3 107 RX2 yX2_at wsX2_at) := goodIn_app (goodIn_of _ (by decide +kernel)) ggX3_lengthBetween_X2_at
theorem dX3_lengthBetween_0 : decode cX3_lengthBetween 0 = .ok (.aload_n 0, 1) := by decide +kernel
theorem dX3_lengthBetween_1 : decode cX3_lengthBetween 1 = .ok (.getfield 24, 3) := by decide +kernel
theorem dX3_lengthBetween_4 : decode cX3_lengthBetween 4 = .ok (.iload_n 1, 1) := by decide +kernel
theorem dX3_lengthBetween_5 : decode cX3_lengthBetween 5 = .ok (.invokevirtual 107, 3) := by decide +kernel
theorem dX3_lengthBetween_8 : decode cX3_lengthBetween 8 = .ok (.istore_n 3, 1) := by decide +kernel
theorem dX3_lengthBetween_9 : decode cX3_lengthBetween 9 = .ok (.aload_n 0, 1) := by decide +kernel
theorem dX3_lengthBetween_10 : decode cX3_lengthBetween 10 = .ok (.getfield 24, 3) := by decide +kernel
theorem dX3_lengthBetween_13 : decode cX3_lengthBetween 13 = .ok (.iload_n 2, 1) := by decide +kernel
theorem dX3_lengthBetween_14 : decode cX3_lengthBetween 14 = .ok (.invokevirtual 107, 3) := by decide +kernel
theorem dX3_lengthBetween_17 : decode cX3_lengthBetween 17 = .ok (.istore 4, 2) := by decide +kernel
theorem dX3_lengthBetween_19 : decode cX3_lengthBetween 19 = .ok (.iload_n 3, 1) := by decide +kernel
theorem dX3_lengthBetween_20 : decode cX3_lengthBetween 20 = .ok (.iload 4, 2) := by decide +kernel
theorem dX3_lengthBetween_22 : decode cX3_lengthBetween 22 = .ok (.if_icmp .ne 5, 3) := by decide +kernel
theorem dX3_lengthBetween_25 : decode cX3_lengthBetween 25 = .ok (.iconst 1, 1) := by decide +kernel
theorem dX3_lengthBetween_26 : decode cX3_lengthBetween 26 = .ok (.ireturn, 1) := by decide +kernel
theorem dX3_lengthBetween_27 : decode cX3_lengthBetween 27 = .ok (.aload_n 0, 1) := by decide +kernel
theorem dX3_lengthBetween_28 : decode cX3_lengthBetween 28 = .ok (.getfield 14, 3) := by decide +kernel
theorem dX3_lengthBetween_31 : decode cX3_lengthBetween 31 = .ok (.iload_n 3, 1) := by decide +kernel
theorem dX3_lengthBetween_32 : decode cX3_lengthBetween 32 = .ok (.invokevirtual 107, 3) := by decide +kernel
theorem dX3_lengthBetween_35 : decode cX3_lengthBetween 35 = .ok (.aload_n 0, 1) := by decide +kernel
theorem dX3_lengthBetween_36 : decode cX3_lengthBetween 36 = .ok (.getfield 14, 3) := by decide +kernel
theorem dX3_lengthBetween_39 : decode cX3_lengthBetween 39 = .ok (.iload 4, 2) := by decide +kernel
theorem dX3_lengthBetween_41 : decode cX3_lengthBetween 41 = .ok (.invokevirtual 107, 3) := by decide +kernel
theorem dX3_lengthBetween_44 : decode cX3_lengthBetween 44 = .ok (.isub, 1) := by decide +kernel
theorem dX3_lengthBetween_45 : decode cX3_lengthBetween 45 = .ok (.invokestatic 228, 3) := by decide +kernel
theorem dX3_lengthBetween_48 : decode cX3_lengthBetween 48 = .ok (.istore 5, 2) := by decide +kernel
theorem dX3_lengthBetween_50 : decode cX3_lengthBetween 50 = .ok (.iload 5, 2) := by decide +kernel
theorem dX3_lengthBetween_52 : decode cX3_lengthBetween 52 = .ok (.ifCond .ne 7, 3) := by decide +kernel
theorem dX3_lengthBetween_55 : decode cX3_lengthBetween 55 = .ok (.iconst 2, 1) := by decide +kernel
theorem dX3_lengthBetween_56 : decode cX3_lengthBetween 56 = .ok (.goto 9, 3) := by decide +kernel
theorem dX3_lengthBetween_59 : decode cX3_lengthBetween 59 = .ok (.iconst 3, 1) := by decide +kernel
theorem dX3_lengthBetween_60 : decode cX3_lengthBetween 60 = .ok (.iconst 2, 1) := by decide +kernel
theorem dX3_lengthBetween_61 : decode cX3_lengthBetween 61 = .ok (.iload 5, 2) := by decide +kernel
theorem dX3_lengthBetween_63 : decode cX3_lengthBetween 63 = .ok (.imul, 1) := by decide +kernel
theorem dX3_lengthBetween_64 : decode cX3_lengthBetween 64 = .ok (.iadd, 1) := by decide +kernel
theorem dX3_lengthBetween_65 : decode cX3_lengthBetween 65 = .ok (.ireturn, 1) := by decide +kernel
set_option maxRecDepth 20000 in
theorem ggX3_planIsPossible_X1_size : GoodIn wsX3_planIsPossible wsX1_size := goodIn_r _ [6, 7, 65, 66, 67, 68, 69] (by decide +kernel) (by decide +kernel)
set_option maxRecDepth 20000 in
theorem gX3_planIsPossible_X1_size : GoodIn wsX3_planIsPossible (wsV RX3 167 RX1 yX1_size wsX1_size) := goodIn_app (goodIn_of _ (by decide +kernel)) ggX3_planIsPossible_X1_size
set_option maxRecDepth 20000 in
theorem ggX3_planIsPossible_X1_from : GoodIn wsX3_planIsPossible wsX1_from := goodIn_r _ [11, 12, 13, 14, 15, 16, 17, 18, 19, 65, 66, 67, 68, 69, 70, 71] (by decide +kernel) (by decide +kernel)
set_option maxRecDepth 20000 in
theorem gX3_planIsPossible_X1_from : GoodIn wsX3_planIsPossible (wsV RX3 233 RX1 yX1_from wsX1_from) := goodIn_app (goodIn_of _ (by decide +kernel)) ggX3_planIsPossible_X1_from
set_option maxRecDepth 20000 in
theorem ggX3_planIsPossible_X3_hasCable : GoodIn wsX3_planIsPossible wsX3_hasCable := goodIn_r _ [24, 25, 26, 14, 15, 16, 17, 18, 19, 46, 47, 48, 49, 50, 51, 52, 53, 54, 55, 56, 57, 58, 59, 60, 61, 62, 63, 64, 70, 71] (by decide +kernel) (by decide +kernel)
set_option maxRecDepth 20000 in
theorem gX3_planIsPossible_X3_hasCable : GoodIn wsX3_planIsPossible (wsV RX3 148 RX3 yX3_hasCable wsX3_hasCable) := goodIn_app (goodIn_of _ (by decide +kernel)) ggX3_planIsPossible_X3_hasCable
set_option maxRecDepth 20000 in
theorem ggX3_planIsPossible_X1_repeatsEarlier : GoodIn wsX3_planIsPossible wsX1_repeatsEarlier := goodIn_r _ [30, 31, 9, 10, 5, 11, 12, 13, 14, 15, 16, 17, 18, 19, 32, 33, 34, 35, 36, 65, 66, 67, 68, 69, 70, 71] (by decide +kernel) (by decide +kernel)
set_option maxRecDepth 20000 in
theorem gX3_planIsPossible_X1_repeatsEarlier : GoodIn wsX3_planIsPossible (wsV RX3 236 RX1 yX1_repeatsEarlier wsX1_repeatsEarlier) := goodIn_app (goodIn_of _ (by decide +kernel)) ggX3_planIsPossible_X1_repeatsEarlier
set_option maxRecDepth 20000 in
theorem ggX3_planIsPossible_X1_to : GoodIn wsX3_planIsPossible wsX1_to := goodIn_r _ [35, 36, 13, 14, 15, 16, 17, 18, 19, 65, 66, 67, 68, 69, 70, 71] (by decide +kernel) (by decide +kernel)
set_option maxRecDepth 20000 in
theorem gX3_planIsPossible_X1_to : GoodIn wsX3_planIsPossible (wsV RX3 239 RX1 yX1_to wsX1_to) := goodIn_app (goodIn_of _ (by decide +kernel)) ggX3_planIsPossible_X1_to
set_option maxRecDepth 20000 in
theorem ggX3_planIsPossible_X3_staysTaken : GoodIn wsX3_planIsPossible wsX3_staysTaken := goodIn_r _ [41, 1, 20, 21, 22, 23, 24, 25, 26, 14, 15, 16, 17, 18, 19, 42, 43, 44, 5, 45, 7, 31, 9, 10, 11, 12, 13, 46, 47, 48, 49, 50, 51, 52, 53, 54, 55, 56, 57, 58, 59, 60, 61, 62, 63, 64, 70, 71, 65, 66, 67, 68, 69] (by decide +kernel) (by decide +kernel)
set_option maxRecDepth 20000 in
theorem gX3_planIsPossible_X3_staysTaken : GoodIn wsX3_planIsPossible (wsV RX3 242 RX3 yX3_staysTaken wsX3_staysTaken) := goodIn_app (goodIn_of _ (by decide +kernel)) ggX3_planIsPossible_X3_staysTaken
theorem dX3_planIsPossible_0 : decode cX3_planIsPossible 0 = .ok (.aload_n 0, 1) := by decide +kernel
theorem dX3_planIsPossible_1 : decode cX3_planIsPossible 1 = .ok (.getfield 60, 3) := by decide +kernel
theorem dX3_planIsPossible_4 : decode cX3_planIsPossible 4 = .ok (.invokevirtual 167, 3) := by decide +kernel
theorem dX3_planIsPossible_7 : decode cX3_planIsPossible 7 = .ok (.istore_n 1, 1) := by decide +kernel
theorem dX3_planIsPossible_8 : decode cX3_planIsPossible 8 = .ok (.iconst 0, 1) := by decide +kernel
theorem dX3_planIsPossible_9 : decode cX3_planIsPossible 9 = .ok (.istore_n 2, 1) := by decide +kernel
theorem dX3_planIsPossible_10 : decode cX3_planIsPossible 10 = .ok (.iload_n 2, 1) := by decide +kernel
theorem dX3_planIsPossible_11 : decode cX3_planIsPossible 11 = .ok (.iload_n 1, 1) := by decide +kernel
theorem dX3_planIsPossible_12 : decode cX3_planIsPossible 12 = .ok (.if_icmp .ge 52, 3) := by decide +kernel
theorem dX3_planIsPossible_15 : decode cX3_planIsPossible 15 = .ok (.aload_n 0, 1) := by decide +kernel
theorem dX3_planIsPossible_16 : decode cX3_planIsPossible 16 = .ok (.aload_n 0, 1) := by decide +kernel
theorem dX3_planIsPossible_17 : decode cX3_planIsPossible 17 = .ok (.getfield 60, 3) := by decide +kernel
theorem dX3_planIsPossible_20 : decode cX3_planIsPossible 20 = .ok (.iload_n 2, 1) := by decide +kernel
theorem dX3_planIsPossible_21 : decode cX3_planIsPossible 21 = .ok (.invokevirtual 233, 3) := by decide +kernel
theorem dX3_planIsPossible_24 : decode cX3_planIsPossible 24 = .ok (.invokevirtual 148, 3) := by decide +kernel
theorem dX3_planIsPossible_27 : decode cX3_planIsPossible 27 = .ok (.ifCond .eq 29, 3) := by decide +kernel
theorem dX3_planIsPossible_30 : decode cX3_planIsPossible 30 = .ok (.aload_n 0, 1) := by decide +kernel
theorem dX3_planIsPossible_31 : decode cX3_planIsPossible 31 = .ok (.getfield 60, 3) := by decide +kernel
theorem dX3_planIsPossible_34 : decode cX3_planIsPossible 34 = .ok (.iload_n 2, 1) := by decide +kernel
theorem dX3_planIsPossible_35 : decode cX3_planIsPossible 35 = .ok (.invokevirtual 236, 3) := by decide +kernel
theorem dX3_planIsPossible_38 : decode cX3_planIsPossible 38 = .ok (.ifCond .ne 18, 3) := by decide +kernel
theorem dX3_planIsPossible_41 : decode cX3_planIsPossible 41 = .ok (.aload_n 0, 1) := by decide +kernel
theorem dX3_planIsPossible_42 : decode cX3_planIsPossible 42 = .ok (.aload_n 0, 1) := by decide +kernel
theorem dX3_planIsPossible_43 : decode cX3_planIsPossible 43 = .ok (.getfield 60, 3) := by decide +kernel
theorem dX3_planIsPossible_46 : decode cX3_planIsPossible 46 = .ok (.iload_n 2, 1) := by decide +kernel
theorem dX3_planIsPossible_47 : decode cX3_planIsPossible 47 = .ok (.invokevirtual 239, 3) := by decide +kernel
theorem dX3_planIsPossible_50 : decode cX3_planIsPossible 50 = .ok (.invokevirtual 242, 3) := by decide +kernel
theorem dX3_planIsPossible_53 : decode cX3_planIsPossible 53 = .ok (.ifCond .eq 5, 3) := by decide +kernel
theorem dX3_planIsPossible_56 : decode cX3_planIsPossible 56 = .ok (.iconst 0, 1) := by decide +kernel
theorem dX3_planIsPossible_57 : decode cX3_planIsPossible 57 = .ok (.ireturn, 1) := by decide +kernel
theorem dX3_planIsPossible_58 : decode cX3_planIsPossible 58 = .ok (.iinc 2 1, 3) := by decide +kernel
theorem dX3_planIsPossible_61 : decode cX3_planIsPossible 61 = .ok (.goto (-51), 3) := by decide +kernel
theorem dX3_planIsPossible_64 : decode cX3_planIsPossible 64 = .ok (.iconst 1, 1) := by decide +kernel
theorem dX3_planIsPossible_65 : decode cX3_planIsPossible 65 = .ok (.ireturn, 1) := by decide +kernel
set_option maxRecDepth 20000 in
theorem ggX3_staysTaken_X3_hasCable : GoodIn wsX3_staysTaken wsX3_hasCable := goodIn_r _ [6, 7, 8, 9, 10, 11, 12, 13, 14, 27, 28, 29, 30, 31, 32, 33, 34, 35, 36, 37, 38, 39, 40, 41, 42, 43, 44, 45, 46, 47] (by decide +kernel) (by decide +kernel)
set_option maxRecDepth 20000 in
theorem gX3_staysTaken_X3_hasCable : GoodIn wsX3_staysTaken (wsV RX3 148 RX3 yX3_hasCable wsX3_hasCable) := goodIn_app (goodIn_of _ (by decide +kernel)) ggX3_staysTaken_X3_hasCable
set_option maxRecDepth 20000 in
theorem ggX3_staysTaken_X1_pulls : GoodIn wsX3_staysTaken wsX1_pulls := goodIn_r _ [19, 20, 21, 22, 23, 18, 24, 25, 26, 9, 10, 11, 12, 13, 14, 48, 49, 50, 51, 52, 46, 47] (by decide +kernel) (by decide +kernel)
set_option maxRecDepth 20000 in
theorem gX3_staysTaken_X1_pulls : GoodIn wsX3_staysTaken (wsV RX3 245 RX1 yX1_pulls wsX1_pulls) := goodIn_app (goodIn_of _ (by decide +kernel)) ggX3_staysTaken_X1_pulls
theorem dX3_staysTaken_0 : decode cX3_staysTaken 0 = .ok (.aload_n 0, 1) := by decide +kernel
theorem dX3_staysTaken_1 : decode cX3_staysTaken 1 = .ok (.iload_n 1, 1) := by decide +kernel
theorem dX3_staysTaken_2 : decode cX3_staysTaken 2 = .ok (.invokevirtual 148, 3) := by decide +kernel
theorem dX3_staysTaken_5 : decode cX3_staysTaken 5 = .ok (.ifCond .eq 18, 3) := by decide +kernel
theorem dX3_staysTaken_8 : decode cX3_staysTaken 8 = .ok (.aload_n 0, 1) := by decide +kernel
theorem dX3_staysTaken_9 : decode cX3_staysTaken 9 = .ok (.getfield 60, 3) := by decide +kernel
theorem dX3_staysTaken_12 : decode cX3_staysTaken 12 = .ok (.iload_n 1, 1) := by decide +kernel
theorem dX3_staysTaken_13 : decode cX3_staysTaken 13 = .ok (.invokevirtual 245, 3) := by decide +kernel
theorem dX3_staysTaken_16 : decode cX3_staysTaken 16 = .ok (.ifCond .ne 7, 3) := by decide +kernel
theorem dX3_staysTaken_19 : decode cX3_staysTaken 19 = .ok (.iconst 1, 1) := by decide +kernel
theorem dX3_staysTaken_20 : decode cX3_staysTaken 20 = .ok (.goto 4, 3) := by decide +kernel
theorem dX3_staysTaken_23 : decode cX3_staysTaken 23 = .ok (.iconst 0, 1) := by decide +kernel
theorem dX3_staysTaken_24 : decode cX3_staysTaken 24 = .ok (.ireturn, 1) := by decide +kernel
set_option maxRecDepth 20000 in
theorem ggX3_pullPlannedEnds_X1_size : GoodIn wsX3_pullPlannedEnds wsX1_size := goodIn_r _ [8, 9, 58, 59, 60, 61, 62] (by decide +kernel) (by decide +kernel)
set_option maxRecDepth 20000 in
theorem gX3_pullPlannedEnds_X1_size : GoodIn wsX3_pullPlannedEnds (wsV RX3 167 RX1 yX1_size wsX1_size) := goodIn_app (goodIn_of _ (by decide +kernel)) ggX3_pullPlannedEnds_X1_size
set_option maxRecDepth 20000 in
theorem ggX3_pullPlannedEnds_X1_from : GoodIn wsX3_pullPlannedEnds wsX1_from := goodIn_r _ [13, 14, 15, 16, 17, 18, 19, 20, 21, 58, 59, 60, 61, 62, 63, 64] (by decide +kernel) (by decide +kernel)
set_option maxRecDepth 20000 in
theorem gX3_pullPlannedEnds_X1_from : GoodIn wsX3_pullPlannedEnds (wsV RX3 233 RX1 yX1_from wsX1_from) := goodIn_app (goodIn_of _ (by decide +kernel)) ggX3_pullPlannedEnds_X1_from
set_option maxRecDepth 20000 in
theorem ggX3_pullPlannedEnds_X2_at : GoodIn wsX3_pullPlannedEnds wsX2_at := goodIn_r _ [19, 20, 21, 63, 64] (by decide +kernel) (by decide +kernel)
set_option maxRecDepth 20000 in
theorem gX3_pullPlannedEnds_X2_at : GoodIn wsX3_pullPlannedEnds (wsV RX3 107 RX2 yX2_at wsX2_at) := goodIn_app (goodIn_of _ (by decide +kernel)) ggX3_pullPlannedEnds_X2_at
set_option maxRecDepth 20000 in
theorem ggX3_pullPlannedEnds_X1_keepCable : GoodIn wsX3_pullPlannedEnds wsX1_keepCable := goodIn_r _ [26, 27, 28, 29, 30, 31, 18, 32, 20, 58, 59, 60, 61, 62, 63, 64] (by decide +kernel) (by decide +kernel)
set_option maxRecDepth 20000 in
theorem gX3_pullPlannedEnds_X1_keepCable : GoodIn wsX3_pullPlannedEnds (wsV RX3 248 RX1 yX1_keepCable wsX1_keepCable) := goodIn_app (goodIn_of _ (by decide +kernel)) ggX3_pullPlannedEnds_X1_keepCable
set_option maxRecDepth 20000 in
theorem ggX3_pullPlannedEnds_X3_clearCable : GoodIn wsX3_pullPlannedEnds wsX3_clearCable := goodIn_r _ [37, 2, 3, 38, 30, 31, 18, 32, 20, 39, 40, 41, 42, 43, 44, 45, 46, 47, 48, 49, 50, 51, 52, 53, 54, 55, 56, 57, 63, 64] (by decide +kernel) (by decide +kernel)
set_option maxRecDepth 20000 in
theorem gX3_pullPlannedEnds_X3_clearCable : GoodIn wsX3_pullPlannedEnds (wsV RX3 162 RX3 yX3_clearCable wsX3_clearCable) := goodIn_app (goodIn_of _ (by decide +kernel)) ggX3_pullPlannedEnds_X3_clearCable
theorem dX3_pullPlannedEnds_0 : decode cX3_pullPlannedEnds 0 = .ok (.aload_n 0, 1) := by decide +kernel
theorem dX3_pullPlannedEnds_1 : decode cX3_pullPlannedEnds 1 = .ok (.getfield 60, 3) := by decide +kernel
theorem dX3_pullPlannedEnds_4 : decode cX3_pullPlannedEnds 4 = .ok (.invokevirtual 167, 3) := by decide +kernel
theorem dX3_pullPlannedEnds_7 : decode cX3_pullPlannedEnds 7 = .ok (.istore_n 1, 1) := by decide +kernel
theorem dX3_pullPlannedEnds_8 : decode cX3_pullPlannedEnds 8 = .ok (.iconst 0, 1) := by decide +kernel
theorem dX3_pullPlannedEnds_9 : decode cX3_pullPlannedEnds 9 = .ok (.istore_n 2, 1) := by decide +kernel
theorem dX3_pullPlannedEnds_10 : decode cX3_pullPlannedEnds 10 = .ok (.iload_n 2, 1) := by decide +kernel
theorem dX3_pullPlannedEnds_11 : decode cX3_pullPlannedEnds 11 = .ok (.iload_n 1, 1) := by decide +kernel
theorem dX3_pullPlannedEnds_12 : decode cX3_pullPlannedEnds 12 = .ok (.if_icmp .ge 42, 3) := by decide +kernel
theorem dX3_pullPlannedEnds_15 : decode cX3_pullPlannedEnds 15 = .ok (.aload_n 0, 1) := by decide +kernel
theorem dX3_pullPlannedEnds_16 : decode cX3_pullPlannedEnds 16 = .ok (.getfield 60, 3) := by decide +kernel
theorem dX3_pullPlannedEnds_19 : decode cX3_pullPlannedEnds 19 = .ok (.iload_n 2, 1) := by decide +kernel
theorem dX3_pullPlannedEnds_20 : decode cX3_pullPlannedEnds 20 = .ok (.invokevirtual 233, 3) := by decide +kernel
theorem dX3_pullPlannedEnds_23 : decode cX3_pullPlannedEnds 23 = .ok (.istore_n 3, 1) := by decide +kernel
theorem dX3_pullPlannedEnds_24 : decode cX3_pullPlannedEnds 24 = .ok (.aload_n 0, 1) := by decide +kernel
theorem dX3_pullPlannedEnds_25 : decode cX3_pullPlannedEnds 25 = .ok (.getfield 60, 3) := by decide +kernel
theorem dX3_pullPlannedEnds_28 : decode cX3_pullPlannedEnds 28 = .ok (.iload_n 2, 1) := by decide +kernel
theorem dX3_pullPlannedEnds_29 : decode cX3_pullPlannedEnds 29 = .ok (.aload_n 0, 1) := by decide +kernel
theorem dX3_pullPlannedEnds_30 : decode cX3_pullPlannedEnds 30 = .ok (.getfield 27, 3) := by decide +kernel
theorem dX3_pullPlannedEnds_33 : decode cX3_pullPlannedEnds 33 = .ok (.iload_n 3, 1) := by decide +kernel
theorem dX3_pullPlannedEnds_34 : decode cX3_pullPlannedEnds 34 = .ok (.invokevirtual 107, 3) := by decide +kernel
theorem dX3_pullPlannedEnds_37 : decode cX3_pullPlannedEnds 37 = .ok (.aload_n 0, 1) := by decide +kernel
theorem dX3_pullPlannedEnds_38 : decode cX3_pullPlannedEnds 38 = .ok (.getfield 30, 3) := by decide +kernel
theorem dX3_pullPlannedEnds_41 : decode cX3_pullPlannedEnds 41 = .ok (.iload_n 3, 1) := by decide +kernel
theorem dX3_pullPlannedEnds_42 : decode cX3_pullPlannedEnds 42 = .ok (.invokevirtual 107, 3) := by decide +kernel
theorem dX3_pullPlannedEnds_45 : decode cX3_pullPlannedEnds 45 = .ok (.invokevirtual 248, 3) := by decide +kernel
theorem dX3_pullPlannedEnds_48 : decode cX3_pullPlannedEnds 48 = .ok (.iinc 2 1, 3) := by decide +kernel
theorem dX3_pullPlannedEnds_51 : decode cX3_pullPlannedEnds 51 = .ok (.goto (-41), 3) := by decide +kernel
theorem dX3_pullPlannedEnds_54 : decode cX3_pullPlannedEnds 54 = .ok (.iconst 0, 1) := by decide +kernel
theorem dX3_pullPlannedEnds_55 : decode cX3_pullPlannedEnds 55 = .ok (.istore_n 2, 1) := by decide +kernel
theorem dX3_pullPlannedEnds_56 : decode cX3_pullPlannedEnds 56 = .ok (.iload_n 2, 1) := by decide +kernel
theorem dX3_pullPlannedEnds_57 : decode cX3_pullPlannedEnds 57 = .ok (.iload_n 1, 1) := by decide +kernel
theorem dX3_pullPlannedEnds_58 : decode cX3_pullPlannedEnds 58 = .ok (.if_icmp .ge 21, 3) := by decide +kernel
end
section
theorem dX3_pullPlannedEnds_61 : decode cX3_pullPlannedEnds 61 = .ok (.aload_n 0, 1) := by decide +kernel
theorem dX3_pullPlannedEnds_62 : decode cX3_pullPlannedEnds 62 = .ok (.aload_n 0, 1) := by decide +kernel
theorem dX3_pullPlannedEnds_63 : decode cX3_pullPlannedEnds 63 = .ok (.getfield 60, 3) := by decide +kernel
theorem dX3_pullPlannedEnds_66 : decode cX3_pullPlannedEnds 66 = .ok (.iload_n 2, 1) := by decide +kernel
theorem dX3_pullPlannedEnds_67 : decode cX3_pullPlannedEnds 67 = .ok (.invokevirtual 233, 3) := by decide +kernel
theorem dX3_pullPlannedEnds_70 : decode cX3_pullPlannedEnds 70 = .ok (.invokevirtual 162, 3) := by decide +kernel
theorem dX3_pullPlannedEnds_73 : decode cX3_pullPlannedEnds 73 = .ok (.iinc 2 1, 3) := by decide +kernel
theorem dX3_pullPlannedEnds_76 : decode cX3_pullPlannedEnds 76 = .ok (.goto (-20), 3) := by decide +kernel
theorem dX3_pullPlannedEnds_79 : decode cX3_pullPlannedEnds 79 = .ok (.return_, 1) := by decide +kernel
set_option maxRecDepth 20000 in
theorem ggX3_plugPlannedEnds_X1_size : GoodIn wsX3_plugPlannedEnds wsX1_size := goodIn_r _ [6, 7, 70, 71, 72, 73, 74] (by decide +kernel) (by decide +kernel)
set_option maxRecDepth 20000 in
theorem gX3_plugPlannedEnds_X1_size : GoodIn wsX3_plugPlannedEnds (wsV RX3 167 RX1 yX1_size wsX1_size) := goodIn_app (goodIn_of _ (by decide +kernel)) ggX3_plugPlannedEnds_X1_size
set_option maxRecDepth 20000 in
theorem ggX3_plugPlannedEnds_X1_keptOther : GoodIn wsX3_plugPlannedEnds wsX1_keptOther := goodIn_r _ [11, 12, 13, 14, 15, 16, 17, 18, 19, 70, 71, 72, 73, 74, 75, 76] (by decide +kernel) (by decide +kernel)
set_option maxRecDepth 20000 in
theorem gX3_plugPlannedEnds_X1_keptOther : GoodIn wsX3_plugPlannedEnds (wsV RX3 251 RX1 yX1_keptOther wsX1_keptOther) := goodIn_app (goodIn_of _ (by decide +kernel)) ggX3_plugPlannedEnds_X1_keptOther
set_option maxRecDepth 20000 in
theorem ggX3_plugPlannedEnds_X1_placeAfterwards : GoodIn wsX3_plugPlannedEnds wsX1_placeAfterwards := goodIn_r _ [23, 7, 24, 25, 26, 5, 27, 28, 13, 14, 15, 16, 17, 18, 19, 29, 30, 31, 32, 33, 70, 71, 72, 73, 74, 75, 76] (by decide +kernel) (by decide +kernel)
set_option maxRecDepth 20000 in
theorem gX3_plugPlannedEnds_X1_placeAfterwards : GoodIn wsX3_plugPlannedEnds (wsV RX3 254 RX1 yX1_placeAfterwards wsX1_placeAfterwards) := goodIn_app (goodIn_of _ (by decide +kernel)) ggX3_plugPlannedEnds_X1_placeAfterwards
set_option maxRecDepth 20000 in
theorem ggX3_plugPlannedEnds_X1_to : GoodIn wsX3_plugPlannedEnds wsX1_to := goodIn_r _ [32, 33, 13, 14, 15, 16, 17, 18, 19, 70, 71, 72, 73, 74, 75, 76] (by decide +kernel) (by decide +kernel)
set_option maxRecDepth 20000 in
theorem gX3_plugPlannedEnds_X1_to : GoodIn wsX3_plugPlannedEnds (wsV RX3 239 RX1 yX1_to wsX1_to) := goodIn_app (goodIn_of _ (by decide +kernel)) ggX3_plugPlannedEnds_X1_to
set_option maxRecDepth 20000 in
theorem ggX3_plugPlannedEnds_X1_keptColour : GoodIn wsX3_plugPlannedEnds wsX1_keptColour := goodIn_r _ [38, 39, 13, 14, 15, 16, 17, 18, 19, 70, 71, 72, 73, 74, 75, 76] (by decide +kernel) (by decide +kernel)
set_option maxRecDepth 20000 in
theorem gX3_plugPlannedEnds_X1_keptColour : GoodIn wsX3_plugPlannedEnds (wsV RX3 257 RX1 yX1_keptColour wsX1_keptColour) := goodIn_app (goodIn_of _ (by decide +kernel)) ggX3_plugPlannedEnds_X1_keptColour
set_option maxRecDepth 20000 in
theorem ggX3_plugPlannedEnds_X3_joinByCable : GoodIn wsX3_plugPlannedEnds wsX3_joinByCable := goodIn_r _ [44, 45, 46, 47, 48, 49, 16, 50, 18, 51, 52, 53, 54, 55, 56, 57, 58, 59, 60, 61, 62, 63, 64, 65, 66, 67, 68, 69, 75, 76] (by decide +kernel) (by decide +kernel)
set_option maxRecDepth 20000 in
theorem gX3_plugPlannedEnds_X3_joinByCable : GoodIn wsX3_plugPlannedEnds (wsV RX3 153 RX3 yX3_joinByCable wsX3_joinByCable) := goodIn_app (goodIn_of _ (by decide +kernel)) ggX3_plugPlannedEnds_X3_joinByCable
theorem dX3_plugPlannedEnds_0 : decode cX3_plugPlannedEnds 0 = .ok (.aload_n 0, 1) := by decide +kernel
theorem dX3_plugPlannedEnds_1 : decode cX3_plugPlannedEnds 1 = .ok (.getfield 60, 3) := by decide +kernel
theorem dX3_plugPlannedEnds_4 : decode cX3_plugPlannedEnds 4 = .ok (.invokevirtual 167, 3) := by decide +kernel
theorem dX3_plugPlannedEnds_7 : decode cX3_plugPlannedEnds 7 = .ok (.istore_n 1, 1) := by decide +kernel
theorem dX3_plugPlannedEnds_8 : decode cX3_plugPlannedEnds 8 = .ok (.iconst 0, 1) := by decide +kernel
theorem dX3_plugPlannedEnds_9 : decode cX3_plugPlannedEnds 9 = .ok (.istore_n 2, 1) := by decide +kernel
theorem dX3_plugPlannedEnds_10 : decode cX3_plugPlannedEnds 10 = .ok (.iload_n 2, 1) := by decide +kernel
theorem dX3_plugPlannedEnds_11 : decode cX3_plugPlannedEnds 11 = .ok (.iload_n 1, 1) := by decide +kernel
theorem dX3_plugPlannedEnds_12 : decode cX3_plugPlannedEnds 12 = .ok (.if_icmp .ge 46, 3) := by decide +kernel
theorem dX3_plugPlannedEnds_15 : decode cX3_plugPlannedEnds 15 = .ok (.aload_n 0, 1) := by decide +kernel
theorem dX3_plugPlannedEnds_16 : decode cX3_plugPlannedEnds 16 = .ok (.getfield 60, 3) := by decide +kernel
theorem dX3_plugPlannedEnds_19 : decode cX3_plugPlannedEnds 19 = .ok (.aload_n 0, 1) := by decide +kernel
theorem dX3_plugPlannedEnds_20 : decode cX3_plugPlannedEnds 20 = .ok (.getfield 60, 3) := by decide +kernel
theorem dX3_plugPlannedEnds_23 : decode cX3_plugPlannedEnds 23 = .ok (.iload_n 2, 1) := by decide +kernel
theorem dX3_plugPlannedEnds_24 : decode cX3_plugPlannedEnds 24 = .ok (.invokevirtual 251, 3) := by decide +kernel
theorem dX3_plugPlannedEnds_27 : decode cX3_plugPlannedEnds 27 = .ok (.invokevirtual 254, 3) := by decide +kernel
theorem dX3_plugPlannedEnds_30 : decode cX3_plugPlannedEnds 30 = .ok (.istore_n 3, 1) := by decide +kernel
theorem dX3_plugPlannedEnds_31 : decode cX3_plugPlannedEnds 31 = .ok (.aload_n 0, 1) := by decide +kernel
theorem dX3_plugPlannedEnds_32 : decode cX3_plugPlannedEnds 32 = .ok (.aload_n 0, 1) := by decide +kernel
theorem dX3_plugPlannedEnds_33 : decode cX3_plugPlannedEnds 33 = .ok (.getfield 60, 3) := by decide +kernel
theorem dX3_plugPlannedEnds_36 : decode cX3_plugPlannedEnds 36 = .ok (.iload_n 2, 1) := by decide +kernel
theorem dX3_plugPlannedEnds_37 : decode cX3_plugPlannedEnds 37 = .ok (.invokevirtual 239, 3) := by decide +kernel
theorem dX3_plugPlannedEnds_40 : decode cX3_plugPlannedEnds 40 = .ok (.iload_n 3, 1) := by decide +kernel
theorem dX3_plugPlannedEnds_41 : decode cX3_plugPlannedEnds 41 = .ok (.aload_n 0, 1) := by decide +kernel
theorem dX3_plugPlannedEnds_42 : decode cX3_plugPlannedEnds 42 = .ok (.getfield 60, 3) := by decide +kernel
theorem dX3_plugPlannedEnds_45 : decode cX3_plugPlannedEnds 45 = .ok (.iload_n 2, 1) := by decide +kernel
theorem dX3_plugPlannedEnds_46 : decode cX3_plugPlannedEnds 46 = .ok (.invokevirtual 257, 3) := by decide +kernel
theorem dX3_plugPlannedEnds_49 : decode cX3_plugPlannedEnds 49 = .ok (.invokevirtual 153, 3) := by decide +kernel
theorem dX3_plugPlannedEnds_52 : decode cX3_plugPlannedEnds 52 = .ok (.iinc 2 1, 3) := by decide +kernel
theorem dX3_plugPlannedEnds_55 : decode cX3_plugPlannedEnds 55 = .ok (.goto (-45), 3) := by decide +kernel
theorem dX3_plugPlannedEnds_58 : decode cX3_plugPlannedEnds 58 = .ok (.return_, 1) := by decide +kernel
set_option maxRecDepth 20000 in
theorem ggX3_trace_X2_at : GoodIn wsX3_trace wsX2_at := goodIn_r _ [7, 8, 9, 46, 47] (by decide +kernel) (by decide +kernel)
set_option maxRecDepth 20000 in
theorem gX3_trace_X2_at : GoodIn wsX3_trace (wsV RX3 107 RX2 yX2_at wsX2_at) := goodIn_app (goodIn_of _ (by decide +kernel)) ggX3_trace_X2_at
set_option maxRecDepth 20000 in
theorem ggX3_trace_X3_openStrandFrom : GoodIn wsX3_trace wsX3_openStrandFrom := goodIn_r _ [14, 15, 16, 17, 18, 19, 20, 21, 22, 3, 4, 5, 6, 7, 8, 9, 27, 28, 29, 30, 31, 32, 33, 34, 35, 36, 37, 38, 39, 40, 41, 42, 43, 44, 45, 48, 46, 47] (by decide +kernel) (by decide +kernel)
set_option maxRecDepth 20000 in
theorem gX3_trace_X3_openStrandFrom : GoodIn wsX3_trace (wsV RX3 219 RX3 yX3_openStrandFrom wsX3_openStrandFrom) := goodIn_app (goodIn_of _ (by decide +kernel)) ggX3_trace_X3_openStrandFrom
set_option maxRecDepth 20000 in
theorem ggX3_trace_X2_put : GoodIn wsX3_trace wsX2_put := goodIn_r _ [26, 8, 46, 47] (by decide +kernel) (by decide +kernel)
set_option maxRecDepth 20000 in
theorem gX3_trace_X2_put : GoodIn wsX3_trace (wsV RX3 99 RX2 yX2_put wsX2_put) := goodIn_app (goodIn_of _ (by decide +kernel)) ggX3_trace_X2_put
theorem dX3_trace_0 : decode cX3_trace 0 = .ok (.iload_n 1, 1) := by decide +kernel
theorem dX3_trace_1 : decode cX3_trace 1 = .ok (.istore_n 3, 1) := by decide +kernel
theorem dX3_trace_2 : decode cX3_trace 2 = .ok (.iload_n 2, 1) := by decide +kernel
theorem dX3_trace_3 : decode cX3_trace 3 = .ok (.istore 4, 2) := by decide +kernel
theorem dX3_trace_5 : decode cX3_trace 5 = .ok (.iconst 0, 1) := by decide +kernel
theorem dX3_trace_6 : decode cX3_trace 6 = .ok (.istore 5, 2) := by decide +kernel
theorem dX3_trace_8 : decode cX3_trace 8 = .ok (.iload 5, 2) := by decide +kernel
theorem dX3_trace_10 : decode cX3_trace 10 = .ok (.sipush 144, 3) := by decide +kernel
theorem dX3_trace_13 : decode cX3_trace 13 = .ok (.if_icmp .ge 71, 3) := by decide +kernel
theorem dX3_trace_16 : decode cX3_trace 16 = .ok (.iload 4, 2) := by decide +kernel
theorem dX3_trace_18 : decode cX3_trace 18 = .ok (.ifCond .eq 14, 3) := by decide +kernel
theorem dX3_trace_21 : decode cX3_trace 21 = .ok (.aload_n 0, 1) := by decide +kernel
theorem dX3_trace_22 : decode cX3_trace 22 = .ok (.getfield 27, 3) := by decide +kernel
theorem dX3_trace_25 : decode cX3_trace 25 = .ok (.iload_n 3, 1) := by decide +kernel
theorem dX3_trace_26 : decode cX3_trace 26 = .ok (.invokevirtual 107, 3) := by decide +kernel
theorem dX3_trace_29 : decode cX3_trace 29 = .ok (.goto 8, 3) := by decide +kernel
theorem dX3_trace_32 : decode cX3_trace 32 = .ok (.aload_n 0, 1) := by decide +kernel
theorem dX3_trace_33 : decode cX3_trace 33 = .ok (.iload_n 3, 1) := by decide +kernel
theorem dX3_trace_34 : decode cX3_trace 34 = .ok (.invokevirtual 219, 3) := by decide +kernel
theorem dX3_trace_37 : decode cX3_trace 37 = .ok (.istore_n 3, 1) := by decide +kernel
theorem dX3_trace_38 : decode cX3_trace 38 = .ok (.iload_n 3, 1) := by decide +kernel
theorem dX3_trace_39 : decode cX3_trace 39 = .ok (.iconst (-1), 1) := by decide +kernel
theorem dX3_trace_40 : decode cX3_trace 40 = .ok (.if_icmp .ne 6, 3) := by decide +kernel
theorem dX3_trace_43 : decode cX3_trace 43 = .ok (.iload 5, 2) := by decide +kernel
theorem dX3_trace_45 : decode cX3_trace 45 = .ok (.ireturn, 1) := by decide +kernel
theorem dX3_trace_46 : decode cX3_trace 46 = .ok (.aload_n 0, 1) := by decide +kernel
theorem dX3_trace_47 : decode cX3_trace 47 = .ok (.getfield 64, 3) := by decide +kernel
theorem dX3_trace_50 : decode cX3_trace 50 = .ok (.iload 5, 2) := by decide +kernel
theorem dX3_trace_52 : decode cX3_trace 52 = .ok (.iload_n 3, 1) := by decide +kernel
theorem dX3_trace_53 : decode cX3_trace 53 = .ok (.invokevirtual 99, 3) := by decide +kernel
theorem dX3_trace_56 : decode cX3_trace 56 = .ok (.iload_n 3, 1) := by decide +kernel
theorem dX3_trace_57 : decode cX3_trace 57 = .ok (.iload_n 1, 1) := by decide +kernel
theorem dX3_trace_58 : decode cX3_trace 58 = .ok (.if_icmp .ne 8, 3) := by decide +kernel
theorem dX3_trace_61 : decode cX3_trace 61 = .ok (.iload 5, 2) := by decide +kernel
theorem dX3_trace_63 : decode cX3_trace 63 = .ok (.iconst 1, 1) := by decide +kernel
theorem dX3_trace_64 : decode cX3_trace 64 = .ok (.iadd, 1) := by decide +kernel
theorem dX3_trace_65 : decode cX3_trace 65 = .ok (.ireturn, 1) := by decide +kernel
theorem dX3_trace_66 : decode cX3_trace 66 = .ok (.iload 4, 2) := by decide +kernel
theorem dX3_trace_68 : decode cX3_trace 68 = .ok (.ifCond .ne 7, 3) := by decide +kernel
theorem dX3_trace_71 : decode cX3_trace 71 = .ok (.iconst 1, 1) := by decide +kernel
theorem dX3_trace_72 : decode cX3_trace 72 = .ok (.goto 4, 3) := by decide +kernel
theorem dX3_trace_75 : decode cX3_trace 75 = .ok (.iconst 0, 1) := by decide +kernel
theorem dX3_trace_76 : decode cX3_trace 76 = .ok (.istore 4, 2) := by decide +kernel
theorem dX3_trace_78 : decode cX3_trace 78 = .ok (.iinc 5 1, 3) := by decide +kernel
theorem dX3_trace_81 : decode cX3_trace 81 = .ok (.goto (-73), 3) := by decide +kernel
theorem dX3_trace_84 : decode cX3_trace 84 = .ok (.sipush 144, 3) := by decide +kernel
theorem dX3_trace_87 : decode cX3_trace 87 = .ok (.ireturn, 1) := by decide +kernel
set_option maxRecDepth 20000 in
theorem ggX3_endOfTrail_X2_at : GoodIn wsX3_endOfTrail wsX2_at := goodIn_r _ [6, 7, 8, 28, 29] (by decide +kernel) (by decide +kernel)
set_option maxRecDepth 20000 in
theorem gX3_endOfTrail_X2_at : GoodIn wsX3_endOfTrail (wsV RX3 107 RX2 yX2_at wsX2_at) := goodIn_app (goodIn_of _ (by decide +kernel)) ggX3_endOfTrail_X2_at
theorem dX3_endOfTrail_0 : decode cX3_endOfTrail 0 = .ok (.iload_n 2, 1) := by decide +kernel
theorem dX3_endOfTrail_1 : decode cX3_endOfTrail 1 = .ok (.ifCond .ne 7, 3) := by decide +kernel
theorem dX3_endOfTrail_4 : decode cX3_endOfTrail 4 = .ok (.iload_n 1, 1) := by decide +kernel
theorem dX3_endOfTrail_5 : decode cX3_endOfTrail 5 = .ok (.goto 13, 3) := by decide +kernel
theorem dX3_endOfTrail_8 : decode cX3_endOfTrail 8 = .ok (.aload_n 0, 1) := by decide +kernel
theorem dX3_endOfTrail_9 : decode cX3_endOfTrail 9 = .ok (.getfield 64, 3) := by decide +kernel
theorem dX3_endOfTrail_12 : decode cX3_endOfTrail 12 = .ok (.iload_n 2, 1) := by decide +kernel
theorem dX3_endOfTrail_13 : decode cX3_endOfTrail 13 = .ok (.iconst 1, 1) := by decide +kernel
theorem dX3_endOfTrail_14 : decode cX3_endOfTrail 14 = .ok (.isub, 1) := by decide +kernel
theorem dX3_endOfTrail_15 : decode cX3_endOfTrail 15 = .ok (.invokevirtual 107, 3) := by decide +kernel
theorem dX3_endOfTrail_18 : decode cX3_endOfTrail 18 = .ok (.ireturn, 1) := by decide +kernel
set_option maxRecDepth 20000 in
theorem ggX3_isOnTrail_X2_at : GoodIn wsX3_isOnTrail wsX2_at := goodIn_r _ [6, 7, 8, 28, 29] (by decide +kernel) (by decide +kernel)
set_option maxRecDepth 20000 in
theorem gX3_isOnTrail_X2_at : GoodIn wsX3_isOnTrail (wsV RX3 107 RX2 yX2_at wsX2_at) := goodIn_app (goodIn_of _ (by decide +kernel)) ggX3_isOnTrail_X2_at
theorem dX3_isOnTrail_0 : decode cX3_isOnTrail 0 = .ok (.iconst 0, 1) := by decide +kernel
theorem dX3_isOnTrail_1 : decode cX3_isOnTrail 1 = .ok (.istore_n 3, 1) := by decide +kernel
theorem dX3_isOnTrail_2 : decode cX3_isOnTrail 2 = .ok (.iload_n 3, 1) := by decide +kernel
theorem dX3_isOnTrail_3 : decode cX3_isOnTrail 3 = .ok (.iload_n 2, 1) := by decide +kernel
theorem dX3_isOnTrail_4 : decode cX3_isOnTrail 4 = .ok (.if_icmp .ge 23, 3) := by decide +kernel
theorem dX3_isOnTrail_7 : decode cX3_isOnTrail 7 = .ok (.aload_n 0, 1) := by decide +kernel
theorem dX3_isOnTrail_8 : decode cX3_isOnTrail 8 = .ok (.getfield 64, 3) := by decide +kernel
theorem dX3_isOnTrail_11 : decode cX3_isOnTrail 11 = .ok (.iload_n 3, 1) := by decide +kernel
theorem dX3_isOnTrail_12 : decode cX3_isOnTrail 12 = .ok (.invokevirtual 107, 3) := by decide +kernel
theorem dX3_isOnTrail_15 : decode cX3_isOnTrail 15 = .ok (.iload_n 1, 1) := by decide +kernel
theorem dX3_isOnTrail_16 : decode cX3_isOnTrail 16 = .ok (.if_icmp .ne 5, 3) := by decide +kernel
theorem dX3_isOnTrail_19 : decode cX3_isOnTrail 19 = .ok (.iconst 1, 1) := by decide +kernel
theorem dX3_isOnTrail_20 : decode cX3_isOnTrail 20 = .ok (.ireturn, 1) := by decide +kernel
theorem dX3_isOnTrail_21 : decode cX3_isOnTrail 21 = .ok (.iinc 3 1, 3) := by decide +kernel
theorem dX3_isOnTrail_24 : decode cX3_isOnTrail 24 = .ok (.goto (-22), 3) := by decide +kernel
theorem dX3_isOnTrail_27 : decode cX3_isOnTrail 27 = .ok (.iconst 0, 1) := by decide +kernel
theorem dX3_isOnTrail_28 : decode cX3_isOnTrail 28 = .ok (.ireturn, 1) := by decide +kernel
set_option maxRecDepth 20000 in
theorem ggX3_markTrail_X2_at : GoodIn wsX3_markTrail wsX2_at := goodIn_r _ [7, 8, 9, 35, 36] (by decide +kernel) (by decide +kernel)
set_option maxRecDepth 20000 in
theorem gX3_markTrail_X2_at : GoodIn wsX3_markTrail (wsV RX3 107 RX2 yX2_at wsX2_at) := goodIn_app (goodIn_of _ (by decide +kernel)) ggX3_markTrail_X2_at
set_option maxRecDepth 20000 in
theorem ggX3_markTrail_X0_set : GoodIn wsX3_markTrail wsX0_set := goodIn_r _ [14, 15, 37] (by decide +kernel) (by decide +kernel)
set_option maxRecDepth 20000 in
theorem gX3_markTrail_X0_set : GoodIn wsX3_markTrail (wsV RX3 142 RX0 yX0_set wsX0_set) := goodIn_app (goodIn_of _ (by decide +kernel)) ggX3_markTrail_X0_set
theorem dX3_markTrail_0 : decode cX3_markTrail 0 = .ok (.iconst 0, 1) := by decide +kernel
theorem dX3_markTrail_1 : decode cX3_markTrail 1 = .ok (.istore_n 2, 1) := by decide +kernel
theorem dX3_markTrail_2 : decode cX3_markTrail 2 = .ok (.iload_n 2, 1) := by decide +kernel
theorem dX3_markTrail_3 : decode cX3_markTrail 3 = .ok (.iload_n 1, 1) := by decide +kernel
theorem dX3_markTrail_4 : decode cX3_markTrail 4 = .ok (.if_icmp .ge 25, 3) := by decide +kernel
theorem dX3_markTrail_7 : decode cX3_markTrail 7 = .ok (.aload_n 0, 1) := by decide +kernel
theorem dX3_markTrail_8 : decode cX3_markTrail 8 = .ok (.getfield 70, 3) := by decide +kernel
theorem dX3_markTrail_11 : decode cX3_markTrail 11 = .ok (.aload_n 0, 1) := by decide +kernel
theorem dX3_markTrail_12 : decode cX3_markTrail 12 = .ok (.getfield 64, 3) := by decide +kernel
theorem dX3_markTrail_15 : decode cX3_markTrail 15 = .ok (.iload_n 2, 1) := by decide +kernel
theorem dX3_markTrail_16 : decode cX3_markTrail 16 = .ok (.invokevirtual 107, 3) := by decide +kernel
theorem dX3_markTrail_19 : decode cX3_markTrail 19 = .ok (.iconst 1, 1) := by decide +kernel
theorem dX3_markTrail_20 : decode cX3_markTrail 20 = .ok (.invokevirtual 142, 3) := by decide +kernel
theorem dX3_markTrail_23 : decode cX3_markTrail 23 = .ok (.iinc 2 1, 3) := by decide +kernel
theorem dX3_markTrail_26 : decode cX3_markTrail 26 = .ok (.goto (-24), 3) := by decide +kernel
theorem dX3_markTrail_29 : decode cX3_markTrail 29 = .ok (.return_, 1) := by decide +kernel
set_option maxRecDepth 20000 in
theorem ggX3_searchFrom_X0_clear : GoodIn wsX3_searchFrom wsX0_clear := goodIn_r _ [8, 9, 59] (by decide +kernel) (by decide +kernel)
set_option maxRecDepth 20000 in
theorem gX3_searchFrom_X0_clear : GoodIn wsX3_searchFrom (wsV RX3 209 RX0 yX0_clear wsX0_clear) := goodIn_app (goodIn_of _ (by decide +kernel)) ggX3_searchFrom_X0_clear
set_option maxRecDepth 20000 in
theorem ggX3_searchFrom_X3_reach : GoodIn wsX3_searchFrom wsX3_reach := goodIn_r _ [14, 1, 2, 15, 16, 17, 7, 18, 9, 19, 20, 21, 22, 23, 24, 25, 26, 27, 28, 40, 41, 42, 43, 44, 45, 46, 47, 48, 49, 50, 51, 52, 53, 54, 55, 56, 57, 58, 59, 60, 61] (by decide +kernel) (by decide +kernel)
set_option maxRecDepth 20000 in
theorem gX3_searchFrom_X3_reach : GoodIn wsX3_searchFrom (wsV RX3 260 RX3 yX3_reach wsX3_reach) := goodIn_app (goodIn_of _ (by decide +kernel)) ggX3_searchFrom_X3_reach
set_option maxRecDepth 20000 in
theorem ggX3_searchFrom_X2_at : GoodIn wsX3_searchFrom wsX2_at := goodIn_r _ [32, 28, 33, 60, 61] (by decide +kernel) (by decide +kernel)
set_option maxRecDepth 20000 in
theorem gX3_searchFrom_X2_at : GoodIn wsX3_searchFrom (wsV RX3 107 RX2 yX2_at wsX2_at) := goodIn_app (goodIn_of _ (by decide +kernel)) ggX3_searchFrom_X2_at
set_option maxRecDepth 20000 in
theorem ggX3_searchFrom_X3_openStrandFrom : GoodIn wsX3_searchFrom wsX3_openStrandFrom := goodIn_r _ [37, 38, 39, 15, 16, 17, 7, 18, 9, 29, 30, 31, 26, 32, 28, 33, 40, 41, 42, 43, 44, 45, 46, 47, 48, 49, 50, 51, 52, 53, 54, 55, 56, 57, 58, 59, 60, 61] (by decide +kernel) (by decide +kernel)
set_option maxRecDepth 20000 in
theorem gX3_searchFrom_X3_openStrandFrom : GoodIn wsX3_searchFrom (wsV RX3 219 RX3 yX3_openStrandFrom wsX3_openStrandFrom) := goodIn_app (goodIn_of _ (by decide +kernel)) ggX3_searchFrom_X3_openStrandFrom
theorem dX3_searchFrom_0 : decode cX3_searchFrom 0 = .ok (.aload_n 0, 1) := by decide +kernel
theorem dX3_searchFrom_1 : decode cX3_searchFrom 1 = .ok (.getfield 70, 3) := by decide +kernel
theorem dX3_searchFrom_4 : decode cX3_searchFrom 4 = .ok (.invokevirtual 209, 3) := by decide +kernel
theorem dX3_searchFrom_7 : decode cX3_searchFrom 7 = .ok (.aload_n 0, 1) := by decide +kernel
theorem dX3_searchFrom_8 : decode cX3_searchFrom 8 = .ok (.iload_n 1, 1) := by decide +kernel
theorem dX3_searchFrom_9 : decode cX3_searchFrom 9 = .ok (.iconst 0, 1) := by decide +kernel
theorem dX3_searchFrom_10 : decode cX3_searchFrom 10 = .ok (.invokevirtual 260, 3) := by decide +kernel
theorem dX3_searchFrom_13 : decode cX3_searchFrom 13 = .ok (.istore_n 2, 1) := by decide +kernel
theorem dX3_searchFrom_14 : decode cX3_searchFrom 14 = .ok (.iconst 0, 1) := by decide +kernel
theorem dX3_searchFrom_15 : decode cX3_searchFrom 15 = .ok (.istore_n 3, 1) := by decide +kernel
theorem dX3_searchFrom_16 : decode cX3_searchFrom 16 = .ok (.iload_n 3, 1) := by decide +kernel
theorem dX3_searchFrom_17 : decode cX3_searchFrom 17 = .ok (.sipush 144, 3) := by decide +kernel
theorem dX3_searchFrom_20 : decode cX3_searchFrom 20 = .ok (.if_icmp .ge 51, 3) := by decide +kernel
theorem dX3_searchFrom_23 : decode cX3_searchFrom 23 = .ok (.iload_n 3, 1) := by decide +kernel
theorem dX3_searchFrom_24 : decode cX3_searchFrom 24 = .ok (.iload_n 2, 1) := by decide +kernel
theorem dX3_searchFrom_25 : decode cX3_searchFrom 25 = .ok (.if_icmp .ge 46, 3) := by decide +kernel
theorem dX3_searchFrom_28 : decode cX3_searchFrom 28 = .ok (.aload_n 0, 1) := by decide +kernel
theorem dX3_searchFrom_29 : decode cX3_searchFrom 29 = .ok (.getfield 67, 3) := by decide +kernel
theorem dX3_searchFrom_32 : decode cX3_searchFrom 32 = .ok (.iload_n 3, 1) := by decide +kernel
theorem dX3_searchFrom_33 : decode cX3_searchFrom 33 = .ok (.invokevirtual 107, 3) := by decide +kernel
theorem dX3_searchFrom_36 : decode cX3_searchFrom 36 = .ok (.istore 4, 2) := by decide +kernel
theorem dX3_searchFrom_38 : decode cX3_searchFrom 38 = .ok (.aload_n 0, 1) := by decide +kernel
theorem dX3_searchFrom_39 : decode cX3_searchFrom 39 = .ok (.aload_n 0, 1) := by decide +kernel
theorem dX3_searchFrom_40 : decode cX3_searchFrom 40 = .ok (.getfield 27, 3) := by decide +kernel
theorem dX3_searchFrom_43 : decode cX3_searchFrom 43 = .ok (.iload 4, 2) := by decide +kernel
theorem dX3_searchFrom_45 : decode cX3_searchFrom 45 = .ok (.invokevirtual 107, 3) := by decide +kernel
theorem dX3_searchFrom_48 : decode cX3_searchFrom 48 = .ok (.iload_n 2, 1) := by decide +kernel
theorem dX3_searchFrom_49 : decode cX3_searchFrom 49 = .ok (.invokevirtual 260, 3) := by decide +kernel
theorem dX3_searchFrom_52 : decode cX3_searchFrom 52 = .ok (.istore_n 2, 1) := by decide +kernel
theorem dX3_searchFrom_53 : decode cX3_searchFrom 53 = .ok (.aload_n 0, 1) := by decide +kernel
theorem dX3_searchFrom_54 : decode cX3_searchFrom 54 = .ok (.aload_n 0, 1) := by decide +kernel
theorem dX3_searchFrom_55 : decode cX3_searchFrom 55 = .ok (.iload 4, 2) := by decide +kernel
theorem dX3_searchFrom_57 : decode cX3_searchFrom 57 = .ok (.invokevirtual 219, 3) := by decide +kernel
theorem dX3_searchFrom_60 : decode cX3_searchFrom 60 = .ok (.iload_n 2, 1) := by decide +kernel
theorem dX3_searchFrom_61 : decode cX3_searchFrom 61 = .ok (.invokevirtual 260, 3) := by decide +kernel
theorem dX3_searchFrom_64 : decode cX3_searchFrom 64 = .ok (.istore_n 2, 1) := by decide +kernel
theorem dX3_searchFrom_65 : decode cX3_searchFrom 65 = .ok (.iinc 3 1, 3) := by decide +kernel
theorem dX3_searchFrom_68 : decode cX3_searchFrom 68 = .ok (.goto (-52), 3) := by decide +kernel
theorem dX3_searchFrom_71 : decode cX3_searchFrom 71 = .ok (.return_, 1) := by decide +kernel
set_option maxRecDepth 20000 in
theorem ggX3_reach_X0_has : GoodIn wsX3_reach wsX0_has := goodIn_r _ [7, 8, 38] (by decide +kernel) (by decide +kernel)
set_option maxRecDepth 20000 in
theorem gX3_reach_X0_has : GoodIn wsX3_reach (wsV RX3 138 RX0 yX0_has wsX0_has) := goodIn_app (goodIn_of _ (by decide +kernel)) ggX3_reach_X0_has
set_option maxRecDepth 20000 in
theorem ggX3_reach_X0_set : GoodIn wsX3_reach wsX0_set := goodIn_r _ [12, 8, 38] (by decide +kernel) (by decide +kernel)
set_option maxRecDepth 20000 in
theorem gX3_reach_X0_set : GoodIn wsX3_reach (wsV RX3 142 RX0 yX0_set wsX0_set) := goodIn_app (goodIn_of _ (by decide +kernel)) ggX3_reach_X0_set
set_option maxRecDepth 20000 in
theorem ggX3_reach_X2_put : GoodIn wsX3_reach wsX2_put := goodIn_r _ [17, 18, 39, 40] (by decide +kernel) (by decide +kernel)
set_option maxRecDepth 20000 in
theorem gX3_reach_X2_put : GoodIn wsX3_reach (wsV RX3 99 RX2 yX2_put wsX2_put) := goodIn_app (goodIn_of _ (by decide +kernel)) ggX3_reach_X2_put
theorem dX3_reach_0 : decode cX3_reach 0 = .ok (.iload_n 1, 1) := by decide +kernel
theorem dX3_reach_1 : decode cX3_reach 1 = .ok (.iconst (-1), 1) := by decide +kernel
theorem dX3_reach_2 : decode cX3_reach 2 = .ok (.if_icmp .eq 14, 3) := by decide +kernel
theorem dX3_reach_5 : decode cX3_reach 5 = .ok (.aload_n 0, 1) := by decide +kernel
theorem dX3_reach_6 : decode cX3_reach 6 = .ok (.getfield 70, 3) := by decide +kernel
theorem dX3_reach_9 : decode cX3_reach 9 = .ok (.iload_n 1, 1) := by decide +kernel
theorem dX3_reach_10 : decode cX3_reach 10 = .ok (.invokevirtual 138, 3) := by decide +kernel
theorem dX3_reach_13 : decode cX3_reach 13 = .ok (.ifCond .eq 5, 3) := by decide +kernel
theorem dX3_reach_16 : decode cX3_reach 16 = .ok (.iload_n 2, 1) := by decide +kernel
theorem dX3_reach_17 : decode cX3_reach 17 = .ok (.ireturn, 1) := by decide +kernel
theorem dX3_reach_18 : decode cX3_reach 18 = .ok (.aload_n 0, 1) := by decide +kernel
theorem dX3_reach_19 : decode cX3_reach 19 = .ok (.getfield 70, 3) := by decide +kernel
theorem dX3_reach_22 : decode cX3_reach 22 = .ok (.iload_n 1, 1) := by decide +kernel
theorem dX3_reach_23 : decode cX3_reach 23 = .ok (.iconst 1, 1) := by decide +kernel
theorem dX3_reach_24 : decode cX3_reach 24 = .ok (.invokevirtual 142, 3) := by decide +kernel
theorem dX3_reach_27 : decode cX3_reach 27 = .ok (.aload_n 0, 1) := by decide +kernel
theorem dX3_reach_28 : decode cX3_reach 28 = .ok (.getfield 67, 3) := by decide +kernel
theorem dX3_reach_31 : decode cX3_reach 31 = .ok (.iload_n 2, 1) := by decide +kernel
theorem dX3_reach_32 : decode cX3_reach 32 = .ok (.iload_n 1, 1) := by decide +kernel
theorem dX3_reach_33 : decode cX3_reach 33 = .ok (.invokevirtual 99, 3) := by decide +kernel
theorem dX3_reach_36 : decode cX3_reach 36 = .ok (.iload_n 2, 1) := by decide +kernel
theorem dX3_reach_37 : decode cX3_reach 37 = .ok (.iconst 1, 1) := by decide +kernel
theorem dX3_reach_38 : decode cX3_reach 38 = .ok (.iadd, 1) := by decide +kernel
theorem dX3_reach_39 : decode cX3_reach 39 = .ok (.ireturn, 1) := by decide +kernel
theorem dX4_init_0 : decode cX4_init 0 = .ok (.aload_n 0, 1) := by decide +kernel
theorem dX4_init_1 : decode cX4_init 1 = .ok (.invokespecial 1, 3) := by decide +kernel
theorem dX4_init_4 : decode cX4_init 4 = .ok (.aload_n 0, 1) := by decide +kernel
theorem dX4_init_5 : decode cX4_init 5 = .ok (.bipush 12, 2) := by decide +kernel
theorem dX4_init_7 : decode cX4_init 7 = .ok (.newarray .int, 2) := by decide +kernel
theorem dX4_init_9 : decode cX4_init 9 = .ok (.putfield 7, 3) := by decide +kernel
theorem dX4_init_12 : decode cX4_init 12 = .ok (.aload_n 0, 1) := by decide +kernel
theorem dX4_init_13 : decode cX4_init 13 = .ok (.bipush 13, 2) := by decide +kernel
theorem dX4_init_15 : decode cX4_init 15 = .ok (.newarray .int, 2) := by decide +kernel
theorem dX4_init_17 : decode cX4_init 17 = .ok (.putfield 13, 3) := by decide +kernel
theorem dX4_init_20 : decode cX4_init 20 = .ok (.aload_n 0, 1) := by decide +kernel
theorem dX4_init_21 : decode cX4_init 21 = .ok (.sipush 144, 3) := by decide +kernel
theorem dX4_init_24 : decode cX4_init 24 = .ok (.newarray .int, 2) := by decide +kernel
theorem dX4_init_26 : decode cX4_init 26 = .ok (.putfield 16, 3) := by decide +kernel
theorem dX4_init_29 : decode cX4_init 29 = .ok (.aload_n 0, 1) := by decide +kernel
theorem dX4_init_30 : decode cX4_init 30 = .ok (.sipush 144, 3) := by decide +kernel
theorem dX4_init_33 : decode cX4_init 33 = .ok (.newarray .int, 2) := by decide +kernel
theorem dX4_init_35 : decode cX4_init 35 = .ok (.putfield 19, 3) := by decide +kernel
theorem dX4_init_38 : decode cX4_init 38 = .ok (.aload_n 0, 1) := by decide +kernel
theorem dX4_init_39 : decode cX4_init 39 = .ok (.sipush 144, 3) := by decide +kernel
theorem dX4_init_42 : decode cX4_init 42 = .ok (.newarray .int, 2) := by decide +kernel
theorem dX4_init_44 : decode cX4_init 44 = .ok (.putfield 22, 3) := by decide +kernel
theorem dX4_init_47 : decode cX4_init 47 = .ok (.aload_n 0, 1) := by decide +kernel
theorem dX4_init_48 : decode cX4_init 48 = .ok (.sipush 144, 3) := by decide +kernel
theorem dX4_init_51 : decode cX4_init 51 = .ok (.newarray .int, 2) := by decide +kernel
theorem dX4_init_53 : decode cX4_init 53 = .ok (.putfield 25, 3) := by decide +kernel
theorem dX4_init_56 : decode cX4_init 56 = .ok (.aload_n 0, 1) := by decide +kernel
theorem dX4_init_57 : decode cX4_init 57 = .ok (.sipush 144, 3) := by decide +kernel
theorem dX4_init_60 : decode cX4_init 60 = .ok (.newarray .boolean, 2) := by decide +kernel
theorem dX4_init_62 : decode cX4_init 62 = .ok (.putfield 28, 3) := by decide +kernel
theorem dX4_init_65 : decode cX4_init 65 = .ok (.aload_n 0, 1) := by decide +kernel
theorem dX4_init_66 : decode cX4_init 66 = .ok (.bipush 10, 2) := by decide +kernel
theorem dX4_init_68 : decode cX4_init 68 = .ok (.newarray .int, 2) := by decide +kernel
theorem dX4_init_70 : decode cX4_init 70 = .ok (.putfield 32, 3) := by decide +kernel
theorem dX4_init_73 : decode cX4_init 73 = .ok (.aload_n 0, 1) := by decide +kernel
theorem dX4_init_74 : decode cX4_init 74 = .ok (.bipush 10, 2) := by decide +kernel
theorem dX4_init_76 : decode cX4_init 76 = .ok (.newarray .int, 2) := by decide +kernel
theorem dX4_init_78 : decode cX4_init 78 = .ok (.putfield 35, 3) := by decide +kernel
theorem dX4_init_81 : decode cX4_init 81 = .ok (.aload_n 0, 1) := by decide +kernel
theorem dX4_init_82 : decode cX4_init 82 = .ok (.bipush 10, 2) := by decide +kernel
theorem dX4_init_84 : decode cX4_init 84 = .ok (.newarray .int, 2) := by decide +kernel
theorem dX4_init_86 : decode cX4_init 86 = .ok (.putfield 38, 3) := by decide +kernel
theorem dX4_init_89 : decode cX4_init 89 = .ok (.aload_n 0, 1) := by decide +kernel
theorem dX4_init_90 : decode cX4_init 90 = .ok (.bipush 10, 2) := by decide +kernel
theorem dX4_init_92 : decode cX4_init 92 = .ok (.newarray .int, 2) := by decide +kernel
theorem dX4_init_94 : decode cX4_init 94 = .ok (.putfield 41, 3) := by decide +kernel
theorem dX4_init_97 : decode cX4_init 97 = .ok (.aload_n 0, 1) := by decide +kernel
theorem dX4_init_98 : decode cX4_init 98 = .ok (.bipush 12, 2) := by decide +kernel
theorem dX4_init_100 : decode cX4_init 100 = .ok (.newarray .int, 2) := by decide +kernel
theorem dX4_init_102 : decode cX4_init 102 = .ok (.putfield 44, 3) := by decide +kernel
theorem dX4_init_105 : decode cX4_init 105 = .ok (.aload_n 0, 1) := by decide +kernel
theorem dX4_init_106 : decode cX4_init 106 = .ok (.bipush 12, 2) := by decide +kernel
theorem dX4_init_108 : decode cX4_init 108 = .ok (.newarray .int, 2) := by decide +kernel
theorem dX4_init_110 : decode cX4_init 110 = .ok (.putfield 47, 3) := by decide +kernel
theorem dX4_init_113 : decode cX4_init 113 = .ok (.aload_n 0, 1) := by decide +kernel
theorem dX4_init_114 : decode cX4_init 114 = .ok (.sipush 144, 3) := by decide +kernel
theorem dX4_init_117 : decode cX4_init 117 = .ok (.newarray .int, 2) := by decide +kernel
theorem dX4_init_119 : decode cX4_init 119 = .ok (.putfield 50, 3) := by decide +kernel
theorem dX4_init_122 : decode cX4_init 122 = .ok (.aload_n 0, 1) := by decide +kernel
theorem dX4_init_123 : decode cX4_init 123 = .ok (.sipush 144, 3) := by decide +kernel
theorem dX4_init_126 : decode cX4_init 126 = .ok (.newarray .int, 2) := by decide +kernel
theorem dX4_init_128 : decode cX4_init 128 = .ok (.putfield 53, 3) := by decide +kernel
theorem dX4_init_131 : decode cX4_init 131 = .ok (.aload_n 0, 1) := by decide +kernel
theorem dX4_init_132 : decode cX4_init 132 = .ok (.sipush 145, 3) := by decide +kernel
theorem dX4_init_135 : decode cX4_init 135 = .ok (.newarray .int, 2) := by decide +kernel
theorem dX4_init_137 : decode cX4_init 137 = .ok (.putfield 56, 3) := by decide +kernel
theorem dX4_init_140 : decode cX4_init 140 = .ok (.aload_n 0, 1) := by decide +kernel
theorem dX4_init_141 : decode cX4_init 141 = .ok (.sipush 144, 3) := by decide +kernel
theorem dX4_init_144 : decode cX4_init 144 = .ok (.newarray .int, 2) := by decide +kernel
theorem dX4_init_146 : decode cX4_init 146 = .ok (.putfield 59, 3) := by decide +kernel
theorem dX4_init_149 : decode cX4_init 149 = .ok (.return_, 1) := by decide +kernel
theorem dX4_thrown_0 : decode cX4_thrown 0 = .ok (.aload_n 0, 1) := by decide +kernel
theorem dX4_thrown_1 : decode cX4_thrown 1 = .ok (.getfield 62, 3) := by decide +kernel
theorem dX4_thrown_4 : decode cX4_thrown 4 = .ok (.ireturn, 1) := by decide +kernel
theorem dX4_holds_0 : decode cX4_holds 0 = .ok (.aload_n 0, 1) := by decide +kernel
theorem dX4_holds_1 : decode cX4_holds 1 = .ok (.iload_n 1, 1) := by decide +kernel
theorem dX4_holds_2 : decode cX4_holds 2 = .ok (.putfield 62, 3) := by decide +kernel
theorem dX4_holds_5 : decode cX4_holds 5 = .ok (.iload_n 1, 1) := by decide +kernel
theorem dX4_holds_6 : decode cX4_holds 6 = .ok (.ifCond .ne 7, 3) := by decide +kernel
theorem dX4_holds_9 : decode cX4_holds 9 = .ok (.iconst 1, 1) := by decide +kernel
theorem dX4_holds_10 : decode cX4_holds 10 = .ok (.goto 4, 3) := by decide +kernel
theorem dX4_holds_13 : decode cX4_holds 13 = .ok (.iconst 0, 1) := by decide +kernel
theorem dX4_holds_14 : decode cX4_holds 14 = .ok (.ireturn, 1) := by decide +kernel
theorem dX4_in_0 : decode cX4_in 0 = .ok (.iload_n 0, 1) := by decide +kernel
theorem dX4_in_1 : decode cX4_in 1 = .ok (.iload_n 1, 1) := by decide +kernel
theorem dX4_in_2 : decode cX4_in 2 = .ok (.if_icmp .lt 12, 3) := by decide +kernel
theorem dX4_in_5 : decode cX4_in 5 = .ok (.iload_n 0, 1) := by decide +kernel
theorem dX4_in_6 : decode cX4_in 6 = .ok (.iload_n 2, 1) := by decide +kernel
theorem dX4_in_7 : decode cX4_in 7 = .ok (.if_icmp .gt 7, 3) := by decide +kernel
theorem dX4_in_10 : decode cX4_in 10 = .ok (.iconst 1, 1) := by decide +kernel
theorem dX4_in_11 : decode cX4_in 11 = .ok (.goto 4, 3) := by decide +kernel
theorem dX4_in_14 : decode cX4_in 14 = .ok (.iconst 0, 1) := by decide +kernel
theorem dX4_in_15 : decode cX4_in 15 = .ok (.ireturn, 1) := by decide +kernel
set_option maxRecDepth 20000 in
theorem ggX4_isPort_X4_in : GoodIn wsX4_isPort wsX4_in := goodIn_r _ [5] (by decide +kernel) (by decide +kernel)
set_option maxRecDepth 20000 in
theorem gX4_isPort_X4_in : GoodIn wsX4_isPort (va_wsS RX4 69 yX4_in wsX4_in) := goodIn_app (goodIn_of _ (by decide +kernel)) ggX4_isPort_X4_in
theorem dX4_isPort_0 : decode cX4_isPort 0 = .ok (.iload_n 1, 1) := by decide +kernel
theorem dX4_isPort_1 : decode cX4_isPort 1 = .ok (.iconst 0, 1) := by decide +kernel
theorem dX4_isPort_2 : decode cX4_isPort 2 = .ok (.aload_n 0, 1) := by decide +kernel
theorem dX4_isPort_3 : decode cX4_isPort 3 = .ok (.getfield 66, 3) := by decide +kernel
theorem dX4_isPort_6 : decode cX4_isPort 6 = .ok (.iconst 1, 1) := by decide +kernel
theorem dX4_isPort_7 : decode cX4_isPort 7 = .ok (.isub, 1) := by decide +kernel
theorem dX4_isPort_8 : decode cX4_isPort 8 = .ok (.invokestatic 69, 3) := by decide +kernel
theorem dX4_isPort_11 : decode cX4_isPort 11 = .ok (.ireturn, 1) := by decide +kernel
set_option maxRecDepth 20000 in
theorem ggX4_arePorts_X4_isPort : GoodIn wsX4_arePorts wsX4_isPort := goodIn_r _ [5, 6, 7, 8, 4, 9, 10, 11, 12, 13, 14, 15, 16, 17, 18, 19, 20, 21, 22, 23, 24, 25, 26, 27, 28, 29, 30, 31, 32, 33] (by decide +kernel) (by decide +kernel)
set_option maxRecDepth 20000 in
theorem gX4_arePorts_X4_isPort : GoodIn wsX4_arePorts (wsV RX4 73 RX4 yX4_isPort wsX4_isPort) := goodIn_app (goodIn_of _ (by decide +kernel)) ggX4_arePorts_X4_isPort
theorem dX4_arePorts_0 : decode cX4_arePorts 0 = .ok (.aload_n 0, 1) := by decide +kernel
theorem dX4_arePorts_1 : decode cX4_arePorts 1 = .ok (.iload_n 1, 1) := by decide +kernel
theorem dX4_arePorts_2 : decode cX4_arePorts 2 = .ok (.invokevirtual 73, 3) := by decide +kernel
theorem dX4_arePorts_5 : decode cX4_arePorts 5 = .ok (.ifCond .eq 15, 3) := by decide +kernel
theorem dX4_arePorts_8 : decode cX4_arePorts 8 = .ok (.aload_n 0, 1) := by decide +kernel
theorem dX4_arePorts_9 : decode cX4_arePorts 9 = .ok (.iload_n 2, 1) := by decide +kernel
theorem dX4_arePorts_10 : decode cX4_arePorts 10 = .ok (.invokevirtual 73, 3) := by decide +kernel
theorem dX4_arePorts_13 : decode cX4_arePorts 13 = .ok (.ifCond .eq 7, 3) := by decide +kernel
theorem dX4_arePorts_16 : decode cX4_arePorts 16 = .ok (.iconst 1, 1) := by decide +kernel
theorem dX4_arePorts_17 : decode cX4_arePorts 17 = .ok (.goto 4, 3) := by decide +kernel
theorem dX4_arePorts_20 : decode cX4_arePorts 20 = .ok (.iconst 0, 1) := by decide +kernel
theorem dX4_arePorts_21 : decode cX4_arePorts 21 = .ok (.ireturn, 1) := by decide +kernel
theorem dX4_panel_0 : decode cX4_panel 0 = .ok (.iconst 0, 1) := by decide +kernel
theorem dX4_panel_1 : decode cX4_panel 1 = .ok (.istore_n 2, 1) := by decide +kernel
theorem dX4_panel_2 : decode cX4_panel 2 = .ok (.aload_n 0, 1) := by decide +kernel
theorem dX4_panel_3 : decode cX4_panel 3 = .ok (.getfield 13, 3) := by decide +kernel
theorem dX4_panel_6 : decode cX4_panel 6 = .ok (.iload_n 2, 1) := by decide +kernel
theorem dX4_panel_7 : decode cX4_panel 7 = .ok (.iconst 1, 1) := by decide +kernel
theorem dX4_panel_8 : decode cX4_panel 8 = .ok (.iadd, 1) := by decide +kernel
theorem dX4_panel_9 : decode cX4_panel 9 = .ok (.iaload, 1) := by decide +kernel
theorem dX4_panel_10 : decode cX4_panel 10 = .ok (.iload_n 1, 1) := by decide +kernel
theorem dX4_panel_11 : decode cX4_panel 11 = .ok (.if_icmp .gt 9, 3) := by decide +kernel
theorem dX4_panel_14 : decode cX4_panel 14 = .ok (.iinc 2 1, 3) := by decide +kernel
theorem dX4_panel_17 : decode cX4_panel 17 = .ok (.goto (-15), 3) := by decide +kernel
theorem dX4_panel_20 : decode cX4_panel 20 = .ok (.iload_n 2, 1) := by decide +kernel
theorem dX4_panel_21 : decode cX4_panel 21 = .ok (.ireturn, 1) := by decide +kernel
set_option maxRecDepth 20000 in
theorem ggX4_addPanel_X4_in : GoodIn wsX4_addPanel wsX4_in := goodIn_r _ [10] (by decide +kernel) (by decide +kernel)
set_option maxRecDepth 20000 in
theorem gX4_addPanel_X4_in : GoodIn wsX4_addPanel (va_wsS RX4 69 yX4_in wsX4_in) := goodIn_app (goodIn_of _ (by decide +kernel)) ggX4_addPanel_X4_in
set_option maxRecDepth 20000 in
theorem ggX4_addPanel_X4_holds : GoodIn wsX4_addPanel wsX4_holds := goodIn_r _ [14, 15, 16, 17, 18, 19, 20, 21, 22, 23, 24, 25, 26, 27, 28, 29, 30, 31, 32, 33, 34, 35, 36, 37, 38, 39] (by decide +kernel) (by decide +kernel)
set_option maxRecDepth 20000 in
theorem gX4_addPanel_X4_holds : GoodIn wsX4_addPanel (wsV RX4 80 RX4 yX4_holds wsX4_holds) := goodIn_app (goodIn_of _ (by decide +kernel)) ggX4_addPanel_X4_holds
theorem dX4_addPanel_0 : decode cX4_addPanel 0 = .ok (.aload_n 0, 1) := by decide +kernel
theorem dX4_addPanel_1 : decode cX4_addPanel 1 = .ok (.iload_n 1, 1) := by decide +kernel
theorem dX4_addPanel_2 : decode cX4_addPanel 2 = .ok (.iconst 0, 1) := by decide +kernel
theorem dX4_addPanel_3 : decode cX4_addPanel 3 = .ok (.bipush 9, 2) := by decide +kernel
theorem dX4_addPanel_5 : decode cX4_addPanel 5 = .ok (.invokestatic 69, 3) := by decide +kernel
theorem dX4_addPanel_8 : decode cX4_addPanel 8 = .ok (.ifCond .eq 13, 3) := by decide +kernel
theorem dX4_addPanel_11 : decode cX4_addPanel 11 = .ok (.iload_n 2, 1) := by decide +kernel
theorem dX4_addPanel_12 : decode cX4_addPanel 12 = .ok (.iconst 1, 1) := by decide +kernel
theorem dX4_addPanel_13 : decode cX4_addPanel 13 = .ok (.bipush 12, 2) := by decide +kernel
theorem dX4_addPanel_15 : decode cX4_addPanel 15 = .ok (.invokestatic 69, 3) := by decide +kernel
theorem dX4_addPanel_18 : decode cX4_addPanel 18 = .ok (.ifCond .ne 7, 3) := by decide +kernel
theorem dX4_addPanel_21 : decode cX4_addPanel 21 = .ok (.iconst 1, 1) := by decide +kernel
theorem dX4_addPanel_22 : decode cX4_addPanel 22 = .ok (.goto 17, 3) := by decide +kernel
theorem dX4_addPanel_25 : decode cX4_addPanel 25 = .ok (.aload_n 0, 1) := by decide +kernel
theorem dX4_addPanel_26 : decode cX4_addPanel 26 = .ok (.getfield 77, 3) := by decide +kernel
theorem dX4_addPanel_29 : decode cX4_addPanel 29 = .ok (.bipush 12, 2) := by decide +kernel
theorem dX4_addPanel_31 : decode cX4_addPanel 31 = .ok (.if_icmp .ne 7, 3) := by decide +kernel
theorem dX4_addPanel_34 : decode cX4_addPanel 34 = .ok (.iconst 2, 1) := by decide +kernel
theorem dX4_addPanel_35 : decode cX4_addPanel 35 = .ok (.goto 4, 3) := by decide +kernel
theorem dX4_addPanel_38 : decode cX4_addPanel 38 = .ok (.iconst 0, 1) := by decide +kernel
theorem dX4_addPanel_39 : decode cX4_addPanel 39 = .ok (.invokevirtual 80, 3) := by decide +kernel
theorem dX4_addPanel_42 : decode cX4_addPanel 42 = .ok (.ifCond .ne 5, 3) := by decide +kernel
theorem dX4_addPanel_45 : decode cX4_addPanel 45 = .ok (.iconst 0, 1) := by decide +kernel
theorem dX4_addPanel_46 : decode cX4_addPanel 46 = .ok (.ireturn, 1) := by decide +kernel
theorem dX4_addPanel_47 : decode cX4_addPanel 47 = .ok (.aload_n 0, 1) := by decide +kernel
theorem dX4_addPanel_48 : decode cX4_addPanel 48 = .ok (.getfield 7, 3) := by decide +kernel
theorem dX4_addPanel_51 : decode cX4_addPanel 51 = .ok (.aload_n 0, 1) := by decide +kernel
theorem dX4_addPanel_52 : decode cX4_addPanel 52 = .ok (.getfield 77, 3) := by decide +kernel
theorem dX4_addPanel_55 : decode cX4_addPanel 55 = .ok (.iload_n 1, 1) := by decide +kernel
theorem dX4_addPanel_56 : decode cX4_addPanel 56 = .ok (.iastore, 1) := by decide +kernel
theorem dX4_addPanel_57 : decode cX4_addPanel 57 = .ok (.aload_n 0, 1) := by decide +kernel
theorem dX4_addPanel_58 : decode cX4_addPanel 58 = .ok (.getfield 66, 3) := by decide +kernel
theorem dX4_addPanel_61 : decode cX4_addPanel 61 = .ok (.istore_n 3, 1) := by decide +kernel
theorem dX4_addPanel_62 : decode cX4_addPanel 62 = .ok (.iload_n 3, 1) := by decide +kernel
theorem dX4_addPanel_63 : decode cX4_addPanel 63 = .ok (.aload_n 0, 1) := by decide +kernel
theorem dX4_addPanel_64 : decode cX4_addPanel 64 = .ok (.getfield 66, 3) := by decide +kernel
theorem dX4_addPanel_67 : decode cX4_addPanel 67 = .ok (.iload_n 2, 1) := by decide +kernel
theorem dX4_addPanel_68 : decode cX4_addPanel 68 = .ok (.iadd, 1) := by decide +kernel
theorem dX4_addPanel_69 : decode cX4_addPanel 69 = .ok (.if_icmp .ge 23, 3) := by decide +kernel
theorem dX4_addPanel_72 : decode cX4_addPanel 72 = .ok (.aload_n 0, 1) := by decide +kernel
theorem dX4_addPanel_73 : decode cX4_addPanel 73 = .ok (.getfield 16, 3) := by decide +kernel
theorem dX4_addPanel_76 : decode cX4_addPanel 76 = .ok (.iload_n 3, 1) := by decide +kernel
theorem dX4_addPanel_77 : decode cX4_addPanel 77 = .ok (.iconst (-1), 1) := by decide +kernel
theorem dX4_addPanel_78 : decode cX4_addPanel 78 = .ok (.iastore, 1) := by decide +kernel
theorem dX4_addPanel_79 : decode cX4_addPanel 79 = .ok (.aload_n 0, 1) := by decide +kernel
theorem dX4_addPanel_80 : decode cX4_addPanel 80 = .ok (.getfield 22, 3) := by decide +kernel
theorem dX4_addPanel_83 : decode cX4_addPanel 83 = .ok (.iload_n 3, 1) := by decide +kernel
theorem dX4_addPanel_84 : decode cX4_addPanel 84 = .ok (.iconst (-1), 1) := by decide +kernel
theorem dX4_addPanel_85 : decode cX4_addPanel 85 = .ok (.iastore, 1) := by decide +kernel
theorem dX4_addPanel_86 : decode cX4_addPanel 86 = .ok (.iinc 3 1, 3) := by decide +kernel
theorem dX4_addPanel_89 : decode cX4_addPanel 89 = .ok (.goto (-27), 3) := by decide +kernel
theorem dX4_addPanel_92 : decode cX4_addPanel 92 = .ok (.aload_n 0, 1) := by decide +kernel
theorem dX4_addPanel_93 : decode cX4_addPanel 93 = .ok (.dup, 1) := by decide +kernel
theorem dX4_addPanel_94 : decode cX4_addPanel 94 = .ok (.getfield 77, 3) := by decide +kernel
theorem dX4_addPanel_97 : decode cX4_addPanel 97 = .ok (.iconst 1, 1) := by decide +kernel
theorem dX4_addPanel_98 : decode cX4_addPanel 98 = .ok (.iadd, 1) := by decide +kernel
theorem dX4_addPanel_99 : decode cX4_addPanel 99 = .ok (.putfield 77, 3) := by decide +kernel
theorem dX4_addPanel_102 : decode cX4_addPanel 102 = .ok (.aload_n 0, 1) := by decide +kernel
theorem dX4_addPanel_103 : decode cX4_addPanel 103 = .ok (.dup, 1) := by decide +kernel
theorem dX4_addPanel_104 : decode cX4_addPanel 104 = .ok (.getfield 66, 3) := by decide +kernel
theorem dX4_addPanel_107 : decode cX4_addPanel 107 = .ok (.iload_n 2, 1) := by decide +kernel
theorem dX4_addPanel_108 : decode cX4_addPanel 108 = .ok (.iadd, 1) := by decide +kernel
theorem dX4_addPanel_109 : decode cX4_addPanel 109 = .ok (.putfield 66, 3) := by decide +kernel
theorem dX4_addPanel_112 : decode cX4_addPanel 112 = .ok (.aload_n 0, 1) := by decide +kernel
theorem dX4_addPanel_113 : decode cX4_addPanel 113 = .ok (.getfield 13, 3) := by decide +kernel
theorem dX4_addPanel_116 : decode cX4_addPanel 116 = .ok (.aload_n 0, 1) := by decide +kernel
theorem dX4_addPanel_117 : decode cX4_addPanel 117 = .ok (.getfield 77, 3) := by decide +kernel
theorem dX4_addPanel_120 : decode cX4_addPanel 120 = .ok (.aload_n 0, 1) := by decide +kernel
theorem dX4_addPanel_121 : decode cX4_addPanel 121 = .ok (.getfield 66, 3) := by decide +kernel
theorem dX4_addPanel_124 : decode cX4_addPanel 124 = .ok (.iastore, 1) := by decide +kernel
theorem dX4_addPanel_125 : decode cX4_addPanel 125 = .ok (.aload_n 0, 1) := by decide +kernel
theorem dX4_addPanel_126 : decode cX4_addPanel 126 = .ok (.getfield 66, 3) := by decide +kernel
theorem dX4_addPanel_129 : decode cX4_addPanel 129 = .ok (.iload_n 2, 1) := by decide +kernel
theorem dX4_addPanel_130 : decode cX4_addPanel 130 = .ok (.isub, 1) := by decide +kernel
theorem dX4_addPanel_131 : decode cX4_addPanel 131 = .ok (.ireturn, 1) := by decide +kernel
set_option maxRecDepth 20000 in
theorem ggX4_isBehind_X4_panel : GoodIn wsX4_isBehind wsX4_panel := goodIn_r _ [6, 1, 7, 8, 9, 10, 11, 12, 13, 14, 15, 16, 17, 18, 19, 20, 21, 22, 23, 24, 25, 26, 27, 28, 29, 30] (by decide +kernel) (by decide +kernel)
set_option maxRecDepth 20000 in
theorem gX4_isBehind_X4_panel : GoodIn wsX4_isBehind (wsV RX4 83 RX4 yX4_panel wsX4_panel) := goodIn_app (goodIn_of _ (by decide +kernel)) ggX4_isBehind_X4_panel
theorem dX4_isBehind_0 : decode cX4_isBehind 0 = .ok (.iload_n 1, 1) := by decide +kernel
theorem dX4_isBehind_1 : decode cX4_isBehind 1 = .ok (.iload_n 2, 1) := by decide +kernel
theorem dX4_isBehind_2 : decode cX4_isBehind 2 = .ok (.iadd, 1) := by decide +kernel
theorem dX4_isBehind_3 : decode cX4_isBehind 3 = .ok (.aload_n 0, 1) := by decide +kernel
theorem dX4_isBehind_4 : decode cX4_isBehind 4 = .ok (.getfield 13, 3) := by decide +kernel
theorem dX4_isBehind_7 : decode cX4_isBehind 7 = .ok (.aload_n 0, 1) := by decide +kernel
theorem dX4_isBehind_8 : decode cX4_isBehind 8 = .ok (.iload_n 1, 1) := by decide +kernel
theorem dX4_isBehind_9 : decode cX4_isBehind 9 = .ok (.invokevirtual 83, 3) := by decide +kernel
theorem dX4_isBehind_12 : decode cX4_isBehind 12 = .ok (.iconst 1, 1) := by decide +kernel
theorem dX4_isBehind_13 : decode cX4_isBehind 13 = .ok (.iadd, 1) := by decide +kernel
theorem dX4_isBehind_14 : decode cX4_isBehind 14 = .ok (.iaload, 1) := by decide +kernel
theorem dX4_isBehind_15 : decode cX4_isBehind 15 = .ok (.if_icmp .gt 7, 3) := by decide +kernel
theorem dX4_isBehind_18 : decode cX4_isBehind 18 = .ok (.iconst 1, 1) := by decide +kernel
theorem dX4_isBehind_19 : decode cX4_isBehind 19 = .ok (.goto 4, 3) := by decide +kernel
theorem dX4_isBehind_22 : decode cX4_isBehind 22 = .ok (.iconst 0, 1) := by decide +kernel
theorem dX4_isBehind_23 : decode cX4_isBehind 23 = .ok (.ireturn, 1) := by decide +kernel
set_option maxRecDepth 20000 in
theorem ggX4_errorOfTrunk_X4_arePorts : GoodIn wsX4_errorOfTrunk wsX4_arePorts := goodIn_r _ [7, 8, 9, 10, 6, 11, 12, 13, 14, 15, 25, 26, 27, 28, 29, 30, 31, 32, 33, 34, 35, 36, 37, 38, 39, 40, 41, 42, 43, 44, 45, 46, 47, 48] (by decide +kernel) (by decide +kernel)
set_option maxRecDepth 20000 in
theorem gX4_errorOfTrunk_X4_arePorts : GoodIn wsX4_errorOfTrunk (wsV RX4 87 RX4 yX4_arePorts wsX4_arePorts) := goodIn_app (goodIn_of _ (by decide +kernel)) ggX4_errorOfTrunk_X4_arePorts
set_option maxRecDepth 20000 in
theorem ggX4_errorOfTrunk_X4_in : GoodIn wsX4_errorOfTrunk wsX4_in := goodIn_r _ [15] (by decide +kernel) (by decide +kernel)
set_option maxRecDepth 20000 in
theorem gX4_errorOfTrunk_X4_in : GoodIn wsX4_errorOfTrunk (va_wsS RX4 69 yX4_in wsX4_in) := goodIn_app (goodIn_of _ (by decide +kernel)) ggX4_errorOfTrunk_X4_in
set_option maxRecDepth 20000 in
theorem ggX4_errorOfTrunk_X4_panel : GoodIn wsX4_errorOfTrunk wsX4_panel := goodIn_r _ [19, 20, 25, 26, 27, 28, 29, 30, 31, 32, 33, 34, 35, 36, 37, 38, 39, 40, 41, 42, 43, 44, 45, 46, 47, 48] (by decide +kernel) (by decide +kernel)
set_option maxRecDepth 20000 in
theorem gX4_errorOfTrunk_X4_panel : GoodIn wsX4_errorOfTrunk (wsV RX4 83 RX4 yX4_panel wsX4_panel) := goodIn_app (goodIn_of _ (by decide +kernel)) ggX4_errorOfTrunk_X4_panel
set_option maxRecDepth 20000 in
theorem ggX4_errorOfTrunk_X4_isBehind : GoodIn wsX4_errorOfTrunk wsX4_isBehind := goodIn_r _ [24, 20, 16, 17, 18, 6, 19, 25, 26, 27, 28, 29, 30, 31, 32, 33, 34, 35, 36, 37, 38, 39, 40, 41, 42, 43, 44, 45, 46, 47, 48] (by decide +kernel) (by decide +kernel)
set_option maxRecDepth 20000 in
theorem gX4_errorOfTrunk_X4_isBehind : GoodIn wsX4_errorOfTrunk (wsV RX4 91 RX4 yX4_isBehind wsX4_isBehind) := goodIn_app (goodIn_of _ (by decide +kernel)) ggX4_errorOfTrunk_X4_isBehind
theorem dX4_errorOfTrunk_0 : decode cX4_errorOfTrunk 0 = .ok (.aload_n 0, 1) := by decide +kernel
theorem dX4_errorOfTrunk_1 : decode cX4_errorOfTrunk 1 = .ok (.iload_n 1, 1) := by decide +kernel
theorem dX4_errorOfTrunk_2 : decode cX4_errorOfTrunk 2 = .ok (.iload_n 2, 1) := by decide +kernel
theorem dX4_errorOfTrunk_3 : decode cX4_errorOfTrunk 3 = .ok (.invokevirtual 87, 3) := by decide +kernel
theorem dX4_errorOfTrunk_6 : decode cX4_errorOfTrunk 6 = .ok (.ifCond .ne 5, 3) := by decide +kernel
theorem dX4_errorOfTrunk_9 : decode cX4_errorOfTrunk 9 = .ok (.iconst 1, 1) := by decide +kernel
theorem dX4_errorOfTrunk_10 : decode cX4_errorOfTrunk 10 = .ok (.ireturn, 1) := by decide +kernel
theorem dX4_errorOfTrunk_11 : decode cX4_errorOfTrunk 11 = .ok (.iload_n 3, 1) := by decide +kernel
theorem dX4_errorOfTrunk_12 : decode cX4_errorOfTrunk 12 = .ok (.iconst 1, 1) := by decide +kernel
theorem dX4_errorOfTrunk_13 : decode cX4_errorOfTrunk 13 = .ok (.bipush 12, 2) := by decide +kernel
theorem dX4_errorOfTrunk_15 : decode cX4_errorOfTrunk 15 = .ok (.invokestatic 69, 3) := by decide +kernel
theorem dX4_errorOfTrunk_18 : decode cX4_errorOfTrunk 18 = .ok (.ifCond .eq 46, 3) := by decide +kernel
theorem dX4_errorOfTrunk_21 : decode cX4_errorOfTrunk 21 = .ok (.iload 4, 2) := by decide +kernel
theorem dX4_errorOfTrunk_23 : decode cX4_errorOfTrunk 23 = .ok (.iconst 1, 1) := by decide +kernel
theorem dX4_errorOfTrunk_24 : decode cX4_errorOfTrunk 24 = .ok (.sipush 500, 3) := by decide +kernel
theorem dX4_errorOfTrunk_27 : decode cX4_errorOfTrunk 27 = .ok (.invokestatic 69, 3) := by decide +kernel
theorem dX4_errorOfTrunk_30 : decode cX4_errorOfTrunk 30 = .ok (.ifCond .eq 34, 3) := by decide +kernel
theorem dX4_errorOfTrunk_33 : decode cX4_errorOfTrunk 33 = .ok (.aload_n 0, 1) := by decide +kernel
theorem dX4_errorOfTrunk_34 : decode cX4_errorOfTrunk 34 = .ok (.iload_n 1, 1) := by decide +kernel
theorem dX4_errorOfTrunk_35 : decode cX4_errorOfTrunk 35 = .ok (.invokevirtual 83, 3) := by decide +kernel
theorem dX4_errorOfTrunk_38 : decode cX4_errorOfTrunk 38 = .ok (.aload_n 0, 1) := by decide +kernel
theorem dX4_errorOfTrunk_39 : decode cX4_errorOfTrunk 39 = .ok (.iload_n 2, 1) := by decide +kernel
theorem dX4_errorOfTrunk_40 : decode cX4_errorOfTrunk 40 = .ok (.invokevirtual 83, 3) := by decide +kernel
theorem dX4_errorOfTrunk_43 : decode cX4_errorOfTrunk 43 = .ok (.if_icmp .eq 21, 3) := by decide +kernel
theorem dX4_errorOfTrunk_46 : decode cX4_errorOfTrunk 46 = .ok (.aload_n 0, 1) := by decide +kernel
theorem dX4_errorOfTrunk_47 : decode cX4_errorOfTrunk 47 = .ok (.iload_n 1, 1) := by decide +kernel
theorem dX4_errorOfTrunk_48 : decode cX4_errorOfTrunk 48 = .ok (.iload_n 3, 1) := by decide +kernel
theorem dX4_errorOfTrunk_49 : decode cX4_errorOfTrunk 49 = .ok (.invokevirtual 91, 3) := by decide +kernel
theorem dX4_errorOfTrunk_52 : decode cX4_errorOfTrunk 52 = .ok (.ifCond .eq 12, 3) := by decide +kernel
theorem dX4_errorOfTrunk_55 : decode cX4_errorOfTrunk 55 = .ok (.aload_n 0, 1) := by decide +kernel
theorem dX4_errorOfTrunk_56 : decode cX4_errorOfTrunk 56 = .ok (.iload_n 2, 1) := by decide +kernel
theorem dX4_errorOfTrunk_57 : decode cX4_errorOfTrunk 57 = .ok (.iload_n 3, 1) := by decide +kernel
theorem dX4_errorOfTrunk_58 : decode cX4_errorOfTrunk 58 = .ok (.invokevirtual 91, 3) := by decide +kernel
theorem dX4_errorOfTrunk_61 : decode cX4_errorOfTrunk 61 = .ok (.ifCond .ne 5, 3) := by decide +kernel
theorem dX4_errorOfTrunk_64 : decode cX4_errorOfTrunk 64 = .ok (.iconst 2, 1) := by decide +kernel
theorem dX4_errorOfTrunk_65 : decode cX4_errorOfTrunk 65 = .ok (.ireturn, 1) := by decide +kernel
theorem dX4_errorOfTrunk_66 : decode cX4_errorOfTrunk 66 = .ok (.aload_n 0, 1) := by decide +kernel
theorem dX4_errorOfTrunk_67 : decode cX4_errorOfTrunk 67 = .ok (.getfield 94, 3) := by decide +kernel
theorem dX4_errorOfTrunk_70 : decode cX4_errorOfTrunk 70 = .ok (.bipush 10, 2) := by decide +kernel
theorem dX4_errorOfTrunk_72 : decode cX4_errorOfTrunk 72 = .ok (.if_icmp .ne 7, 3) := by decide +kernel
theorem dX4_errorOfTrunk_75 : decode cX4_errorOfTrunk 75 = .ok (.iconst 1, 1) := by decide +kernel
theorem dX4_errorOfTrunk_76 : decode cX4_errorOfTrunk 76 = .ok (.goto 4, 3) := by decide +kernel
theorem dX4_errorOfTrunk_79 : decode cX4_errorOfTrunk 79 = .ok (.iconst 0, 1) := by decide +kernel
theorem dX4_errorOfTrunk_80 : decode cX4_errorOfTrunk 80 = .ok (.istore 5, 2) := by decide +kernel
theorem dX4_errorOfTrunk_82 : decode cX4_errorOfTrunk 82 = .ok (.iconst 0, 1) := by decide +kernel
theorem dX4_errorOfTrunk_83 : decode cX4_errorOfTrunk 83 = .ok (.istore 6, 2) := by decide +kernel
theorem dX4_errorOfTrunk_85 : decode cX4_errorOfTrunk 85 = .ok (.iload 6, 2) := by decide +kernel
theorem dX4_errorOfTrunk_87 : decode cX4_errorOfTrunk 87 = .ok (.iload_n 3, 1) := by decide +kernel
theorem dX4_errorOfTrunk_88 : decode cX4_errorOfTrunk 88 = .ok (.if_icmp .ge 47, 3) := by decide +kernel
theorem dX4_errorOfTrunk_91 : decode cX4_errorOfTrunk 91 = .ok (.iload 5, 2) := by decide +kernel
theorem dX4_errorOfTrunk_93 : decode cX4_errorOfTrunk 93 = .ok (.ifCond .ne 29, 3) := by decide +kernel
theorem dX4_errorOfTrunk_96 : decode cX4_errorOfTrunk 96 = .ok (.aload_n 0, 1) := by decide +kernel
theorem dX4_errorOfTrunk_97 : decode cX4_errorOfTrunk 97 = .ok (.getfield 22, 3) := by decide +kernel
theorem dX4_errorOfTrunk_100 : decode cX4_errorOfTrunk 100 = .ok (.iload_n 1, 1) := by decide +kernel
theorem dX4_errorOfTrunk_101 : decode cX4_errorOfTrunk 101 = .ok (.iload 6, 2) := by decide +kernel
theorem dX4_errorOfTrunk_103 : decode cX4_errorOfTrunk 103 = .ok (.iadd, 1) := by decide +kernel
theorem dX4_errorOfTrunk_104 : decode cX4_errorOfTrunk 104 = .ok (.iaload, 1) := by decide +kernel
theorem dX4_errorOfTrunk_105 : decode cX4_errorOfTrunk 105 = .ok (.iconst (-1), 1) := by decide +kernel
theorem dX4_errorOfTrunk_106 : decode cX4_errorOfTrunk 106 = .ok (.if_icmp .ne 16, 3) := by decide +kernel
theorem dX4_errorOfTrunk_109 : decode cX4_errorOfTrunk 109 = .ok (.aload_n 0, 1) := by decide +kernel
theorem dX4_errorOfTrunk_110 : decode cX4_errorOfTrunk 110 = .ok (.getfield 22, 3) := by decide +kernel
theorem dX4_errorOfTrunk_113 : decode cX4_errorOfTrunk 113 = .ok (.iload_n 2, 1) := by decide +kernel
theorem dX4_errorOfTrunk_114 : decode cX4_errorOfTrunk 114 = .ok (.iload 6, 2) := by decide +kernel
theorem dX4_errorOfTrunk_116 : decode cX4_errorOfTrunk 116 = .ok (.iadd, 1) := by decide +kernel
theorem dX4_errorOfTrunk_117 : decode cX4_errorOfTrunk 117 = .ok (.iaload, 1) := by decide +kernel
theorem dX4_errorOfTrunk_118 : decode cX4_errorOfTrunk 118 = .ok (.iconst (-1), 1) := by decide +kernel
theorem dX4_errorOfTrunk_119 : decode cX4_errorOfTrunk 119 = .ok (.if_icmp .eq 7, 3) := by decide +kernel
theorem dX4_errorOfTrunk_122 : decode cX4_errorOfTrunk 122 = .ok (.iconst 1, 1) := by decide +kernel
theorem dX4_errorOfTrunk_123 : decode cX4_errorOfTrunk 123 = .ok (.goto 4, 3) := by decide +kernel
theorem dX4_errorOfTrunk_126 : decode cX4_errorOfTrunk 126 = .ok (.iconst 0, 1) := by decide +kernel
theorem dX4_errorOfTrunk_127 : decode cX4_errorOfTrunk 127 = .ok (.istore 5, 2) := by decide +kernel
theorem dX4_errorOfTrunk_129 : decode cX4_errorOfTrunk 129 = .ok (.iinc 6 1, 3) := by decide +kernel
theorem dX4_errorOfTrunk_132 : decode cX4_errorOfTrunk 132 = .ok (.goto (-47), 3) := by decide +kernel
theorem dX4_errorOfTrunk_135 : decode cX4_errorOfTrunk 135 = .ok (.iload 5, 2) := by decide +kernel
theorem dX4_errorOfTrunk_137 : decode cX4_errorOfTrunk 137 = .ok (.ifCond .eq 7, 3) := by decide +kernel
theorem dX4_errorOfTrunk_140 : decode cX4_errorOfTrunk 140 = .ok (.iconst 3, 1) := by decide +kernel
theorem dX4_errorOfTrunk_141 : decode cX4_errorOfTrunk 141 = .ok (.goto 4, 3) := by decide +kernel
theorem dX4_errorOfTrunk_144 : decode cX4_errorOfTrunk 144 = .ok (.iconst 0, 1) := by decide +kernel
theorem dX4_errorOfTrunk_145 : decode cX4_errorOfTrunk 145 = .ok (.ireturn, 1) := by decide +kernel
set_option maxRecDepth 20000 in
theorem ggX4_addTrunk_X4_errorOfTrunk : GoodIn wsX4_addTrunk wsX4_errorOfTrunk := goodIn_r _ [10, 2, 11, 12, 13, 14, 9, 15, 16, 17, 18, 19, 20, 21, 22, 23, 24, 25, 26, 27, 28, 29, 30, 31, 32, 44, 45, 46, 47, 48, 49, 50, 51, 52, 53, 54, 55, 56, 57, 58, 59, 60, 61, 62, 63, 64, 65, 66, 67] (by decide +kernel) (by decide +kernel)
set_option maxRecDepth 20000 in
theorem gX4_addTrunk_X4_errorOfTrunk : GoodIn wsX4_addTrunk (wsV RX4 97 RX4 yX4_errorOfTrunk wsX4_errorOfTrunk) := goodIn_app (goodIn_of _ (by decide +kernel)) ggX4_addTrunk_X4_errorOfTrunk
set_option maxRecDepth 20000 in
theorem ggX4_addTrunk_X4_holds : GoodIn wsX4_addTrunk wsX4_holds := goodIn_r _ [36, 37, 44, 45, 46, 47, 48, 49, 50, 51, 52, 53, 54, 55, 56, 57, 58, 59, 60, 61, 62, 63, 64, 65, 66, 67] (by decide +kernel) (by decide +kernel)
set_option maxRecDepth 20000 in
theorem gX4_addTrunk_X4_holds : GoodIn wsX4_addTrunk (wsV RX4 80 RX4 yX4_holds wsX4_holds) := goodIn_app (goodIn_of _ (by decide +kernel)) ggX4_addTrunk_X4_holds
set_option maxRecDepth 20000 in
theorem ggX4_addTrunk_X4_joins : GoodIn wsX4_addTrunk wsX4_joins := goodIn_r _ [41, 11, 42, 2, 43, 44, 45, 46, 47, 48, 49, 50, 51, 52, 53, 54, 55, 56, 57, 58, 59, 60, 61, 62, 63, 64, 65, 66, 67] (by decide +kernel) (by decide +kernel)
set_option maxRecDepth 20000 in
theorem gX4_addTrunk_X4_joins : GoodIn wsX4_addTrunk (wsV RX4 101 RX4 yX4_joins wsX4_joins) := goodIn_app (goodIn_of _ (by decide +kernel)) ggX4_addTrunk_X4_joins
theorem dX4_addTrunk_0 : decode cX4_addTrunk 0 = .ok (.aload_n 0, 1) := by decide +kernel
theorem dX4_addTrunk_1 : decode cX4_addTrunk 1 = .ok (.aload_n 0, 1) := by decide +kernel
theorem dX4_addTrunk_2 : decode cX4_addTrunk 2 = .ok (.iload_n 1, 1) := by decide +kernel
theorem dX4_addTrunk_3 : decode cX4_addTrunk 3 = .ok (.iload_n 2, 1) := by decide +kernel
theorem dX4_addTrunk_4 : decode cX4_addTrunk 4 = .ok (.iload_n 3, 1) := by decide +kernel
theorem dX4_addTrunk_5 : decode cX4_addTrunk 5 = .ok (.iload 4, 2) := by decide +kernel
theorem dX4_addTrunk_7 : decode cX4_addTrunk 7 = .ok (.invokevirtual 97, 3) := by decide +kernel
theorem dX4_addTrunk_10 : decode cX4_addTrunk 10 = .ok (.invokevirtual 80, 3) := by decide +kernel
theorem dX4_addTrunk_13 : decode cX4_addTrunk 13 = .ok (.ifCond .ne 5, 3) := by decide +kernel
theorem dX4_addTrunk_16 : decode cX4_addTrunk 16 = .ok (.iconst 0, 1) := by decide +kernel
theorem dX4_addTrunk_17 : decode cX4_addTrunk 17 = .ok (.ireturn, 1) := by decide +kernel
theorem dX4_addTrunk_18 : decode cX4_addTrunk 18 = .ok (.iconst 0, 1) := by decide +kernel
theorem dX4_addTrunk_19 : decode cX4_addTrunk 19 = .ok (.istore 5, 2) := by decide +kernel
theorem dX4_addTrunk_21 : decode cX4_addTrunk 21 = .ok (.iload 5, 2) := by decide +kernel
theorem dX4_addTrunk_23 : decode cX4_addTrunk 23 = .ok (.iload_n 3, 1) := by decide +kernel
theorem dX4_addTrunk_24 : decode cX4_addTrunk 24 = .ok (.if_icmp .ge 33, 3) := by decide +kernel
theorem dX4_addTrunk_27 : decode cX4_addTrunk 27 = .ok (.aload_n 0, 1) := by decide +kernel
theorem dX4_addTrunk_28 : decode cX4_addTrunk 28 = .ok (.iload_n 1, 1) := by decide +kernel
theorem dX4_addTrunk_29 : decode cX4_addTrunk 29 = .ok (.iload 5, 2) := by decide +kernel
theorem dX4_addTrunk_31 : decode cX4_addTrunk 31 = .ok (.iadd, 1) := by decide +kernel
theorem dX4_addTrunk_32 : decode cX4_addTrunk 32 = .ok (.iload_n 2, 1) := by decide +kernel
theorem dX4_addTrunk_33 : decode cX4_addTrunk 33 = .ok (.iload 5, 2) := by decide +kernel
theorem dX4_addTrunk_35 : decode cX4_addTrunk 35 = .ok (.iadd, 1) := by decide +kernel
theorem dX4_addTrunk_36 : decode cX4_addTrunk 36 = .ok (.invokevirtual 101, 3) := by decide +kernel
theorem dX4_addTrunk_39 : decode cX4_addTrunk 39 = .ok (.aload_n 0, 1) := by decide +kernel
theorem dX4_addTrunk_40 : decode cX4_addTrunk 40 = .ok (.iload_n 2, 1) := by decide +kernel
theorem dX4_addTrunk_41 : decode cX4_addTrunk 41 = .ok (.iload 5, 2) := by decide +kernel
theorem dX4_addTrunk_43 : decode cX4_addTrunk 43 = .ok (.iadd, 1) := by decide +kernel
theorem dX4_addTrunk_44 : decode cX4_addTrunk 44 = .ok (.iload_n 1, 1) := by decide +kernel
theorem dX4_addTrunk_45 : decode cX4_addTrunk 45 = .ok (.iload 5, 2) := by decide +kernel
theorem dX4_addTrunk_47 : decode cX4_addTrunk 47 = .ok (.iadd, 1) := by decide +kernel
theorem dX4_addTrunk_48 : decode cX4_addTrunk 48 = .ok (.invokevirtual 101, 3) := by decide +kernel
theorem dX4_addTrunk_51 : decode cX4_addTrunk 51 = .ok (.iinc 5 1, 3) := by decide +kernel
theorem dX4_addTrunk_54 : decode cX4_addTrunk 54 = .ok (.goto (-33), 3) := by decide +kernel
theorem dX4_addTrunk_57 : decode cX4_addTrunk 57 = .ok (.aload_n 0, 1) := by decide +kernel
theorem dX4_addTrunk_58 : decode cX4_addTrunk 58 = .ok (.getfield 32, 3) := by decide +kernel
theorem dX4_addTrunk_61 : decode cX4_addTrunk 61 = .ok (.aload_n 0, 1) := by decide +kernel
theorem dX4_addTrunk_62 : decode cX4_addTrunk 62 = .ok (.getfield 94, 3) := by decide +kernel
theorem dX4_addTrunk_65 : decode cX4_addTrunk 65 = .ok (.iload_n 1, 1) := by decide +kernel
theorem dX4_addTrunk_66 : decode cX4_addTrunk 66 = .ok (.iastore, 1) := by decide +kernel
theorem dX4_addTrunk_67 : decode cX4_addTrunk 67 = .ok (.aload_n 0, 1) := by decide +kernel
theorem dX4_addTrunk_68 : decode cX4_addTrunk 68 = .ok (.getfield 35, 3) := by decide +kernel
theorem dX4_addTrunk_71 : decode cX4_addTrunk 71 = .ok (.aload_n 0, 1) := by decide +kernel
theorem dX4_addTrunk_72 : decode cX4_addTrunk 72 = .ok (.getfield 94, 3) := by decide +kernel
theorem dX4_addTrunk_75 : decode cX4_addTrunk 75 = .ok (.iload_n 2, 1) := by decide +kernel
theorem dX4_addTrunk_76 : decode cX4_addTrunk 76 = .ok (.iastore, 1) := by decide +kernel
theorem dX4_addTrunk_77 : decode cX4_addTrunk 77 = .ok (.aload_n 0, 1) := by decide +kernel
theorem dX4_addTrunk_78 : decode cX4_addTrunk 78 = .ok (.getfield 38, 3) := by decide +kernel
theorem dX4_addTrunk_81 : decode cX4_addTrunk 81 = .ok (.aload_n 0, 1) := by decide +kernel
theorem dX4_addTrunk_82 : decode cX4_addTrunk 82 = .ok (.getfield 94, 3) := by decide +kernel
theorem dX4_addTrunk_85 : decode cX4_addTrunk 85 = .ok (.iload_n 3, 1) := by decide +kernel
theorem dX4_addTrunk_86 : decode cX4_addTrunk 86 = .ok (.iastore, 1) := by decide +kernel
theorem dX4_addTrunk_87 : decode cX4_addTrunk 87 = .ok (.aload_n 0, 1) := by decide +kernel
theorem dX4_addTrunk_88 : decode cX4_addTrunk 88 = .ok (.getfield 41, 3) := by decide +kernel
theorem dX4_addTrunk_91 : decode cX4_addTrunk 91 = .ok (.aload_n 0, 1) := by decide +kernel
theorem dX4_addTrunk_92 : decode cX4_addTrunk 92 = .ok (.getfield 94, 3) := by decide +kernel
theorem dX4_addTrunk_95 : decode cX4_addTrunk 95 = .ok (.iload 4, 2) := by decide +kernel
theorem dX4_addTrunk_97 : decode cX4_addTrunk 97 = .ok (.iastore, 1) := by decide +kernel
theorem dX4_addTrunk_98 : decode cX4_addTrunk 98 = .ok (.aload_n 0, 1) := by decide +kernel
theorem dX4_addTrunk_99 : decode cX4_addTrunk 99 = .ok (.dup, 1) := by decide +kernel
theorem dX4_addTrunk_100 : decode cX4_addTrunk 100 = .ok (.getfield 94, 3) := by decide +kernel
theorem dX4_addTrunk_103 : decode cX4_addTrunk 103 = .ok (.iconst 1, 1) := by decide +kernel
theorem dX4_addTrunk_104 : decode cX4_addTrunk 104 = .ok (.iadd, 1) := by decide +kernel
theorem dX4_addTrunk_105 : decode cX4_addTrunk 105 = .ok (.putfield 94, 3) := by decide +kernel
theorem dX4_addTrunk_108 : decode cX4_addTrunk 108 = .ok (.aload_n 0, 1) := by decide +kernel
theorem dX4_addTrunk_109 : decode cX4_addTrunk 109 = .ok (.getfield 94, 3) := by decide +kernel
theorem dX4_addTrunk_112 : decode cX4_addTrunk 112 = .ok (.iconst 1, 1) := by decide +kernel
theorem dX4_addTrunk_113 : decode cX4_addTrunk 113 = .ok (.isub, 1) := by decide +kernel
theorem dX4_addTrunk_114 : decode cX4_addTrunk 114 = .ok (.ireturn, 1) := by decide +kernel
theorem dX4_joins_0 : decode cX4_joins 0 = .ok (.aload_n 0, 1) := by decide +kernel
theorem dX4_joins_1 : decode cX4_joins 1 = .ok (.getfield 22, 3) := by decide +kernel
theorem dX4_joins_4 : decode cX4_joins 4 = .ok (.iload_n 1, 1) := by decide +kernel
theorem dX4_joins_5 : decode cX4_joins 5 = .ok (.iload_n 2, 1) := by decide +kernel
theorem dX4_joins_6 : decode cX4_joins 6 = .ok (.iastore, 1) := by decide +kernel
theorem dX4_joins_7 : decode cX4_joins 7 = .ok (.aload_n 0, 1) := by decide +kernel
theorem dX4_joins_8 : decode cX4_joins 8 = .ok (.getfield 25, 3) := by decide +kernel
theorem dX4_joins_11 : decode cX4_joins 11 = .ok (.iload_n 1, 1) := by decide +kernel
theorem dX4_joins_12 : decode cX4_joins 12 = .ok (.aload_n 0, 1) := by decide +kernel
theorem dX4_joins_13 : decode cX4_joins 13 = .ok (.getfield 94, 3) := by decide +kernel
theorem dX4_joins_16 : decode cX4_joins 16 = .ok (.iastore, 1) := by decide +kernel
theorem dX4_joins_17 : decode cX4_joins 17 = .ok (.aload_n 0, 1) := by decide +kernel
theorem dX4_joins_18 : decode cX4_joins 18 = .ok (.getfield 28, 3) := by decide +kernel
theorem dX4_joins_21 : decode cX4_joins 21 = .ok (.iload_n 1, 1) := by decide +kernel
theorem dX4_joins_22 : decode cX4_joins 22 = .ok (.iconst 0, 1) := by decide +kernel
theorem dX4_joins_23 : decode cX4_joins 23 = .ok (.bastore, 1) := by decide +kernel
theorem dX4_joins_24 : decode cX4_joins 24 = .ok (.return_, 1) := by decide +kernel
set_option maxRecDepth 20000 in
theorem ggX4_isTrunk_X4_in : GoodIn wsX4_isTrunk wsX4_in := goodIn_r _ [5] (by decide +kernel) (by decide +kernel)
set_option maxRecDepth 20000 in
theorem gX4_isTrunk_X4_in : GoodIn wsX4_isTrunk (va_wsS RX4 69 yX4_in wsX4_in) := goodIn_app (goodIn_of _ (by decide +kernel)) ggX4_isTrunk_X4_in
theorem dX4_isTrunk_0 : decode cX4_isTrunk 0 = .ok (.iload_n 1, 1) := by decide +kernel
theorem dX4_isTrunk_1 : decode cX4_isTrunk 1 = .ok (.iconst 0, 1) := by decide +kernel
theorem dX4_isTrunk_2 : decode cX4_isTrunk 2 = .ok (.aload_n 0, 1) := by decide +kernel
theorem dX4_isTrunk_3 : decode cX4_isTrunk 3 = .ok (.getfield 94, 3) := by decide +kernel
theorem dX4_isTrunk_6 : decode cX4_isTrunk 6 = .ok (.iconst 1, 1) := by decide +kernel
theorem dX4_isTrunk_7 : decode cX4_isTrunk 7 = .ok (.isub, 1) := by decide +kernel
theorem dX4_isTrunk_8 : decode cX4_isTrunk 8 = .ok (.invokestatic 69, 3) := by decide +kernel
theorem dX4_isTrunk_11 : decode cX4_isTrunk 11 = .ok (.ireturn, 1) := by decide +kernel
set_option maxRecDepth 20000 in
theorem ggX4_setBroken_X4_isTrunk : GoodIn wsX4_setBroken wsX4_isTrunk := goodIn_r _ [9, 10, 11, 12, 8, 13, 19, 20, 21, 22, 23, 24, 25, 26, 27, 28, 29, 30, 31, 32, 33, 34, 35, 36, 37, 38, 39, 40, 41, 42] (by decide +kernel) (by decide +kernel)
set_option maxRecDepth 20000 in
theorem gX4_setBroken_X4_isTrunk : GoodIn wsX4_setBroken (wsV RX4 105 RX4 yX4_isTrunk wsX4_isTrunk) := goodIn_app (goodIn_of _ (by decide +kernel)) ggX4_setBroken_X4_isTrunk
set_option maxRecDepth 20000 in
theorem ggX4_setBroken_X4_in : GoodIn wsX4_setBroken wsX4_in := goodIn_r _ [13] (by decide +kernel) (by decide +kernel)
set_option maxRecDepth 20000 in
theorem gX4_setBroken_X4_in : GoodIn wsX4_setBroken (va_wsS RX4 69 yX4_in wsX4_in) := goodIn_app (goodIn_of _ (by decide +kernel)) ggX4_setBroken_X4_in
set_option maxRecDepth 20000 in
theorem ggX4_setBroken_X4_holds : GoodIn wsX4_setBroken wsX4_holds := goodIn_r _ [17, 18, 19, 20, 21, 22, 23, 24, 25, 26, 27, 28, 29, 30, 31, 32, 33, 34, 35, 36, 37, 38, 39, 40, 41, 42] (by decide +kernel) (by decide +kernel)
set_option maxRecDepth 20000 in
theorem gX4_setBroken_X4_holds : GoodIn wsX4_setBroken (wsV RX4 80 RX4 yX4_holds wsX4_holds) := goodIn_app (goodIn_of _ (by decide +kernel)) ggX4_setBroken_X4_holds
theorem dX4_setBroken_0 : decode cX4_setBroken 0 = .ok (.aload_n 0, 1) := by decide +kernel
theorem dX4_setBroken_1 : decode cX4_setBroken 1 = .ok (.aload_n 0, 1) := by decide +kernel
theorem dX4_setBroken_2 : decode cX4_setBroken 2 = .ok (.iload_n 1, 1) := by decide +kernel
theorem dX4_setBroken_3 : decode cX4_setBroken 3 = .ok (.invokevirtual 105, 3) := by decide +kernel
theorem dX4_setBroken_6 : decode cX4_setBroken 6 = .ok (.ifCond .eq 23, 3) := by decide +kernel
theorem dX4_setBroken_9 : decode cX4_setBroken 9 = .ok (.iload_n 2, 1) := by decide +kernel
theorem dX4_setBroken_10 : decode cX4_setBroken 10 = .ok (.iconst 0, 1) := by decide +kernel
theorem dX4_setBroken_11 : decode cX4_setBroken 11 = .ok (.aload_n 0, 1) := by decide +kernel
theorem dX4_setBroken_12 : decode cX4_setBroken 12 = .ok (.getfield 38, 3) := by decide +kernel
theorem dX4_setBroken_15 : decode cX4_setBroken 15 = .ok (.iload_n 1, 1) := by decide +kernel
theorem dX4_setBroken_16 : decode cX4_setBroken 16 = .ok (.iaload, 1) := by decide +kernel
theorem dX4_setBroken_17 : decode cX4_setBroken 17 = .ok (.iconst 1, 1) := by decide +kernel
theorem dX4_setBroken_18 : decode cX4_setBroken 18 = .ok (.isub, 1) := by decide +kernel
theorem dX4_setBroken_19 : decode cX4_setBroken 19 = .ok (.invokestatic 69, 3) := by decide +kernel
theorem dX4_setBroken_22 : decode cX4_setBroken 22 = .ok (.ifCond .eq 7, 3) := by decide +kernel
theorem dX4_setBroken_25 : decode cX4_setBroken 25 = .ok (.iconst 0, 1) := by decide +kernel
theorem dX4_setBroken_26 : decode cX4_setBroken 26 = .ok (.goto 4, 3) := by decide +kernel
theorem dX4_setBroken_29 : decode cX4_setBroken 29 = .ok (.iconst 1, 1) := by decide +kernel
theorem dX4_setBroken_30 : decode cX4_setBroken 30 = .ok (.invokevirtual 80, 3) := by decide +kernel
theorem dX4_setBroken_33 : decode cX4_setBroken 33 = .ok (.ifCond .ne 5, 3) := by decide +kernel
theorem dX4_setBroken_36 : decode cX4_setBroken 36 = .ok (.iconst 0, 1) := by decide +kernel
theorem dX4_setBroken_37 : decode cX4_setBroken 37 = .ok (.ireturn, 1) := by decide +kernel
theorem dX4_setBroken_38 : decode cX4_setBroken 38 = .ok (.aload_n 0, 1) := by decide +kernel
theorem dX4_setBroken_39 : decode cX4_setBroken 39 = .ok (.getfield 28, 3) := by decide +kernel
theorem dX4_setBroken_42 : decode cX4_setBroken 42 = .ok (.aload_n 0, 1) := by decide +kernel
theorem dX4_setBroken_43 : decode cX4_setBroken 43 = .ok (.getfield 32, 3) := by decide +kernel
theorem dX4_setBroken_46 : decode cX4_setBroken 46 = .ok (.iload_n 1, 1) := by decide +kernel
theorem dX4_setBroken_47 : decode cX4_setBroken 47 = .ok (.iaload, 1) := by decide +kernel
theorem dX4_setBroken_48 : decode cX4_setBroken 48 = .ok (.iload_n 2, 1) := by decide +kernel
theorem dX4_setBroken_49 : decode cX4_setBroken 49 = .ok (.iadd, 1) := by decide +kernel
theorem dX4_setBroken_50 : decode cX4_setBroken 50 = .ok (.baload, 1) := by decide +kernel
theorem dX4_setBroken_51 : decode cX4_setBroken 51 = .ok (.istore 4, 2) := by decide +kernel
theorem dX4_setBroken_53 : decode cX4_setBroken 53 = .ok (.aload_n 0, 1) := by decide +kernel
theorem dX4_setBroken_54 : decode cX4_setBroken 54 = .ok (.getfield 28, 3) := by decide +kernel
theorem dX4_setBroken_57 : decode cX4_setBroken 57 = .ok (.aload_n 0, 1) := by decide +kernel
theorem dX4_setBroken_58 : decode cX4_setBroken 58 = .ok (.getfield 32, 3) := by decide +kernel
theorem dX4_setBroken_61 : decode cX4_setBroken 61 = .ok (.iload_n 1, 1) := by decide +kernel
theorem dX4_setBroken_62 : decode cX4_setBroken 62 = .ok (.iaload, 1) := by decide +kernel
theorem dX4_setBroken_63 : decode cX4_setBroken 63 = .ok (.iload_n 2, 1) := by decide +kernel
theorem dX4_setBroken_64 : decode cX4_setBroken 64 = .ok (.iadd, 1) := by decide +kernel
theorem dX4_setBroken_65 : decode cX4_setBroken 65 = .ok (.iload_n 3, 1) := by decide +kernel
theorem dX4_setBroken_66 : decode cX4_setBroken 66 = .ok (.bastore, 1) := by decide +kernel
theorem dX4_setBroken_67 : decode cX4_setBroken 67 = .ok (.aload_n 0, 1) := by decide +kernel
theorem dX4_setBroken_68 : decode cX4_setBroken 68 = .ok (.getfield 28, 3) := by decide +kernel
theorem dX4_setBroken_71 : decode cX4_setBroken 71 = .ok (.aload_n 0, 1) := by decide +kernel
theorem dX4_setBroken_72 : decode cX4_setBroken 72 = .ok (.getfield 35, 3) := by decide +kernel
theorem dX4_setBroken_75 : decode cX4_setBroken 75 = .ok (.iload_n 1, 1) := by decide +kernel
theorem dX4_setBroken_76 : decode cX4_setBroken 76 = .ok (.iaload, 1) := by decide +kernel
theorem dX4_setBroken_77 : decode cX4_setBroken 77 = .ok (.iload_n 2, 1) := by decide +kernel
theorem dX4_setBroken_78 : decode cX4_setBroken 78 = .ok (.iadd, 1) := by decide +kernel
theorem dX4_setBroken_79 : decode cX4_setBroken 79 = .ok (.iload_n 3, 1) := by decide +kernel
theorem dX4_setBroken_80 : decode cX4_setBroken 80 = .ok (.bastore, 1) := by decide +kernel
theorem dX4_setBroken_81 : decode cX4_setBroken 81 = .ok (.iload 4, 2) := by decide +kernel
theorem dX4_setBroken_83 : decode cX4_setBroken 83 = .ok (.ireturn, 1) := by decide +kernel
set_option maxRecDepth 20000 in
theorem ggX4_length_X4_panel : GoodIn wsX4_length wsX4_panel := goodIn_r _ [6, 7, 8, 9, 10, 11, 12, 13, 14, 15, 16, 17, 18, 19, 20, 21, 22, 23, 24, 25, 26, 27, 28, 29, 30, 31] (by decide +kernel) (by decide +kernel)
set_option maxRecDepth 20000 in
theorem gX4_length_X4_panel : GoodIn wsX4_length (wsV RX4 83 RX4 yX4_panel wsX4_panel) := goodIn_app (goodIn_of _ (by decide +kernel)) ggX4_length_X4_panel
theorem dX4_length_0 : decode cX4_length 0 = .ok (.aload_n 0, 1) := by decide +kernel
theorem dX4_length_1 : decode cX4_length 1 = .ok (.getfield 7, 3) := by decide +kernel
theorem dX4_length_4 : decode cX4_length 4 = .ok (.aload_n 0, 1) := by decide +kernel
theorem dX4_length_5 : decode cX4_length 5 = .ok (.iload_n 1, 1) := by decide +kernel
theorem dX4_length_6 : decode cX4_length 6 = .ok (.invokevirtual 83, 3) := by decide +kernel
theorem dX4_length_9 : decode cX4_length 9 = .ok (.iaload, 1) := by decide +kernel
theorem dX4_length_10 : decode cX4_length 10 = .ok (.istore_n 3, 1) := by decide +kernel
theorem dX4_length_11 : decode cX4_length 11 = .ok (.aload_n 0, 1) := by decide +kernel
theorem dX4_length_12 : decode cX4_length 12 = .ok (.getfield 7, 3) := by decide +kernel
theorem dX4_length_15 : decode cX4_length 15 = .ok (.aload_n 0, 1) := by decide +kernel
theorem dX4_length_16 : decode cX4_length 16 = .ok (.iload_n 2, 1) := by decide +kernel
theorem dX4_length_17 : decode cX4_length 17 = .ok (.invokevirtual 83, 3) := by decide +kernel
theorem dX4_length_20 : decode cX4_length 20 = .ok (.iaload, 1) := by decide +kernel
theorem dX4_length_21 : decode cX4_length 21 = .ok (.istore 4, 2) := by decide +kernel
theorem dX4_length_23 : decode cX4_length 23 = .ok (.iload_n 3, 1) := by decide +kernel
theorem dX4_length_24 : decode cX4_length 24 = .ok (.iload 4, 2) := by decide +kernel
theorem dX4_length_26 : decode cX4_length 26 = .ok (.if_icmp .ne 22, 3) := by decide +kernel
theorem dX4_length_29 : decode cX4_length 29 = .ok (.aload_n 0, 1) := by decide +kernel
theorem dX4_length_30 : decode cX4_length 30 = .ok (.iload_n 1, 1) := by decide +kernel
theorem dX4_length_31 : decode cX4_length 31 = .ok (.invokevirtual 83, 3) := by decide +kernel
theorem dX4_length_34 : decode cX4_length 34 = .ok (.aload_n 0, 1) := by decide +kernel
theorem dX4_length_35 : decode cX4_length 35 = .ok (.iload_n 2, 1) := by decide +kernel
theorem dX4_length_36 : decode cX4_length 36 = .ok (.invokevirtual 83, 3) := by decide +kernel
theorem dX4_length_39 : decode cX4_length 39 = .ok (.if_icmp .ne 7, 3) := by decide +kernel
theorem dX4_length_42 : decode cX4_length 42 = .ok (.iconst 1, 1) := by decide +kernel
theorem dX4_length_43 : decode cX4_length 43 = .ok (.goto 4, 3) := by decide +kernel
theorem dX4_length_46 : decode cX4_length 46 = .ok (.iconst 2, 1) := by decide +kernel
theorem dX4_length_47 : decode cX4_length 47 = .ok (.ireturn, 1) := by decide +kernel
theorem dX4_length_48 : decode cX4_length 48 = .ok (.iconst 3, 1) := by decide +kernel
theorem dX4_length_49 : decode cX4_length 49 = .ok (.iconst 2, 1) := by decide +kernel
theorem dX4_length_50 : decode cX4_length 50 = .ok (.iload_n 3, 1) := by decide +kernel
theorem dX4_length_51 : decode cX4_length 51 = .ok (.iload 4, 2) := by decide +kernel
theorem dX4_length_53 : decode cX4_length 53 = .ok (.if_icmp .le 10, 3) := by decide +kernel
theorem dX4_length_56 : decode cX4_length 56 = .ok (.iload_n 3, 1) := by decide +kernel
theorem dX4_length_57 : decode cX4_length 57 = .ok (.iload 4, 2) := by decide +kernel
theorem dX4_length_59 : decode cX4_length 59 = .ok (.isub, 1) := by decide +kernel
theorem dX4_length_60 : decode cX4_length 60 = .ok (.goto 7, 3) := by decide +kernel
theorem dX4_length_63 : decode cX4_length 63 = .ok (.iload 4, 2) := by decide +kernel
theorem dX4_length_65 : decode cX4_length 65 = .ok (.iload_n 3, 1) := by decide +kernel
theorem dX4_length_66 : decode cX4_length 66 = .ok (.isub, 1) := by decide +kernel
theorem dX4_length_67 : decode cX4_length 67 = .ok (.imul, 1) := by decide +kernel
theorem dX4_length_68 : decode cX4_length 68 = .ok (.iadd, 1) := by decide +kernel
theorem dX4_length_69 : decode cX4_length 69 = .ok (.ireturn, 1) := by decide +kernel
set_option maxRecDepth 20000 in
theorem ggX4_plug_X4_arePorts : GoodIn wsX4_plug wsX4_arePorts := goodIn_r _ [7, 8, 9, 10, 6, 11, 12, 13, 14, 15, 31, 32, 33, 34, 35, 36, 37, 38, 39, 40, 41, 42, 43, 44, 45, 46, 47, 48, 49, 50, 51, 52, 53, 54] (by decide +kernel) (by decide +kernel)
set_option maxRecDepth 20000 in
theorem gX4_plug_X4_arePorts : GoodIn wsX4_plug (wsV RX4 87 RX4 yX4_arePorts wsX4_arePorts) := goodIn_app (goodIn_of _ (by decide +kernel)) ggX4_plug_X4_arePorts
set_option maxRecDepth 20000 in
theorem ggX4_plug_X4_in : GoodIn wsX4_plug wsX4_in := goodIn_r _ [15] (by decide +kernel) (by decide +kernel)
set_option maxRecDepth 20000 in
theorem gX4_plug_X4_in : GoodIn wsX4_plug (va_wsS RX4 69 yX4_in wsX4_in) := goodIn_app (goodIn_of _ (by decide +kernel)) ggX4_plug_X4_in
set_option maxRecDepth 20000 in
theorem ggX4_plug_X4_holds : GoodIn wsX4_plug wsX4_holds := goodIn_r _ [19, 20, 31, 32, 33, 34, 35, 36, 37, 38, 39, 40, 41, 42, 43, 44, 45, 46, 47, 48, 49, 50, 51, 52, 53, 54] (by decide +kernel) (by decide +kernel)
set_option maxRecDepth 20000 in
theorem gX4_plug_X4_holds : GoodIn wsX4_plug (wsV RX4 80 RX4 yX4_holds wsX4_holds) := goodIn_app (goodIn_of _ (by decide +kernel)) ggX4_plug_X4_holds
set_option maxRecDepth 20000 in
theorem ggX4_plug_X4_length : GoodIn wsX4_plug wsX4_length := goodIn_r _ [24, 25, 26, 27, 28, 6, 29, 30, 31, 32, 33, 34, 35, 36, 37, 38, 39, 40, 41, 42, 43, 44, 45, 46, 47, 48, 49, 50, 51, 52, 53, 54] (by decide +kernel) (by decide +kernel)
set_option maxRecDepth 20000 in
theorem gX4_plug_X4_length : GoodIn wsX4_plug (wsV RX4 108 RX4 yX4_length wsX4_length) := goodIn_app (goodIn_of _ (by decide +kernel)) ggX4_plug_X4_length
theorem dX4_plug_0 : decode cX4_plug 0 = .ok (.aload_n 0, 1) := by decide +kernel
theorem dX4_plug_1 : decode cX4_plug 1 = .ok (.aload_n 0, 1) := by decide +kernel
theorem dX4_plug_2 : decode cX4_plug 2 = .ok (.iload_n 1, 1) := by decide +kernel
theorem dX4_plug_3 : decode cX4_plug 3 = .ok (.iload_n 2, 1) := by decide +kernel
theorem dX4_plug_4 : decode cX4_plug 4 = .ok (.invokevirtual 87, 3) := by decide +kernel
theorem dX4_plug_7 : decode cX4_plug 7 = .ok (.ifCond .ne 7, 3) := by decide +kernel
theorem dX4_plug_10 : decode cX4_plug 10 = .ok (.iconst 1, 1) := by decide +kernel
theorem dX4_plug_11 : decode cX4_plug 11 = .ok (.goto 47, 3) := by decide +kernel
theorem dX4_plug_14 : decode cX4_plug 14 = .ok (.iload_n 3, 1) := by decide +kernel
theorem dX4_plug_15 : decode cX4_plug 15 = .ok (.iconst 1, 1) := by decide +kernel
theorem dX4_plug_16 : decode cX4_plug 16 = .ok (.bipush 9, 2) := by decide +kernel
theorem dX4_plug_18 : decode cX4_plug 18 = .ok (.invokestatic 69, 3) := by decide +kernel
theorem dX4_plug_21 : decode cX4_plug 21 = .ok (.ifCond .eq 8, 3) := by decide +kernel
theorem dX4_plug_24 : decode cX4_plug 24 = .ok (.iload_n 1, 1) := by decide +kernel
theorem dX4_plug_25 : decode cX4_plug 25 = .ok (.iload_n 2, 1) := by decide +kernel
theorem dX4_plug_26 : decode cX4_plug 26 = .ok (.if_icmp .ne 7, 3) := by decide +kernel
theorem dX4_plug_29 : decode cX4_plug 29 = .ok (.iconst 2, 1) := by decide +kernel
theorem dX4_plug_30 : decode cX4_plug 30 = .ok (.goto 28, 3) := by decide +kernel
theorem dX4_plug_33 : decode cX4_plug 33 = .ok (.aload_n 0, 1) := by decide +kernel
theorem dX4_plug_34 : decode cX4_plug 34 = .ok (.getfield 16, 3) := by decide +kernel
theorem dX4_plug_37 : decode cX4_plug 37 = .ok (.iload_n 1, 1) := by decide +kernel
theorem dX4_plug_38 : decode cX4_plug 38 = .ok (.iaload, 1) := by decide +kernel
theorem dX4_plug_39 : decode cX4_plug 39 = .ok (.iconst (-1), 1) := by decide +kernel
theorem dX4_plug_40 : decode cX4_plug 40 = .ok (.if_icmp .ne 13, 3) := by decide +kernel
theorem dX4_plug_43 : decode cX4_plug 43 = .ok (.aload_n 0, 1) := by decide +kernel
theorem dX4_plug_44 : decode cX4_plug 44 = .ok (.getfield 16, 3) := by decide +kernel
theorem dX4_plug_47 : decode cX4_plug 47 = .ok (.iload_n 2, 1) := by decide +kernel
theorem dX4_plug_48 : decode cX4_plug 48 = .ok (.iaload, 1) := by decide +kernel
theorem dX4_plug_49 : decode cX4_plug 49 = .ok (.iconst (-1), 1) := by decide +kernel
theorem dX4_plug_50 : decode cX4_plug 50 = .ok (.if_icmp .eq 7, 3) := by decide +kernel
theorem dX4_plug_53 : decode cX4_plug 53 = .ok (.iconst 3, 1) := by decide +kernel
theorem dX4_plug_54 : decode cX4_plug 54 = .ok (.goto 4, 3) := by decide +kernel
theorem dX4_plug_57 : decode cX4_plug 57 = .ok (.iconst 0, 1) := by decide +kernel
theorem dX4_plug_58 : decode cX4_plug 58 = .ok (.invokevirtual 80, 3) := by decide +kernel
theorem dX4_plug_61 : decode cX4_plug 61 = .ok (.ifCond .ne 5, 3) := by decide +kernel
theorem dX4_plug_64 : decode cX4_plug 64 = .ok (.iconst 0, 1) := by decide +kernel
theorem dX4_plug_65 : decode cX4_plug 65 = .ok (.ireturn, 1) := by decide +kernel
theorem dX4_plug_66 : decode cX4_plug 66 = .ok (.aload_n 0, 1) := by decide +kernel
theorem dX4_plug_67 : decode cX4_plug 67 = .ok (.getfield 16, 3) := by decide +kernel
theorem dX4_plug_70 : decode cX4_plug 70 = .ok (.iload_n 1, 1) := by decide +kernel
theorem dX4_plug_71 : decode cX4_plug 71 = .ok (.iload_n 2, 1) := by decide +kernel
theorem dX4_plug_72 : decode cX4_plug 72 = .ok (.iastore, 1) := by decide +kernel
theorem dX4_plug_73 : decode cX4_plug 73 = .ok (.aload_n 0, 1) := by decide +kernel
theorem dX4_plug_74 : decode cX4_plug 74 = .ok (.getfield 16, 3) := by decide +kernel
theorem dX4_plug_77 : decode cX4_plug 77 = .ok (.iload_n 2, 1) := by decide +kernel
theorem dX4_plug_78 : decode cX4_plug 78 = .ok (.iload_n 1, 1) := by decide +kernel
theorem dX4_plug_79 : decode cX4_plug 79 = .ok (.iastore, 1) := by decide +kernel
theorem dX4_plug_80 : decode cX4_plug 80 = .ok (.aload_n 0, 1) := by decide +kernel
theorem dX4_plug_81 : decode cX4_plug 81 = .ok (.getfield 19, 3) := by decide +kernel
theorem dX4_plug_84 : decode cX4_plug 84 = .ok (.iload_n 1, 1) := by decide +kernel
theorem dX4_plug_85 : decode cX4_plug 85 = .ok (.iload_n 3, 1) := by decide +kernel
theorem dX4_plug_86 : decode cX4_plug 86 = .ok (.iastore, 1) := by decide +kernel
theorem dX4_plug_87 : decode cX4_plug 87 = .ok (.aload_n 0, 1) := by decide +kernel
theorem dX4_plug_88 : decode cX4_plug 88 = .ok (.getfield 19, 3) := by decide +kernel
theorem dX4_plug_91 : decode cX4_plug 91 = .ok (.iload_n 2, 1) := by decide +kernel
theorem dX4_plug_92 : decode cX4_plug 92 = .ok (.iload_n 3, 1) := by decide +kernel
theorem dX4_plug_93 : decode cX4_plug 93 = .ok (.iastore, 1) := by decide +kernel
theorem dX4_plug_94 : decode cX4_plug 94 = .ok (.aload_n 0, 1) := by decide +kernel
theorem dX4_plug_95 : decode cX4_plug 95 = .ok (.iload_n 1, 1) := by decide +kernel
theorem dX4_plug_96 : decode cX4_plug 96 = .ok (.iload_n 2, 1) := by decide +kernel
theorem dX4_plug_97 : decode cX4_plug 97 = .ok (.invokevirtual 108, 3) := by decide +kernel
theorem dX4_plug_100 : decode cX4_plug 100 = .ok (.ireturn, 1) := by decide +kernel
set_option maxRecDepth 20000 in
theorem ggX4_pull_X4_isPort : GoodIn wsX4_pull wsX4_isPort := goodIn_r _ [6, 7, 8, 9, 5, 10, 16, 17, 18, 19, 20, 21, 22, 23, 24, 25, 26, 27, 28, 29, 30, 31, 32, 33, 34, 35, 36, 37, 38, 39] (by decide +kernel) (by decide +kernel)
set_option maxRecDepth 20000 in
theorem gX4_pull_X4_isPort : GoodIn wsX4_pull (wsV RX4 73 RX4 yX4_isPort wsX4_isPort) := goodIn_app (goodIn_of _ (by decide +kernel)) ggX4_pull_X4_isPort
set_option maxRecDepth 20000 in
theorem ggX4_pull_X4_holds : GoodIn wsX4_pull wsX4_holds := goodIn_r _ [14, 15, 16, 17, 18, 19, 20, 21, 22, 23, 24, 25, 26, 27, 28, 29, 30, 31, 32, 33, 34, 35, 36, 37, 38, 39] (by decide +kernel) (by decide +kernel)
set_option maxRecDepth 20000 in
theorem gX4_pull_X4_holds : GoodIn wsX4_pull (wsV RX4 80 RX4 yX4_holds wsX4_holds) := goodIn_app (goodIn_of _ (by decide +kernel)) ggX4_pull_X4_holds
theorem dX4_pull_0 : decode cX4_pull 0 = .ok (.aload_n 0, 1) := by decide +kernel
theorem dX4_pull_1 : decode cX4_pull 1 = .ok (.aload_n 0, 1) := by decide +kernel
theorem dX4_pull_2 : decode cX4_pull 2 = .ok (.iload_n 1, 1) := by decide +kernel
theorem dX4_pull_3 : decode cX4_pull 3 = .ok (.invokevirtual 73, 3) := by decide +kernel
theorem dX4_pull_6 : decode cX4_pull 6 = .ok (.ifCond .ne 7, 3) := by decide +kernel
theorem dX4_pull_9 : decode cX4_pull 9 = .ok (.iconst 1, 1) := by decide +kernel
theorem dX4_pull_10 : decode cX4_pull 10 = .ok (.goto 18, 3) := by decide +kernel
theorem dX4_pull_13 : decode cX4_pull 13 = .ok (.aload_n 0, 1) := by decide +kernel
theorem dX4_pull_14 : decode cX4_pull 14 = .ok (.getfield 16, 3) := by decide +kernel
theorem dX4_pull_17 : decode cX4_pull 17 = .ok (.iload_n 1, 1) := by decide +kernel
theorem dX4_pull_18 : decode cX4_pull 18 = .ok (.iaload, 1) := by decide +kernel
theorem dX4_pull_19 : decode cX4_pull 19 = .ok (.iconst (-1), 1) := by decide +kernel
theorem dX4_pull_20 : decode cX4_pull 20 = .ok (.if_icmp .ne 7, 3) := by decide +kernel
theorem dX4_pull_23 : decode cX4_pull 23 = .ok (.iconst 2, 1) := by decide +kernel
theorem dX4_pull_24 : decode cX4_pull 24 = .ok (.goto 4, 3) := by decide +kernel
theorem dX4_pull_27 : decode cX4_pull 27 = .ok (.iconst 0, 1) := by decide +kernel
theorem dX4_pull_28 : decode cX4_pull 28 = .ok (.invokevirtual 80, 3) := by decide +kernel
theorem dX4_pull_31 : decode cX4_pull 31 = .ok (.ifCond .ne 5, 3) := by decide +kernel
theorem dX4_pull_34 : decode cX4_pull 34 = .ok (.iconst 0, 1) := by decide +kernel
theorem dX4_pull_35 : decode cX4_pull 35 = .ok (.ireturn, 1) := by decide +kernel
theorem dX4_pull_36 : decode cX4_pull 36 = .ok (.aload_n 0, 1) := by decide +kernel
theorem dX4_pull_37 : decode cX4_pull 37 = .ok (.getfield 16, 3) := by decide +kernel
theorem dX4_pull_40 : decode cX4_pull 40 = .ok (.iload_n 1, 1) := by decide +kernel
theorem dX4_pull_41 : decode cX4_pull 41 = .ok (.iaload, 1) := by decide +kernel
theorem dX4_pull_42 : decode cX4_pull 42 = .ok (.istore_n 2, 1) := by decide +kernel
theorem dX4_pull_43 : decode cX4_pull 43 = .ok (.aload_n 0, 1) := by decide +kernel
theorem dX4_pull_44 : decode cX4_pull 44 = .ok (.getfield 16, 3) := by decide +kernel
theorem dX4_pull_47 : decode cX4_pull 47 = .ok (.iload_n 1, 1) := by decide +kernel
theorem dX4_pull_48 : decode cX4_pull 48 = .ok (.iconst (-1), 1) := by decide +kernel
theorem dX4_pull_49 : decode cX4_pull 49 = .ok (.iastore, 1) := by decide +kernel
theorem dX4_pull_50 : decode cX4_pull 50 = .ok (.aload_n 0, 1) := by decide +kernel
theorem dX4_pull_51 : decode cX4_pull 51 = .ok (.getfield 16, 3) := by decide +kernel
theorem dX4_pull_54 : decode cX4_pull 54 = .ok (.iload_n 2, 1) := by decide +kernel
theorem dX4_pull_55 : decode cX4_pull 55 = .ok (.iconst (-1), 1) := by decide +kernel
theorem dX4_pull_56 : decode cX4_pull 56 = .ok (.iastore, 1) := by decide +kernel
theorem dX4_pull_57 : decode cX4_pull 57 = .ok (.iload_n 2, 1) := by decide +kernel
theorem dX4_pull_58 : decode cX4_pull 58 = .ok (.ireturn, 1) := by decide +kernel
set_option maxRecDepth 20000 in
theorem ggX4_addMove_X4_arePorts : GoodIn wsX4_addMove wsX4_arePorts := goodIn_r _ [8, 9, 10, 11, 7, 12, 13, 14, 15, 16, 22, 23, 24, 25, 26, 27, 28, 29, 30, 31, 32, 33, 34, 35, 36, 37, 38, 39, 40, 41, 42, 43, 44, 45] (by decide +kernel) (by decide +kernel)
set_option maxRecDepth 20000 in
theorem gX4_addMove_X4_arePorts : GoodIn wsX4_addMove (wsV RX4 87 RX4 yX4_arePorts wsX4_arePorts) := goodIn_app (goodIn_of _ (by decide +kernel)) ggX4_addMove_X4_arePorts
set_option maxRecDepth 20000 in
theorem ggX4_addMove_X4_holds : GoodIn wsX4_addMove wsX4_holds := goodIn_r _ [20, 21, 22, 23, 24, 25, 26, 27, 28, 29, 30, 31, 32, 33, 34, 35, 36, 37, 38, 39, 40, 41, 42, 43, 44, 45] (by decide +kernel) (by decide +kernel)
set_option maxRecDepth 20000 in
theorem gX4_addMove_X4_holds : GoodIn wsX4_addMove (wsV RX4 80 RX4 yX4_holds wsX4_holds) := goodIn_app (goodIn_of _ (by decide +kernel)) ggX4_addMove_X4_holds
theorem dX4_addMove_0 : decode cX4_addMove 0 = .ok (.aload_n 0, 1) := by decide +kernel
theorem dX4_addMove_1 : decode cX4_addMove 1 = .ok (.aload_n 0, 1) := by decide +kernel
theorem dX4_addMove_2 : decode cX4_addMove 2 = .ok (.iload_n 1, 1) := by decide +kernel
theorem dX4_addMove_3 : decode cX4_addMove 3 = .ok (.iload_n 2, 1) := by decide +kernel
theorem dX4_addMove_4 : decode cX4_addMove 4 = .ok (.invokevirtual 87, 3) := by decide +kernel
theorem dX4_addMove_7 : decode cX4_addMove 7 = .ok (.ifCond .ne 7, 3) := by decide +kernel
theorem dX4_addMove_10 : decode cX4_addMove 10 = .ok (.iconst 1, 1) := by decide +kernel
theorem dX4_addMove_11 : decode cX4_addMove 11 = .ok (.goto 26, 3) := by decide +kernel
theorem dX4_addMove_14 : decode cX4_addMove 14 = .ok (.iload_n 1, 1) := by decide +kernel
theorem dX4_addMove_15 : decode cX4_addMove 15 = .ok (.iload_n 2, 1) := by decide +kernel
theorem dX4_addMove_16 : decode cX4_addMove 16 = .ok (.if_icmp .ne 7, 3) := by decide +kernel
theorem dX4_addMove_19 : decode cX4_addMove 19 = .ok (.iconst 2, 1) := by decide +kernel
theorem dX4_addMove_20 : decode cX4_addMove 20 = .ok (.goto 17, 3) := by decide +kernel
theorem dX4_addMove_23 : decode cX4_addMove 23 = .ok (.aload_n 0, 1) := by decide +kernel
theorem dX4_addMove_24 : decode cX4_addMove 24 = .ok (.getfield 112, 3) := by decide +kernel
theorem dX4_addMove_27 : decode cX4_addMove 27 = .ok (.bipush 12, 2) := by decide +kernel
theorem dX4_addMove_29 : decode cX4_addMove 29 = .ok (.if_icmp .ne 7, 3) := by decide +kernel
theorem dX4_addMove_32 : decode cX4_addMove 32 = .ok (.iconst 3, 1) := by decide +kernel
theorem dX4_addMove_33 : decode cX4_addMove 33 = .ok (.goto 4, 3) := by decide +kernel
theorem dX4_addMove_36 : decode cX4_addMove 36 = .ok (.iconst 0, 1) := by decide +kernel
theorem dX4_addMove_37 : decode cX4_addMove 37 = .ok (.invokevirtual 80, 3) := by decide +kernel
theorem dX4_addMove_40 : decode cX4_addMove 40 = .ok (.ifCond .ne 5, 3) := by decide +kernel
theorem dX4_addMove_43 : decode cX4_addMove 43 = .ok (.iconst 0, 1) := by decide +kernel
theorem dX4_addMove_44 : decode cX4_addMove 44 = .ok (.ireturn, 1) := by decide +kernel
theorem dX4_addMove_45 : decode cX4_addMove 45 = .ok (.aload_n 0, 1) := by decide +kernel
theorem dX4_addMove_46 : decode cX4_addMove 46 = .ok (.getfield 44, 3) := by decide +kernel
theorem dX4_addMove_49 : decode cX4_addMove 49 = .ok (.aload_n 0, 1) := by decide +kernel
theorem dX4_addMove_50 : decode cX4_addMove 50 = .ok (.getfield 112, 3) := by decide +kernel
theorem dX4_addMove_53 : decode cX4_addMove 53 = .ok (.iload_n 1, 1) := by decide +kernel
theorem dX4_addMove_54 : decode cX4_addMove 54 = .ok (.iastore, 1) := by decide +kernel
theorem dX4_addMove_55 : decode cX4_addMove 55 = .ok (.aload_n 0, 1) := by decide +kernel
theorem dX4_addMove_56 : decode cX4_addMove 56 = .ok (.getfield 47, 3) := by decide +kernel
theorem dX4_addMove_59 : decode cX4_addMove 59 = .ok (.aload_n 0, 1) := by decide +kernel
theorem dX4_addMove_60 : decode cX4_addMove 60 = .ok (.getfield 112, 3) := by decide +kernel
theorem dX4_addMove_63 : decode cX4_addMove 63 = .ok (.iload_n 2, 1) := by decide +kernel
theorem dX4_addMove_64 : decode cX4_addMove 64 = .ok (.iastore, 1) := by decide +kernel
theorem dX4_addMove_65 : decode cX4_addMove 65 = .ok (.aload_n 0, 1) := by decide +kernel
theorem dX4_addMove_66 : decode cX4_addMove 66 = .ok (.dup, 1) := by decide +kernel
theorem dX4_addMove_67 : decode cX4_addMove 67 = .ok (.getfield 112, 3) := by decide +kernel
end
section
theorem dX4_addMove_70 : decode cX4_addMove 70 = .ok (.iconst 1, 1) := by decide +kernel
theorem dX4_addMove_71 : decode cX4_addMove 71 = .ok (.iadd, 1) := by decide +kernel
theorem dX4_addMove_72 : decode cX4_addMove 72 = .ok (.putfield 112, 3) := by decide +kernel
theorem dX4_addMove_75 : decode cX4_addMove 75 = .ok (.aload_n 0, 1) := by decide +kernel
theorem dX4_addMove_76 : decode cX4_addMove 76 = .ok (.getfield 112, 3) := by decide +kernel
theorem dX4_addMove_79 : decode cX4_addMove 79 = .ok (.ireturn, 1) := by decide +kernel
theorem dX4_dropPlan_0 : decode cX4_dropPlan 0 = .ok (.aload_n 0, 1) := by decide +kernel
theorem dX4_dropPlan_1 : decode cX4_dropPlan 1 = .ok (.iconst 0, 1) := by decide +kernel
theorem dX4_dropPlan_2 : decode cX4_dropPlan 2 = .ok (.putfield 62, 3) := by decide +kernel
theorem dX4_dropPlan_5 : decode cX4_dropPlan 5 = .ok (.aload_n 0, 1) := by decide +kernel
theorem dX4_dropPlan_6 : decode cX4_dropPlan 6 = .ok (.getfield 112, 3) := by decide +kernel
theorem dX4_dropPlan_9 : decode cX4_dropPlan 9 = .ok (.istore_n 1, 1) := by decide +kernel
theorem dX4_dropPlan_10 : decode cX4_dropPlan 10 = .ok (.aload_n 0, 1) := by decide +kernel
theorem dX4_dropPlan_11 : decode cX4_dropPlan 11 = .ok (.iconst 0, 1) := by decide +kernel
theorem dX4_dropPlan_12 : decode cX4_dropPlan 12 = .ok (.putfield 112, 3) := by decide +kernel
theorem dX4_dropPlan_15 : decode cX4_dropPlan 15 = .ok (.iload_n 1, 1) := by decide +kernel
theorem dX4_dropPlan_16 : decode cX4_dropPlan 16 = .ok (.ireturn, 1) := by decide +kernel
theorem dX4_moved_0 : decode cX4_moved 0 = .ok (.iconst 0, 1) := by decide +kernel
theorem dX4_moved_1 : decode cX4_moved 1 = .ok (.istore_n 2, 1) := by decide +kernel
theorem dX4_moved_2 : decode cX4_moved 2 = .ok (.iload_n 2, 1) := by decide +kernel
theorem dX4_moved_3 : decode cX4_moved 3 = .ok (.aload_n 0, 1) := by decide +kernel
theorem dX4_moved_4 : decode cX4_moved 4 = .ok (.getfield 112, 3) := by decide +kernel
theorem dX4_moved_7 : decode cX4_moved 7 = .ok (.if_icmp .ge 26, 3) := by decide +kernel
theorem dX4_moved_10 : decode cX4_moved 10 = .ok (.aload_n 0, 1) := by decide +kernel
theorem dX4_moved_11 : decode cX4_moved 11 = .ok (.getfield 44, 3) := by decide +kernel
theorem dX4_moved_14 : decode cX4_moved 14 = .ok (.iload_n 2, 1) := by decide +kernel
theorem dX4_moved_15 : decode cX4_moved 15 = .ok (.iaload, 1) := by decide +kernel
theorem dX4_moved_16 : decode cX4_moved 16 = .ok (.iload_n 1, 1) := by decide +kernel
theorem dX4_moved_17 : decode cX4_moved 17 = .ok (.if_icmp .ne 10, 3) := by decide +kernel
theorem dX4_moved_20 : decode cX4_moved 20 = .ok (.aload_n 0, 1) := by decide +kernel
theorem dX4_moved_21 : decode cX4_moved 21 = .ok (.getfield 47, 3) := by decide +kernel
theorem dX4_moved_24 : decode cX4_moved 24 = .ok (.iload_n 2, 1) := by decide +kernel
theorem dX4_moved_25 : decode cX4_moved 25 = .ok (.iaload, 1) := by decide +kernel
theorem dX4_moved_26 : decode cX4_moved 26 = .ok (.ireturn, 1) := by decide +kernel
theorem dX4_moved_27 : decode cX4_moved 27 = .ok (.iinc 2 1, 3) := by decide +kernel
theorem dX4_moved_30 : decode cX4_moved 30 = .ok (.goto (-28), 3) := by decide +kernel
theorem dX4_moved_33 : decode cX4_moved 33 = .ok (.iload_n 1, 1) := by decide +kernel
theorem dX4_moved_34 : decode cX4_moved 34 = .ok (.ireturn, 1) := by decide +kernel
theorem dX4_areUnlike_0 : decode cX4_areUnlike 0 = .ok (.iconst 0, 1) := by decide +kernel
theorem dX4_areUnlike_1 : decode cX4_areUnlike 1 = .ok (.istore_n 2, 1) := by decide +kernel
theorem dX4_areUnlike_2 : decode cX4_areUnlike 2 = .ok (.iload_n 2, 1) := by decide +kernel
theorem dX4_areUnlike_3 : decode cX4_areUnlike 3 = .ok (.aload_n 0, 1) := by decide +kernel
theorem dX4_areUnlike_4 : decode cX4_areUnlike 4 = .ok (.getfield 112, 3) := by decide +kernel
theorem dX4_areUnlike_7 : decode cX4_areUnlike 7 = .ok (.if_icmp .ge 33, 3) := by decide +kernel
theorem dX4_areUnlike_10 : decode cX4_areUnlike 10 = .ok (.iconst 0, 1) := by decide +kernel
theorem dX4_areUnlike_11 : decode cX4_areUnlike 11 = .ok (.istore_n 3, 1) := by decide +kernel
theorem dX4_areUnlike_12 : decode cX4_areUnlike 12 = .ok (.iload_n 3, 1) := by decide +kernel
theorem dX4_areUnlike_13 : decode cX4_areUnlike 13 = .ok (.iload_n 2, 1) := by decide +kernel
theorem dX4_areUnlike_14 : decode cX4_areUnlike 14 = .ok (.if_icmp .ge 20, 3) := by decide +kernel
theorem dX4_areUnlike_17 : decode cX4_areUnlike 17 = .ok (.aload_n 1, 1) := by decide +kernel
theorem dX4_areUnlike_18 : decode cX4_areUnlike 18 = .ok (.iload_n 2, 1) := by decide +kernel
theorem dX4_areUnlike_19 : decode cX4_areUnlike 19 = .ok (.iaload, 1) := by decide +kernel
theorem dX4_areUnlike_20 : decode cX4_areUnlike 20 = .ok (.aload_n 1, 1) := by decide +kernel
theorem dX4_areUnlike_21 : decode cX4_areUnlike 21 = .ok (.iload_n 3, 1) := by decide +kernel
theorem dX4_areUnlike_22 : decode cX4_areUnlike 22 = .ok (.iaload, 1) := by decide +kernel
theorem dX4_areUnlike_23 : decode cX4_areUnlike 23 = .ok (.if_icmp .ne 5, 3) := by decide +kernel
theorem dX4_areUnlike_26 : decode cX4_areUnlike 26 = .ok (.iconst 0, 1) := by decide +kernel
theorem dX4_areUnlike_27 : decode cX4_areUnlike 27 = .ok (.ireturn, 1) := by decide +kernel
theorem dX4_areUnlike_28 : decode cX4_areUnlike 28 = .ok (.iinc 3 1, 3) := by decide +kernel
theorem dX4_areUnlike_31 : decode cX4_areUnlike 31 = .ok (.goto (-19), 3) := by decide +kernel
theorem dX4_areUnlike_34 : decode cX4_areUnlike 34 = .ok (.iinc 2 1, 3) := by decide +kernel
theorem dX4_areUnlike_37 : decode cX4_areUnlike 37 = .ok (.goto (-35), 3) := by decide +kernel
theorem dX4_areUnlike_40 : decode cX4_areUnlike 40 = .ok (.iconst 1, 1) := by decide +kernel
theorem dX4_areUnlike_41 : decode cX4_areUnlike 41 = .ok (.ireturn, 1) := by decide +kernel
set_option maxRecDepth 20000 in
theorem ggX4_lays_X4_areUnlike : GoodIn wsX4_lays wsX4_areUnlike := goodIn_r _ [13, 3, 18, 19, 20, 21, 22, 23, 24, 25, 26, 27, 28, 29, 30, 31, 32, 33, 34, 35, 36, 37, 38, 39, 40, 41] (by decide +kernel) (by decide +kernel)
set_option maxRecDepth 20000 in
theorem gX4_lays_X4_areUnlike : GoodIn wsX4_lays (wsV RX4 115 RX4 yX4_areUnlike wsX4_areUnlike) := goodIn_app (goodIn_of _ (by decide +kernel)) ggX4_lays_X4_areUnlike
set_option maxRecDepth 20000 in
theorem ggX4_lays_X4_moved : GoodIn wsX4_lays wsX4_moved := goodIn_r _ [17, 3, 1, 2, 18, 19, 20, 21, 22, 23, 24, 25, 26, 27, 28, 29, 30, 31, 32, 33, 34, 35, 36, 37, 38, 39, 40, 41] (by decide +kernel) (by decide +kernel)
set_option maxRecDepth 20000 in
theorem gX4_lays_X4_moved : GoodIn wsX4_lays (wsV RX4 119 RX4 yX4_moved wsX4_moved) := goodIn_app (goodIn_of _ (by decide +kernel)) ggX4_lays_X4_moved
theorem dX4_lays_0 : decode cX4_lays 0 = .ok (.aload_n 0, 1) := by decide +kernel
theorem dX4_lays_1 : decode cX4_lays 1 = .ok (.aload_n 0, 1) := by decide +kernel
theorem dX4_lays_2 : decode cX4_lays 2 = .ok (.getfield 44, 3) := by decide +kernel
theorem dX4_lays_5 : decode cX4_lays 5 = .ok (.invokevirtual 115, 3) := by decide +kernel
theorem dX4_lays_8 : decode cX4_lays 8 = .ok (.ifCond .eq 18, 3) := by decide +kernel
theorem dX4_lays_11 : decode cX4_lays 11 = .ok (.aload_n 0, 1) := by decide +kernel
theorem dX4_lays_12 : decode cX4_lays 12 = .ok (.aload_n 0, 1) := by decide +kernel
theorem dX4_lays_13 : decode cX4_lays 13 = .ok (.getfield 47, 3) := by decide +kernel
theorem dX4_lays_16 : decode cX4_lays 16 = .ok (.invokevirtual 115, 3) := by decide +kernel
theorem dX4_lays_19 : decode cX4_lays 19 = .ok (.ifCond .eq 7, 3) := by decide +kernel
theorem dX4_lays_22 : decode cX4_lays 22 = .ok (.iconst 1, 1) := by decide +kernel
theorem dX4_lays_23 : decode cX4_lays 23 = .ok (.goto 4, 3) := by decide +kernel
theorem dX4_lays_26 : decode cX4_lays 26 = .ok (.iconst 0, 1) := by decide +kernel
theorem dX4_lays_27 : decode cX4_lays 27 = .ok (.istore_n 1, 1) := by decide +kernel
theorem dX4_lays_28 : decode cX4_lays 28 = .ok (.iconst 0, 1) := by decide +kernel
theorem dX4_lays_29 : decode cX4_lays 29 = .ok (.istore_n 2, 1) := by decide +kernel
theorem dX4_lays_30 : decode cX4_lays 30 = .ok (.iload_n 2, 1) := by decide +kernel
theorem dX4_lays_31 : decode cX4_lays 31 = .ok (.aload_n 0, 1) := by decide +kernel
theorem dX4_lays_32 : decode cX4_lays 32 = .ok (.getfield 112, 3) := by decide +kernel
theorem dX4_lays_35 : decode cX4_lays 35 = .ok (.if_icmp .ge 34, 3) := by decide +kernel
theorem dX4_lays_38 : decode cX4_lays 38 = .ok (.iload_n 1, 1) := by decide +kernel
theorem dX4_lays_39 : decode cX4_lays 39 = .ok (.ifCond .eq 22, 3) := by decide +kernel
theorem dX4_lays_42 : decode cX4_lays 42 = .ok (.aload_n 0, 1) := by decide +kernel
theorem dX4_lays_43 : decode cX4_lays 43 = .ok (.getfield 16, 3) := by decide +kernel
theorem dX4_lays_46 : decode cX4_lays 46 = .ok (.aload_n 0, 1) := by decide +kernel
theorem dX4_lays_47 : decode cX4_lays 47 = .ok (.getfield 44, 3) := by decide +kernel
theorem dX4_lays_50 : decode cX4_lays 50 = .ok (.iload_n 2, 1) := by decide +kernel
theorem dX4_lays_51 : decode cX4_lays 51 = .ok (.iaload, 1) := by decide +kernel
theorem dX4_lays_52 : decode cX4_lays 52 = .ok (.iaload, 1) := by decide +kernel
theorem dX4_lays_53 : decode cX4_lays 53 = .ok (.iconst (-1), 1) := by decide +kernel
theorem dX4_lays_54 : decode cX4_lays 54 = .ok (.if_icmp .eq 7, 3) := by decide +kernel
theorem dX4_lays_57 : decode cX4_lays 57 = .ok (.iconst 1, 1) := by decide +kernel
theorem dX4_lays_58 : decode cX4_lays 58 = .ok (.goto 4, 3) := by decide +kernel
theorem dX4_lays_61 : decode cX4_lays 61 = .ok (.iconst 0, 1) := by decide +kernel
theorem dX4_lays_62 : decode cX4_lays 62 = .ok (.istore_n 1, 1) := by decide +kernel
theorem dX4_lays_63 : decode cX4_lays 63 = .ok (.iinc 2 1, 3) := by decide +kernel
theorem dX4_lays_66 : decode cX4_lays 66 = .ok (.goto (-36), 3) := by decide +kernel
theorem dX4_lays_69 : decode cX4_lays 69 = .ok (.iconst 0, 1) := by decide +kernel
theorem dX4_lays_70 : decode cX4_lays 70 = .ok (.istore_n 2, 1) := by decide +kernel
theorem dX4_lays_71 : decode cX4_lays 71 = .ok (.iload_n 2, 1) := by decide +kernel
theorem dX4_lays_72 : decode cX4_lays 72 = .ok (.aload_n 0, 1) := by decide +kernel
theorem dX4_lays_73 : decode cX4_lays 73 = .ok (.getfield 66, 3) := by decide +kernel
theorem dX4_lays_76 : decode cX4_lays 76 = .ok (.if_icmp .ge 23, 3) := by decide +kernel
theorem dX4_lays_79 : decode cX4_lays 79 = .ok (.aload_n 0, 1) := by decide +kernel
theorem dX4_lays_80 : decode cX4_lays 80 = .ok (.getfield 50, 3) := by decide +kernel
theorem dX4_lays_83 : decode cX4_lays 83 = .ok (.iload_n 2, 1) := by decide +kernel
theorem dX4_lays_84 : decode cX4_lays 84 = .ok (.iconst (-1), 1) := by decide +kernel
theorem dX4_lays_85 : decode cX4_lays 85 = .ok (.iastore, 1) := by decide +kernel
theorem dX4_lays_86 : decode cX4_lays 86 = .ok (.aload_n 0, 1) := by decide +kernel
theorem dX4_lays_87 : decode cX4_lays 87 = .ok (.getfield 53, 3) := by decide +kernel
theorem dX4_lays_90 : decode cX4_lays 90 = .ok (.iload_n 2, 1) := by decide +kernel
theorem dX4_lays_91 : decode cX4_lays 91 = .ok (.iconst 0, 1) := by decide +kernel
theorem dX4_lays_92 : decode cX4_lays 92 = .ok (.iastore, 1) := by decide +kernel
theorem dX4_lays_93 : decode cX4_lays 93 = .ok (.iinc 2 1, 3) := by decide +kernel
theorem dX4_lays_96 : decode cX4_lays 96 = .ok (.goto (-25), 3) := by decide +kernel
theorem dX4_lays_99 : decode cX4_lays 99 = .ok (.iconst 0, 1) := by decide +kernel
theorem dX4_lays_100 : decode cX4_lays 100 = .ok (.istore_n 2, 1) := by decide +kernel
theorem dX4_lays_101 : decode cX4_lays 101 = .ok (.iload_n 2, 1) := by decide +kernel
theorem dX4_lays_102 : decode cX4_lays 102 = .ok (.aload_n 0, 1) := by decide +kernel
theorem dX4_lays_103 : decode cX4_lays 103 = .ok (.getfield 66, 3) := by decide +kernel
theorem dX4_lays_106 : decode cX4_lays 106 = .ok (.if_icmp .ge 87, 3) := by decide +kernel
theorem dX4_lays_109 : decode cX4_lays 109 = .ok (.iload_n 1, 1) := by decide +kernel
theorem dX4_lays_110 : decode cX4_lays 110 = .ok (.ifCond .eq 83, 3) := by decide +kernel
theorem dX4_lays_113 : decode cX4_lays 113 = .ok (.aload_n 0, 1) := by decide +kernel
theorem dX4_lays_114 : decode cX4_lays 114 = .ok (.getfield 16, 3) := by decide +kernel
theorem dX4_lays_117 : decode cX4_lays 117 = .ok (.iload_n 2, 1) := by decide +kernel
theorem dX4_lays_118 : decode cX4_lays 118 = .ok (.iaload, 1) := by decide +kernel
theorem dX4_lays_119 : decode cX4_lays 119 = .ok (.iconst (-1), 1) := by decide +kernel
theorem dX4_lays_120 : decode cX4_lays 120 = .ok (.if_icmp .eq 67, 3) := by decide +kernel
theorem dX4_lays_123 : decode cX4_lays 123 = .ok (.aload_n 0, 1) := by decide +kernel
theorem dX4_lays_124 : decode cX4_lays 124 = .ok (.iload_n 2, 1) := by decide +kernel
theorem dX4_lays_125 : decode cX4_lays 125 = .ok (.invokevirtual 119, 3) := by decide +kernel
theorem dX4_lays_128 : decode cX4_lays 128 = .ok (.istore_n 3, 1) := by decide +kernel
theorem dX4_lays_129 : decode cX4_lays 129 = .ok (.aload_n 0, 1) := by decide +kernel
theorem dX4_lays_130 : decode cX4_lays 130 = .ok (.getfield 50, 3) := by decide +kernel
theorem dX4_lays_133 : decode cX4_lays 133 = .ok (.iload_n 3, 1) := by decide +kernel
theorem dX4_lays_134 : decode cX4_lays 134 = .ok (.iaload, 1) := by decide +kernel
theorem dX4_lays_135 : decode cX4_lays 135 = .ok (.iconst (-1), 1) := by decide +kernel
theorem dX4_lays_136 : decode cX4_lays 136 = .ok (.if_icmp .ne 21, 3) := by decide +kernel
theorem dX4_lays_139 : decode cX4_lays 139 = .ok (.iload_n 3, 1) := by decide +kernel
theorem dX4_lays_140 : decode cX4_lays 140 = .ok (.aload_n 0, 1) := by decide +kernel
theorem dX4_lays_141 : decode cX4_lays 141 = .ok (.aload_n 0, 1) := by decide +kernel
theorem dX4_lays_142 : decode cX4_lays 142 = .ok (.getfield 16, 3) := by decide +kernel
theorem dX4_lays_145 : decode cX4_lays 145 = .ok (.iload_n 2, 1) := by decide +kernel
theorem dX4_lays_146 : decode cX4_lays 146 = .ok (.iaload, 1) := by decide +kernel
theorem dX4_lays_147 : decode cX4_lays 147 = .ok (.invokevirtual 119, 3) := by decide +kernel
theorem dX4_lays_150 : decode cX4_lays 150 = .ok (.if_icmp .eq 7, 3) := by decide +kernel
theorem dX4_lays_153 : decode cX4_lays 153 = .ok (.iconst 1, 1) := by decide +kernel
theorem dX4_lays_154 : decode cX4_lays 154 = .ok (.goto 4, 3) := by decide +kernel
theorem dX4_lays_157 : decode cX4_lays 157 = .ok (.iconst 0, 1) := by decide +kernel
theorem dX4_lays_158 : decode cX4_lays 158 = .ok (.istore_n 1, 1) := by decide +kernel
theorem dX4_lays_159 : decode cX4_lays 159 = .ok (.aload_n 0, 1) := by decide +kernel
theorem dX4_lays_160 : decode cX4_lays 160 = .ok (.getfield 50, 3) := by decide +kernel
theorem dX4_lays_163 : decode cX4_lays 163 = .ok (.iload_n 3, 1) := by decide +kernel
theorem dX4_lays_164 : decode cX4_lays 164 = .ok (.aload_n 0, 1) := by decide +kernel
theorem dX4_lays_165 : decode cX4_lays 165 = .ok (.aload_n 0, 1) := by decide +kernel
theorem dX4_lays_166 : decode cX4_lays 166 = .ok (.getfield 16, 3) := by decide +kernel
theorem dX4_lays_169 : decode cX4_lays 169 = .ok (.iload_n 2, 1) := by decide +kernel
theorem dX4_lays_170 : decode cX4_lays 170 = .ok (.iaload, 1) := by decide +kernel
theorem dX4_lays_171 : decode cX4_lays 171 = .ok (.invokevirtual 119, 3) := by decide +kernel
theorem dX4_lays_174 : decode cX4_lays 174 = .ok (.iastore, 1) := by decide +kernel
theorem dX4_lays_175 : decode cX4_lays 175 = .ok (.aload_n 0, 1) := by decide +kernel
theorem dX4_lays_176 : decode cX4_lays 176 = .ok (.getfield 53, 3) := by decide +kernel
theorem dX4_lays_179 : decode cX4_lays 179 = .ok (.iload_n 3, 1) := by decide +kernel
theorem dX4_lays_180 : decode cX4_lays 180 = .ok (.aload_n 0, 1) := by decide +kernel
theorem dX4_lays_181 : decode cX4_lays 181 = .ok (.getfield 19, 3) := by decide +kernel
theorem dX4_lays_184 : decode cX4_lays 184 = .ok (.iload_n 2, 1) := by decide +kernel
theorem dX4_lays_185 : decode cX4_lays 185 = .ok (.iaload, 1) := by decide +kernel
theorem dX4_lays_186 : decode cX4_lays 186 = .ok (.iastore, 1) := by decide +kernel
theorem dX4_lays_187 : decode cX4_lays 187 = .ok (.iinc 2 1, 3) := by decide +kernel
theorem dX4_lays_190 : decode cX4_lays 190 = .ok (.goto (-89), 3) := by decide +kernel
theorem dX4_lays_193 : decode cX4_lays 193 = .ok (.iload_n 1, 1) := by decide +kernel
theorem dX4_lays_194 : decode cX4_lays 194 = .ok (.ireturn, 1) := by decide +kernel
set_option maxRecDepth 20000 in
theorem ggX4_carryOut_X4_lays : GoodIn wsX4_carryOut wsX4_lays := goodIn_r _ [11, 12, 13, 6, 2, 1, 3, 5, 4, 14, 15, 16, 10, 17, 18, 19, 20, 21, 27, 28, 29, 30, 31, 32, 33, 34, 35, 36, 37, 38, 39, 40, 41, 42, 43, 44, 45, 46, 47, 48, 49, 50] (by decide +kernel) (by decide +kernel)
set_option maxRecDepth 20000 in
theorem gX4_carryOut_X4_lays : GoodIn wsX4_carryOut (wsV RX4 122 RX4 yX4_lays wsX4_lays) := goodIn_app (goodIn_of _ (by decide +kernel)) ggX4_carryOut_X4_lays
set_option maxRecDepth 20000 in
theorem ggX4_carryOut_X4_holds : GoodIn wsX4_carryOut wsX4_holds := goodIn_r _ [25, 26, 27, 28, 29, 30, 31, 32, 33, 34, 35, 36, 37, 38, 39, 40, 41, 42, 43, 44, 45, 46, 47, 48, 49, 50] (by decide +kernel) (by decide +kernel)
set_option maxRecDepth 20000 in
theorem gX4_carryOut_X4_holds : GoodIn wsX4_carryOut (wsV RX4 80 RX4 yX4_holds wsX4_holds) := goodIn_app (goodIn_of _ (by decide +kernel)) ggX4_carryOut_X4_holds
theorem dX4_carryOut_0 : decode cX4_carryOut 0 = .ok (.aload_n 0, 1) := by decide +kernel
theorem dX4_carryOut_1 : decode cX4_carryOut 1 = .ok (.aload_n 0, 1) := by decide +kernel
theorem dX4_carryOut_2 : decode cX4_carryOut 2 = .ok (.invokevirtual 122, 3) := by decide +kernel
theorem dX4_carryOut_5 : decode cX4_carryOut 5 = .ok (.ifCond .eq 7, 3) := by decide +kernel
theorem dX4_carryOut_8 : decode cX4_carryOut 8 = .ok (.iconst 0, 1) := by decide +kernel
theorem dX4_carryOut_9 : decode cX4_carryOut 9 = .ok (.goto 4, 3) := by decide +kernel
theorem dX4_carryOut_12 : decode cX4_carryOut 12 = .ok (.iconst 1, 1) := by decide +kernel
theorem dX4_carryOut_13 : decode cX4_carryOut 13 = .ok (.invokevirtual 80, 3) := by decide +kernel
theorem dX4_carryOut_16 : decode cX4_carryOut 16 = .ok (.ifCond .ne 5, 3) := by decide +kernel
theorem dX4_carryOut_19 : decode cX4_carryOut 19 = .ok (.iconst 0, 1) := by decide +kernel
theorem dX4_carryOut_20 : decode cX4_carryOut 20 = .ok (.ireturn, 1) := by decide +kernel
theorem dX4_carryOut_21 : decode cX4_carryOut 21 = .ok (.iconst 0, 1) := by decide +kernel
theorem dX4_carryOut_22 : decode cX4_carryOut 22 = .ok (.istore_n 1, 1) := by decide +kernel
theorem dX4_carryOut_23 : decode cX4_carryOut 23 = .ok (.iload_n 1, 1) := by decide +kernel
theorem dX4_carryOut_24 : decode cX4_carryOut 24 = .ok (.aload_n 0, 1) := by decide +kernel
theorem dX4_carryOut_25 : decode cX4_carryOut 25 = .ok (.getfield 66, 3) := by decide +kernel
theorem dX4_carryOut_28 : decode cX4_carryOut 28 = .ok (.if_icmp .ge 33, 3) := by decide +kernel
theorem dX4_carryOut_31 : decode cX4_carryOut 31 = .ok (.aload_n 0, 1) := by decide +kernel
theorem dX4_carryOut_32 : decode cX4_carryOut 32 = .ok (.getfield 16, 3) := by decide +kernel
theorem dX4_carryOut_35 : decode cX4_carryOut 35 = .ok (.iload_n 1, 1) := by decide +kernel
theorem dX4_carryOut_36 : decode cX4_carryOut 36 = .ok (.aload_n 0, 1) := by decide +kernel
theorem dX4_carryOut_37 : decode cX4_carryOut 37 = .ok (.getfield 50, 3) := by decide +kernel
theorem dX4_carryOut_40 : decode cX4_carryOut 40 = .ok (.iload_n 1, 1) := by decide +kernel
theorem dX4_carryOut_41 : decode cX4_carryOut 41 = .ok (.iaload, 1) := by decide +kernel
theorem dX4_carryOut_42 : decode cX4_carryOut 42 = .ok (.iastore, 1) := by decide +kernel
theorem dX4_carryOut_43 : decode cX4_carryOut 43 = .ok (.aload_n 0, 1) := by decide +kernel
theorem dX4_carryOut_44 : decode cX4_carryOut 44 = .ok (.getfield 19, 3) := by decide +kernel
theorem dX4_carryOut_47 : decode cX4_carryOut 47 = .ok (.iload_n 1, 1) := by decide +kernel
theorem dX4_carryOut_48 : decode cX4_carryOut 48 = .ok (.aload_n 0, 1) := by decide +kernel
theorem dX4_carryOut_49 : decode cX4_carryOut 49 = .ok (.getfield 53, 3) := by decide +kernel
theorem dX4_carryOut_52 : decode cX4_carryOut 52 = .ok (.iload_n 1, 1) := by decide +kernel
theorem dX4_carryOut_53 : decode cX4_carryOut 53 = .ok (.iaload, 1) := by decide +kernel
theorem dX4_carryOut_54 : decode cX4_carryOut 54 = .ok (.iastore, 1) := by decide +kernel
theorem dX4_carryOut_55 : decode cX4_carryOut 55 = .ok (.iinc 1 1, 3) := by decide +kernel
theorem dX4_carryOut_58 : decode cX4_carryOut 58 = .ok (.goto (-35), 3) := by decide +kernel
theorem dX4_carryOut_61 : decode cX4_carryOut 61 = .ok (.aload_n 0, 1) := by decide +kernel
theorem dX4_carryOut_62 : decode cX4_carryOut 62 = .ok (.getfield 112, 3) := by decide +kernel
theorem dX4_carryOut_65 : decode cX4_carryOut 65 = .ok (.istore_n 1, 1) := by decide +kernel
theorem dX4_carryOut_66 : decode cX4_carryOut 66 = .ok (.aload_n 0, 1) := by decide +kernel
theorem dX4_carryOut_67 : decode cX4_carryOut 67 = .ok (.iconst 0, 1) := by decide +kernel
theorem dX4_carryOut_68 : decode cX4_carryOut 68 = .ok (.putfield 112, 3) := by decide +kernel
theorem dX4_carryOut_71 : decode cX4_carryOut 71 = .ok (.iload_n 1, 1) := by decide +kernel
theorem dX4_carryOut_72 : decode cX4_carryOut 72 = .ok (.ireturn, 1) := by decide +kernel
theorem dX4_ports_0 : decode cX4_ports 0 = .ok (.aload_n 0, 1) := by decide +kernel
theorem dX4_ports_1 : decode cX4_ports 1 = .ok (.iconst 0, 1) := by decide +kernel
theorem dX4_ports_2 : decode cX4_ports 2 = .ok (.putfield 62, 3) := by decide +kernel
theorem dX4_ports_5 : decode cX4_ports 5 = .ok (.aload_n 0, 1) := by decide +kernel
theorem dX4_ports_6 : decode cX4_ports 6 = .ok (.getfield 66, 3) := by decide +kernel
theorem dX4_ports_9 : decode cX4_ports 9 = .ok (.ireturn, 1) := by decide +kernel
theorem dX4_trunks_0 : decode cX4_trunks 0 = .ok (.aload_n 0, 1) := by decide +kernel
theorem dX4_trunks_1 : decode cX4_trunks 1 = .ok (.iconst 0, 1) := by decide +kernel
theorem dX4_trunks_2 : decode cX4_trunks 2 = .ok (.putfield 62, 3) := by decide +kernel
theorem dX4_trunks_5 : decode cX4_trunks 5 = .ok (.aload_n 0, 1) := by decide +kernel
theorem dX4_trunks_6 : decode cX4_trunks 6 = .ok (.getfield 94, 3) := by decide +kernel
theorem dX4_trunks_9 : decode cX4_trunks 9 = .ok (.ireturn, 1) := by decide +kernel
theorem dX4_cables_0 : decode cX4_cables 0 = .ok (.aload_n 0, 1) := by decide +kernel
theorem dX4_cables_1 : decode cX4_cables 1 = .ok (.iconst 0, 1) := by decide +kernel
theorem dX4_cables_2 : decode cX4_cables 2 = .ok (.putfield 62, 3) := by decide +kernel
theorem dX4_cables_5 : decode cX4_cables 5 = .ok (.iconst 0, 1) := by decide +kernel
theorem dX4_cables_6 : decode cX4_cables 6 = .ok (.istore_n 1, 1) := by decide +kernel
theorem dX4_cables_7 : decode cX4_cables 7 = .ok (.iconst 0, 1) := by decide +kernel
theorem dX4_cables_8 : decode cX4_cables 8 = .ok (.istore_n 2, 1) := by decide +kernel
theorem dX4_cables_9 : decode cX4_cables 9 = .ok (.iload_n 2, 1) := by decide +kernel
theorem dX4_cables_10 : decode cX4_cables 10 = .ok (.aload_n 0, 1) := by decide +kernel
theorem dX4_cables_11 : decode cX4_cables 11 = .ok (.getfield 66, 3) := by decide +kernel
theorem dX4_cables_14 : decode cX4_cables 14 = .ok (.if_icmp .ge 27, 3) := by decide +kernel
theorem dX4_cables_17 : decode cX4_cables 17 = .ok (.iload_n 1, 1) := by decide +kernel
theorem dX4_cables_18 : decode cX4_cables 18 = .ok (.aload_n 0, 1) := by decide +kernel
theorem dX4_cables_19 : decode cX4_cables 19 = .ok (.getfield 16, 3) := by decide +kernel
theorem dX4_cables_22 : decode cX4_cables 22 = .ok (.iload_n 2, 1) := by decide +kernel
theorem dX4_cables_23 : decode cX4_cables 23 = .ok (.iaload, 1) := by decide +kernel
theorem dX4_cables_24 : decode cX4_cables 24 = .ok (.iconst (-1), 1) := by decide +kernel
theorem dX4_cables_25 : decode cX4_cables 25 = .ok (.if_icmp .ne 7, 3) := by decide +kernel
theorem dX4_cables_28 : decode cX4_cables 28 = .ok (.iconst 0, 1) := by decide +kernel
theorem dX4_cables_29 : decode cX4_cables 29 = .ok (.goto 4, 3) := by decide +kernel
theorem dX4_cables_32 : decode cX4_cables 32 = .ok (.iconst 1, 1) := by decide +kernel
theorem dX4_cables_33 : decode cX4_cables 33 = .ok (.iadd, 1) := by decide +kernel
theorem dX4_cables_34 : decode cX4_cables 34 = .ok (.istore_n 1, 1) := by decide +kernel
theorem dX4_cables_35 : decode cX4_cables 35 = .ok (.iinc 2 1, 3) := by decide +kernel
theorem dX4_cables_38 : decode cX4_cables 38 = .ok (.goto (-29), 3) := by decide +kernel
theorem dX4_cables_41 : decode cX4_cables 41 = .ok (.iload_n 1, 1) := by decide +kernel
theorem dX4_cables_42 : decode cX4_cables 42 = .ok (.iconst 2, 1) := by decide +kernel
theorem dX4_cables_43 : decode cX4_cables 43 = .ok (.idiv, 1) := by decide +kernel
theorem dX4_cables_44 : decode cX4_cables 44 = .ok (.ireturn, 1) := by decide +kernel
set_option maxRecDepth 20000 in
theorem ggX4_panelOf_X4_isPort : GoodIn wsX4_panelOf wsX4_isPort := goodIn_r _ [5, 6, 7, 8, 4, 9, 20, 21, 22, 23, 24, 25, 26, 27, 28, 29, 30, 31, 32, 33, 34, 35, 36, 37, 38, 39, 40, 41, 42, 43] (by decide +kernel) (by decide +kernel)
set_option maxRecDepth 20000 in
theorem gX4_panelOf_X4_isPort : GoodIn wsX4_panelOf (wsV RX4 73 RX4 yX4_isPort wsX4_isPort) := goodIn_app (goodIn_of _ (by decide +kernel)) ggX4_panelOf_X4_isPort
set_option maxRecDepth 20000 in
theorem ggX4_panelOf_X4_holds : GoodIn wsX4_panelOf wsX4_holds := goodIn_r _ [13, 14, 20, 21, 22, 23, 24, 25, 26, 27, 28, 29, 30, 31, 32, 33, 34, 35, 36, 37, 38, 39, 40, 41, 42, 43] (by decide +kernel) (by decide +kernel)
set_option maxRecDepth 20000 in
theorem gX4_panelOf_X4_holds : GoodIn wsX4_panelOf (wsV RX4 80 RX4 yX4_holds wsX4_holds) := goodIn_app (goodIn_of _ (by decide +kernel)) ggX4_panelOf_X4_holds
set_option maxRecDepth 20000 in
theorem ggX4_panelOf_X4_panel : GoodIn wsX4_panelOf wsX4_panel := goodIn_r _ [18, 19, 20, 21, 22, 23, 24, 25, 26, 27, 28, 29, 30, 31, 32, 33, 34, 35, 36, 37, 38, 39, 40, 41, 42, 43] (by decide +kernel) (by decide +kernel)
set_option maxRecDepth 20000 in
theorem gX4_panelOf_X4_panel : GoodIn wsX4_panelOf (wsV RX4 83 RX4 yX4_panel wsX4_panel) := goodIn_app (goodIn_of _ (by decide +kernel)) ggX4_panelOf_X4_panel
theorem dX4_panelOf_0 : decode cX4_panelOf 0 = .ok (.aload_n 0, 1) := by decide +kernel
theorem dX4_panelOf_1 : decode cX4_panelOf 1 = .ok (.aload_n 0, 1) := by decide +kernel
theorem dX4_panelOf_2 : decode cX4_panelOf 2 = .ok (.iload_n 1, 1) := by decide +kernel
theorem dX4_panelOf_3 : decode cX4_panelOf 3 = .ok (.invokevirtual 73, 3) := by decide +kernel
theorem dX4_panelOf_6 : decode cX4_panelOf 6 = .ok (.ifCond .eq 7, 3) := by decide +kernel
theorem dX4_panelOf_9 : decode cX4_panelOf 9 = .ok (.iconst 0, 1) := by decide +kernel
theorem dX4_panelOf_10 : decode cX4_panelOf 10 = .ok (.goto 4, 3) := by decide +kernel
theorem dX4_panelOf_13 : decode cX4_panelOf 13 = .ok (.iconst 1, 1) := by decide +kernel
theorem dX4_panelOf_14 : decode cX4_panelOf 14 = .ok (.invokevirtual 80, 3) := by decide +kernel
theorem dX4_panelOf_17 : decode cX4_panelOf 17 = .ok (.ifCond .eq 11, 3) := by decide +kernel
theorem dX4_panelOf_20 : decode cX4_panelOf 20 = .ok (.aload_n 0, 1) := by decide +kernel
theorem dX4_panelOf_21 : decode cX4_panelOf 21 = .ok (.iload_n 1, 1) := by decide +kernel
theorem dX4_panelOf_22 : decode cX4_panelOf 22 = .ok (.invokevirtual 83, 3) := by decide +kernel
theorem dX4_panelOf_25 : decode cX4_panelOf 25 = .ok (.goto 4, 3) := by decide +kernel
theorem dX4_panelOf_28 : decode cX4_panelOf 28 = .ok (.iconst 0, 1) := by decide +kernel
theorem dX4_panelOf_29 : decode cX4_panelOf 29 = .ok (.ireturn, 1) := by decide +kernel
set_option maxRecDepth 20000 in
theorem ggX4_byCable_X4_isPort : GoodIn wsX4_byCable wsX4_isPort := goodIn_r _ [6, 7, 8, 9, 5, 10, 16, 17, 18, 19, 20, 21, 22, 23, 24, 25, 26, 27, 28, 29, 30, 31, 32, 33, 34, 35, 36, 37, 38, 39] (by decide +kernel) (by decide +kernel)
set_option maxRecDepth 20000 in
theorem gX4_byCable_X4_isPort : GoodIn wsX4_byCable (wsV RX4 73 RX4 yX4_isPort wsX4_isPort) := goodIn_app (goodIn_of _ (by decide +kernel)) ggX4_byCable_X4_isPort
set_option maxRecDepth 20000 in
theorem ggX4_byCable_X4_holds : GoodIn wsX4_byCable wsX4_holds := goodIn_r _ [14, 15, 16, 17, 18, 19, 20, 21, 22, 23, 24, 25, 26, 27, 28, 29, 30, 31, 32, 33, 34, 35, 36, 37, 38, 39] (by decide +kernel) (by decide +kernel)
set_option maxRecDepth 20000 in
theorem gX4_byCable_X4_holds : GoodIn wsX4_byCable (wsV RX4 80 RX4 yX4_holds wsX4_holds) := goodIn_app (goodIn_of _ (by decide +kernel)) ggX4_byCable_X4_holds
theorem dX4_byCable_0 : decode cX4_byCable 0 = .ok (.aload_n 0, 1) := by decide +kernel
theorem dX4_byCable_1 : decode cX4_byCable 1 = .ok (.aload_n 0, 1) := by decide +kernel
theorem dX4_byCable_2 : decode cX4_byCable 2 = .ok (.iload_n 1, 1) := by decide +kernel
theorem dX4_byCable_3 : decode cX4_byCable 3 = .ok (.invokevirtual 73, 3) := by decide +kernel
theorem dX4_byCable_6 : decode cX4_byCable 6 = .ok (.ifCond .eq 7, 3) := by decide +kernel
theorem dX4_byCable_9 : decode cX4_byCable 9 = .ok (.iconst 0, 1) := by decide +kernel
theorem dX4_byCable_10 : decode cX4_byCable 10 = .ok (.goto 4, 3) := by decide +kernel
theorem dX4_byCable_13 : decode cX4_byCable 13 = .ok (.iconst 1, 1) := by decide +kernel
theorem dX4_byCable_14 : decode cX4_byCable 14 = .ok (.invokevirtual 80, 3) := by decide +kernel
theorem dX4_byCable_17 : decode cX4_byCable 17 = .ok (.ifCond .eq 12, 3) := by decide +kernel
theorem dX4_byCable_20 : decode cX4_byCable 20 = .ok (.aload_n 0, 1) := by decide +kernel
theorem dX4_byCable_21 : decode cX4_byCable 21 = .ok (.getfield 16, 3) := by decide +kernel
theorem dX4_byCable_24 : decode cX4_byCable 24 = .ok (.iload_n 1, 1) := by decide +kernel
theorem dX4_byCable_25 : decode cX4_byCable 25 = .ok (.iaload, 1) := by decide +kernel
theorem dX4_byCable_26 : decode cX4_byCable 26 = .ok (.goto 4, 3) := by decide +kernel
theorem dX4_byCable_29 : decode cX4_byCable 29 = .ok (.iconst 0, 1) := by decide +kernel
theorem dX4_byCable_30 : decode cX4_byCable 30 = .ok (.ireturn, 1) := by decide +kernel
set_option maxRecDepth 20000 in
theorem ggX4_byStrand_X4_isPort : GoodIn wsX4_byStrand wsX4_isPort := goodIn_r _ [6, 7, 8, 9, 5, 10, 16, 17, 18, 19, 20, 21, 22, 23, 24, 25, 26, 27, 28, 29, 30, 31, 32, 33, 34, 35, 36, 37, 38, 39] (by decide +kernel) (by decide +kernel)
set_option maxRecDepth 20000 in
theorem gX4_byStrand_X4_isPort : GoodIn wsX4_byStrand (wsV RX4 73 RX4 yX4_isPort wsX4_isPort) := goodIn_app (goodIn_of _ (by decide +kernel)) ggX4_byStrand_X4_isPort
set_option maxRecDepth 20000 in
theorem ggX4_byStrand_X4_holds : GoodIn wsX4_byStrand wsX4_holds := goodIn_r _ [14, 15, 16, 17, 18, 19, 20, 21, 22, 23, 24, 25, 26, 27, 28, 29, 30, 31, 32, 33, 34, 35, 36, 37, 38, 39] (by decide +kernel) (by decide +kernel)
set_option maxRecDepth 20000 in
theorem gX4_byStrand_X4_holds : GoodIn wsX4_byStrand (wsV RX4 80 RX4 yX4_holds wsX4_holds) := goodIn_app (goodIn_of _ (by decide +kernel)) ggX4_byStrand_X4_holds
theorem dX4_byStrand_0 : decode cX4_byStrand 0 = .ok (.aload_n 0, 1) := by decide +kernel
theorem dX4_byStrand_1 : decode cX4_byStrand 1 = .ok (.aload_n 0, 1) := by decide +kernel
theorem dX4_byStrand_2 : decode cX4_byStrand 2 = .ok (.iload_n 1, 1) := by decide +kernel
theorem dX4_byStrand_3 : decode cX4_byStrand 3 = .ok (.invokevirtual 73, 3) := by decide +kernel
theorem dX4_byStrand_6 : decode cX4_byStrand 6 = .ok (.ifCond .eq 7, 3) := by decide +kernel
theorem dX4_byStrand_9 : decode cX4_byStrand 9 = .ok (.iconst 0, 1) := by decide +kernel
theorem dX4_byStrand_10 : decode cX4_byStrand 10 = .ok (.goto 4, 3) := by decide +kernel
theorem dX4_byStrand_13 : decode cX4_byStrand 13 = .ok (.iconst 1, 1) := by decide +kernel
theorem dX4_byStrand_14 : decode cX4_byStrand 14 = .ok (.invokevirtual 80, 3) := by decide +kernel
theorem dX4_byStrand_17 : decode cX4_byStrand 17 = .ok (.ifCond .eq 12, 3) := by decide +kernel
theorem dX4_byStrand_20 : decode cX4_byStrand 20 = .ok (.aload_n 0, 1) := by decide +kernel
theorem dX4_byStrand_21 : decode cX4_byStrand 21 = .ok (.getfield 22, 3) := by decide +kernel
theorem dX4_byStrand_24 : decode cX4_byStrand 24 = .ok (.iload_n 1, 1) := by decide +kernel
theorem dX4_byStrand_25 : decode cX4_byStrand 25 = .ok (.iaload, 1) := by decide +kernel
theorem dX4_byStrand_26 : decode cX4_byStrand 26 = .ok (.goto 4, 3) := by decide +kernel
theorem dX4_byStrand_29 : decode cX4_byStrand 29 = .ok (.iconst 0, 1) := by decide +kernel
theorem dX4_byStrand_30 : decode cX4_byStrand 30 = .ok (.ireturn, 1) := by decide +kernel
set_option maxRecDepth 20000 in
theorem ggX4_colour_X4_isPort : GoodIn wsX4_colour wsX4_isPort := goodIn_r _ [7, 8, 9, 10, 6, 11, 17, 18, 19, 20, 21, 22, 23, 24, 25, 26, 27, 28, 29, 30, 31, 32, 33, 34, 35, 36, 37, 38, 39, 40] (by decide +kernel) (by decide +kernel)
set_option maxRecDepth 20000 in
theorem gX4_colour_X4_isPort : GoodIn wsX4_colour (wsV RX4 73 RX4 yX4_isPort wsX4_isPort) := goodIn_app (goodIn_of _ (by decide +kernel)) ggX4_colour_X4_isPort
set_option maxRecDepth 20000 in
theorem ggX4_colour_X4_holds : GoodIn wsX4_colour wsX4_holds := goodIn_r _ [15, 16, 17, 18, 19, 20, 21, 22, 23, 24, 25, 26, 27, 28, 29, 30, 31, 32, 33, 34, 35, 36, 37, 38, 39, 40] (by decide +kernel) (by decide +kernel)
set_option maxRecDepth 20000 in
theorem gX4_colour_X4_holds : GoodIn wsX4_colour (wsV RX4 80 RX4 yX4_holds wsX4_holds) := goodIn_app (goodIn_of _ (by decide +kernel)) ggX4_colour_X4_holds
theorem dX4_colour_0 : decode cX4_colour 0 = .ok (.aload_n 0, 1) := by decide +kernel
theorem dX4_colour_1 : decode cX4_colour 1 = .ok (.aload_n 0, 1) := by decide +kernel
theorem dX4_colour_2 : decode cX4_colour 2 = .ok (.iload_n 1, 1) := by decide +kernel
theorem dX4_colour_3 : decode cX4_colour 3 = .ok (.invokevirtual 73, 3) := by decide +kernel
theorem dX4_colour_6 : decode cX4_colour 6 = .ok (.ifCond .eq 7, 3) := by decide +kernel
theorem dX4_colour_9 : decode cX4_colour 9 = .ok (.iconst 0, 1) := by decide +kernel
theorem dX4_colour_10 : decode cX4_colour 10 = .ok (.goto 4, 3) := by decide +kernel
theorem dX4_colour_13 : decode cX4_colour 13 = .ok (.iconst 1, 1) := by decide +kernel
theorem dX4_colour_14 : decode cX4_colour 14 = .ok (.invokevirtual 80, 3) := by decide +kernel
theorem dX4_colour_17 : decode cX4_colour 17 = .ok (.ifCond .eq 22, 3) := by decide +kernel
theorem dX4_colour_20 : decode cX4_colour 20 = .ok (.aload_n 0, 1) := by decide +kernel
theorem dX4_colour_21 : decode cX4_colour 21 = .ok (.getfield 16, 3) := by decide +kernel
theorem dX4_colour_24 : decode cX4_colour 24 = .ok (.iload_n 1, 1) := by decide +kernel
theorem dX4_colour_25 : decode cX4_colour 25 = .ok (.iaload, 1) := by decide +kernel
theorem dX4_colour_26 : decode cX4_colour 26 = .ok (.iconst (-1), 1) := by decide +kernel
theorem dX4_colour_27 : decode cX4_colour 27 = .ok (.if_icmp .eq 12, 3) := by decide +kernel
theorem dX4_colour_30 : decode cX4_colour 30 = .ok (.aload_n 0, 1) := by decide +kernel
theorem dX4_colour_31 : decode cX4_colour 31 = .ok (.getfield 19, 3) := by decide +kernel
theorem dX4_colour_34 : decode cX4_colour 34 = .ok (.iload_n 1, 1) := by decide +kernel
theorem dX4_colour_35 : decode cX4_colour 35 = .ok (.iaload, 1) := by decide +kernel
theorem dX4_colour_36 : decode cX4_colour 36 = .ok (.goto 4, 3) := by decide +kernel
theorem dX4_colour_39 : decode cX4_colour 39 = .ok (.iconst 0, 1) := by decide +kernel
theorem dX4_colour_40 : decode cX4_colour 40 = .ok (.ireturn, 1) := by decide +kernel
theorem dX4_next_0 : decode cX4_next 0 = .ok (.iload_n 2, 1) := by decide +kernel
theorem dX4_next_1 : decode cX4_next 1 = .ok (.ifCond .eq 12, 3) := by decide +kernel
theorem dX4_next_4 : decode cX4_next 4 = .ok (.aload_n 0, 1) := by decide +kernel
theorem dX4_next_5 : decode cX4_next 5 = .ok (.getfield 16, 3) := by decide +kernel
theorem dX4_next_8 : decode cX4_next 8 = .ok (.iload_n 1, 1) := by decide +kernel
theorem dX4_next_9 : decode cX4_next 9 = .ok (.iaload, 1) := by decide +kernel
theorem dX4_next_10 : decode cX4_next 10 = .ok (.goto 22, 3) := by decide +kernel
theorem dX4_next_13 : decode cX4_next 13 = .ok (.aload_n 0, 1) := by decide +kernel
theorem dX4_next_14 : decode cX4_next 14 = .ok (.getfield 28, 3) := by decide +kernel
theorem dX4_next_17 : decode cX4_next 17 = .ok (.iload_n 1, 1) := by decide +kernel
theorem dX4_next_18 : decode cX4_next 18 = .ok (.baload, 1) := by decide +kernel
theorem dX4_next_19 : decode cX4_next 19 = .ok (.ifCond .eq 7, 3) := by decide +kernel
theorem dX4_next_22 : decode cX4_next 22 = .ok (.iconst (-1), 1) := by decide +kernel
theorem dX4_next_23 : decode cX4_next 23 = .ok (.goto 9, 3) := by decide +kernel
theorem dX4_next_26 : decode cX4_next 26 = .ok (.aload_n 0, 1) := by decide +kernel
theorem dX4_next_27 : decode cX4_next 27 = .ok (.getfield 22, 3) := by decide +kernel
theorem dX4_next_30 : decode cX4_next 30 = .ok (.iload_n 1, 1) := by decide +kernel
theorem dX4_next_31 : decode cX4_next 31 = .ok (.iaload, 1) := by decide +kernel
theorem dX4_next_32 : decode cX4_next 32 = .ok (.ireturn, 1) := by decide +kernel
set_option maxRecDepth 20000 in
theorem ggX4_goes_X4_next : GoodIn wsX4_goes wsX4_next := goodIn_r _ [10, 11, 12, 13, 24, 25, 26, 27, 28, 29, 30, 31, 32, 33, 34, 35, 36, 37, 38, 39, 40, 41, 42, 43, 44, 45, 46, 47] (by decide +kernel) (by decide +kernel)
set_option maxRecDepth 20000 in
theorem gX4_goes_X4_next : GoodIn wsX4_goes (wsV RX4 132 RX4 yX4_next wsX4_next) := goodIn_app (goodIn_of _ (by decide +kernel)) ggX4_goes_X4_next
set_option maxRecDepth 20000 in
theorem ggX4_goes_X4_length : GoodIn wsX4_goes wsX4_length := goodIn_r _ [17, 18, 19, 20, 21, 9, 22, 23, 24, 25, 26, 27, 28, 29, 30, 31, 32, 33, 34, 35, 36, 37, 38, 39, 40, 41, 42, 43, 44, 45, 46, 47] (by decide +kernel) (by decide +kernel)
set_option maxRecDepth 20000 in
theorem gX4_goes_X4_length : GoodIn wsX4_goes (wsV RX4 108 RX4 yX4_length wsX4_length) := goodIn_app (goodIn_of _ (by decide +kernel)) ggX4_goes_X4_length
theorem dX4_goes_0 : decode cX4_goes 0 = .ok (.iload_n 1, 1) := by decide +kernel
theorem dX4_goes_1 : decode cX4_goes 1 = .ok (.istore_n 3, 1) := by decide +kernel
theorem dX4_goes_2 : decode cX4_goes 2 = .ok (.iload_n 2, 1) := by decide +kernel
theorem dX4_goes_3 : decode cX4_goes 3 = .ok (.istore 4, 2) := by decide +kernel
theorem dX4_goes_5 : decode cX4_goes 5 = .ok (.aload_n 0, 1) := by decide +kernel
theorem dX4_goes_6 : decode cX4_goes 6 = .ok (.iconst 0, 1) := by decide +kernel
theorem dX4_goes_7 : decode cX4_goes 7 = .ok (.putfield 126, 3) := by decide +kernel
theorem dX4_goes_10 : decode cX4_goes 10 = .ok (.aload_n 0, 1) := by decide +kernel
theorem dX4_goes_11 : decode cX4_goes 11 = .ok (.iconst 0, 1) := by decide +kernel
theorem dX4_goes_12 : decode cX4_goes 12 = .ok (.putfield 129, 3) := by decide +kernel
theorem dX4_goes_15 : decode cX4_goes 15 = .ok (.aload_n 0, 1) := by decide +kernel
theorem dX4_goes_16 : decode cX4_goes 16 = .ok (.iload_n 3, 1) := by decide +kernel
theorem dX4_goes_17 : decode cX4_goes 17 = .ok (.iload 4, 2) := by decide +kernel
theorem dX4_goes_19 : decode cX4_goes 19 = .ok (.invokevirtual 132, 3) := by decide +kernel
theorem dX4_goes_22 : decode cX4_goes 22 = .ok (.iconst (-1), 1) := by decide +kernel
theorem dX4_goes_23 : decode cX4_goes 23 = .ok (.if_icmp .eq 98, 3) := by decide +kernel
theorem dX4_goes_26 : decode cX4_goes 26 = .ok (.aload_n 0, 1) := by decide +kernel
theorem dX4_goes_27 : decode cX4_goes 27 = .ok (.getfield 126, 3) := by decide +kernel
theorem dX4_goes_30 : decode cX4_goes 30 = .ok (.ifCond .eq 8, 3) := by decide +kernel
theorem dX4_goes_33 : decode cX4_goes 33 = .ok (.iload_n 3, 1) := by decide +kernel
theorem dX4_goes_34 : decode cX4_goes 34 = .ok (.iload_n 1, 1) := by decide +kernel
theorem dX4_goes_35 : decode cX4_goes 35 = .ok (.if_icmp .eq 86, 3) := by decide +kernel
theorem dX4_goes_38 : decode cX4_goes 38 = .ok (.aload_n 0, 1) := by decide +kernel
theorem dX4_goes_39 : decode cX4_goes 39 = .ok (.iload_n 3, 1) := by decide +kernel
theorem dX4_goes_40 : decode cX4_goes 40 = .ok (.iload 4, 2) := by decide +kernel
theorem dX4_goes_42 : decode cX4_goes 42 = .ok (.invokevirtual 132, 3) := by decide +kernel
theorem dX4_goes_45 : decode cX4_goes 45 = .ok (.istore 5, 2) := by decide +kernel
theorem dX4_goes_47 : decode cX4_goes 47 = .ok (.aload_n 0, 1) := by decide +kernel
theorem dX4_goes_48 : decode cX4_goes 48 = .ok (.dup, 1) := by decide +kernel
theorem dX4_goes_49 : decode cX4_goes 49 = .ok (.getfield 129, 3) := by decide +kernel
theorem dX4_goes_52 : decode cX4_goes 52 = .ok (.iload 4, 2) := by decide +kernel
theorem dX4_goes_54 : decode cX4_goes 54 = .ok (.ifCond .eq 13, 3) := by decide +kernel
theorem dX4_goes_57 : decode cX4_goes 57 = .ok (.aload_n 0, 1) := by decide +kernel
theorem dX4_goes_58 : decode cX4_goes 58 = .ok (.iload_n 3, 1) := by decide +kernel
theorem dX4_goes_59 : decode cX4_goes 59 = .ok (.iload 5, 2) := by decide +kernel
theorem dX4_goes_61 : decode cX4_goes 61 = .ok (.invokevirtual 108, 3) := by decide +kernel
theorem dX4_goes_64 : decode cX4_goes 64 = .ok (.goto 14, 3) := by decide +kernel
theorem dX4_goes_67 : decode cX4_goes 67 = .ok (.aload_n 0, 1) := by decide +kernel
theorem dX4_goes_68 : decode cX4_goes 68 = .ok (.getfield 41, 3) := by decide +kernel
theorem dX4_goes_71 : decode cX4_goes 71 = .ok (.aload_n 0, 1) := by decide +kernel
theorem dX4_goes_72 : decode cX4_goes 72 = .ok (.getfield 25, 3) := by decide +kernel
theorem dX4_goes_75 : decode cX4_goes 75 = .ok (.iload_n 3, 1) := by decide +kernel
theorem dX4_goes_76 : decode cX4_goes 76 = .ok (.iaload, 1) := by decide +kernel
theorem dX4_goes_77 : decode cX4_goes 77 = .ok (.iaload, 1) := by decide +kernel
theorem dX4_goes_78 : decode cX4_goes 78 = .ok (.iadd, 1) := by decide +kernel
theorem dX4_goes_79 : decode cX4_goes 79 = .ok (.putfield 129, 3) := by decide +kernel
theorem dX4_goes_82 : decode cX4_goes 82 = .ok (.aload_n 0, 1) := by decide +kernel
theorem dX4_goes_83 : decode cX4_goes 83 = .ok (.getfield 56, 3) := by decide +kernel
theorem dX4_goes_86 : decode cX4_goes 86 = .ok (.aload_n 0, 1) := by decide +kernel
theorem dX4_goes_87 : decode cX4_goes 87 = .ok (.getfield 126, 3) := by decide +kernel
theorem dX4_goes_90 : decode cX4_goes 90 = .ok (.iload 5, 2) := by decide +kernel
theorem dX4_goes_92 : decode cX4_goes 92 = .ok (.iastore, 1) := by decide +kernel
theorem dX4_goes_93 : decode cX4_goes 93 = .ok (.aload_n 0, 1) := by decide +kernel
theorem dX4_goes_94 : decode cX4_goes 94 = .ok (.dup, 1) := by decide +kernel
theorem dX4_goes_95 : decode cX4_goes 95 = .ok (.getfield 126, 3) := by decide +kernel
theorem dX4_goes_98 : decode cX4_goes 98 = .ok (.iconst 1, 1) := by decide +kernel
theorem dX4_goes_99 : decode cX4_goes 99 = .ok (.iadd, 1) := by decide +kernel
theorem dX4_goes_100 : decode cX4_goes 100 = .ok (.putfield 126, 3) := by decide +kernel
theorem dX4_goes_103 : decode cX4_goes 103 = .ok (.iload 5, 2) := by decide +kernel
theorem dX4_goes_105 : decode cX4_goes 105 = .ok (.istore_n 3, 1) := by decide +kernel
theorem dX4_goes_106 : decode cX4_goes 106 = .ok (.iload 4, 2) := by decide +kernel
theorem dX4_goes_108 : decode cX4_goes 108 = .ok (.ifCond .ne 7, 3) := by decide +kernel
theorem dX4_goes_111 : decode cX4_goes 111 = .ok (.iconst 1, 1) := by decide +kernel
theorem dX4_goes_112 : decode cX4_goes 112 = .ok (.goto 4, 3) := by decide +kernel
theorem dX4_goes_115 : decode cX4_goes 115 = .ok (.iconst 0, 1) := by decide +kernel
theorem dX4_goes_116 : decode cX4_goes 116 = .ok (.istore 4, 2) := by decide +kernel
theorem dX4_goes_118 : decode cX4_goes 118 = .ok (.goto (-103), 3) := by decide +kernel
theorem dX4_goes_121 : decode cX4_goes 121 = .ok (.iload_n 3, 1) := by decide +kernel
theorem dX4_goes_122 : decode cX4_goes 122 = .ok (.ireturn, 1) := by decide +kernel
set_option maxRecDepth 20000 in
theorem ggX4_end_X4_isPort : GoodIn wsX4_end wsX4_isPort := goodIn_r _ [5, 6, 7, 8, 4, 9, 41, 42, 43, 44, 45, 46, 47, 48, 49, 50, 51, 52, 53, 54, 55, 56, 57, 58, 59, 60, 61, 62, 63, 64] (by decide +kernel) (by decide +kernel)
set_option maxRecDepth 20000 in
theorem gX4_end_X4_isPort : GoodIn wsX4_end (wsV RX4 73 RX4 yX4_isPort wsX4_isPort) := goodIn_app (goodIn_of _ (by decide +kernel)) ggX4_end_X4_isPort
set_option maxRecDepth 20000 in
theorem ggX4_end_X4_holds : GoodIn wsX4_end wsX4_holds := goodIn_r _ [13, 14, 41, 42, 43, 44, 45, 46, 47, 48, 49, 50, 51, 52, 53, 54, 55, 56, 57, 58, 59, 60, 61, 62, 63, 64] (by decide +kernel) (by decide +kernel)
set_option maxRecDepth 20000 in
theorem gX4_end_X4_holds : GoodIn wsX4_end (wsV RX4 80 RX4 yX4_holds wsX4_holds) := goodIn_app (goodIn_of _ (by decide +kernel)) ggX4_end_X4_holds
set_option maxRecDepth 20000 in
theorem ggX4_end_X4_goes : GoodIn wsX4_end wsX4_goes := goodIn_r _ [18, 19, 20, 21, 22, 23, 24, 25, 26, 4, 27, 28, 29, 30, 31, 32, 33, 34, 35, 36, 37, 38, 39, 40, 41, 42, 43, 44, 45, 46, 47, 48, 49, 50, 51, 52, 53, 54, 55, 56, 57, 58, 59, 60, 61, 62, 63, 64] (by decide +kernel) (by decide +kernel)
set_option maxRecDepth 20000 in
theorem gX4_end_X4_goes : GoodIn wsX4_end (wsV RX4 136 RX4 yX4_goes wsX4_goes) := goodIn_app (goodIn_of _ (by decide +kernel)) ggX4_end_X4_goes
theorem dX4_end_0 : decode cX4_end 0 = .ok (.aload_n 0, 1) := by decide +kernel
theorem dX4_end_1 : decode cX4_end 1 = .ok (.aload_n 0, 1) := by decide +kernel
theorem dX4_end_2 : decode cX4_end 2 = .ok (.iload_n 1, 1) := by decide +kernel
theorem dX4_end_3 : decode cX4_end 3 = .ok (.invokevirtual 73, 3) := by decide +kernel
theorem dX4_end_6 : decode cX4_end 6 = .ok (.ifCond .eq 7, 3) := by decide +kernel
theorem dX4_end_9 : decode cX4_end 9 = .ok (.iconst 0, 1) := by decide +kernel
theorem dX4_end_10 : decode cX4_end 10 = .ok (.goto 4, 3) := by decide +kernel
theorem dX4_end_13 : decode cX4_end 13 = .ok (.iconst 1, 1) := by decide +kernel
theorem dX4_end_14 : decode cX4_end 14 = .ok (.invokevirtual 80, 3) := by decide +kernel
theorem dX4_end_17 : decode cX4_end 17 = .ok (.ifCond .eq 12, 3) := by decide +kernel
theorem dX4_end_20 : decode cX4_end 20 = .ok (.aload_n 0, 1) := by decide +kernel
theorem dX4_end_21 : decode cX4_end 21 = .ok (.iload_n 1, 1) := by decide +kernel
theorem dX4_end_22 : decode cX4_end 22 = .ok (.iload_n 2, 1) := by decide +kernel
theorem dX4_end_23 : decode cX4_end 23 = .ok (.invokevirtual 136, 3) := by decide +kernel
theorem dX4_end_26 : decode cX4_end 26 = .ok (.goto 4, 3) := by decide +kernel
theorem dX4_end_29 : decode cX4_end 29 = .ok (.iconst 0, 1) := by decide +kernel
theorem dX4_end_30 : decode cX4_end 30 = .ok (.ireturn, 1) := by decide +kernel
set_option maxRecDepth 20000 in
theorem ggX4_hops_X4_isPort : GoodIn wsX4_hops wsX4_isPort := goodIn_r _ [6, 7, 8, 9, 5, 10, 41, 42, 43, 44, 45, 46, 47, 48, 49, 50, 51, 52, 53, 54, 55, 56, 57, 58, 59, 60, 61, 62, 63, 64] (by decide +kernel) (by decide +kernel)
set_option maxRecDepth 20000 in
theorem gX4_hops_X4_isPort : GoodIn wsX4_hops (wsV RX4 73 RX4 yX4_isPort wsX4_isPort) := goodIn_app (goodIn_of _ (by decide +kernel)) ggX4_hops_X4_isPort
set_option maxRecDepth 20000 in
theorem ggX4_hops_X4_holds : GoodIn wsX4_hops wsX4_holds := goodIn_r _ [14, 15, 41, 42, 43, 44, 45, 46, 47, 48, 49, 50, 51, 52, 53, 54, 55, 56, 57, 58, 59, 60, 61, 62, 63, 64] (by decide +kernel) (by decide +kernel)
set_option maxRecDepth 20000 in
theorem gX4_hops_X4_holds : GoodIn wsX4_hops (wsV RX4 80 RX4 yX4_holds wsX4_holds) := goodIn_app (goodIn_of _ (by decide +kernel)) ggX4_hops_X4_holds
set_option maxRecDepth 20000 in
theorem ggX4_hops_X4_goes : GoodIn wsX4_hops wsX4_goes := goodIn_r _ [19, 1, 20, 21, 22, 23, 24, 25, 26, 5, 27, 28, 29, 30, 31, 32, 33, 34, 35, 36, 37, 38, 39, 40, 41, 42, 43, 44, 45, 46, 47, 48, 49, 50, 51, 52, 53, 54, 55, 56, 57, 58, 59, 60, 61, 62, 63, 64] (by decide +kernel) (by decide +kernel)
set_option maxRecDepth 20000 in
theorem gX4_hops_X4_goes : GoodIn wsX4_hops (wsV RX4 136 RX4 yX4_goes wsX4_goes) := goodIn_app (goodIn_of _ (by decide +kernel)) ggX4_hops_X4_goes
theorem dX4_hops_0 : decode cX4_hops 0 = .ok (.aload_n 0, 1) := by decide +kernel
theorem dX4_hops_1 : decode cX4_hops 1 = .ok (.aload_n 0, 1) := by decide +kernel
theorem dX4_hops_2 : decode cX4_hops 2 = .ok (.iload_n 1, 1) := by decide +kernel
theorem dX4_hops_3 : decode cX4_hops 3 = .ok (.invokevirtual 73, 3) := by decide +kernel
theorem dX4_hops_6 : decode cX4_hops 6 = .ok (.ifCond .eq 7, 3) := by decide +kernel
theorem dX4_hops_9 : decode cX4_hops 9 = .ok (.iconst 0, 1) := by decide +kernel
theorem dX4_hops_10 : decode cX4_hops 10 = .ok (.goto 4, 3) := by decide +kernel
theorem dX4_hops_13 : decode cX4_hops 13 = .ok (.iconst 1, 1) := by decide +kernel
theorem dX4_hops_14 : decode cX4_hops 14 = .ok (.invokevirtual 80, 3) := by decide +kernel
theorem dX4_hops_17 : decode cX4_hops 17 = .ok (.ifCond .ne 5, 3) := by decide +kernel
theorem dX4_hops_20 : decode cX4_hops 20 = .ok (.iconst 0, 1) := by decide +kernel
theorem dX4_hops_21 : decode cX4_hops 21 = .ok (.ireturn, 1) := by decide +kernel
theorem dX4_hops_22 : decode cX4_hops 22 = .ok (.aload_n 0, 1) := by decide +kernel
theorem dX4_hops_23 : decode cX4_hops 23 = .ok (.iload_n 1, 1) := by decide +kernel
theorem dX4_hops_24 : decode cX4_hops 24 = .ok (.iload_n 2, 1) := by decide +kernel
theorem dX4_hops_25 : decode cX4_hops 25 = .ok (.invokevirtual 136, 3) := by decide +kernel
theorem dX4_hops_28 : decode cX4_hops 28 = .ok (.pop, 1) := by decide +kernel
theorem dX4_hops_29 : decode cX4_hops 29 = .ok (.aload_n 0, 1) := by decide +kernel
theorem dX4_hops_30 : decode cX4_hops 30 = .ok (.getfield 126, 3) := by decide +kernel
theorem dX4_hops_33 : decode cX4_hops 33 = .ok (.ireturn, 1) := by decide +kernel
set_option maxRecDepth 20000 in
theorem ggX4_hopTo_X4_isPort : GoodIn wsX4_hopTo wsX4_isPort := goodIn_r _ [7, 8, 9, 10, 6, 11, 41, 42, 43, 44, 45, 46, 47, 48, 49, 50, 51, 52, 53, 54, 55, 56, 57, 58, 59, 60, 61, 62, 63, 64] (by decide +kernel) (by decide +kernel)
set_option maxRecDepth 20000 in
theorem gX4_hopTo_X4_isPort : GoodIn wsX4_hopTo (wsV RX4 73 RX4 yX4_isPort wsX4_isPort) := goodIn_app (goodIn_of _ (by decide +kernel)) ggX4_hopTo_X4_isPort
set_option maxRecDepth 20000 in
theorem ggX4_hopTo_X4_goes : GoodIn wsX4_hopTo wsX4_goes := goodIn_r _ [15, 1, 16, 17, 18, 2, 19, 20, 21, 6, 22, 23, 24, 25, 26, 27, 28, 29, 30, 31, 32, 33, 34, 35, 41, 42, 43, 44, 45, 46, 47, 48, 49, 50, 51, 52, 53, 54, 55, 56, 57, 58, 59, 60, 61, 62, 63, 64] (by decide +kernel) (by decide +kernel)
set_option maxRecDepth 20000 in
theorem gX4_hopTo_X4_goes : GoodIn wsX4_hopTo (wsV RX4 136 RX4 yX4_goes wsX4_goes) := goodIn_app (goodIn_of _ (by decide +kernel)) ggX4_hopTo_X4_goes
set_option maxRecDepth 20000 in
theorem ggX4_hopTo_X4_in : GoodIn wsX4_hopTo wsX4_in := goodIn_r _ [11] (by decide +kernel) (by decide +kernel)
set_option maxRecDepth 20000 in
theorem gX4_hopTo_X4_in : GoodIn wsX4_hopTo (va_wsS RX4 69 yX4_in wsX4_in) := goodIn_app (goodIn_of _ (by decide +kernel)) ggX4_hopTo_X4_in
set_option maxRecDepth 20000 in
theorem ggX4_hopTo_X4_holds : GoodIn wsX4_hopTo wsX4_holds := goodIn_r _ [39, 40, 41, 42, 43, 44, 45, 46, 47, 48, 49, 50, 51, 52, 53, 54, 55, 56, 57, 58, 59, 60, 61, 62, 63, 64] (by decide +kernel) (by decide +kernel)
set_option maxRecDepth 20000 in
theorem gX4_hopTo_X4_holds : GoodIn wsX4_hopTo (wsV RX4 80 RX4 yX4_holds wsX4_holds) := goodIn_app (goodIn_of _ (by decide +kernel)) ggX4_hopTo_X4_holds
theorem dX4_hopTo_0 : decode cX4_hopTo 0 = .ok (.aload_n 0, 1) := by decide +kernel
theorem dX4_hopTo_1 : decode cX4_hopTo 1 = .ok (.iload_n 1, 1) := by decide +kernel
theorem dX4_hopTo_2 : decode cX4_hopTo 2 = .ok (.invokevirtual 73, 3) := by decide +kernel
theorem dX4_hopTo_5 : decode cX4_hopTo 5 = .ok (.ifCond .eq 12, 3) := by decide +kernel
theorem dX4_hopTo_8 : decode cX4_hopTo 8 = .ok (.aload_n 0, 1) := by decide +kernel
theorem dX4_hopTo_9 : decode cX4_hopTo 9 = .ok (.iload_n 1, 1) := by decide +kernel
theorem dX4_hopTo_10 : decode cX4_hopTo 10 = .ok (.iload_n 2, 1) := by decide +kernel
theorem dX4_hopTo_11 : decode cX4_hopTo 11 = .ok (.invokevirtual 136, 3) := by decide +kernel
theorem dX4_hopTo_14 : decode cX4_hopTo 14 = .ok (.goto 4, 3) := by decide +kernel
theorem dX4_hopTo_17 : decode cX4_hopTo 17 = .ok (.iconst (-1), 1) := by decide +kernel
theorem dX4_hopTo_18 : decode cX4_hopTo 18 = .ok (.istore 4, 2) := by decide +kernel
theorem dX4_hopTo_20 : decode cX4_hopTo 20 = .ok (.aload_n 0, 1) := by decide +kernel
theorem dX4_hopTo_21 : decode cX4_hopTo 21 = .ok (.iload 4, 2) := by decide +kernel
theorem dX4_hopTo_23 : decode cX4_hopTo 23 = .ok (.iconst (-1), 1) := by decide +kernel
theorem dX4_hopTo_24 : decode cX4_hopTo 24 = .ok (.if_icmp .eq 21, 3) := by decide +kernel
theorem dX4_hopTo_27 : decode cX4_hopTo 27 = .ok (.iload_n 3, 1) := by decide +kernel
theorem dX4_hopTo_28 : decode cX4_hopTo 28 = .ok (.iconst 0, 1) := by decide +kernel
theorem dX4_hopTo_29 : decode cX4_hopTo 29 = .ok (.aload_n 0, 1) := by decide +kernel
theorem dX4_hopTo_30 : decode cX4_hopTo 30 = .ok (.getfield 126, 3) := by decide +kernel
theorem dX4_hopTo_33 : decode cX4_hopTo 33 = .ok (.iconst 1, 1) := by decide +kernel
theorem dX4_hopTo_34 : decode cX4_hopTo 34 = .ok (.isub, 1) := by decide +kernel
theorem dX4_hopTo_35 : decode cX4_hopTo 35 = .ok (.invokestatic 69, 3) := by decide +kernel
theorem dX4_hopTo_38 : decode cX4_hopTo 38 = .ok (.ifCond .eq 7, 3) := by decide +kernel
theorem dX4_hopTo_41 : decode cX4_hopTo 41 = .ok (.iconst 0, 1) := by decide +kernel
theorem dX4_hopTo_42 : decode cX4_hopTo 42 = .ok (.goto 4, 3) := by decide +kernel
theorem dX4_hopTo_45 : decode cX4_hopTo 45 = .ok (.iconst 1, 1) := by decide +kernel
theorem dX4_hopTo_46 : decode cX4_hopTo 46 = .ok (.invokevirtual 80, 3) := by decide +kernel
theorem dX4_hopTo_49 : decode cX4_hopTo 49 = .ok (.ifCond .eq 12, 3) := by decide +kernel
theorem dX4_hopTo_52 : decode cX4_hopTo 52 = .ok (.aload_n 0, 1) := by decide +kernel
theorem dX4_hopTo_53 : decode cX4_hopTo 53 = .ok (.getfield 56, 3) := by decide +kernel
theorem dX4_hopTo_56 : decode cX4_hopTo 56 = .ok (.iload_n 3, 1) := by decide +kernel
theorem dX4_hopTo_57 : decode cX4_hopTo 57 = .ok (.iaload, 1) := by decide +kernel
theorem dX4_hopTo_58 : decode cX4_hopTo 58 = .ok (.goto 4, 3) := by decide +kernel
theorem dX4_hopTo_61 : decode cX4_hopTo 61 = .ok (.iconst 0, 1) := by decide +kernel
theorem dX4_hopTo_62 : decode cX4_hopTo 62 = .ok (.ireturn, 1) := by decide +kernel
set_option maxRecDepth 20000 in
theorem ggX4_lengthOf_X4_isPort : GoodIn wsX4_lengthOf wsX4_isPort := goodIn_r _ [6, 7, 8, 9, 5, 10, 41, 42, 43, 44, 45, 46, 47, 48, 49, 50, 51, 52, 53, 54, 55, 56, 57, 58, 59, 60, 61, 62, 63, 64] (by decide +kernel) (by decide +kernel)
set_option maxRecDepth 20000 in
theorem gX4_lengthOf_X4_isPort : GoodIn wsX4_lengthOf (wsV RX4 73 RX4 yX4_isPort wsX4_isPort) := goodIn_app (goodIn_of _ (by decide +kernel)) ggX4_lengthOf_X4_isPort
set_option maxRecDepth 20000 in
theorem ggX4_lengthOf_X4_holds : GoodIn wsX4_lengthOf wsX4_holds := goodIn_r _ [14, 15, 41, 42, 43, 44, 45, 46, 47, 48, 49, 50, 51, 52, 53, 54, 55, 56, 57, 58, 59, 60, 61, 62, 63, 64] (by decide +kernel) (by decide +kernel)
set_option maxRecDepth 20000 in
theorem gX4_lengthOf_X4_holds : GoodIn wsX4_lengthOf (wsV RX4 80 RX4 yX4_holds wsX4_holds) := goodIn_app (goodIn_of _ (by decide +kernel)) ggX4_lengthOf_X4_holds
set_option maxRecDepth 20000 in
theorem ggX4_lengthOf_X4_goes : GoodIn wsX4_lengthOf wsX4_goes := goodIn_r _ [19, 20, 1, 21, 22, 23, 24, 25, 26, 5, 27, 28, 29, 30, 31, 32, 33, 34, 35, 36, 37, 38, 39, 40, 41, 42, 43, 44, 45, 46, 47, 48, 49, 50, 51, 52, 53, 54, 55, 56, 57, 58, 59, 60, 61, 62, 63, 64] (by decide +kernel) (by decide +kernel)
set_option maxRecDepth 20000 in
theorem gX4_lengthOf_X4_goes : GoodIn wsX4_lengthOf (wsV RX4 136 RX4 yX4_goes wsX4_goes) := goodIn_app (goodIn_of _ (by decide +kernel)) ggX4_lengthOf_X4_goes
theorem dX4_lengthOf_0 : decode cX4_lengthOf 0 = .ok (.aload_n 0, 1) := by decide +kernel
theorem dX4_lengthOf_1 : decode cX4_lengthOf 1 = .ok (.aload_n 0, 1) := by decide +kernel
theorem dX4_lengthOf_2 : decode cX4_lengthOf 2 = .ok (.iload_n 1, 1) := by decide +kernel
theorem dX4_lengthOf_3 : decode cX4_lengthOf 3 = .ok (.invokevirtual 73, 3) := by decide +kernel
theorem dX4_lengthOf_6 : decode cX4_lengthOf 6 = .ok (.ifCond .eq 7, 3) := by decide +kernel
theorem dX4_lengthOf_9 : decode cX4_lengthOf 9 = .ok (.iconst 0, 1) := by decide +kernel
theorem dX4_lengthOf_10 : decode cX4_lengthOf 10 = .ok (.goto 4, 3) := by decide +kernel
theorem dX4_lengthOf_13 : decode cX4_lengthOf 13 = .ok (.iconst 1, 1) := by decide +kernel
theorem dX4_lengthOf_14 : decode cX4_lengthOf 14 = .ok (.invokevirtual 80, 3) := by decide +kernel
theorem dX4_lengthOf_17 : decode cX4_lengthOf 17 = .ok (.ifCond .ne 5, 3) := by decide +kernel
theorem dX4_lengthOf_20 : decode cX4_lengthOf 20 = .ok (.iconst 0, 1) := by decide +kernel
theorem dX4_lengthOf_21 : decode cX4_lengthOf 21 = .ok (.ireturn, 1) := by decide +kernel
theorem dX4_lengthOf_22 : decode cX4_lengthOf 22 = .ok (.aload_n 0, 1) := by decide +kernel
theorem dX4_lengthOf_23 : decode cX4_lengthOf 23 = .ok (.iload_n 1, 1) := by decide +kernel
theorem dX4_lengthOf_24 : decode cX4_lengthOf 24 = .ok (.iload_n 2, 1) := by decide +kernel
theorem dX4_lengthOf_25 : decode cX4_lengthOf 25 = .ok (.invokevirtual 136, 3) := by decide +kernel
theorem dX4_lengthOf_28 : decode cX4_lengthOf 28 = .ok (.pop, 1) := by decide +kernel
theorem dX4_lengthOf_29 : decode cX4_lengthOf 29 = .ok (.aload_n 0, 1) := by decide +kernel
theorem dX4_lengthOf_30 : decode cX4_lengthOf 30 = .ok (.getfield 129, 3) := by decide +kernel
theorem dX4_lengthOf_33 : decode cX4_lengthOf 33 = .ok (.ireturn, 1) := by decide +kernel
set_option maxRecDepth 20000 in
theorem ggX4_isRing_X4_isPort : GoodIn wsX4_isRing wsX4_isPort := goodIn_r _ [6, 7, 8, 9, 5, 10, 41, 42, 43, 44, 45, 46, 47, 48, 49, 50, 51, 52, 53, 54, 55, 56, 57, 58, 59, 60, 61, 62, 63, 64] (by decide +kernel) (by decide +kernel)
set_option maxRecDepth 20000 in
theorem gX4_isRing_X4_isPort : GoodIn wsX4_isRing (wsV RX4 73 RX4 yX4_isPort wsX4_isPort) := goodIn_app (goodIn_of _ (by decide +kernel)) ggX4_isRing_X4_isPort
set_option maxRecDepth 20000 in
theorem ggX4_isRing_X4_holds : GoodIn wsX4_isRing wsX4_holds := goodIn_r _ [14, 15, 41, 42, 43, 44, 45, 46, 47, 48, 49, 50, 51, 52, 53, 54, 55, 56, 57, 58, 59, 60, 61, 62, 63, 64] (by decide +kernel) (by decide +kernel)
set_option maxRecDepth 20000 in
theorem gX4_isRing_X4_holds : GoodIn wsX4_isRing (wsV RX4 80 RX4 yX4_holds wsX4_holds) := goodIn_app (goodIn_of _ (by decide +kernel)) ggX4_isRing_X4_holds
set_option maxRecDepth 20000 in
theorem ggX4_isRing_X4_goes : GoodIn wsX4_isRing wsX4_goes := goodIn_r _ [19, 1, 20, 21, 22, 23, 24, 25, 26, 5, 27, 28, 29, 30, 31, 32, 33, 34, 35, 36, 37, 38, 39, 40, 41, 42, 43, 44, 45, 46, 47, 48, 49, 50, 51, 52, 53, 54, 55, 56, 57, 58, 59, 60, 61, 62, 63, 64] (by decide +kernel) (by decide +kernel)
set_option maxRecDepth 20000 in
theorem gX4_isRing_X4_goes : GoodIn wsX4_isRing (wsV RX4 136 RX4 yX4_goes wsX4_goes) := goodIn_app (goodIn_of _ (by decide +kernel)) ggX4_isRing_X4_goes
theorem dX4_isRing_0 : decode cX4_isRing 0 = .ok (.aload_n 0, 1) := by decide +kernel
theorem dX4_isRing_1 : decode cX4_isRing 1 = .ok (.aload_n 0, 1) := by decide +kernel
theorem dX4_isRing_2 : decode cX4_isRing 2 = .ok (.iload_n 1, 1) := by decide +kernel
theorem dX4_isRing_3 : decode cX4_isRing 3 = .ok (.invokevirtual 73, 3) := by decide +kernel
theorem dX4_isRing_6 : decode cX4_isRing 6 = .ok (.ifCond .eq 7, 3) := by decide +kernel
theorem dX4_isRing_9 : decode cX4_isRing 9 = .ok (.iconst 0, 1) := by decide +kernel
theorem dX4_isRing_10 : decode cX4_isRing 10 = .ok (.goto 4, 3) := by decide +kernel
theorem dX4_isRing_13 : decode cX4_isRing 13 = .ok (.iconst 1, 1) := by decide +kernel
theorem dX4_isRing_14 : decode cX4_isRing 14 = .ok (.invokevirtual 80, 3) := by decide +kernel
theorem dX4_isRing_17 : decode cX4_isRing 17 = .ok (.ifCond .eq 24, 3) := by decide +kernel
theorem dX4_isRing_20 : decode cX4_isRing 20 = .ok (.aload_n 0, 1) := by decide +kernel
theorem dX4_isRing_21 : decode cX4_isRing 21 = .ok (.iload_n 1, 1) := by decide +kernel
theorem dX4_isRing_22 : decode cX4_isRing 22 = .ok (.iconst 1, 1) := by decide +kernel
theorem dX4_isRing_23 : decode cX4_isRing 23 = .ok (.invokevirtual 136, 3) := by decide +kernel
theorem dX4_isRing_26 : decode cX4_isRing 26 = .ok (.iload_n 1, 1) := by decide +kernel
theorem dX4_isRing_27 : decode cX4_isRing 27 = .ok (.if_icmp .ne 14, 3) := by decide +kernel
theorem dX4_isRing_30 : decode cX4_isRing 30 = .ok (.aload_n 0, 1) := by decide +kernel
theorem dX4_isRing_31 : decode cX4_isRing 31 = .ok (.getfield 126, 3) := by decide +kernel
theorem dX4_isRing_34 : decode cX4_isRing 34 = .ok (.ifCond .le 7, 3) := by decide +kernel
theorem dX4_isRing_37 : decode cX4_isRing 37 = .ok (.iconst 1, 1) := by decide +kernel
theorem dX4_isRing_38 : decode cX4_isRing 38 = .ok (.goto 4, 3) := by decide +kernel
theorem dX4_isRing_41 : decode cX4_isRing 41 = .ok (.iconst 0, 1) := by decide +kernel
theorem dX4_isRing_42 : decode cX4_isRing 42 = .ok (.ireturn, 1) := by decide +kernel
set_option maxRecDepth 20000 in
theorem ggX4_isMet_X4_goes : GoodIn wsX4_isMet wsX4_goes := goodIn_r _ [7, 1, 8, 9, 10, 2, 11, 12, 13, 6, 14, 15, 16, 17, 18, 19, 20, 21, 22, 23, 24, 25, 26, 27, 28, 29, 30, 31, 32, 33, 34, 35, 36, 37, 38, 39, 40, 41, 42, 43, 44, 45, 46, 47, 48, 49, 50, 51] (by decide +kernel) (by decide +kernel)
set_option maxRecDepth 20000 in
theorem gX4_isMet_X4_goes : GoodIn wsX4_isMet (wsV RX4 136 RX4 yX4_goes wsX4_goes) := goodIn_app (goodIn_of _ (by decide +kernel)) ggX4_isMet_X4_goes
theorem dX4_isMet_0 : decode cX4_isMet 0 = .ok (.aload_n 0, 1) := by decide +kernel
theorem dX4_isMet_1 : decode cX4_isMet 1 = .ok (.iload_n 2, 1) := by decide +kernel
theorem dX4_isMet_2 : decode cX4_isMet 2 = .ok (.iload_n 3, 1) := by decide +kernel
theorem dX4_isMet_3 : decode cX4_isMet 3 = .ok (.invokevirtual 136, 3) := by decide +kernel
theorem dX4_isMet_6 : decode cX4_isMet 6 = .ok (.pop, 1) := by decide +kernel
theorem dX4_isMet_7 : decode cX4_isMet 7 = .ok (.iconst 0, 1) := by decide +kernel
theorem dX4_isMet_8 : decode cX4_isMet 8 = .ok (.istore 4, 2) := by decide +kernel
theorem dX4_isMet_10 : decode cX4_isMet 10 = .ok (.iload 4, 2) := by decide +kernel
theorem dX4_isMet_12 : decode cX4_isMet 12 = .ok (.aload_n 0, 1) := by decide +kernel
theorem dX4_isMet_13 : decode cX4_isMet 13 = .ok (.getfield 126, 3) := by decide +kernel
theorem dX4_isMet_16 : decode cX4_isMet 16 = .ok (.if_icmp .ge 22, 3) := by decide +kernel
theorem dX4_isMet_19 : decode cX4_isMet 19 = .ok (.aload_n 0, 1) := by decide +kernel
theorem dX4_isMet_20 : decode cX4_isMet 20 = .ok (.getfield 56, 3) := by decide +kernel
theorem dX4_isMet_23 : decode cX4_isMet 23 = .ok (.iload 4, 2) := by decide +kernel
theorem dX4_isMet_25 : decode cX4_isMet 25 = .ok (.iaload, 1) := by decide +kernel
theorem dX4_isMet_26 : decode cX4_isMet 26 = .ok (.iload_n 1, 1) := by decide +kernel
theorem dX4_isMet_27 : decode cX4_isMet 27 = .ok (.if_icmp .ne 5, 3) := by decide +kernel
theorem dX4_isMet_30 : decode cX4_isMet 30 = .ok (.iconst 1, 1) := by decide +kernel
theorem dX4_isMet_31 : decode cX4_isMet 31 = .ok (.ireturn, 1) := by decide +kernel
theorem dX4_isMet_32 : decode cX4_isMet 32 = .ok (.iinc 4 1, 3) := by decide +kernel
theorem dX4_isMet_35 : decode cX4_isMet 35 = .ok (.goto (-25), 3) := by decide +kernel
theorem dX4_isMet_38 : decode cX4_isMet 38 = .ok (.iload_n 1, 1) := by decide +kernel
theorem dX4_isMet_39 : decode cX4_isMet 39 = .ok (.iload_n 2, 1) := by decide +kernel
theorem dX4_isMet_40 : decode cX4_isMet 40 = .ok (.if_icmp .ne 7, 3) := by decide +kernel
theorem dX4_isMet_43 : decode cX4_isMet 43 = .ok (.iconst 1, 1) := by decide +kernel
theorem dX4_isMet_44 : decode cX4_isMet 44 = .ok (.goto 4, 3) := by decide +kernel
theorem dX4_isMet_47 : decode cX4_isMet 47 = .ok (.iconst 0, 1) := by decide +kernel
theorem dX4_isMet_48 : decode cX4_isMet 48 = .ok (.ireturn, 1) := by decide +kernel
set_option maxRecDepth 20000 in
theorem ggX4_isOnLine_X4_isMet : GoodIn wsX4_isOnLine wsX4_isMet := goodIn_r _ [5, 6, 7, 8, 9, 10, 4, 11, 12, 13, 14, 15, 16, 17, 18, 19, 20, 21, 22, 23, 24, 25, 26, 27, 28, 29, 30, 31, 32, 33, 34, 35, 36, 37, 38, 39, 40, 41, 42, 43, 44, 45, 46, 47, 48, 49, 50, 51, 52, 53, 54, 55] (by decide +kernel) (by decide +kernel)
set_option maxRecDepth 20000 in
theorem gX4_isOnLine_X4_isMet : GoodIn wsX4_isOnLine (wsV RX4 139 RX4 yX4_isMet wsX4_isMet) := goodIn_app (goodIn_of _ (by decide +kernel)) ggX4_isOnLine_X4_isMet
theorem dX4_isOnLine_0 : decode cX4_isOnLine 0 = .ok (.aload_n 0, 1) := by decide +kernel
theorem dX4_isOnLine_1 : decode cX4_isOnLine 1 = .ok (.iload_n 1, 1) := by decide +kernel
theorem dX4_isOnLine_2 : decode cX4_isOnLine 2 = .ok (.iload_n 2, 1) := by decide +kernel
theorem dX4_isOnLine_3 : decode cX4_isOnLine 3 = .ok (.iconst 1, 1) := by decide +kernel
theorem dX4_isOnLine_4 : decode cX4_isOnLine 4 = .ok (.invokevirtual 139, 3) := by decide +kernel
theorem dX4_isOnLine_7 : decode cX4_isOnLine 7 = .ok (.ifCond .ne 13, 3) := by decide +kernel
theorem dX4_isOnLine_10 : decode cX4_isOnLine 10 = .ok (.aload_n 0, 1) := by decide +kernel
theorem dX4_isOnLine_11 : decode cX4_isOnLine 11 = .ok (.iload_n 1, 1) := by decide +kernel
theorem dX4_isOnLine_12 : decode cX4_isOnLine 12 = .ok (.iload_n 2, 1) := by decide +kernel
theorem dX4_isOnLine_13 : decode cX4_isOnLine 13 = .ok (.iconst 0, 1) := by decide +kernel
theorem dX4_isOnLine_14 : decode cX4_isOnLine 14 = .ok (.invokevirtual 139, 3) := by decide +kernel
theorem dX4_isOnLine_17 : decode cX4_isOnLine 17 = .ok (.ifCond .eq 7, 3) := by decide +kernel
theorem dX4_isOnLine_20 : decode cX4_isOnLine 20 = .ok (.iconst 1, 1) := by decide +kernel
theorem dX4_isOnLine_21 : decode cX4_isOnLine 21 = .ok (.goto 4, 3) := by decide +kernel
theorem dX4_isOnLine_24 : decode cX4_isOnLine 24 = .ok (.iconst 0, 1) := by decide +kernel
theorem dX4_isOnLine_25 : decode cX4_isOnLine 25 = .ok (.ireturn, 1) := by decide +kernel
set_option maxRecDepth 20000 in
theorem ggX4_areJoined_X4_arePorts : GoodIn wsX4_areJoined wsX4_arePorts := goodIn_r _ [5, 6, 7, 8, 4, 9, 10, 11, 12, 13, 53, 54, 55, 56, 57, 58, 59, 60, 61, 62, 63, 64, 65, 66, 67, 68, 69, 70, 71, 72, 73, 74, 75, 76] (by decide +kernel) (by decide +kernel)
set_option maxRecDepth 20000 in
theorem gX4_areJoined_X4_arePorts : GoodIn wsX4_areJoined (wsV RX4 87 RX4 yX4_arePorts wsX4_arePorts) := goodIn_app (goodIn_of _ (by decide +kernel)) ggX4_areJoined_X4_arePorts
set_option maxRecDepth 20000 in
theorem ggX4_areJoined_X4_holds : GoodIn wsX4_areJoined wsX4_holds := goodIn_r _ [17, 18, 53, 54, 55, 56, 57, 58, 59, 60, 61, 62, 63, 64, 65, 66, 67, 68, 69, 70, 71, 72, 73, 74, 75, 76] (by decide +kernel) (by decide +kernel)
set_option maxRecDepth 20000 in
theorem gX4_areJoined_X4_holds : GoodIn wsX4_areJoined (wsV RX4 80 RX4 yX4_holds wsX4_holds) := goodIn_app (goodIn_of _ (by decide +kernel)) ggX4_areJoined_X4_holds
set_option maxRecDepth 20000 in
theorem ggX4_areJoined_X4_isOnLine : GoodIn wsX4_areJoined wsX4_isOnLine := goodIn_r _ [22, 23, 24, 25, 4, 26, 27, 28, 29, 30, 31, 32, 33, 34, 35, 36, 37, 38, 39, 40, 41, 42, 43, 44, 45, 46, 47, 48, 49, 50, 51, 52, 53, 54, 55, 56, 57, 58, 59, 60, 61, 62, 63, 64, 65, 66, 67, 68, 69, 70, 71, 72, 73, 74, 75, 76] (by decide +kernel) (by decide +kernel)
set_option maxRecDepth 20000 in
theorem gX4_areJoined_X4_isOnLine : GoodIn wsX4_areJoined (wsV RX4 143 RX4 yX4_isOnLine wsX4_isOnLine) := goodIn_app (goodIn_of _ (by decide +kernel)) ggX4_areJoined_X4_isOnLine
theorem dX4_areJoined_0 : decode cX4_areJoined 0 = .ok (.aload_n 0, 1) := by decide +kernel
theorem dX4_areJoined_1 : decode cX4_areJoined 1 = .ok (.aload_n 0, 1) := by decide +kernel
theorem dX4_areJoined_2 : decode cX4_areJoined 2 = .ok (.iload_n 1, 1) := by decide +kernel
theorem dX4_areJoined_3 : decode cX4_areJoined 3 = .ok (.iload_n 2, 1) := by decide +kernel
theorem dX4_areJoined_4 : decode cX4_areJoined 4 = .ok (.invokevirtual 87, 3) := by decide +kernel
theorem dX4_areJoined_7 : decode cX4_areJoined 7 = .ok (.ifCond .eq 7, 3) := by decide +kernel
theorem dX4_areJoined_10 : decode cX4_areJoined 10 = .ok (.iconst 0, 1) := by decide +kernel
theorem dX4_areJoined_11 : decode cX4_areJoined 11 = .ok (.goto 4, 3) := by decide +kernel
theorem dX4_areJoined_14 : decode cX4_areJoined 14 = .ok (.iconst 1, 1) := by decide +kernel
theorem dX4_areJoined_15 : decode cX4_areJoined 15 = .ok (.invokevirtual 80, 3) := by decide +kernel
theorem dX4_areJoined_18 : decode cX4_areJoined 18 = .ok (.ifCond .eq 16, 3) := by decide +kernel
theorem dX4_areJoined_21 : decode cX4_areJoined 21 = .ok (.aload_n 0, 1) := by decide +kernel
theorem dX4_areJoined_22 : decode cX4_areJoined 22 = .ok (.iload_n 2, 1) := by decide +kernel
theorem dX4_areJoined_23 : decode cX4_areJoined 23 = .ok (.iload_n 1, 1) := by decide +kernel
theorem dX4_areJoined_24 : decode cX4_areJoined 24 = .ok (.invokevirtual 143, 3) := by decide +kernel
theorem dX4_areJoined_27 : decode cX4_areJoined 27 = .ok (.ifCond .eq 7, 3) := by decide +kernel
theorem dX4_areJoined_30 : decode cX4_areJoined 30 = .ok (.iconst 1, 1) := by decide +kernel
theorem dX4_areJoined_31 : decode cX4_areJoined 31 = .ok (.goto 4, 3) := by decide +kernel
theorem dX4_areJoined_34 : decode cX4_areJoined 34 = .ok (.iconst 0, 1) := by decide +kernel
theorem dX4_areJoined_35 : decode cX4_areJoined 35 = .ok (.ireturn, 1) := by decide +kernel
set_option maxRecDepth 20000 in
theorem ggX4_searches_X4_next : GoodIn wsX4_searches wsX4_next := goodIn_r _ [7, 8, 9, 10, 11, 12, 13, 14, 15, 16, 17, 18, 19, 20, 21, 22, 23, 24, 25, 26, 27, 28, 29, 30, 31, 32, 33, 34] (by decide +kernel) (by decide +kernel)
set_option maxRecDepth 20000 in
theorem gX4_searches_X4_next : GoodIn wsX4_searches (wsV RX4 132 RX4 yX4_next wsX4_next) := goodIn_app (goodIn_of _ (by decide +kernel)) ggX4_searches_X4_next
theorem dX4_searches_0 : decode cX4_searches 0 = .ok (.iconst 0, 1) := by decide +kernel
theorem dX4_searches_1 : decode cX4_searches 1 = .ok (.istore_n 1, 1) := by decide +kernel
theorem dX4_searches_2 : decode cX4_searches 2 = .ok (.iload_n 1, 1) := by decide +kernel
theorem dX4_searches_3 : decode cX4_searches 3 = .ok (.aload_n 0, 1) := by decide +kernel
theorem dX4_searches_4 : decode cX4_searches 4 = .ok (.getfield 66, 3) := by decide +kernel
theorem dX4_searches_7 : decode cX4_searches 7 = .ok (.if_icmp .ge 16, 3) := by decide +kernel
theorem dX4_searches_10 : decode cX4_searches 10 = .ok (.aload_n 0, 1) := by decide +kernel
theorem dX4_searches_11 : decode cX4_searches 11 = .ok (.getfield 59, 3) := by decide +kernel
theorem dX4_searches_14 : decode cX4_searches 14 = .ok (.iload_n 1, 1) := by decide +kernel
theorem dX4_searches_15 : decode cX4_searches 15 = .ok (.iload_n 1, 1) := by decide +kernel
theorem dX4_searches_16 : decode cX4_searches 16 = .ok (.iastore, 1) := by decide +kernel
theorem dX4_searches_17 : decode cX4_searches 17 = .ok (.iinc 1 1, 3) := by decide +kernel
theorem dX4_searches_20 : decode cX4_searches 20 = .ok (.goto (-18), 3) := by decide +kernel
theorem dX4_searches_23 : decode cX4_searches 23 = .ok (.iconst 1, 1) := by decide +kernel
theorem dX4_searches_24 : decode cX4_searches 24 = .ok (.istore_n 1, 1) := by decide +kernel
theorem dX4_searches_25 : decode cX4_searches 25 = .ok (.iload_n 1, 1) := by decide +kernel
theorem dX4_searches_26 : decode cX4_searches 26 = .ok (.ifCond .eq 85, 3) := by decide +kernel
theorem dX4_searches_29 : decode cX4_searches 29 = .ok (.iconst 0, 1) := by decide +kernel
theorem dX4_searches_30 : decode cX4_searches 30 = .ok (.istore_n 1, 1) := by decide +kernel
theorem dX4_searches_31 : decode cX4_searches 31 = .ok (.iconst 0, 1) := by decide +kernel
theorem dX4_searches_32 : decode cX4_searches 32 = .ok (.istore_n 2, 1) := by decide +kernel
theorem dX4_searches_33 : decode cX4_searches 33 = .ok (.iload_n 2, 1) := by decide +kernel
theorem dX4_searches_34 : decode cX4_searches 34 = .ok (.iconst 2, 1) := by decide +kernel
theorem dX4_searches_35 : decode cX4_searches 35 = .ok (.aload_n 0, 1) := by decide +kernel
theorem dX4_searches_36 : decode cX4_searches 36 = .ok (.getfield 66, 3) := by decide +kernel
theorem dX4_searches_39 : decode cX4_searches 39 = .ok (.imul, 1) := by decide +kernel
theorem dX4_searches_40 : decode cX4_searches 40 = .ok (.if_icmp .ge 68, 3) := by decide +kernel
theorem dX4_searches_43 : decode cX4_searches 43 = .ok (.iload_n 2, 1) := by decide +kernel
theorem dX4_searches_44 : decode cX4_searches 44 = .ok (.iconst 2, 1) := by decide +kernel
theorem dX4_searches_45 : decode cX4_searches 45 = .ok (.idiv, 1) := by decide +kernel
theorem dX4_searches_46 : decode cX4_searches 46 = .ok (.istore_n 3, 1) := by decide +kernel
theorem dX4_searches_47 : decode cX4_searches 47 = .ok (.aload_n 0, 1) := by decide +kernel
theorem dX4_searches_48 : decode cX4_searches 48 = .ok (.iload_n 3, 1) := by decide +kernel
theorem dX4_searches_49 : decode cX4_searches 49 = .ok (.iload_n 2, 1) := by decide +kernel
theorem dX4_searches_50 : decode cX4_searches 50 = .ok (.iconst 2, 1) := by decide +kernel
theorem dX4_searches_51 : decode cX4_searches 51 = .ok (.irem, 1) := by decide +kernel
theorem dX4_searches_52 : decode cX4_searches 52 = .ok (.ifCond .ne 7, 3) := by decide +kernel
theorem dX4_searches_55 : decode cX4_searches 55 = .ok (.iconst 1, 1) := by decide +kernel
theorem dX4_searches_56 : decode cX4_searches 56 = .ok (.goto 4, 3) := by decide +kernel
theorem dX4_searches_59 : decode cX4_searches 59 = .ok (.iconst 0, 1) := by decide +kernel
theorem dX4_searches_60 : decode cX4_searches 60 = .ok (.invokevirtual 132, 3) := by decide +kernel
theorem dX4_searches_63 : decode cX4_searches 63 = .ok (.istore 4, 2) := by decide +kernel
theorem dX4_searches_65 : decode cX4_searches 65 = .ok (.iload 4, 2) := by decide +kernel
theorem dX4_searches_67 : decode cX4_searches 67 = .ok (.iconst (-1), 1) := by decide +kernel
theorem dX4_searches_68 : decode cX4_searches 68 = .ok (.if_icmp .eq 34, 3) := by decide +kernel
theorem dX4_searches_71 : decode cX4_searches 71 = .ok (.aload_n 0, 1) := by decide +kernel
theorem dX4_searches_72 : decode cX4_searches 72 = .ok (.getfield 59, 3) := by decide +kernel
theorem dX4_searches_75 : decode cX4_searches 75 = .ok (.iload 4, 2) := by decide +kernel
theorem dX4_searches_77 : decode cX4_searches 77 = .ok (.iaload, 1) := by decide +kernel
theorem dX4_searches_78 : decode cX4_searches 78 = .ok (.aload_n 0, 1) := by decide +kernel
theorem dX4_searches_79 : decode cX4_searches 79 = .ok (.getfield 59, 3) := by decide +kernel
theorem dX4_searches_82 : decode cX4_searches 82 = .ok (.iload_n 3, 1) := by decide +kernel
theorem dX4_searches_83 : decode cX4_searches 83 = .ok (.iaload, 1) := by decide +kernel
theorem dX4_searches_84 : decode cX4_searches 84 = .ok (.if_icmp .ge 18, 3) := by decide +kernel
theorem dX4_searches_87 : decode cX4_searches 87 = .ok (.aload_n 0, 1) := by decide +kernel
theorem dX4_searches_88 : decode cX4_searches 88 = .ok (.getfield 59, 3) := by decide +kernel
theorem dX4_searches_91 : decode cX4_searches 91 = .ok (.iload_n 3, 1) := by decide +kernel
theorem dX4_searches_92 : decode cX4_searches 92 = .ok (.aload_n 0, 1) := by decide +kernel
theorem dX4_searches_93 : decode cX4_searches 93 = .ok (.getfield 59, 3) := by decide +kernel
theorem dX4_searches_96 : decode cX4_searches 96 = .ok (.iload 4, 2) := by decide +kernel
theorem dX4_searches_98 : decode cX4_searches 98 = .ok (.iaload, 1) := by decide +kernel
theorem dX4_searches_99 : decode cX4_searches 99 = .ok (.iastore, 1) := by decide +kernel
theorem dX4_searches_100 : decode cX4_searches 100 = .ok (.iconst 1, 1) := by decide +kernel
theorem dX4_searches_101 : decode cX4_searches 101 = .ok (.istore_n 1, 1) := by decide +kernel
theorem dX4_searches_102 : decode cX4_searches 102 = .ok (.iinc 2 1, 3) := by decide +kernel
theorem dX4_searches_105 : decode cX4_searches 105 = .ok (.goto (-72), 3) := by decide +kernel
theorem dX4_searches_108 : decode cX4_searches 108 = .ok (.goto (-83), 3) := by decide +kernel
theorem dX4_searches_111 : decode cX4_searches 111 = .ok (.return_, 1) := by decide +kernel
set_option maxRecDepth 20000 in
theorem ggX4_areJoinedBySearch_X4_arePorts : GoodIn wsX4_areJoinedBySearch wsX4_arePorts := goodIn_r _ [6, 7, 8, 9, 5, 10, 11, 12, 13, 14, 31, 32, 33, 34, 35, 36, 37, 38, 39, 40, 41, 42, 43, 44, 45, 46, 47, 48, 49, 50, 51, 52, 53, 54] (by decide +kernel) (by decide +kernel)
set_option maxRecDepth 20000 in
theorem gX4_areJoinedBySearch_X4_arePorts : GoodIn wsX4_areJoinedBySearch (wsV RX4 87 RX4 yX4_arePorts wsX4_arePorts) := goodIn_app (goodIn_of _ (by decide +kernel)) ggX4_areJoinedBySearch_X4_arePorts
set_option maxRecDepth 20000 in
theorem ggX4_areJoinedBySearch_X4_holds : GoodIn wsX4_areJoinedBySearch wsX4_holds := goodIn_r _ [18, 19, 31, 32, 33, 34, 35, 36, 37, 38, 39, 40, 41, 42, 43, 44, 45, 46, 47, 48, 49, 50, 51, 52, 53, 54] (by decide +kernel) (by decide +kernel)
set_option maxRecDepth 20000 in
theorem gX4_areJoinedBySearch_X4_holds : GoodIn wsX4_areJoinedBySearch (wsV RX4 80 RX4 yX4_holds wsX4_holds) := goodIn_app (goodIn_of _ (by decide +kernel)) ggX4_areJoinedBySearch_X4_holds
set_option maxRecDepth 20000 in
theorem ggX4_areJoinedBySearch_X4_searches : GoodIn wsX4_areJoinedBySearch wsX4_searches := goodIn_r _ [23, 11, 1, 24, 25, 26, 5, 27, 28, 29, 30, 31, 32, 33, 34, 35, 36, 37, 38, 39, 40, 41, 42, 43, 44, 45, 46, 47, 48, 49, 50, 51, 52, 53, 54] (by decide +kernel) (by decide +kernel)
set_option maxRecDepth 20000 in
theorem gX4_areJoinedBySearch_X4_searches : GoodIn wsX4_areJoinedBySearch (wsV RX4 146 RX4 yX4_searches wsX4_searches) := goodIn_app (goodIn_of _ (by decide +kernel)) ggX4_areJoinedBySearch_X4_searches
theorem dX4_areJoinedBySearch_0 : decode cX4_areJoinedBySearch 0 = .ok (.aload_n 0, 1) := by decide +kernel
theorem dX4_areJoinedBySearch_1 : decode cX4_areJoinedBySearch 1 = .ok (.aload_n 0, 1) := by decide +kernel
theorem dX4_areJoinedBySearch_2 : decode cX4_areJoinedBySearch 2 = .ok (.iload_n 1, 1) := by decide +kernel
theorem dX4_areJoinedBySearch_3 : decode cX4_areJoinedBySearch 3 = .ok (.iload_n 2, 1) := by decide +kernel
theorem dX4_areJoinedBySearch_4 : decode cX4_areJoinedBySearch 4 = .ok (.invokevirtual 87, 3) := by decide +kernel
theorem dX4_areJoinedBySearch_7 : decode cX4_areJoinedBySearch 7 = .ok (.ifCond .eq 7, 3) := by decide +kernel
theorem dX4_areJoinedBySearch_10 : decode cX4_areJoinedBySearch 10 = .ok (.iconst 0, 1) := by decide +kernel
theorem dX4_areJoinedBySearch_11 : decode cX4_areJoinedBySearch 11 = .ok (.goto 4, 3) := by decide +kernel
theorem dX4_areJoinedBySearch_14 : decode cX4_areJoinedBySearch 14 = .ok (.iconst 1, 1) := by decide +kernel
theorem dX4_areJoinedBySearch_15 : decode cX4_areJoinedBySearch 15 = .ok (.invokevirtual 80, 3) := by decide +kernel
theorem dX4_areJoinedBySearch_18 : decode cX4_areJoinedBySearch 18 = .ok (.ifCond .ne 5, 3) := by decide +kernel
theorem dX4_areJoinedBySearch_21 : decode cX4_areJoinedBySearch 21 = .ok (.iconst 0, 1) := by decide +kernel
theorem dX4_areJoinedBySearch_22 : decode cX4_areJoinedBySearch 22 = .ok (.ireturn, 1) := by decide +kernel
theorem dX4_areJoinedBySearch_23 : decode cX4_areJoinedBySearch 23 = .ok (.aload_n 0, 1) := by decide +kernel
theorem dX4_areJoinedBySearch_24 : decode cX4_areJoinedBySearch 24 = .ok (.invokevirtual 146, 3) := by decide +kernel
theorem dX4_areJoinedBySearch_27 : decode cX4_areJoinedBySearch 27 = .ok (.aload_n 0, 1) := by decide +kernel
theorem dX4_areJoinedBySearch_28 : decode cX4_areJoinedBySearch 28 = .ok (.getfield 59, 3) := by decide +kernel
theorem dX4_areJoinedBySearch_31 : decode cX4_areJoinedBySearch 31 = .ok (.iload_n 1, 1) := by decide +kernel
theorem dX4_areJoinedBySearch_32 : decode cX4_areJoinedBySearch 32 = .ok (.iaload, 1) := by decide +kernel
theorem dX4_areJoinedBySearch_33 : decode cX4_areJoinedBySearch 33 = .ok (.aload_n 0, 1) := by decide +kernel
theorem dX4_areJoinedBySearch_34 : decode cX4_areJoinedBySearch 34 = .ok (.getfield 59, 3) := by decide +kernel
theorem dX4_areJoinedBySearch_37 : decode cX4_areJoinedBySearch 37 = .ok (.iload_n 2, 1) := by decide +kernel
theorem dX4_areJoinedBySearch_38 : decode cX4_areJoinedBySearch 38 = .ok (.iaload, 1) := by decide +kernel
theorem dX4_areJoinedBySearch_39 : decode cX4_areJoinedBySearch 39 = .ok (.if_icmp .ne 7, 3) := by decide +kernel
theorem dX4_areJoinedBySearch_42 : decode cX4_areJoinedBySearch 42 = .ok (.iconst 1, 1) := by decide +kernel
theorem dX4_areJoinedBySearch_43 : decode cX4_areJoinedBySearch 43 = .ok (.goto 4, 3) := by decide +kernel
theorem dX4_areJoinedBySearch_46 : decode cX4_areJoinedBySearch 46 = .ok (.iconst 0, 1) := by decide +kernel
theorem dX4_areJoinedBySearch_47 : decode cX4_areJoinedBySearch 47 = .ok (.ireturn, 1) := by decide +kernel
set_option maxRecDepth 20000 in
theorem ggX4_lines_X4_searches : GoodIn wsX4_lines wsX4_searches := goodIn_r _ [8, 2, 3, 9, 10, 11, 7, 12, 13, 14, 15, 16, 17, 18, 19, 20, 21, 22, 23, 24, 25, 26, 27, 28, 29, 30, 31, 32, 33, 34, 35, 36, 37, 38, 39] (by decide +kernel) (by decide +kernel)
set_option maxRecDepth 20000 in
theorem gX4_lines_X4_searches : GoodIn wsX4_lines (wsV RX4 146 RX4 yX4_searches wsX4_searches) := goodIn_app (goodIn_of _ (by decide +kernel)) ggX4_lines_X4_searches
theorem dX4_lines_0 : decode cX4_lines 0 = .ok (.aload_n 0, 1) := by decide +kernel
theorem dX4_lines_1 : decode cX4_lines 1 = .ok (.iconst 0, 1) := by decide +kernel
theorem dX4_lines_2 : decode cX4_lines 2 = .ok (.putfield 62, 3) := by decide +kernel
theorem dX4_lines_5 : decode cX4_lines 5 = .ok (.aload_n 0, 1) := by decide +kernel
theorem dX4_lines_6 : decode cX4_lines 6 = .ok (.invokevirtual 146, 3) := by decide +kernel
theorem dX4_lines_9 : decode cX4_lines 9 = .ok (.iconst 0, 1) := by decide +kernel
theorem dX4_lines_10 : decode cX4_lines 10 = .ok (.istore_n 1, 1) := by decide +kernel
theorem dX4_lines_11 : decode cX4_lines 11 = .ok (.iconst 0, 1) := by decide +kernel
theorem dX4_lines_12 : decode cX4_lines 12 = .ok (.istore_n 2, 1) := by decide +kernel
theorem dX4_lines_13 : decode cX4_lines 13 = .ok (.iload_n 2, 1) := by decide +kernel
theorem dX4_lines_14 : decode cX4_lines 14 = .ok (.aload_n 0, 1) := by decide +kernel
theorem dX4_lines_15 : decode cX4_lines 15 = .ok (.getfield 66, 3) := by decide +kernel
theorem dX4_lines_18 : decode cX4_lines 18 = .ok (.if_icmp .ge 27, 3) := by decide +kernel
theorem dX4_lines_21 : decode cX4_lines 21 = .ok (.iload_n 1, 1) := by decide +kernel
theorem dX4_lines_22 : decode cX4_lines 22 = .ok (.aload_n 0, 1) := by decide +kernel
theorem dX4_lines_23 : decode cX4_lines 23 = .ok (.getfield 59, 3) := by decide +kernel
theorem dX4_lines_26 : decode cX4_lines 26 = .ok (.iload_n 2, 1) := by decide +kernel
theorem dX4_lines_27 : decode cX4_lines 27 = .ok (.iaload, 1) := by decide +kernel
theorem dX4_lines_28 : decode cX4_lines 28 = .ok (.iload_n 2, 1) := by decide +kernel
theorem dX4_lines_29 : decode cX4_lines 29 = .ok (.if_icmp .ne 7, 3) := by decide +kernel
theorem dX4_lines_32 : decode cX4_lines 32 = .ok (.iconst 1, 1) := by decide +kernel
theorem dX4_lines_33 : decode cX4_lines 33 = .ok (.goto 4, 3) := by decide +kernel
theorem dX4_lines_36 : decode cX4_lines 36 = .ok (.iconst 0, 1) := by decide +kernel
theorem dX4_lines_37 : decode cX4_lines 37 = .ok (.iadd, 1) := by decide +kernel
theorem dX4_lines_38 : decode cX4_lines 38 = .ok (.istore_n 1, 1) := by decide +kernel
theorem dX4_lines_39 : decode cX4_lines 39 = .ok (.iinc 2 1, 3) := by decide +kernel
theorem dX4_lines_42 : decode cX4_lines 42 = .ok (.goto (-29), 3) := by decide +kernel
theorem dX4_lines_45 : decode cX4_lines 45 = .ok (.iload_n 1, 1) := by decide +kernel
theorem dX4_lines_46 : decode cX4_lines 46 = .ok (.ireturn, 1) := by decide +kernel
set_option maxRecDepth 20000 in
theorem ggX4_isPanel_X4_in : GoodIn wsX4_isPanel wsX4_in := goodIn_r _ [5] (by decide +kernel) (by decide +kernel)
set_option maxRecDepth 20000 in
theorem gX4_isPanel_X4_in : GoodIn wsX4_isPanel (va_wsS RX4 69 yX4_in wsX4_in) := goodIn_app (goodIn_of _ (by decide +kernel)) ggX4_isPanel_X4_in
theorem dX4_isPanel_0 : decode cX4_isPanel 0 = .ok (.iload_n 1, 1) := by decide +kernel
theorem dX4_isPanel_1 : decode cX4_isPanel 1 = .ok (.iconst 0, 1) := by decide +kernel
theorem dX4_isPanel_2 : decode cX4_isPanel 2 = .ok (.aload_n 0, 1) := by decide +kernel
theorem dX4_isPanel_3 : decode cX4_isPanel 3 = .ok (.getfield 77, 3) := by decide +kernel
theorem dX4_isPanel_6 : decode cX4_isPanel 6 = .ok (.iconst 1, 1) := by decide +kernel
theorem dX4_isPanel_7 : decode cX4_isPanel 7 = .ok (.isub, 1) := by decide +kernel
end
section
theorem dX4_isPanel_8 : decode cX4_isPanel 8 = .ok (.invokestatic 69, 3) := by decide +kernel
theorem dX4_isPanel_11 : decode cX4_isPanel 11 = .ok (.ireturn, 1) := by decide +kernel
set_option maxRecDepth 20000 in
theorem ggX4_freePort_X4_isPanel : GoodIn wsX4_freePort wsX4_isPanel := goodIn_r _ [8, 9, 10, 11, 7, 12, 18, 19, 20, 21, 22, 23, 24, 25, 26, 27, 28, 29, 30, 31, 32, 33, 34, 35, 36, 37, 38, 39, 40, 41] (by decide +kernel) (by decide +kernel)
set_option maxRecDepth 20000 in
theorem gX4_freePort_X4_isPanel : GoodIn wsX4_freePort (wsV RX4 149 RX4 yX4_isPanel wsX4_isPanel) := goodIn_app (goodIn_of _ (by decide +kernel)) ggX4_freePort_X4_isPanel
set_option maxRecDepth 20000 in
theorem ggX4_freePort_X4_holds : GoodIn wsX4_freePort wsX4_holds := goodIn_r _ [16, 17, 18, 19, 20, 21, 22, 23, 24, 25, 26, 27, 28, 29, 30, 31, 32, 33, 34, 35, 36, 37, 38, 39, 40, 41] (by decide +kernel) (by decide +kernel)
set_option maxRecDepth 20000 in
theorem gX4_freePort_X4_holds : GoodIn wsX4_freePort (wsV RX4 80 RX4 yX4_holds wsX4_holds) := goodIn_app (goodIn_of _ (by decide +kernel)) ggX4_freePort_X4_holds
theorem dX4_freePort_0 : decode cX4_freePort 0 = .ok (.aload_n 0, 1) := by decide +kernel
theorem dX4_freePort_1 : decode cX4_freePort 1 = .ok (.aload_n 0, 1) := by decide +kernel
theorem dX4_freePort_2 : decode cX4_freePort 2 = .ok (.iload_n 1, 1) := by decide +kernel
theorem dX4_freePort_3 : decode cX4_freePort 3 = .ok (.invokevirtual 149, 3) := by decide +kernel
theorem dX4_freePort_6 : decode cX4_freePort 6 = .ok (.ifCond .eq 7, 3) := by decide +kernel
theorem dX4_freePort_9 : decode cX4_freePort 9 = .ok (.iconst 0, 1) := by decide +kernel
theorem dX4_freePort_10 : decode cX4_freePort 10 = .ok (.goto 4, 3) := by decide +kernel
theorem dX4_freePort_13 : decode cX4_freePort 13 = .ok (.iconst 1, 1) := by decide +kernel
theorem dX4_freePort_14 : decode cX4_freePort 14 = .ok (.invokevirtual 80, 3) := by decide +kernel
theorem dX4_freePort_17 : decode cX4_freePort 17 = .ok (.ifCond .ne 5, 3) := by decide +kernel
theorem dX4_freePort_20 : decode cX4_freePort 20 = .ok (.iconst 0, 1) := by decide +kernel
theorem dX4_freePort_21 : decode cX4_freePort 21 = .ok (.ireturn, 1) := by decide +kernel
theorem dX4_freePort_22 : decode cX4_freePort 22 = .ok (.aload_n 0, 1) := by decide +kernel
theorem dX4_freePort_23 : decode cX4_freePort 23 = .ok (.getfield 13, 3) := by decide +kernel
theorem dX4_freePort_26 : decode cX4_freePort 26 = .ok (.iload_n 1, 1) := by decide +kernel
theorem dX4_freePort_27 : decode cX4_freePort 27 = .ok (.iaload, 1) := by decide +kernel
theorem dX4_freePort_28 : decode cX4_freePort 28 = .ok (.istore_n 2, 1) := by decide +kernel
theorem dX4_freePort_29 : decode cX4_freePort 29 = .ok (.iload_n 2, 1) := by decide +kernel
theorem dX4_freePort_30 : decode cX4_freePort 30 = .ok (.aload_n 0, 1) := by decide +kernel
theorem dX4_freePort_31 : decode cX4_freePort 31 = .ok (.getfield 13, 3) := by decide +kernel
theorem dX4_freePort_34 : decode cX4_freePort 34 = .ok (.iload_n 1, 1) := by decide +kernel
theorem dX4_freePort_35 : decode cX4_freePort 35 = .ok (.iconst 1, 1) := by decide +kernel
theorem dX4_freePort_36 : decode cX4_freePort 36 = .ok (.iadd, 1) := by decide +kernel
theorem dX4_freePort_37 : decode cX4_freePort 37 = .ok (.iaload, 1) := by decide +kernel
theorem dX4_freePort_38 : decode cX4_freePort 38 = .ok (.if_icmp .ge 31, 3) := by decide +kernel
theorem dX4_freePort_41 : decode cX4_freePort 41 = .ok (.aload_n 0, 1) := by decide +kernel
theorem dX4_freePort_42 : decode cX4_freePort 42 = .ok (.getfield 16, 3) := by decide +kernel
theorem dX4_freePort_45 : decode cX4_freePort 45 = .ok (.iload_n 2, 1) := by decide +kernel
theorem dX4_freePort_46 : decode cX4_freePort 46 = .ok (.iaload, 1) := by decide +kernel
theorem dX4_freePort_47 : decode cX4_freePort 47 = .ok (.iconst (-1), 1) := by decide +kernel
theorem dX4_freePort_48 : decode cX4_freePort 48 = .ok (.if_icmp .ne 15, 3) := by decide +kernel
theorem dX4_freePort_51 : decode cX4_freePort 51 = .ok (.aload_n 0, 1) := by decide +kernel
theorem dX4_freePort_52 : decode cX4_freePort 52 = .ok (.getfield 22, 3) := by decide +kernel
theorem dX4_freePort_55 : decode cX4_freePort 55 = .ok (.iload_n 2, 1) := by decide +kernel
theorem dX4_freePort_56 : decode cX4_freePort 56 = .ok (.iaload, 1) := by decide +kernel
theorem dX4_freePort_57 : decode cX4_freePort 57 = .ok (.iconst (-1), 1) := by decide +kernel
theorem dX4_freePort_58 : decode cX4_freePort 58 = .ok (.if_icmp .ne 5, 3) := by decide +kernel
theorem dX4_freePort_61 : decode cX4_freePort 61 = .ok (.iload_n 2, 1) := by decide +kernel
theorem dX4_freePort_62 : decode cX4_freePort 62 = .ok (.ireturn, 1) := by decide +kernel
theorem dX4_freePort_63 : decode cX4_freePort 63 = .ok (.iinc 2 1, 3) := by decide +kernel
theorem dX4_freePort_66 : decode cX4_freePort 66 = .ok (.goto (-37), 3) := by decide +kernel
theorem dX4_freePort_69 : decode cX4_freePort 69 = .ok (.iconst (-1), 1) := by decide +kernel
theorem dX4_freePort_70 : decode cX4_freePort 70 = .ok (.ireturn, 1) := by decide +kernel
set_option maxRecDepth 20000 in
theorem ggX4_freeStrand_X4_isPanel : GoodIn wsX4_freeStrand wsX4_isPanel := goodIn_r _ [7, 8, 9, 10, 6, 11, 27, 28, 29, 30, 31, 32, 33, 34, 35, 36, 37, 38, 39, 40, 41, 42, 43, 44, 45, 46, 47, 48, 49, 50] (by decide +kernel) (by decide +kernel)
set_option maxRecDepth 20000 in
theorem gX4_freeStrand_X4_isPanel : GoodIn wsX4_freeStrand (wsV RX4 149 RX4 yX4_isPanel wsX4_isPanel) := goodIn_app (goodIn_of _ (by decide +kernel)) ggX4_freeStrand_X4_isPanel
set_option maxRecDepth 20000 in
theorem ggX4_freeStrand_X4_holds : GoodIn wsX4_freeStrand wsX4_holds := goodIn_r _ [15, 16, 27, 28, 29, 30, 31, 32, 33, 34, 35, 36, 37, 38, 39, 40, 41, 42, 43, 44, 45, 46, 47, 48, 49, 50] (by decide +kernel) (by decide +kernel)
set_option maxRecDepth 20000 in
theorem gX4_freeStrand_X4_holds : GoodIn wsX4_freeStrand (wsV RX4 80 RX4 yX4_holds wsX4_holds) := goodIn_app (goodIn_of _ (by decide +kernel)) ggX4_freeStrand_X4_holds
set_option maxRecDepth 20000 in
theorem ggX4_freeStrand_X4_next : GoodIn wsX4_freeStrand wsX4_next := goodIn_r _ [20, 2, 21, 22, 27, 28, 29, 30, 31, 32, 33, 34, 35, 36, 37, 38, 39, 40, 41, 42, 43, 44, 45, 46, 47, 48, 49, 50] (by decide +kernel) (by decide +kernel)
set_option maxRecDepth 20000 in
theorem gX4_freeStrand_X4_next : GoodIn wsX4_freeStrand (wsV RX4 132 RX4 yX4_next wsX4_next) := goodIn_app (goodIn_of _ (by decide +kernel)) ggX4_freeStrand_X4_next
set_option maxRecDepth 20000 in
theorem ggX4_freeStrand_X4_panel : GoodIn wsX4_freeStrand wsX4_panel := goodIn_r _ [26, 1, 27, 28, 29, 30, 31, 32, 33, 34, 35, 36, 37, 38, 39, 40, 41, 42, 43, 44, 45, 46, 47, 48, 49, 50] (by decide +kernel) (by decide +kernel)
set_option maxRecDepth 20000 in
theorem gX4_freeStrand_X4_panel : GoodIn wsX4_freeStrand (wsV RX4 83 RX4 yX4_panel wsX4_panel) := goodIn_app (goodIn_of _ (by decide +kernel)) ggX4_freeStrand_X4_panel
theorem dX4_freeStrand_0 : decode cX4_freeStrand 0 = .ok (.aload_n 0, 1) := by decide +kernel
theorem dX4_freeStrand_1 : decode cX4_freeStrand 1 = .ok (.aload_n 0, 1) := by decide +kernel
theorem dX4_freeStrand_2 : decode cX4_freeStrand 2 = .ok (.iload_n 1, 1) := by decide +kernel
theorem dX4_freeStrand_3 : decode cX4_freeStrand 3 = .ok (.invokevirtual 149, 3) := by decide +kernel
theorem dX4_freeStrand_6 : decode cX4_freeStrand 6 = .ok (.ifCond .eq 15, 3) := by decide +kernel
theorem dX4_freeStrand_9 : decode cX4_freeStrand 9 = .ok (.aload_n 0, 1) := by decide +kernel
theorem dX4_freeStrand_10 : decode cX4_freeStrand 10 = .ok (.iload_n 2, 1) := by decide +kernel
theorem dX4_freeStrand_11 : decode cX4_freeStrand 11 = .ok (.invokevirtual 149, 3) := by decide +kernel
theorem dX4_freeStrand_14 : decode cX4_freeStrand 14 = .ok (.ifCond .eq 7, 3) := by decide +kernel
theorem dX4_freeStrand_17 : decode cX4_freeStrand 17 = .ok (.iconst 0, 1) := by decide +kernel
theorem dX4_freeStrand_18 : decode cX4_freeStrand 18 = .ok (.goto 4, 3) := by decide +kernel
theorem dX4_freeStrand_21 : decode cX4_freeStrand 21 = .ok (.iconst 1, 1) := by decide +kernel
theorem dX4_freeStrand_22 : decode cX4_freeStrand 22 = .ok (.invokevirtual 80, 3) := by decide +kernel
theorem dX4_freeStrand_25 : decode cX4_freeStrand 25 = .ok (.ifCond .ne 5, 3) := by decide +kernel
theorem dX4_freeStrand_28 : decode cX4_freeStrand 28 = .ok (.iconst 0, 1) := by decide +kernel
theorem dX4_freeStrand_29 : decode cX4_freeStrand 29 = .ok (.ireturn, 1) := by decide +kernel
theorem dX4_freeStrand_30 : decode cX4_freeStrand 30 = .ok (.aload_n 0, 1) := by decide +kernel
theorem dX4_freeStrand_31 : decode cX4_freeStrand 31 = .ok (.getfield 13, 3) := by decide +kernel
theorem dX4_freeStrand_34 : decode cX4_freeStrand 34 = .ok (.iload_n 1, 1) := by decide +kernel
theorem dX4_freeStrand_35 : decode cX4_freeStrand 35 = .ok (.iaload, 1) := by decide +kernel
theorem dX4_freeStrand_36 : decode cX4_freeStrand 36 = .ok (.istore_n 3, 1) := by decide +kernel
theorem dX4_freeStrand_37 : decode cX4_freeStrand 37 = .ok (.iload_n 3, 1) := by decide +kernel
theorem dX4_freeStrand_38 : decode cX4_freeStrand 38 = .ok (.aload_n 0, 1) := by decide +kernel
theorem dX4_freeStrand_39 : decode cX4_freeStrand 39 = .ok (.getfield 13, 3) := by decide +kernel
theorem dX4_freeStrand_42 : decode cX4_freeStrand 42 = .ok (.iload_n 1, 1) := by decide +kernel
theorem dX4_freeStrand_43 : decode cX4_freeStrand 43 = .ok (.iconst 1, 1) := by decide +kernel
theorem dX4_freeStrand_44 : decode cX4_freeStrand 44 = .ok (.iadd, 1) := by decide +kernel
theorem dX4_freeStrand_45 : decode cX4_freeStrand 45 = .ok (.iaload, 1) := by decide +kernel
theorem dX4_freeStrand_46 : decode cX4_freeStrand 46 = .ok (.if_icmp .ge 56, 3) := by decide +kernel
theorem dX4_freeStrand_49 : decode cX4_freeStrand 49 = .ok (.aload_n 0, 1) := by decide +kernel
theorem dX4_freeStrand_50 : decode cX4_freeStrand 50 = .ok (.iload_n 3, 1) := by decide +kernel
theorem dX4_freeStrand_51 : decode cX4_freeStrand 51 = .ok (.iconst 0, 1) := by decide +kernel
theorem dX4_freeStrand_52 : decode cX4_freeStrand 52 = .ok (.invokevirtual 132, 3) := by decide +kernel
theorem dX4_freeStrand_55 : decode cX4_freeStrand 55 = .ok (.istore 4, 2) := by decide +kernel
theorem dX4_freeStrand_57 : decode cX4_freeStrand 57 = .ok (.iload 4, 2) := by decide +kernel
theorem dX4_freeStrand_59 : decode cX4_freeStrand 59 = .ok (.iconst (-1), 1) := by decide +kernel
theorem dX4_freeStrand_60 : decode cX4_freeStrand 60 = .ok (.if_icmp .eq 36, 3) := by decide +kernel
theorem dX4_freeStrand_63 : decode cX4_freeStrand 63 = .ok (.aload_n 0, 1) := by decide +kernel
theorem dX4_freeStrand_64 : decode cX4_freeStrand 64 = .ok (.iload 4, 2) := by decide +kernel
theorem dX4_freeStrand_66 : decode cX4_freeStrand 66 = .ok (.invokevirtual 83, 3) := by decide +kernel
theorem dX4_freeStrand_69 : decode cX4_freeStrand 69 = .ok (.iload_n 2, 1) := by decide +kernel
theorem dX4_freeStrand_70 : decode cX4_freeStrand 70 = .ok (.if_icmp .ne 26, 3) := by decide +kernel
theorem dX4_freeStrand_73 : decode cX4_freeStrand 73 = .ok (.aload_n 0, 1) := by decide +kernel
theorem dX4_freeStrand_74 : decode cX4_freeStrand 74 = .ok (.getfield 16, 3) := by decide +kernel
theorem dX4_freeStrand_77 : decode cX4_freeStrand 77 = .ok (.iload_n 3, 1) := by decide +kernel
theorem dX4_freeStrand_78 : decode cX4_freeStrand 78 = .ok (.iaload, 1) := by decide +kernel
theorem dX4_freeStrand_79 : decode cX4_freeStrand 79 = .ok (.iconst (-1), 1) := by decide +kernel
theorem dX4_freeStrand_80 : decode cX4_freeStrand 80 = .ok (.if_icmp .ne 16, 3) := by decide +kernel
theorem dX4_freeStrand_83 : decode cX4_freeStrand 83 = .ok (.aload_n 0, 1) := by decide +kernel
theorem dX4_freeStrand_84 : decode cX4_freeStrand 84 = .ok (.getfield 16, 3) := by decide +kernel
theorem dX4_freeStrand_87 : decode cX4_freeStrand 87 = .ok (.iload 4, 2) := by decide +kernel
theorem dX4_freeStrand_89 : decode cX4_freeStrand 89 = .ok (.iaload, 1) := by decide +kernel
theorem dX4_freeStrand_90 : decode cX4_freeStrand 90 = .ok (.iconst (-1), 1) := by decide +kernel
theorem dX4_freeStrand_91 : decode cX4_freeStrand 91 = .ok (.if_icmp .ne 5, 3) := by decide +kernel
theorem dX4_freeStrand_94 : decode cX4_freeStrand 94 = .ok (.iload_n 3, 1) := by decide +kernel
theorem dX4_freeStrand_95 : decode cX4_freeStrand 95 = .ok (.ireturn, 1) := by decide +kernel
theorem dX4_freeStrand_96 : decode cX4_freeStrand 96 = .ok (.iinc 3 1, 3) := by decide +kernel
theorem dX4_freeStrand_99 : decode cX4_freeStrand 99 = .ok (.goto (-62), 3) := by decide +kernel
theorem dX4_freeStrand_102 : decode cX4_freeStrand 102 = .ok (.iconst (-1), 1) := by decide +kernel
theorem dX4_freeStrand_103 : decode cX4_freeStrand 103 = .ok (.ireturn, 1) := by decide +kernel
set_option maxRecDepth 20000 in
theorem ggX4_used_X4_isTrunk : GoodIn wsX4_used wsX4_isTrunk := goodIn_r _ [9, 10, 11, 12, 8, 13, 19, 20, 21, 22, 23, 24, 25, 26, 27, 28, 29, 30, 31, 32, 33, 34, 35, 36, 37, 38, 39, 40, 41, 42] (by decide +kernel) (by decide +kernel)
set_option maxRecDepth 20000 in
theorem gX4_used_X4_isTrunk : GoodIn wsX4_used (wsV RX4 105 RX4 yX4_isTrunk wsX4_isTrunk) := goodIn_app (goodIn_of _ (by decide +kernel)) ggX4_used_X4_isTrunk
set_option maxRecDepth 20000 in
theorem ggX4_used_X4_holds : GoodIn wsX4_used wsX4_holds := goodIn_r _ [17, 18, 19, 20, 21, 22, 23, 24, 25, 26, 27, 28, 29, 30, 31, 32, 33, 34, 35, 36, 37, 38, 39, 40, 41, 42] (by decide +kernel) (by decide +kernel)
set_option maxRecDepth 20000 in
theorem gX4_used_X4_holds : GoodIn wsX4_used (wsV RX4 80 RX4 yX4_holds wsX4_holds) := goodIn_app (goodIn_of _ (by decide +kernel)) ggX4_used_X4_holds
theorem dX4_used_0 : decode cX4_used 0 = .ok (.aload_n 0, 1) := by decide +kernel
theorem dX4_used_1 : decode cX4_used 1 = .ok (.aload_n 0, 1) := by decide +kernel
theorem dX4_used_2 : decode cX4_used 2 = .ok (.iload_n 1, 1) := by decide +kernel
theorem dX4_used_3 : decode cX4_used 3 = .ok (.invokevirtual 105, 3) := by decide +kernel
theorem dX4_used_6 : decode cX4_used 6 = .ok (.ifCond .eq 7, 3) := by decide +kernel
theorem dX4_used_9 : decode cX4_used 9 = .ok (.iconst 0, 1) := by decide +kernel
theorem dX4_used_10 : decode cX4_used 10 = .ok (.goto 4, 3) := by decide +kernel
theorem dX4_used_13 : decode cX4_used 13 = .ok (.iconst 1, 1) := by decide +kernel
theorem dX4_used_14 : decode cX4_used 14 = .ok (.invokevirtual 80, 3) := by decide +kernel
theorem dX4_used_17 : decode cX4_used 17 = .ok (.ifCond .ne 5, 3) := by decide +kernel
theorem dX4_used_20 : decode cX4_used 20 = .ok (.iconst 0, 1) := by decide +kernel
theorem dX4_used_21 : decode cX4_used 21 = .ok (.ireturn, 1) := by decide +kernel
theorem dX4_used_22 : decode cX4_used 22 = .ok (.iconst 0, 1) := by decide +kernel
theorem dX4_used_23 : decode cX4_used 23 = .ok (.istore_n 2, 1) := by decide +kernel
theorem dX4_used_24 : decode cX4_used 24 = .ok (.iconst 0, 1) := by decide +kernel
theorem dX4_used_25 : decode cX4_used 25 = .ok (.istore_n 3, 1) := by decide +kernel
theorem dX4_used_26 : decode cX4_used 26 = .ok (.iload_n 3, 1) := by decide +kernel
theorem dX4_used_27 : decode cX4_used 27 = .ok (.aload_n 0, 1) := by decide +kernel
theorem dX4_used_28 : decode cX4_used 28 = .ok (.getfield 38, 3) := by decide +kernel
theorem dX4_used_31 : decode cX4_used 31 = .ok (.iload_n 1, 1) := by decide +kernel
theorem dX4_used_32 : decode cX4_used 32 = .ok (.iaload, 1) := by decide +kernel
theorem dX4_used_33 : decode cX4_used 33 = .ok (.if_icmp .ge 51, 3) := by decide +kernel
theorem dX4_used_36 : decode cX4_used 36 = .ok (.iload_n 2, 1) := by decide +kernel
theorem dX4_used_37 : decode cX4_used 37 = .ok (.aload_n 0, 1) := by decide +kernel
theorem dX4_used_38 : decode cX4_used 38 = .ok (.getfield 16, 3) := by decide +kernel
theorem dX4_used_41 : decode cX4_used 41 = .ok (.aload_n 0, 1) := by decide +kernel
theorem dX4_used_42 : decode cX4_used 42 = .ok (.getfield 32, 3) := by decide +kernel
theorem dX4_used_45 : decode cX4_used 45 = .ok (.iload_n 1, 1) := by decide +kernel
theorem dX4_used_46 : decode cX4_used 46 = .ok (.iaload, 1) := by decide +kernel
theorem dX4_used_47 : decode cX4_used 47 = .ok (.iload_n 3, 1) := by decide +kernel
theorem dX4_used_48 : decode cX4_used 48 = .ok (.iadd, 1) := by decide +kernel
theorem dX4_used_49 : decode cX4_used 49 = .ok (.iaload, 1) := by decide +kernel
theorem dX4_used_50 : decode cX4_used 50 = .ok (.iconst (-1), 1) := by decide +kernel
theorem dX4_used_51 : decode cX4_used 51 = .ok (.if_icmp .eq 24, 3) := by decide +kernel
theorem dX4_used_54 : decode cX4_used 54 = .ok (.aload_n 0, 1) := by decide +kernel
theorem dX4_used_55 : decode cX4_used 55 = .ok (.getfield 16, 3) := by decide +kernel
theorem dX4_used_58 : decode cX4_used 58 = .ok (.aload_n 0, 1) := by decide +kernel
theorem dX4_used_59 : decode cX4_used 59 = .ok (.getfield 35, 3) := by decide +kernel
theorem dX4_used_62 : decode cX4_used 62 = .ok (.iload_n 1, 1) := by decide +kernel
theorem dX4_used_63 : decode cX4_used 63 = .ok (.iaload, 1) := by decide +kernel
theorem dX4_used_64 : decode cX4_used 64 = .ok (.iload_n 3, 1) := by decide +kernel
theorem dX4_used_65 : decode cX4_used 65 = .ok (.iadd, 1) := by decide +kernel
theorem dX4_used_66 : decode cX4_used 66 = .ok (.iaload, 1) := by decide +kernel
theorem dX4_used_67 : decode cX4_used 67 = .ok (.iconst (-1), 1) := by decide +kernel
theorem dX4_used_68 : decode cX4_used 68 = .ok (.if_icmp .eq 7, 3) := by decide +kernel
theorem dX4_used_71 : decode cX4_used 71 = .ok (.iconst 1, 1) := by decide +kernel
theorem dX4_used_72 : decode cX4_used 72 = .ok (.goto 4, 3) := by decide +kernel
theorem dX4_used_75 : decode cX4_used 75 = .ok (.iconst 0, 1) := by decide +kernel
theorem dX4_used_76 : decode cX4_used 76 = .ok (.iadd, 1) := by decide +kernel
theorem dX4_used_77 : decode cX4_used 77 = .ok (.istore_n 2, 1) := by decide +kernel
theorem dX4_used_78 : decode cX4_used 78 = .ok (.iinc 3 1, 3) := by decide +kernel
theorem dX4_used_81 : decode cX4_used 81 = .ok (.goto (-55), 3) := by decide +kernel
theorem dX4_used_84 : decode cX4_used 84 = .ok (.iload_n 2, 1) := by decide +kernel
theorem dX4_used_85 : decode cX4_used 85 = .ok (.ireturn, 1) := by decide +kernel
set_option maxRecDepth 20000 in
theorem ggX4_canCarryOut_X4_lays : GoodIn wsX4_canCarryOut wsX4_lays := goodIn_r _ [6, 7, 8, 9, 10, 11, 12, 13, 14, 15, 16, 17, 5, 18, 19, 20, 21, 22, 23, 24, 25, 26, 27, 28, 29, 30, 31, 32, 33, 34, 35, 36, 37, 38, 39, 40, 41, 42, 43, 44, 45, 46] (by decide +kernel) (by decide +kernel)
set_option maxRecDepth 20000 in
theorem gX4_canCarryOut_X4_lays : GoodIn wsX4_canCarryOut (wsV RX4 122 RX4 yX4_lays wsX4_lays) := goodIn_app (goodIn_of _ (by decide +kernel)) ggX4_canCarryOut_X4_lays
theorem dX4_canCarryOut_0 : decode cX4_canCarryOut 0 = .ok (.aload_n 0, 1) := by decide +kernel
theorem dX4_canCarryOut_1 : decode cX4_canCarryOut 1 = .ok (.iconst 0, 1) := by decide +kernel
theorem dX4_canCarryOut_2 : decode cX4_canCarryOut 2 = .ok (.putfield 62, 3) := by decide +kernel
theorem dX4_canCarryOut_5 : decode cX4_canCarryOut 5 = .ok (.aload_n 0, 1) := by decide +kernel
theorem dX4_canCarryOut_6 : decode cX4_canCarryOut 6 = .ok (.invokevirtual 122, 3) := by decide +kernel
theorem dX4_canCarryOut_9 : decode cX4_canCarryOut 9 = .ok (.ireturn, 1) := by decide +kernel
set_option maxRecDepth 20000 in
theorem ggX4_cableLength_X4_length : GoodIn wsX4_cableLength wsX4_length := goodIn_r _ [8, 9, 10, 11, 12, 7, 13, 14, 15, 16, 17, 18, 19, 20, 21, 22, 23, 24, 25, 26, 27, 28, 29, 30, 31, 32, 33, 34, 35, 36, 37, 38] (by decide +kernel) (by decide +kernel)
set_option maxRecDepth 20000 in
theorem gX4_cableLength_X4_length : GoodIn wsX4_cableLength (wsV RX4 108 RX4 yX4_length wsX4_length) := goodIn_app (goodIn_of _ (by decide +kernel)) ggX4_cableLength_X4_length
theorem dX4_cableLength_0 : decode cX4_cableLength 0 = .ok (.aload_n 0, 1) := by decide +kernel
theorem dX4_cableLength_1 : decode cX4_cableLength 1 = .ok (.iconst 0, 1) := by decide +kernel
theorem dX4_cableLength_2 : decode cX4_cableLength 2 = .ok (.putfield 62, 3) := by decide +kernel
theorem dX4_cableLength_5 : decode cX4_cableLength 5 = .ok (.iconst 0, 1) := by decide +kernel
theorem dX4_cableLength_6 : decode cX4_cableLength 6 = .ok (.istore_n 1, 1) := by decide +kernel
theorem dX4_cableLength_7 : decode cX4_cableLength 7 = .ok (.iconst 0, 1) := by decide +kernel
theorem dX4_cableLength_8 : decode cX4_cableLength 8 = .ok (.istore_n 2, 1) := by decide +kernel
theorem dX4_cableLength_9 : decode cX4_cableLength 9 = .ok (.iload_n 2, 1) := by decide +kernel
theorem dX4_cableLength_10 : decode cX4_cableLength 10 = .ok (.aload_n 0, 1) := by decide +kernel
theorem dX4_cableLength_11 : decode cX4_cableLength 11 = .ok (.getfield 66, 3) := by decide +kernel
theorem dX4_cableLength_14 : decode cX4_cableLength 14 = .ok (.if_icmp .ge 37, 3) := by decide +kernel
theorem dX4_cableLength_17 : decode cX4_cableLength 17 = .ok (.iload_n 1, 1) := by decide +kernel
theorem dX4_cableLength_18 : decode cX4_cableLength 18 = .ok (.aload_n 0, 1) := by decide +kernel
theorem dX4_cableLength_19 : decode cX4_cableLength 19 = .ok (.getfield 16, 3) := by decide +kernel
theorem dX4_cableLength_22 : decode cX4_cableLength 22 = .ok (.iload_n 2, 1) := by decide +kernel
theorem dX4_cableLength_23 : decode cX4_cableLength 23 = .ok (.iaload, 1) := by decide +kernel
theorem dX4_cableLength_24 : decode cX4_cableLength 24 = .ok (.iload_n 2, 1) := by decide +kernel
theorem dX4_cableLength_25 : decode cX4_cableLength 25 = .ok (.if_icmp .le 17, 3) := by decide +kernel
theorem dX4_cableLength_28 : decode cX4_cableLength 28 = .ok (.aload_n 0, 1) := by decide +kernel
theorem dX4_cableLength_29 : decode cX4_cableLength 29 = .ok (.iload_n 2, 1) := by decide +kernel
theorem dX4_cableLength_30 : decode cX4_cableLength 30 = .ok (.aload_n 0, 1) := by decide +kernel
theorem dX4_cableLength_31 : decode cX4_cableLength 31 = .ok (.getfield 16, 3) := by decide +kernel
theorem dX4_cableLength_34 : decode cX4_cableLength 34 = .ok (.iload_n 2, 1) := by decide +kernel
theorem dX4_cableLength_35 : decode cX4_cableLength 35 = .ok (.iaload, 1) := by decide +kernel
theorem dX4_cableLength_36 : decode cX4_cableLength 36 = .ok (.invokevirtual 108, 3) := by decide +kernel
theorem dX4_cableLength_39 : decode cX4_cableLength 39 = .ok (.goto 4, 3) := by decide +kernel
theorem dX4_cableLength_42 : decode cX4_cableLength 42 = .ok (.iconst 0, 1) := by decide +kernel
theorem dX4_cableLength_43 : decode cX4_cableLength 43 = .ok (.iadd, 1) := by decide +kernel
theorem dX4_cableLength_44 : decode cX4_cableLength 44 = .ok (.istore_n 1, 1) := by decide +kernel
theorem dX4_cableLength_45 : decode cX4_cableLength 45 = .ok (.iinc 2 1, 3) := by decide +kernel
theorem dX4_cableLength_48 : decode cX4_cableLength 48 = .ok (.goto (-39), 3) := by decide +kernel
theorem dX4_cableLength_51 : decode cX4_cableLength 51 = .ok (.iload_n 1, 1) := by decide +kernel
theorem dX4_cableLength_52 : decode cX4_cableLength 52 = .ok (.ireturn, 1) := by decide +kernel
theorem dJ9_abs_0f7a4_0 : decode cJ9_abs_0f7a4 0 = .ok (.iload_n 0, 1) := by decide +kernel
theorem dJ9_abs_0f7a4_1 : decode cJ9_abs_0f7a4 1 = .ok (.ifCond .ge 8, 3) := by decide +kernel
theorem dJ9_abs_0f7a4_4 : decode cJ9_abs_0f7a4 4 = .ok (.iload_n 0, 1) := by decide +kernel
theorem dJ9_abs_0f7a4_5 : decode cJ9_abs_0f7a4 5 = .ok (.ineg, 1) := by decide +kernel
theorem dJ9_abs_0f7a4_6 : decode cJ9_abs_0f7a4 6 = .ok (.goto 4, 3) := by decide +kernel
theorem dJ9_abs_0f7a4_9 : decode cJ9_abs_0f7a4 9 = .ok (.iload_n 0, 1) := by decide +kernel
theorem dJ9_abs_0f7a4_10 : decode cJ9_abs_0f7a4 10 = .ok (.ireturn, 1) := by decide +kernel
theorem dJ9_max_7cf53_0 : decode cJ9_max_7cf53 0 = .ok (.iload_n 0, 1) := by decide +kernel
theorem dJ9_max_7cf53_1 : decode cJ9_max_7cf53 1 = .ok (.iload_n 1, 1) := by decide +kernel
theorem dJ9_max_7cf53_2 : decode cJ9_max_7cf53 2 = .ok (.if_icmp .lt 7, 3) := by decide +kernel
theorem dJ9_max_7cf53_5 : decode cJ9_max_7cf53 5 = .ok (.iload_n 0, 1) := by decide +kernel
theorem dJ9_max_7cf53_6 : decode cJ9_max_7cf53 6 = .ok (.goto 4, 3) := by decide +kernel
theorem dJ9_max_7cf53_9 : decode cJ9_max_7cf53 9 = .ok (.iload_n 1, 1) := by decide +kernel
theorem dJ9_max_7cf53_10 : decode cJ9_max_7cf53 10 = .ok (.ireturn, 1) := by decide +kernel
set_option maxRecDepth 20000 in
theorem ggL_addPanel_X3_addPanel : GoodIn wsL_addPanel wsX3_addPanel := goodIn_ca (goodIn_ca (goodIn_r _ [7, 8, 9, 10, 11, 12, 13, 14, 15, 16, 17, 18, 19, 6, 20, 21, 22, 23, 24, 25, 26, 27, 28, 29, 30, 31, 32, 33, 34, 35, 36, 37, 38, 39, 40, 41, 42, 43, 44, 45, 46, 47] (by decide +kernel) (by decide +kernel)) (goodIn_sub (fun _ h => List.mem_cons_of_mem _ (List.mem_append_left _ (List.mem_append_right _ h))) (by decide +kernel))) (goodIn_sub (fun _ h => List.mem_cons_of_mem _ (List.mem_append_right _ h)) (by decide +kernel))
set_option maxRecDepth 20000 in
theorem gL_addPanel_X3_addPanel : GoodIn wsL_addPanel (wsV RL 7 RX3 yX3_addPanel wsX3_addPanel) := goodIn_app (goodIn_of _ (by decide +kernel)) ggL_addPanel_X3_addPanel
theorem dL_addPanel_0 : decode cL_addPanel 0 = .ok (.aload_n 3, 1) := by decide +kernel
theorem dL_addPanel_1 : decode cL_addPanel 1 = .ok (.iconst 0, 1) := by decide +kernel
theorem dL_addPanel_2 : decode cL_addPanel 2 = .ok (.aload_n 0, 1) := by decide +kernel
theorem dL_addPanel_3 : decode cL_addPanel 3 = .ok (.iload_n 1, 1) := by decide +kernel
theorem dL_addPanel_4 : decode cL_addPanel 4 = .ok (.iload_n 2, 1) := by decide +kernel
theorem dL_addPanel_5 : decode cL_addPanel 5 = .ok (.invokevirtual 7, 3) := by decide +kernel
theorem dL_addPanel_8 : decode cL_addPanel 8 = .ok (.i2l, 1) := by decide +kernel
theorem dL_addPanel_9 : decode cL_addPanel 9 = .ok (.lastore, 1) := by decide +kernel
theorem dL_addPanel_10 : decode cL_addPanel 10 = .ok (.goto 11, 3) := by decide +kernel
theorem dL_addPanel_13 : decode cL_addPanel 13 = .ok (.astore 4, 2) := by decide +kernel
theorem dL_addPanel_15 : decode cL_addPanel 15 = .ok (.iconst 1, 1) := by decide +kernel
theorem dL_addPanel_16 : decode cL_addPanel 16 = .ok (.ireturn, 1) := by decide +kernel
theorem dL_addPanel_17 : decode cL_addPanel 17 = .ok (.astore 4, 2) := by decide +kernel
theorem dL_addPanel_19 : decode cL_addPanel 19 = .ok (.iconst 2, 1) := by decide +kernel
theorem dL_addPanel_20 : decode cL_addPanel 20 = .ok (.ireturn, 1) := by decide +kernel
theorem dL_addPanel_21 : decode cL_addPanel 21 = .ok (.iconst 0, 1) := by decide +kernel
theorem dL_addPanel_22 : decode cL_addPanel 22 = .ok (.ireturn, 1) := by decide +kernel
set_option maxRecDepth 20000 in
theorem ggL_addTrunk_X3_addTrunk : GoodIn wsL_addTrunk wsX3_addTrunk := goodIn_ca (goodIn_ca (goodIn_ca (goodIn_r _ [8, 9, 10, 11, 12, 13, 14, 15, 16, 17, 18, 19, 20, 7, 21, 22, 23, 24, 25, 26, 27, 28, 29, 30, 31, 32, 33, 34, 35, 36, 37, 38, 39, 40, 41, 42, 43, 44, 45, 46, 47, 48, 49, 50, 51, 52, 53, 54, 55, 56, 57, 58, 59, 60, 61, 62, 63, 64, 65, 66, 67, 68, 69, 70, 71, 72, 73, 74, 75, 76, 77, 78, 79] (by decide +kernel) (by decide +kernel)) (goodIn_sub (fun _ h => List.mem_cons_of_mem _ (List.mem_append_left _ (List.mem_append_left _ (List.mem_append_right _ h)))) (by decide +kernel))) (goodIn_sub (fun _ h => List.mem_cons_of_mem _ (List.mem_append_left _ (List.mem_append_right _ h))) (by decide +kernel))) (goodIn_sub (fun _ h => List.mem_cons_of_mem _ (List.mem_append_right _ h)) (by decide +kernel))
set_option maxRecDepth 20000 in
theorem gL_addTrunk_X3_addTrunk : GoodIn wsL_addTrunk (wsV RL 17 RX3 yX3_addTrunk wsX3_addTrunk) := goodIn_app (goodIn_of _ (by decide +kernel)) ggL_addTrunk_X3_addTrunk
theorem dL_addTrunk_0 : decode cL_addTrunk 0 = .ok (.aload 5, 2) := by decide +kernel
theorem dL_addTrunk_2 : decode cL_addTrunk 2 = .ok (.iconst 0, 1) := by decide +kernel
theorem dL_addTrunk_3 : decode cL_addTrunk 3 = .ok (.aload_n 0, 1) := by decide +kernel
theorem dL_addTrunk_4 : decode cL_addTrunk 4 = .ok (.iload_n 1, 1) := by decide +kernel
theorem dL_addTrunk_5 : decode cL_addTrunk 5 = .ok (.iload_n 2, 1) := by decide +kernel
theorem dL_addTrunk_6 : decode cL_addTrunk 6 = .ok (.iload_n 3, 1) := by decide +kernel
theorem dL_addTrunk_7 : decode cL_addTrunk 7 = .ok (.iload 4, 2) := by decide +kernel
theorem dL_addTrunk_9 : decode cL_addTrunk 9 = .ok (.invokevirtual 17, 3) := by decide +kernel
theorem dL_addTrunk_12 : decode cL_addTrunk 12 = .ok (.i2l, 1) := by decide +kernel
theorem dL_addTrunk_13 : decode cL_addTrunk 13 = .ok (.lastore, 1) := by decide +kernel
theorem dL_addTrunk_14 : decode cL_addTrunk 14 = .ok (.goto 15, 3) := by decide +kernel
theorem dL_addTrunk_17 : decode cL_addTrunk 17 = .ok (.astore 6, 2) := by decide +kernel
theorem dL_addTrunk_19 : decode cL_addTrunk 19 = .ok (.iconst 1, 1) := by decide +kernel
theorem dL_addTrunk_20 : decode cL_addTrunk 20 = .ok (.ireturn, 1) := by decide +kernel
theorem dL_addTrunk_21 : decode cL_addTrunk 21 = .ok (.astore 6, 2) := by decide +kernel
theorem dL_addTrunk_23 : decode cL_addTrunk 23 = .ok (.iconst 2, 1) := by decide +kernel
theorem dL_addTrunk_24 : decode cL_addTrunk 24 = .ok (.ireturn, 1) := by decide +kernel
theorem dL_addTrunk_25 : decode cL_addTrunk 25 = .ok (.astore 6, 2) := by decide +kernel
theorem dL_addTrunk_27 : decode cL_addTrunk 27 = .ok (.iconst 3, 1) := by decide +kernel
theorem dL_addTrunk_28 : decode cL_addTrunk 28 = .ok (.ireturn, 1) := by decide +kernel
theorem dL_addTrunk_29 : decode cL_addTrunk 29 = .ok (.iconst 0, 1) := by decide +kernel
theorem dL_addTrunk_30 : decode cL_addTrunk 30 = .ok (.ireturn, 1) := by decide +kernel
set_option maxRecDepth 20000 in
theorem ggL_setBroken_X3_setBroken : GoodIn wsL_setBroken wsX3_setBroken := goodIn_ca (goodIn_r _ [6, 7, 8, 9, 10, 11, 12, 13, 14, 15, 5, 16, 17, 18, 19, 20, 21, 22, 23, 24, 25, 26, 27, 28, 29, 30, 31, 32, 33, 34, 35, 36, 37, 38, 39, 40, 41, 42, 43, 44, 45, 46, 47, 48, 49, 50, 51, 52, 53, 54, 55, 56, 57, 58, 59] (by decide +kernel) (by decide +kernel)) (goodIn_sub (fun _ h => List.mem_cons_of_mem _ (List.mem_append_right _ h)) (by decide +kernel))
set_option maxRecDepth 20000 in
theorem gL_setBroken_X3_setBroken : GoodIn wsL_setBroken (wsV RL 23 RX3 yX3_setBroken wsX3_setBroken) := goodIn_app (goodIn_of _ (by decide +kernel)) ggL_setBroken_X3_setBroken
theorem dL_setBroken_0 : decode cL_setBroken 0 = .ok (.aload 4, 2) := by decide +kernel
theorem dL_setBroken_2 : decode cL_setBroken 2 = .ok (.iconst 0, 1) := by decide +kernel
theorem dL_setBroken_3 : decode cL_setBroken 3 = .ok (.aload_n 0, 1) := by decide +kernel
theorem dL_setBroken_4 : decode cL_setBroken 4 = .ok (.iload_n 1, 1) := by decide +kernel
theorem dL_setBroken_5 : decode cL_setBroken 5 = .ok (.iload_n 2, 1) := by decide +kernel
theorem dL_setBroken_6 : decode cL_setBroken 6 = .ok (.iload_n 3, 1) := by decide +kernel
theorem dL_setBroken_7 : decode cL_setBroken 7 = .ok (.invokevirtual 23, 3) := by decide +kernel
theorem dL_setBroken_10 : decode cL_setBroken 10 = .ok (.ifCond .eq 7, 3) := by decide +kernel
theorem dL_setBroken_13 : decode cL_setBroken 13 = .ok (.lconst 1, 1) := by decide +kernel
theorem dL_setBroken_14 : decode cL_setBroken 14 = .ok (.goto 4, 3) := by decide +kernel
theorem dL_setBroken_17 : decode cL_setBroken 17 = .ok (.lconst 0, 1) := by decide +kernel
theorem dL_setBroken_18 : decode cL_setBroken 18 = .ok (.lastore, 1) := by decide +kernel
theorem dL_setBroken_19 : decode cL_setBroken 19 = .ok (.goto 7, 3) := by decide +kernel
theorem dL_setBroken_22 : decode cL_setBroken 22 = .ok (.astore 5, 2) := by decide +kernel
theorem dL_setBroken_24 : decode cL_setBroken 24 = .ok (.iconst 1, 1) := by decide +kernel
theorem dL_setBroken_25 : decode cL_setBroken 25 = .ok (.ireturn, 1) := by decide +kernel
theorem dL_setBroken_26 : decode cL_setBroken 26 = .ok (.iconst 0, 1) := by decide +kernel
theorem dL_setBroken_27 : decode cL_setBroken 27 = .ok (.ireturn, 1) := by decide +kernel
set_option maxRecDepth 20000 in
theorem ggL_plug_X3_plug : GoodIn wsL_plug wsX3_plug := goodIn_ca (goodIn_ca (goodIn_ca (goodIn_r _ [8, 9, 10, 11, 12, 13, 14, 15, 7, 16, 17, 18, 19, 20, 21, 22, 23, 24, 25, 26, 27, 28, 29, 30, 31, 32, 33, 34, 35, 36, 37, 38, 39, 40, 41, 42, 43, 44, 45, 46, 47, 48, 49, 50, 51, 52, 53, 54, 55, 56, 57, 58, 59, 60, 61, 62, 63, 64, 65, 66, 67, 68, 69, 70, 71, 72, 73, 74] (by decide +kernel) (by decide +kernel)) (goodIn_sub (fun _ h => List.mem_cons_of_mem _ (List.mem_append_left _ (List.mem_append_left _ (List.mem_append_right _ h)))) (by decide +kernel))) (goodIn_sub (fun _ h => List.mem_cons_of_mem _ (List.mem_append_left _ (List.mem_append_right _ h))) (by decide +kernel))) (goodIn_sub (fun _ h => List.mem_cons_of_mem _ (List.mem_append_right _ h)) (by decide +kernel))
set_option maxRecDepth 20000 in
theorem gL_plug_X3_plug : GoodIn wsL_plug (wsV RL 27 RX3 yX3_plug wsX3_plug) := goodIn_app (goodIn_of _ (by decide +kernel)) ggL_plug_X3_plug
theorem dL_plug_0 : decode cL_plug 0 = .ok (.aload 4, 2) := by decide +kernel
theorem dL_plug_2 : decode cL_plug 2 = .ok (.iconst 0, 1) := by decide +kernel
theorem dL_plug_3 : decode cL_plug 3 = .ok (.aload_n 0, 1) := by decide +kernel
theorem dL_plug_4 : decode cL_plug 4 = .ok (.iload_n 1, 1) := by decide +kernel
theorem dL_plug_5 : decode cL_plug 5 = .ok (.iload_n 2, 1) := by decide +kernel
theorem dL_plug_6 : decode cL_plug 6 = .ok (.iload_n 3, 1) := by decide +kernel
theorem dL_plug_7 : decode cL_plug 7 = .ok (.invokevirtual 27, 3) := by decide +kernel
theorem dL_plug_10 : decode cL_plug 10 = .ok (.i2l, 1) := by decide +kernel
theorem dL_plug_11 : decode cL_plug 11 = .ok (.lastore, 1) := by decide +kernel
theorem dL_plug_12 : decode cL_plug 12 = .ok (.goto 15, 3) := by decide +kernel
theorem dL_plug_15 : decode cL_plug 15 = .ok (.astore 5, 2) := by decide +kernel
theorem dL_plug_17 : decode cL_plug 17 = .ok (.iconst 1, 1) := by decide +kernel
theorem dL_plug_18 : decode cL_plug 18 = .ok (.ireturn, 1) := by decide +kernel
theorem dL_plug_19 : decode cL_plug 19 = .ok (.astore 5, 2) := by decide +kernel
theorem dL_plug_21 : decode cL_plug 21 = .ok (.iconst 2, 1) := by decide +kernel
theorem dL_plug_22 : decode cL_plug 22 = .ok (.ireturn, 1) := by decide +kernel
theorem dL_plug_23 : decode cL_plug 23 = .ok (.astore 5, 2) := by decide +kernel
theorem dL_plug_25 : decode cL_plug 25 = .ok (.iconst 3, 1) := by decide +kernel
theorem dL_plug_26 : decode cL_plug 26 = .ok (.ireturn, 1) := by decide +kernel
theorem dL_plug_27 : decode cL_plug 27 = .ok (.iconst 0, 1) := by decide +kernel
theorem dL_plug_28 : decode cL_plug 28 = .ok (.ireturn, 1) := by decide +kernel
set_option maxRecDepth 20000 in
theorem ggL_pull_X3_pull : GoodIn wsL_pull wsX3_pull := goodIn_ca (goodIn_ca (goodIn_r _ [7, 8, 9, 10, 11, 12, 13, 6, 14, 15, 16, 17, 18, 19, 20, 21, 22, 23, 24, 25, 26, 27, 28, 29, 30, 31, 32, 33, 34, 35, 36, 37, 38, 39, 40, 41, 42, 43, 44, 45, 46, 47, 48, 49, 50, 51, 52, 53, 54, 55, 56, 57, 58, 59, 60, 61] (by decide +kernel) (by decide +kernel)) (goodIn_sub (fun _ h => List.mem_cons_of_mem _ (List.mem_append_left _ (List.mem_append_right _ h))) (by decide +kernel))) (goodIn_sub (fun _ h => List.mem_cons_of_mem _ (List.mem_append_right _ h)) (by decide +kernel))
set_option maxRecDepth 20000 in
theorem gL_pull_X3_pull : GoodIn wsL_pull (wsV RL 31 RX3 yX3_pull wsX3_pull) := goodIn_app (goodIn_of _ (by decide +kernel)) ggL_pull_X3_pull
theorem dL_pull_0 : decode cL_pull 0 = .ok (.aload_n 2, 1) := by decide +kernel
theorem dL_pull_1 : decode cL_pull 1 = .ok (.iconst 0, 1) := by decide +kernel
theorem dL_pull_2 : decode cL_pull 2 = .ok (.aload_n 0, 1) := by decide +kernel
theorem dL_pull_3 : decode cL_pull 3 = .ok (.iload_n 1, 1) := by decide +kernel
theorem dL_pull_4 : decode cL_pull 4 = .ok (.invokevirtual 31, 3) := by decide +kernel
theorem dL_pull_7 : decode cL_pull 7 = .ok (.i2l, 1) := by decide +kernel
theorem dL_pull_8 : decode cL_pull 8 = .ok (.lastore, 1) := by decide +kernel
theorem dL_pull_9 : decode cL_pull 9 = .ok (.goto 9, 3) := by decide +kernel
theorem dL_pull_12 : decode cL_pull 12 = .ok (.astore_n 3, 1) := by decide +kernel
theorem dL_pull_13 : decode cL_pull 13 = .ok (.iconst 1, 1) := by decide +kernel
theorem dL_pull_14 : decode cL_pull 14 = .ok (.ireturn, 1) := by decide +kernel
theorem dL_pull_15 : decode cL_pull 15 = .ok (.astore_n 3, 1) := by decide +kernel
theorem dL_pull_16 : decode cL_pull 16 = .ok (.iconst 2, 1) := by decide +kernel
theorem dL_pull_17 : decode cL_pull 17 = .ok (.ireturn, 1) := by decide +kernel
theorem dL_pull_18 : decode cL_pull 18 = .ok (.iconst 0, 1) := by decide +kernel
theorem dL_pull_19 : decode cL_pull 19 = .ok (.ireturn, 1) := by decide +kernel
set_option maxRecDepth 20000 in
theorem ggL_addMove_X3_addMove : GoodIn wsL_addMove wsX3_addMove := goodIn_ca (goodIn_ca (goodIn_ca (goodIn_r _ [8, 9, 10, 11, 12, 13, 14, 15, 16, 7, 17, 18, 19, 20, 21, 22, 23, 24, 25, 26, 27, 28, 29, 30, 31, 32, 33, 34, 35, 36, 37, 38, 39, 40, 41, 42, 43, 44, 45, 46, 47, 48, 49, 50, 51, 52, 53, 54, 55, 56, 57, 58, 59, 60, 61, 62, 63, 64, 65, 66, 67] (by decide +kernel) (by decide +kernel)) (goodIn_sub (fun _ h => List.mem_cons_of_mem _ (List.mem_append_left _ (List.mem_append_left _ (List.mem_append_right _ h)))) (by decide +kernel))) (goodIn_sub (fun _ h => List.mem_cons_of_mem _ (List.mem_append_left _ (List.mem_append_right _ h))) (by decide +kernel))) (goodIn_sub (fun _ h => List.mem_cons_of_mem _ (List.mem_append_right _ h)) (by decide +kernel))
set_option maxRecDepth 20000 in
theorem gL_addMove_X3_addMove : GoodIn wsL_addMove (wsV RL 35 RX3 yX3_addMove wsX3_addMove) := goodIn_app (goodIn_of _ (by decide +kernel)) ggL_addMove_X3_addMove
theorem dL_addMove_0 : decode cL_addMove 0 = .ok (.aload_n 3, 1) := by decide +kernel
theorem dL_addMove_1 : decode cL_addMove 1 = .ok (.iconst 0, 1) := by decide +kernel
theorem dL_addMove_2 : decode cL_addMove 2 = .ok (.aload_n 0, 1) := by decide +kernel
theorem dL_addMove_3 : decode cL_addMove 3 = .ok (.iload_n 1, 1) := by decide +kernel
theorem dL_addMove_4 : decode cL_addMove 4 = .ok (.iload_n 2, 1) := by decide +kernel
theorem dL_addMove_5 : decode cL_addMove 5 = .ok (.invokevirtual 35, 3) := by decide +kernel
theorem dL_addMove_8 : decode cL_addMove 8 = .ok (.i2l, 1) := by decide +kernel
theorem dL_addMove_9 : decode cL_addMove 9 = .ok (.lastore, 1) := by decide +kernel
theorem dL_addMove_10 : decode cL_addMove 10 = .ok (.goto 15, 3) := by decide +kernel
theorem dL_addMove_13 : decode cL_addMove 13 = .ok (.astore 4, 2) := by decide +kernel
theorem dL_addMove_15 : decode cL_addMove 15 = .ok (.iconst 1, 1) := by decide +kernel
theorem dL_addMove_16 : decode cL_addMove 16 = .ok (.ireturn, 1) := by decide +kernel
theorem dL_addMove_17 : decode cL_addMove 17 = .ok (.astore 4, 2) := by decide +kernel
theorem dL_addMove_19 : decode cL_addMove 19 = .ok (.iconst 2, 1) := by decide +kernel
theorem dL_addMove_20 : decode cL_addMove 20 = .ok (.ireturn, 1) := by decide +kernel
theorem dL_addMove_21 : decode cL_addMove 21 = .ok (.astore 4, 2) := by decide +kernel
theorem dL_addMove_23 : decode cL_addMove 23 = .ok (.iconst 3, 1) := by decide +kernel
theorem dL_addMove_24 : decode cL_addMove 24 = .ok (.ireturn, 1) := by decide +kernel
theorem dL_addMove_25 : decode cL_addMove 25 = .ok (.iconst 0, 1) := by decide +kernel
theorem dL_addMove_26 : decode cL_addMove 26 = .ok (.ireturn, 1) := by decide +kernel
set_option maxRecDepth 20000 in
theorem ggL_carryOut_X3_carryOut : GoodIn wsL_carryOut wsX3_carryOut := goodIn_ca (goodIn_r _ [6, 7, 8, 9, 10, 11, 12, 5, 13, 14, 15, 16, 17, 18, 19, 20, 21, 22, 23, 24, 25, 26, 27, 28, 29, 30, 31, 32, 33, 34, 35, 36, 37, 38, 39, 40, 41, 42, 43, 44, 45, 46, 47, 48, 49, 50, 51, 52, 53, 54, 55, 56, 57, 58, 59, 60, 61, 62, 63, 64, 65, 66, 67, 68, 69, 70, 71, 72, 73, 74, 75, 76, 77, 78, 79, 80, 81, 82, 83, 84, 85, 86, 87, 88, 89, 90, 91, 92, 93, 94, 95, 96, 97, 98, 99, 100, 101, 102, 103, 104, 105, 106, 107, 108, 109, 110, 111, 112, 113, 114, 115, 116, 117, 118, 119, 120, 121, 122, 123, 124, 125, 126] (by decide +kernel) (by decide +kernel)) (goodIn_sub (fun _ h => List.mem_cons_of_mem _ (List.mem_append_right _ h)) (by decide +kernel))
set_option maxRecDepth 20000 in
theorem gL_carryOut_X3_carryOut : GoodIn wsL_carryOut (wsV RL 38 RX3 yX3_carryOut wsX3_carryOut) := goodIn_app (goodIn_of _ (by decide +kernel)) ggL_carryOut_X3_carryOut
theorem dL_carryOut_0 : decode cL_carryOut 0 = .ok (.aload_n 1, 1) := by decide +kernel
theorem dL_carryOut_1 : decode cL_carryOut 1 = .ok (.iconst 0, 1) := by decide +kernel
theorem dL_carryOut_2 : decode cL_carryOut 2 = .ok (.aload_n 0, 1) := by decide +kernel
theorem dL_carryOut_3 : decode cL_carryOut 3 = .ok (.invokevirtual 38, 3) := by decide +kernel
theorem dL_carryOut_6 : decode cL_carryOut 6 = .ok (.i2l, 1) := by decide +kernel
theorem dL_carryOut_7 : decode cL_carryOut 7 = .ok (.lastore, 1) := by decide +kernel
theorem dL_carryOut_8 : decode cL_carryOut 8 = .ok (.goto 6, 3) := by decide +kernel
theorem dL_carryOut_11 : decode cL_carryOut 11 = .ok (.astore_n 2, 1) := by decide +kernel
theorem dL_carryOut_12 : decode cL_carryOut 12 = .ok (.iconst 1, 1) := by decide +kernel
theorem dL_carryOut_13 : decode cL_carryOut 13 = .ok (.ireturn, 1) := by decide +kernel
theorem dL_carryOut_14 : decode cL_carryOut 14 = .ok (.iconst 0, 1) := by decide +kernel
theorem dL_carryOut_15 : decode cL_carryOut 15 = .ok (.ireturn, 1) := by decide +kernel
set_option maxRecDepth 20000 in
theorem ggL_panelOf_X3_panelOf : GoodIn wsL_panelOf wsX3_panelOf := goodIn_ca (goodIn_r _ [6, 7, 8, 9, 10, 5, 11, 12, 13, 14, 15, 16, 17, 18, 19, 20, 21, 22, 23, 24, 25, 26, 27, 28, 29, 30, 31, 32, 33, 34, 35, 36, 37, 38, 39, 40, 41, 42, 43, 44, 45] (by decide +kernel) (by decide +kernel)) (goodIn_sub (fun _ h => List.mem_cons_of_mem _ (List.mem_append_right _ h)) (by decide +kernel))
set_option maxRecDepth 20000 in
theorem gL_panelOf_X3_panelOf : GoodIn wsL_panelOf (wsV RL 42 RX3 yX3_panelOf wsX3_panelOf) := goodIn_app (goodIn_of _ (by decide +kernel)) ggL_panelOf_X3_panelOf
theorem dL_panelOf_0 : decode cL_panelOf 0 = .ok (.aload_n 2, 1) := by decide +kernel
theorem dL_panelOf_1 : decode cL_panelOf 1 = .ok (.iconst 0, 1) := by decide +kernel
theorem dL_panelOf_2 : decode cL_panelOf 2 = .ok (.aload_n 0, 1) := by decide +kernel
theorem dL_panelOf_3 : decode cL_panelOf 3 = .ok (.iload_n 1, 1) := by decide +kernel
theorem dL_panelOf_4 : decode cL_panelOf 4 = .ok (.invokevirtual 42, 3) := by decide +kernel
theorem dL_panelOf_7 : decode cL_panelOf 7 = .ok (.i2l, 1) := by decide +kernel
theorem dL_panelOf_8 : decode cL_panelOf 8 = .ok (.lastore, 1) := by decide +kernel
theorem dL_panelOf_9 : decode cL_panelOf 9 = .ok (.goto 6, 3) := by decide +kernel
theorem dL_panelOf_12 : decode cL_panelOf 12 = .ok (.astore_n 3, 1) := by decide +kernel
theorem dL_panelOf_13 : decode cL_panelOf 13 = .ok (.iconst 1, 1) := by decide +kernel
theorem dL_panelOf_14 : decode cL_panelOf 14 = .ok (.ireturn, 1) := by decide +kernel
theorem dL_panelOf_15 : decode cL_panelOf 15 = .ok (.iconst 0, 1) := by decide +kernel
theorem dL_panelOf_16 : decode cL_panelOf 16 = .ok (.ireturn, 1) := by decide +kernel
set_option maxRecDepth 20000 in
theorem ggL_byCable_X3_byCable : GoodIn wsL_byCable wsX3_byCable := goodIn_ca (goodIn_r _ [6, 7, 8, 9, 10, 5, 11, 12, 13, 14, 15, 16, 17, 18, 19, 20, 21, 22, 23, 24, 25, 26, 27, 28, 29, 30, 31, 32, 33, 34, 35, 36, 37, 38, 39, 40, 41, 42, 43, 44, 45] (by decide +kernel) (by decide +kernel)) (goodIn_sub (fun _ h => List.mem_cons_of_mem _ (List.mem_append_right _ h)) (by decide +kernel))
set_option maxRecDepth 20000 in
theorem gL_byCable_X3_byCable : GoodIn wsL_byCable (wsV RL 45 RX3 yX3_byCable wsX3_byCable) := goodIn_app (goodIn_of _ (by decide +kernel)) ggL_byCable_X3_byCable
theorem dL_byCable_0 : decode cL_byCable 0 = .ok (.aload_n 2, 1) := by decide +kernel
theorem dL_byCable_1 : decode cL_byCable 1 = .ok (.iconst 0, 1) := by decide +kernel
theorem dL_byCable_2 : decode cL_byCable 2 = .ok (.aload_n 0, 1) := by decide +kernel
theorem dL_byCable_3 : decode cL_byCable 3 = .ok (.iload_n 1, 1) := by decide +kernel
theorem dL_byCable_4 : decode cL_byCable 4 = .ok (.invokevirtual 45, 3) := by decide +kernel
theorem dL_byCable_7 : decode cL_byCable 7 = .ok (.i2l, 1) := by decide +kernel
theorem dL_byCable_8 : decode cL_byCable 8 = .ok (.lastore, 1) := by decide +kernel
theorem dL_byCable_9 : decode cL_byCable 9 = .ok (.goto 6, 3) := by decide +kernel
theorem dL_byCable_12 : decode cL_byCable 12 = .ok (.astore_n 3, 1) := by decide +kernel
theorem dL_byCable_13 : decode cL_byCable 13 = .ok (.iconst 1, 1) := by decide +kernel
theorem dL_byCable_14 : decode cL_byCable 14 = .ok (.ireturn, 1) := by decide +kernel
theorem dL_byCable_15 : decode cL_byCable 15 = .ok (.iconst 0, 1) := by decide +kernel
theorem dL_byCable_16 : decode cL_byCable 16 = .ok (.ireturn, 1) := by decide +kernel
set_option maxRecDepth 20000 in
theorem ggL_byStrand_X3_byStrand : GoodIn wsL_byStrand wsX3_byStrand := goodIn_ca (goodIn_r _ [6, 7, 8, 9, 10, 5, 11, 12, 13, 14, 15, 16, 17, 18, 19, 20, 21, 22, 23, 24, 25, 26, 27, 28, 29, 30, 31, 32, 33, 34, 35, 36, 37, 38, 39, 40, 41, 42, 43, 44, 45] (by decide +kernel) (by decide +kernel)) (goodIn_sub (fun _ h => List.mem_cons_of_mem _ (List.mem_append_right _ h)) (by decide +kernel))
set_option maxRecDepth 20000 in
theorem gL_byStrand_X3_byStrand : GoodIn wsL_byStrand (wsV RL 48 RX3 yX3_byStrand wsX3_byStrand) := goodIn_app (goodIn_of _ (by decide +kernel)) ggL_byStrand_X3_byStrand
theorem dL_byStrand_0 : decode cL_byStrand 0 = .ok (.aload_n 2, 1) := by decide +kernel
theorem dL_byStrand_1 : decode cL_byStrand 1 = .ok (.iconst 0, 1) := by decide +kernel
theorem dL_byStrand_2 : decode cL_byStrand 2 = .ok (.aload_n 0, 1) := by decide +kernel
theorem dL_byStrand_3 : decode cL_byStrand 3 = .ok (.iload_n 1, 1) := by decide +kernel
theorem dL_byStrand_4 : decode cL_byStrand 4 = .ok (.invokevirtual 48, 3) := by decide +kernel
theorem dL_byStrand_7 : decode cL_byStrand 7 = .ok (.i2l, 1) := by decide +kernel
theorem dL_byStrand_8 : decode cL_byStrand 8 = .ok (.lastore, 1) := by decide +kernel
theorem dL_byStrand_9 : decode cL_byStrand 9 = .ok (.goto 6, 3) := by decide +kernel
theorem dL_byStrand_12 : decode cL_byStrand 12 = .ok (.astore_n 3, 1) := by decide +kernel
theorem dL_byStrand_13 : decode cL_byStrand 13 = .ok (.iconst 1, 1) := by decide +kernel
theorem dL_byStrand_14 : decode cL_byStrand 14 = .ok (.ireturn, 1) := by decide +kernel
theorem dL_byStrand_15 : decode cL_byStrand 15 = .ok (.iconst 0, 1) := by decide +kernel
theorem dL_byStrand_16 : decode cL_byStrand 16 = .ok (.ireturn, 1) := by decide +kernel
set_option maxRecDepth 20000 in
theorem ggL_colour_X3_colour : GoodIn wsL_colour wsX3_colour := goodIn_ca (goodIn_r _ [6, 7, 8, 9, 10, 5, 11, 12, 13, 14, 15, 16, 17, 18, 19, 20, 21, 22, 23, 24, 25, 26, 27, 28, 29, 30, 31, 32, 33, 34, 35, 36, 37, 38, 39, 40, 41, 42, 43, 44, 45] (by decide +kernel) (by decide +kernel)) (goodIn_sub (fun _ h => List.mem_cons_of_mem _ (List.mem_append_right _ h)) (by decide +kernel))
set_option maxRecDepth 20000 in
theorem gL_colour_X3_colour : GoodIn wsL_colour (wsV RL 51 RX3 yX3_colour wsX3_colour) := goodIn_app (goodIn_of _ (by decide +kernel)) ggL_colour_X3_colour
theorem dL_colour_0 : decode cL_colour 0 = .ok (.aload_n 2, 1) := by decide +kernel
theorem dL_colour_1 : decode cL_colour 1 = .ok (.iconst 0, 1) := by decide +kernel
theorem dL_colour_2 : decode cL_colour 2 = .ok (.aload_n 0, 1) := by decide +kernel
theorem dL_colour_3 : decode cL_colour 3 = .ok (.iload_n 1, 1) := by decide +kernel
theorem dL_colour_4 : decode cL_colour 4 = .ok (.invokevirtual 51, 3) := by decide +kernel
theorem dL_colour_7 : decode cL_colour 7 = .ok (.i2l, 1) := by decide +kernel
theorem dL_colour_8 : decode cL_colour 8 = .ok (.lastore, 1) := by decide +kernel
theorem dL_colour_9 : decode cL_colour 9 = .ok (.goto 6, 3) := by decide +kernel
theorem dL_colour_12 : decode cL_colour 12 = .ok (.astore_n 3, 1) := by decide +kernel
theorem dL_colour_13 : decode cL_colour 13 = .ok (.iconst 1, 1) := by decide +kernel
theorem dL_colour_14 : decode cL_colour 14 = .ok (.ireturn, 1) := by decide +kernel
theorem dL_colour_15 : decode cL_colour 15 = .ok (.iconst 0, 1) := by decide +kernel
theorem dL_colour_16 : decode cL_colour 16 = .ok (.ireturn, 1) := by decide +kernel
set_option maxRecDepth 20000 in
theorem ggL_end_X3_end : GoodIn wsL_end wsX3_end := goodIn_ca (goodIn_r _ [6, 7, 8, 9, 5, 10, 11, 12, 13, 14, 15, 16, 17, 18, 19, 20, 21, 22, 23, 24, 25, 26, 27, 28, 29, 30, 31, 32, 33, 34, 35, 36, 37, 38, 39, 40, 41, 42, 43, 44, 45, 46, 47, 48, 49, 50, 51, 52, 53, 54, 55, 56, 57, 58, 59, 60, 61, 62, 63, 64, 65, 66, 67, 68, 69, 70, 71] (by decide +kernel) (by decide +kernel)) (goodIn_sub (fun _ h => List.mem_cons_of_mem _ (List.mem_append_right _ h)) (by decide +kernel))
set_option maxRecDepth 20000 in
theorem gL_end_X3_end : GoodIn wsL_end (wsV RL 54 RX3 yX3_end wsX3_end) := goodIn_app (goodIn_of _ (by decide +kernel)) ggL_end_X3_end
theorem dL_end_0 : decode cL_end 0 = .ok (.aload_n 3, 1) := by decide +kernel
theorem dL_end_1 : decode cL_end 1 = .ok (.iconst 0, 1) := by decide +kernel
theorem dL_end_2 : decode cL_end 2 = .ok (.aload_n 0, 1) := by decide +kernel
theorem dL_end_3 : decode cL_end 3 = .ok (.iload_n 1, 1) := by decide +kernel
theorem dL_end_4 : decode cL_end 4 = .ok (.iload_n 2, 1) := by decide +kernel
theorem dL_end_5 : decode cL_end 5 = .ok (.invokevirtual 54, 3) := by decide +kernel
theorem dL_end_8 : decode cL_end 8 = .ok (.i2l, 1) := by decide +kernel
theorem dL_end_9 : decode cL_end 9 = .ok (.lastore, 1) := by decide +kernel
theorem dL_end_10 : decode cL_end 10 = .ok (.goto 7, 3) := by decide +kernel
theorem dL_end_13 : decode cL_end 13 = .ok (.astore 4, 2) := by decide +kernel
theorem dL_end_15 : decode cL_end 15 = .ok (.iconst 1, 1) := by decide +kernel
theorem dL_end_16 : decode cL_end 16 = .ok (.ireturn, 1) := by decide +kernel
theorem dL_end_17 : decode cL_end 17 = .ok (.iconst 0, 1) := by decide +kernel
theorem dL_end_18 : decode cL_end 18 = .ok (.ireturn, 1) := by decide +kernel
set_option maxRecDepth 20000 in
theorem ggL_hops_X3_hops : GoodIn wsL_hops wsX3_hops := goodIn_ca (goodIn_r _ [6, 7, 8, 9, 5, 10, 11, 12, 13, 14, 15, 16, 17, 18, 19, 20, 21, 22, 23, 24, 25, 26, 27, 28, 29, 30, 31, 32, 33, 34, 35, 36, 37, 38, 39, 40, 41, 42, 43, 44, 45, 46, 47, 48, 49, 50, 51, 52, 53, 54, 55, 56, 57, 58, 59, 60, 61, 62, 63, 64, 65, 66, 67] (by decide +kernel) (by decide +kernel)) (goodIn_sub (fun _ h => List.mem_cons_of_mem _ (List.mem_append_right _ h)) (by decide +kernel))
set_option maxRecDepth 20000 in
theorem gL_hops_X3_hops : GoodIn wsL_hops (wsV RL 58 RX3 yX3_hops wsX3_hops) := goodIn_app (goodIn_of _ (by decide +kernel)) ggL_hops_X3_hops
theorem dL_hops_0 : decode cL_hops 0 = .ok (.aload_n 3, 1) := by decide +kernel
theorem dL_hops_1 : decode cL_hops 1 = .ok (.iconst 0, 1) := by decide +kernel
theorem dL_hops_2 : decode cL_hops 2 = .ok (.aload_n 0, 1) := by decide +kernel
theorem dL_hops_3 : decode cL_hops 3 = .ok (.iload_n 1, 1) := by decide +kernel
theorem dL_hops_4 : decode cL_hops 4 = .ok (.iload_n 2, 1) := by decide +kernel
theorem dL_hops_5 : decode cL_hops 5 = .ok (.invokevirtual 58, 3) := by decide +kernel
theorem dL_hops_8 : decode cL_hops 8 = .ok (.i2l, 1) := by decide +kernel
theorem dL_hops_9 : decode cL_hops 9 = .ok (.lastore, 1) := by decide +kernel
theorem dL_hops_10 : decode cL_hops 10 = .ok (.goto 7, 3) := by decide +kernel
theorem dL_hops_13 : decode cL_hops 13 = .ok (.astore 4, 2) := by decide +kernel
theorem dL_hops_15 : decode cL_hops 15 = .ok (.iconst 1, 1) := by decide +kernel
theorem dL_hops_16 : decode cL_hops 16 = .ok (.ireturn, 1) := by decide +kernel
theorem dL_hops_17 : decode cL_hops 17 = .ok (.iconst 0, 1) := by decide +kernel
theorem dL_hops_18 : decode cL_hops 18 = .ok (.ireturn, 1) := by decide +kernel
set_option maxRecDepth 20000 in
theorem ggL_hopTo_X3_hopTo : GoodIn wsL_hopTo wsX3_hopTo := goodIn_ca (goodIn_r _ [6, 7, 8, 9, 10, 11, 12, 5, 13, 14, 15, 16, 17, 18, 19, 20, 21, 22, 23, 24, 25, 26, 27, 28, 29, 30, 31, 32, 33, 34, 35, 36, 37, 38, 39, 40, 41, 42, 43, 44, 45, 46, 47, 48, 49, 50, 51, 52, 53, 54, 55, 56, 57, 58, 59, 60, 61, 62, 63, 64, 65, 66, 67] (by decide +kernel) (by decide +kernel)) (goodIn_sub (fun _ h => List.mem_cons_of_mem _ (List.mem_append_right _ h)) (by decide +kernel))
set_option maxRecDepth 20000 in
theorem gL_hopTo_X3_hopTo : GoodIn wsL_hopTo (wsV RL 61 RX3 yX3_hopTo wsX3_hopTo) := goodIn_app (goodIn_of _ (by decide +kernel)) ggL_hopTo_X3_hopTo
theorem dL_hopTo_0 : decode cL_hopTo 0 = .ok (.aload 4, 2) := by decide +kernel
theorem dL_hopTo_2 : decode cL_hopTo 2 = .ok (.iconst 0, 1) := by decide +kernel
theorem dL_hopTo_3 : decode cL_hopTo 3 = .ok (.aload_n 0, 1) := by decide +kernel
theorem dL_hopTo_4 : decode cL_hopTo 4 = .ok (.iload_n 1, 1) := by decide +kernel
theorem dL_hopTo_5 : decode cL_hopTo 5 = .ok (.iload_n 2, 1) := by decide +kernel
theorem dL_hopTo_6 : decode cL_hopTo 6 = .ok (.iload_n 3, 1) := by decide +kernel
theorem dL_hopTo_7 : decode cL_hopTo 7 = .ok (.invokevirtual 61, 3) := by decide +kernel
theorem dL_hopTo_10 : decode cL_hopTo 10 = .ok (.i2l, 1) := by decide +kernel
theorem dL_hopTo_11 : decode cL_hopTo 11 = .ok (.lastore, 1) := by decide +kernel
theorem dL_hopTo_12 : decode cL_hopTo 12 = .ok (.goto 7, 3) := by decide +kernel
theorem dL_hopTo_15 : decode cL_hopTo 15 = .ok (.astore 5, 2) := by decide +kernel
theorem dL_hopTo_17 : decode cL_hopTo 17 = .ok (.iconst 1, 1) := by decide +kernel
theorem dL_hopTo_18 : decode cL_hopTo 18 = .ok (.ireturn, 1) := by decide +kernel
theorem dL_hopTo_19 : decode cL_hopTo 19 = .ok (.iconst 0, 1) := by decide +kernel
theorem dL_hopTo_20 : decode cL_hopTo 20 = .ok (.ireturn, 1) := by decide +kernel
set_option maxRecDepth 20000 in
theorem ggL_lengthOf_X3_lengthOf : GoodIn wsL_lengthOf wsX3_lengthOf := goodIn_ca (goodIn_r _ [6, 7, 8, 9, 10, 11, 12, 5, 13, 14, 15, 16, 17, 18, 19, 20, 21, 22, 23, 24, 25, 26, 27, 28, 29, 30, 31, 32, 33, 34, 35, 36, 37, 38, 39, 40, 41, 42, 43, 44, 45, 46, 47, 48, 49, 50, 51, 52, 53, 54, 55, 56, 57, 58, 59, 60, 61, 62, 63, 64, 65, 66, 67, 68, 69, 70, 71, 72, 73, 74, 75, 76, 77, 78, 79] (by decide +kernel) (by decide +kernel)) (goodIn_sub (fun _ h => List.mem_cons_of_mem _ (List.mem_append_right _ h)) (by decide +kernel))
set_option maxRecDepth 20000 in
theorem gL_lengthOf_X3_lengthOf : GoodIn wsL_lengthOf (wsV RL 65 RX3 yX3_lengthOf wsX3_lengthOf) := goodIn_app (goodIn_of _ (by decide +kernel)) ggL_lengthOf_X3_lengthOf
theorem dL_lengthOf_0 : decode cL_lengthOf 0 = .ok (.aload_n 3, 1) := by decide +kernel
theorem dL_lengthOf_1 : decode cL_lengthOf 1 = .ok (.iconst 0, 1) := by decide +kernel
theorem dL_lengthOf_2 : decode cL_lengthOf 2 = .ok (.aload_n 0, 1) := by decide +kernel
theorem dL_lengthOf_3 : decode cL_lengthOf 3 = .ok (.iload_n 1, 1) := by decide +kernel
theorem dL_lengthOf_4 : decode cL_lengthOf 4 = .ok (.iload_n 2, 1) := by decide +kernel
theorem dL_lengthOf_5 : decode cL_lengthOf 5 = .ok (.invokevirtual 65, 3) := by decide +kernel
theorem dL_lengthOf_8 : decode cL_lengthOf 8 = .ok (.i2l, 1) := by decide +kernel
theorem dL_lengthOf_9 : decode cL_lengthOf 9 = .ok (.lastore, 1) := by decide +kernel
theorem dL_lengthOf_10 : decode cL_lengthOf 10 = .ok (.goto 7, 3) := by decide +kernel
theorem dL_lengthOf_13 : decode cL_lengthOf 13 = .ok (.astore 4, 2) := by decide +kernel
theorem dL_lengthOf_15 : decode cL_lengthOf 15 = .ok (.iconst 1, 1) := by decide +kernel
theorem dL_lengthOf_16 : decode cL_lengthOf 16 = .ok (.ireturn, 1) := by decide +kernel
theorem dL_lengthOf_17 : decode cL_lengthOf 17 = .ok (.iconst 0, 1) := by decide +kernel
theorem dL_lengthOf_18 : decode cL_lengthOf 18 = .ok (.ireturn, 1) := by decide +kernel
set_option maxRecDepth 20000 in
theorem ggL_isRing_X3_isRing : GoodIn wsL_isRing wsX3_isRing := goodIn_ca (goodIn_r _ [6, 7, 8, 9, 5, 10, 11, 12, 13, 14, 15, 16, 17, 18, 19, 20, 21, 22, 23, 24, 25, 26, 27, 28, 29, 30, 31, 32, 33, 34, 35, 36, 37, 38, 39, 40, 41, 42, 43, 44, 45, 46, 47, 48, 49, 50, 51, 52, 53, 54, 55, 56, 57, 58, 59, 60, 61, 62, 63, 64, 65, 66, 67, 68, 69, 70, 71] (by decide +kernel) (by decide +kernel)) (goodIn_sub (fun _ h => List.mem_cons_of_mem _ (List.mem_append_right _ h)) (by decide +kernel))
set_option maxRecDepth 20000 in
theorem gL_isRing_X3_isRing : GoodIn wsL_isRing (wsV RL 68 RX3 yX3_isRing wsX3_isRing) := goodIn_app (goodIn_of _ (by decide +kernel)) ggL_isRing_X3_isRing
theorem dL_isRing_0 : decode cL_isRing 0 = .ok (.aload_n 2, 1) := by decide +kernel
theorem dL_isRing_1 : decode cL_isRing 1 = .ok (.iconst 0, 1) := by decide +kernel
theorem dL_isRing_2 : decode cL_isRing 2 = .ok (.aload_n 0, 1) := by decide +kernel
theorem dL_isRing_3 : decode cL_isRing 3 = .ok (.iload_n 1, 1) := by decide +kernel
theorem dL_isRing_4 : decode cL_isRing 4 = .ok (.invokevirtual 68, 3) := by decide +kernel
theorem dL_isRing_7 : decode cL_isRing 7 = .ok (.ifCond .eq 7, 3) := by decide +kernel
theorem dL_isRing_10 : decode cL_isRing 10 = .ok (.lconst 1, 1) := by decide +kernel
theorem dL_isRing_11 : decode cL_isRing 11 = .ok (.goto 4, 3) := by decide +kernel
theorem dL_isRing_14 : decode cL_isRing 14 = .ok (.lconst 0, 1) := by decide +kernel
theorem dL_isRing_15 : decode cL_isRing 15 = .ok (.lastore, 1) := by decide +kernel
theorem dL_isRing_16 : decode cL_isRing 16 = .ok (.goto 6, 3) := by decide +kernel
theorem dL_isRing_19 : decode cL_isRing 19 = .ok (.astore_n 3, 1) := by decide +kernel
theorem dL_isRing_20 : decode cL_isRing 20 = .ok (.iconst 1, 1) := by decide +kernel
theorem dL_isRing_21 : decode cL_isRing 21 = .ok (.ireturn, 1) := by decide +kernel
theorem dL_isRing_22 : decode cL_isRing 22 = .ok (.iconst 0, 1) := by decide +kernel
theorem dL_isRing_23 : decode cL_isRing 23 = .ok (.ireturn, 1) := by decide +kernel
set_option maxRecDepth 20000 in
theorem ggL_areJoined_X3_areJoined : GoodIn wsL_areJoined wsX3_areJoined := goodIn_ca (goodIn_r _ [6, 7, 8, 9, 5, 10, 11, 12, 13, 14, 15, 16, 17, 18, 19, 20, 21, 22, 23, 24, 25, 26, 27, 28, 29, 30, 31, 32, 33, 34, 35, 36, 37, 38, 39, 40, 41, 42, 43, 44, 45, 46, 47, 48, 49, 50, 51, 52, 53, 54, 55, 56, 57, 58, 59, 60, 61, 62, 63, 64, 65, 66, 67, 68, 69, 70, 71] (by decide +kernel) (by decide +kernel)) (goodIn_sub (fun _ h => List.mem_cons_of_mem _ (List.mem_append_right _ h)) (by decide +kernel))
set_option maxRecDepth 20000 in
theorem gL_areJoined_X3_areJoined : GoodIn wsL_areJoined (wsV RL 72 RX3 yX3_areJoined wsX3_areJoined) := goodIn_app (goodIn_of _ (by decide +kernel)) ggL_areJoined_X3_areJoined
theorem dL_areJoined_0 : decode cL_areJoined 0 = .ok (.aload_n 3, 1) := by decide +kernel
theorem dL_areJoined_1 : decode cL_areJoined 1 = .ok (.iconst 0, 1) := by decide +kernel
theorem dL_areJoined_2 : decode cL_areJoined 2 = .ok (.aload_n 0, 1) := by decide +kernel
theorem dL_areJoined_3 : decode cL_areJoined 3 = .ok (.iload_n 1, 1) := by decide +kernel
theorem dL_areJoined_4 : decode cL_areJoined 4 = .ok (.iload_n 2, 1) := by decide +kernel
theorem dL_areJoined_5 : decode cL_areJoined 5 = .ok (.invokevirtual 72, 3) := by decide +kernel
theorem dL_areJoined_8 : decode cL_areJoined 8 = .ok (.ifCond .eq 7, 3) := by decide +kernel
theorem dL_areJoined_11 : decode cL_areJoined 11 = .ok (.lconst 1, 1) := by decide +kernel
theorem dL_areJoined_12 : decode cL_areJoined 12 = .ok (.goto 4, 3) := by decide +kernel
theorem dL_areJoined_15 : decode cL_areJoined 15 = .ok (.lconst 0, 1) := by decide +kernel
theorem dL_areJoined_16 : decode cL_areJoined 16 = .ok (.lastore, 1) := by decide +kernel
theorem dL_areJoined_17 : decode cL_areJoined 17 = .ok (.goto 7, 3) := by decide +kernel
theorem dL_areJoined_20 : decode cL_areJoined 20 = .ok (.astore 4, 2) := by decide +kernel
theorem dL_areJoined_22 : decode cL_areJoined 22 = .ok (.iconst 1, 1) := by decide +kernel
theorem dL_areJoined_23 : decode cL_areJoined 23 = .ok (.ireturn, 1) := by decide +kernel
theorem dL_areJoined_24 : decode cL_areJoined 24 = .ok (.iconst 0, 1) := by decide +kernel
theorem dL_areJoined_25 : decode cL_areJoined 25 = .ok (.ireturn, 1) := by decide +kernel
set_option maxRecDepth 20000 in
theorem ggL_areJoinedBySearch_X3_areJoinedBySearch : GoodIn wsL_areJoinedBySearch wsX3_areJoinedBySearch := goodIn_ca (goodIn_r _ [6, 7, 8, 9, 10, 5, 11, 12, 13, 14, 15, 16, 17, 18, 19, 20, 21, 22, 23, 24, 25, 26, 27, 28, 29, 30, 31, 32, 33, 34, 35, 36, 37, 38, 39, 40, 41, 42, 43, 44, 45, 46, 47, 48, 49, 50, 51, 52, 53, 54, 55, 56, 57, 58, 59, 60, 61, 62, 63, 64, 65, 66, 67, 68, 69, 70, 71, 72, 73, 74, 75, 76, 77, 78, 79, 80] (by decide +kernel) (by decide +kernel)) (goodIn_sub (fun _ h => List.mem_cons_of_mem _ (List.mem_append_right _ h)) (by decide +kernel))
set_option maxRecDepth 20000 in
theorem gL_areJoinedBySearch_X3_areJoinedBySearch : GoodIn wsL_areJoinedBySearch (wsV RL 76 RX3 yX3_areJoinedBySearch wsX3_areJoinedBySearch) := goodIn_app (goodIn_of _ (by decide +kernel)) ggL_areJoinedBySearch_X3_areJoinedBySearch
theorem dL_areJoinedBySearch_0 : decode cL_areJoinedBySearch 0 = .ok (.aload_n 3, 1) := by decide +kernel
theorem dL_areJoinedBySearch_1 : decode cL_areJoinedBySearch 1 = .ok (.iconst 0, 1) := by decide +kernel
theorem dL_areJoinedBySearch_2 : decode cL_areJoinedBySearch 2 = .ok (.aload_n 0, 1) := by decide +kernel
theorem dL_areJoinedBySearch_3 : decode cL_areJoinedBySearch 3 = .ok (.iload_n 1, 1) := by decide +kernel
theorem dL_areJoinedBySearch_4 : decode cL_areJoinedBySearch 4 = .ok (.iload_n 2, 1) := by decide +kernel
theorem dL_areJoinedBySearch_5 : decode cL_areJoinedBySearch 5 = .ok (.invokevirtual 76, 3) := by decide +kernel
theorem dL_areJoinedBySearch_8 : decode cL_areJoinedBySearch 8 = .ok (.ifCond .eq 7, 3) := by decide +kernel
theorem dL_areJoinedBySearch_11 : decode cL_areJoinedBySearch 11 = .ok (.lconst 1, 1) := by decide +kernel
theorem dL_areJoinedBySearch_12 : decode cL_areJoinedBySearch 12 = .ok (.goto 4, 3) := by decide +kernel
theorem dL_areJoinedBySearch_15 : decode cL_areJoinedBySearch 15 = .ok (.lconst 0, 1) := by decide +kernel
theorem dL_areJoinedBySearch_16 : decode cL_areJoinedBySearch 16 = .ok (.lastore, 1) := by decide +kernel
theorem dL_areJoinedBySearch_17 : decode cL_areJoinedBySearch 17 = .ok (.goto 7, 3) := by decide +kernel
theorem dL_areJoinedBySearch_20 : decode cL_areJoinedBySearch 20 = .ok (.astore 4, 2) := by decide +kernel
theorem dL_areJoinedBySearch_22 : decode cL_areJoinedBySearch 22 = .ok (.iconst 1, 1) := by decide +kernel
theorem dL_areJoinedBySearch_23 : decode cL_areJoinedBySearch 23 = .ok (.ireturn, 1) := by decide +kernel
theorem dL_areJoinedBySearch_24 : decode cL_areJoinedBySearch 24 = .ok (.iconst 0, 1) := by decide +kernel
theorem dL_areJoinedBySearch_25 : decode cL_areJoinedBySearch 25 = .ok (.ireturn, 1) := by decide +kernel
set_option maxRecDepth 20000 in
theorem ggL_freePort_X3_freePort : GoodIn wsL_freePort wsX3_freePort := goodIn_ca (goodIn_r _ [6, 7, 8, 9, 10, 11, 5, 12, 13, 14, 15, 16, 17, 18, 19, 20, 21, 22, 23, 24, 25, 26, 27, 28, 29, 30, 31, 32, 33, 34, 35, 36, 37, 38, 39, 40, 41, 42, 43, 44, 45, 46, 47, 48, 49, 50, 51, 52, 53, 54, 55, 56] (by decide +kernel) (by decide +kernel)) (goodIn_sub (fun _ h => List.mem_cons_of_mem _ (List.mem_append_right _ h)) (by decide +kernel))
set_option maxRecDepth 20000 in
theorem gL_freePort_X3_freePort : GoodIn wsL_freePort (wsV RL 79 RX3 yX3_freePort wsX3_freePort) := goodIn_app (goodIn_of _ (by decide +kernel)) ggL_freePort_X3_freePort
theorem dL_freePort_0 : decode cL_freePort 0 = .ok (.aload_n 2, 1) := by decide +kernel
theorem dL_freePort_1 : decode cL_freePort 1 = .ok (.iconst 0, 1) := by decide +kernel
theorem dL_freePort_2 : decode cL_freePort 2 = .ok (.aload_n 0, 1) := by decide +kernel
theorem dL_freePort_3 : decode cL_freePort 3 = .ok (.iload_n 1, 1) := by decide +kernel
theorem dL_freePort_4 : decode cL_freePort 4 = .ok (.invokevirtual 79, 3) := by decide +kernel
theorem dL_freePort_7 : decode cL_freePort 7 = .ok (.i2l, 1) := by decide +kernel
theorem dL_freePort_8 : decode cL_freePort 8 = .ok (.lastore, 1) := by decide +kernel
theorem dL_freePort_9 : decode cL_freePort 9 = .ok (.goto 6, 3) := by decide +kernel
theorem dL_freePort_12 : decode cL_freePort 12 = .ok (.astore_n 3, 1) := by decide +kernel
theorem dL_freePort_13 : decode cL_freePort 13 = .ok (.iconst 1, 1) := by decide +kernel
theorem dL_freePort_14 : decode cL_freePort 14 = .ok (.ireturn, 1) := by decide +kernel
theorem dL_freePort_15 : decode cL_freePort 15 = .ok (.iconst 0, 1) := by decide +kernel
theorem dL_freePort_16 : decode cL_freePort 16 = .ok (.ireturn, 1) := by decide +kernel
set_option maxRecDepth 20000 in
theorem ggL_freeStrand_X3_freeStrand : GoodIn wsL_freeStrand wsX3_freeStrand := goodIn_ca (goodIn_r _ [6, 7, 8, 9, 10, 11, 12, 5, 13, 14, 15, 16, 17, 18, 19, 20, 21, 22, 23, 24, 25, 26, 27, 28, 29, 30, 31, 32, 33, 34, 35, 36, 37, 38, 39, 40, 41, 42, 43, 44, 45, 46, 47, 48, 49, 50, 51, 52, 53, 54, 55, 56, 57, 58, 59, 60, 61, 62, 63, 64, 65] (by decide +kernel) (by decide +kernel)) (goodIn_sub (fun _ h => List.mem_cons_of_mem _ (List.mem_append_right _ h)) (by decide +kernel))
set_option maxRecDepth 20000 in
theorem gL_freeStrand_X3_freeStrand : GoodIn wsL_freeStrand (wsV RL 82 RX3 yX3_freeStrand wsX3_freeStrand) := goodIn_app (goodIn_of _ (by decide +kernel)) ggL_freeStrand_X3_freeStrand
theorem dL_freeStrand_0 : decode cL_freeStrand 0 = .ok (.aload_n 3, 1) := by decide +kernel
theorem dL_freeStrand_1 : decode cL_freeStrand 1 = .ok (.iconst 0, 1) := by decide +kernel
theorem dL_freeStrand_2 : decode cL_freeStrand 2 = .ok (.aload_n 0, 1) := by decide +kernel
theorem dL_freeStrand_3 : decode cL_freeStrand 3 = .ok (.iload_n 1, 1) := by decide +kernel
theorem dL_freeStrand_4 : decode cL_freeStrand 4 = .ok (.iload_n 2, 1) := by decide +kernel
theorem dL_freeStrand_5 : decode cL_freeStrand 5 = .ok (.invokevirtual 82, 3) := by decide +kernel
theorem dL_freeStrand_8 : decode cL_freeStrand 8 = .ok (.i2l, 1) := by decide +kernel
theorem dL_freeStrand_9 : decode cL_freeStrand 9 = .ok (.lastore, 1) := by decide +kernel
theorem dL_freeStrand_10 : decode cL_freeStrand 10 = .ok (.goto 7, 3) := by decide +kernel
theorem dL_freeStrand_13 : decode cL_freeStrand 13 = .ok (.astore 4, 2) := by decide +kernel
theorem dL_freeStrand_15 : decode cL_freeStrand 15 = .ok (.iconst 1, 1) := by decide +kernel
theorem dL_freeStrand_16 : decode cL_freeStrand 16 = .ok (.ireturn, 1) := by decide +kernel
theorem dL_freeStrand_17 : decode cL_freeStrand 17 = .ok (.iconst 0, 1) := by decide +kernel
theorem dL_freeStrand_18 : decode cL_freeStrand 18 = .ok (.ireturn, 1) := by decide +kernel
set_option maxRecDepth 20000 in
theorem ggL_used_X3_used : GoodIn wsL_used wsX3_used := goodIn_ca (goodIn_r _ [6, 7, 8, 9, 10, 11, 12, 5, 13, 14, 15, 16, 17, 18, 19, 20, 21, 22, 23, 24, 25, 26, 27, 28, 29, 30, 31, 32, 33, 34, 35, 36, 37, 38, 39, 40, 41, 42, 43, 44, 45, 46, 47, 48, 49, 50, 51, 52] (by decide +kernel) (by decide +kernel)) (goodIn_sub (fun _ h => List.mem_cons_of_mem _ (List.mem_append_right _ h)) (by decide +kernel))
set_option maxRecDepth 20000 in
theorem gL_used_X3_used : GoodIn wsL_used (wsV RL 85 RX3 yX3_used wsX3_used) := goodIn_app (goodIn_of _ (by decide +kernel)) ggL_used_X3_used
theorem dL_used_0 : decode cL_used 0 = .ok (.aload_n 2, 1) := by decide +kernel
theorem dL_used_1 : decode cL_used 1 = .ok (.iconst 0, 1) := by decide +kernel
theorem dL_used_2 : decode cL_used 2 = .ok (.aload_n 0, 1) := by decide +kernel
theorem dL_used_3 : decode cL_used 3 = .ok (.iload_n 1, 1) := by decide +kernel
theorem dL_used_4 : decode cL_used 4 = .ok (.invokevirtual 85, 3) := by decide +kernel
theorem dL_used_7 : decode cL_used 7 = .ok (.i2l, 1) := by decide +kernel
theorem dL_used_8 : decode cL_used 8 = .ok (.lastore, 1) := by decide +kernel
theorem dL_used_9 : decode cL_used 9 = .ok (.goto 6, 3) := by decide +kernel
theorem dL_used_12 : decode cL_used 12 = .ok (.astore_n 3, 1) := by decide +kernel
theorem dL_used_13 : decode cL_used 13 = .ok (.iconst 1, 1) := by decide +kernel
theorem dL_used_14 : decode cL_used 14 = .ok (.ireturn, 1) := by decide +kernel
theorem dL_used_15 : decode cL_used 15 = .ok (.iconst 0, 1) := by decide +kernel
theorem dL_used_16 : decode cL_used 16 = .ok (.ireturn, 1) := by decide +kernel
set_option maxRecDepth 20000 in
theorem ggL_law_X3_init : GoodIn wsL_law wsX3_init := goodIn_r _ [9, 10, 11, 12, 13, 14, 15, 16, 17, 18, 19, 20, 21, 22, 23, 24, 25, 26, 27, 28, 29, 30, 31, 32, 33, 34, 35, 36, 37, 38, 39, 40, 41, 42, 43, 44, 45, 46, 47, 48, 49, 50, 51, 52, 53, 54, 55, 56, 57, 58, 59, 60, 61, 62, 63, 64, 65, 66, 67, 682, 683, 639, 640, 641, 642, 643, 644, 645, 646, 647, 648, 649, 650, 651, 652, 653, 654, 655, 656, 657, 684, 685, 686, 687, 688, 689] (by decide +kernel) (by decide +kernel)
set_option maxRecDepth 20000 in
theorem gL_law_X3_init : GoodIn wsL_law (wsX3_init) := ggL_law_X3_init
set_option maxRecDepth 20000 in
theorem ggL_law_X4_init : GoodIn wsL_law wsX4_init := goodIn_r _ [70, 71, 11, 12, 49, 72, 73, 74, 75, 76, 77, 57, 78, 79, 80, 81, 82, 83, 84, 85, 86, 87, 88, 658, 659, 660, 661, 662, 663, 664, 665, 666, 667, 668, 669, 670, 671, 672, 673, 674, 675, 676, 677, 678, 679, 680, 681] (by decide +kernel) (by decide +kernel)
set_option maxRecDepth 20000 in
theorem gL_law_X4_init : GoodIn wsL_law (wsX4_init) := ggL_law_X4_init
set_option maxRecDepth 20000 in
theorem ggL_law_L_addPanel : GoodIn wsL_law wsL_addPanel := goodIn_ca (goodIn_ca (goodIn_r _ [92, 93, 94, 95, 96, 97, 2, 98, 99, 100, 101, 102, 38, 39, 16, 17, 18, 19, 103, 104, 105, 106, 107, 108, 15, 109, 50, 639, 640, 641, 642, 643, 644, 645, 646, 647, 648, 649, 650, 651, 652, 653, 654, 655, 656, 657, 682, 683] (by decide +kernel) (by decide +kernel)) (goodIn_sub (fun _ h => List.mem_append_left _ (List.mem_append_left _ (List.mem_append_right _ h))) (by decide +kernel))) (goodIn_sub (fun _ h => List.mem_append_left _ (List.mem_append_right _ h)) (by decide +kernel))
set_option maxRecDepth 20000 in
theorem gL_law_L_addPanel : GoodIn wsL_law (va_wsS RL 92 yL_addPanel wsL_addPanel) := goodIn_app (goodIn_of _ (by decide +kernel)) ggL_law_L_addPanel
set_option maxRecDepth 20000 in
theorem ggL_law_X4_addPanel : GoodIn wsL_law wsX4_addPanel := goodIn_r _ [113, 114, 72, 115, 74, 76, 73, 116, 117, 5, 118, 119, 120, 121, 122, 123, 658, 659, 660, 661, 662, 663, 664, 665, 666, 667, 668, 669, 670, 671, 672, 673, 674, 675, 676, 677, 678, 679, 680, 681] (by decide +kernel) (by decide +kernel)
set_option maxRecDepth 20000 in
theorem gL_law_X4_addPanel : GoodIn wsL_law (wsV RL 97 RX4 yX4_addPanel wsX4_addPanel) := goodIn_app (goodIn_of _ (by decide +kernel)) ggL_law_X4_addPanel
set_option maxRecDepth 20000 in
theorem ggL_law_X4_thrown : GoodIn wsL_law wsX4_thrown := goodIn_r _ [127, 123, 658, 659, 660, 661, 662, 663, 664, 665, 666, 667, 668, 669, 670, 671, 672, 673, 674, 675, 676, 677, 678, 679, 680, 681] (by decide +kernel) (by decide +kernel)
set_option maxRecDepth 20000 in
theorem gL_law_X4_thrown : GoodIn wsL_law (wsV RL 98 RX4 yX4_thrown wsX4_thrown) := goodIn_app (goodIn_of _ (by decide +kernel)) ggL_law_X4_thrown
set_option maxRecDepth 20000 in
theorem ggL_law_L_addTrunk : GoodIn wsL_law wsL_addTrunk := goodIn_ca (goodIn_ca (goodIn_ca (goodIn_r _ [130, 131, 93, 94, 132, 133, 134, 2, 135, 99, 100, 101, 102, 19, 40, 28, 29, 30, 136, 137, 138, 139, 140, 141, 39, 103, 104, 105, 142, 143, 144, 15, 145, 50, 51, 146, 147, 148, 149, 17, 18, 150, 151, 152, 153, 154, 155, 156, 157, 22, 106, 107, 108, 109, 158, 159, 160, 161, 23, 639, 640, 641, 642, 643, 644, 645, 646, 647, 648, 649, 650, 651, 652, 653, 654, 655, 656, 657, 682, 683] (by decide +kernel) (by decide +kernel)) (goodIn_sub (fun _ h => List.mem_append_left _ (List.mem_append_left _ (List.mem_append_right _ h))) (by decide +kernel))) (goodIn_sub (fun _ h => List.mem_append_left _ (List.mem_append_right _ h)) (by decide +kernel))) (goodIn_sub (fun _ h => List.mem_append_right _ h) (by decide +kernel))
set_option maxRecDepth 20000 in
theorem gL_law_L_addTrunk : GoodIn wsL_law (va_wsS RL 101 yL_addTrunk wsL_addTrunk) := goodIn_app (goodIn_of _ (by decide +kernel)) ggL_law_L_addTrunk
set_option maxRecDepth 20000 in
theorem ggL_law_X4_addTrunk : GoodIn wsL_law wsX4_addTrunk := goodIn_r _ [165, 79, 166, 80, 81, 82, 167, 168, 169, 5, 170, 76, 171, 172, 173, 174, 175, 176, 177, 178, 115, 116, 117, 118, 179, 180, 181, 182, 73, 183, 184, 185, 186, 119, 120, 121, 122, 123, 187, 188, 189, 190, 77, 78, 658, 659, 660, 661, 662, 663, 664, 665, 666, 667, 668, 669, 670, 671, 672, 673, 674, 675, 676, 677, 678, 679, 680, 681] (by decide +kernel) (by decide +kernel)
set_option maxRecDepth 20000 in
theorem gL_law_X4_addTrunk : GoodIn wsL_law (wsV RL 104 RX4 yX4_addTrunk wsX4_addTrunk) := goodIn_app (goodIn_of _ (by decide +kernel)) ggL_law_X4_addTrunk
set_option maxRecDepth 20000 in
theorem ggL_law_L_setBroken : GoodIn wsL_law wsL_setBroken := goodIn_ca (goodIn_r _ [193, 131, 194, 195, 196, 2, 197, 140, 141, 29, 28, 27, 22, 198, 199, 200, 201, 40, 103, 104, 105, 142, 143, 144, 15, 145, 50, 51, 202, 203, 204, 26, 205, 58, 206, 207, 208, 209, 639, 640, 641, 642, 643, 644, 645, 646, 647, 648, 649, 650, 651, 652, 653, 654, 655, 656, 657, 682, 683, 684] (by decide +kernel) (by decide +kernel)) (goodIn_sub (fun _ h => List.mem_append_right _ h) (by decide +kernel))
set_option maxRecDepth 20000 in
theorem gL_law_L_setBroken : GoodIn wsL_law (va_wsS RL 105 yL_setBroken wsL_setBroken) := goodIn_app (goodIn_of _ (by decide +kernel)) ggL_law_L_setBroken
set_option maxRecDepth 20000 in
theorem ggL_law_X4_setBroken : GoodIn wsL_law wsX4_setBroken := goodIn_r _ [213, 81, 78, 79, 80, 214, 215, 216, 5, 217, 166, 116, 117, 118, 119, 120, 121, 122, 123, 658, 659, 660, 661, 662, 663, 664, 665, 666, 667, 668, 669, 670, 671, 672, 673, 674, 675, 676, 677, 678, 679, 680, 681] (by decide +kernel) (by decide +kernel)
set_option maxRecDepth 20000 in
theorem gL_law_X4_setBroken : GoodIn wsL_law (wsV RL 108 RX4 yX4_setBroken wsX4_setBroken) := goodIn_app (goodIn_of _ (by decide +kernel)) ggL_law_X4_setBroken
set_option maxRecDepth 20000 in
theorem ggL_law_L_plug : GoodIn wsL_law wsL_plug := goodIn_ca (goodIn_ca (goodIn_ca (goodIn_r _ [220, 131, 93, 94, 221, 222, 223, 2, 224, 99, 100, 101, 102, 136, 137, 138, 139, 140, 141, 39, 103, 104, 105, 225, 226, 227, 228, 20, 142, 143, 144, 15, 145, 50, 51, 229, 230, 231, 232, 21, 106, 107, 108, 109, 233, 234, 235, 236, 19, 16, 237, 238, 47, 239, 639, 640, 641, 642, 643, 644, 645, 646, 647, 648, 649, 650, 651, 652, 653, 654, 655, 656, 657, 682, 683] (by decide +kernel) (by decide +kernel)) (goodIn_sub (fun _ h => List.mem_append_left _ (List.mem_append_left _ (List.mem_append_right _ h))) (by decide +kernel))) (goodIn_sub (fun _ h => List.mem_append_left _ (List.mem_append_right _ h)) (by decide +kernel))) (goodIn_sub (fun _ h => List.mem_append_right _ h) (by decide +kernel))
set_option maxRecDepth 20000 in
theorem gL_law_L_plug : GoodIn wsL_law (va_wsS RL 109 yL_plug wsL_plug) := goodIn_app (goodIn_of _ (by decide +kernel)) ggL_law_L_plug
set_option maxRecDepth 20000 in
theorem ggL_law_X4_plug : GoodIn wsL_law wsX4_plug := goodIn_r _ [243, 74, 75, 171, 172, 173, 5, 174, 175, 176, 177, 178, 115, 116, 117, 118, 119, 120, 121, 122, 123, 244, 245, 246, 247, 72, 179, 180, 181, 182, 73, 658, 659, 660, 661, 662, 663, 664, 665, 666, 667, 668, 669, 670, 671, 672, 673, 674, 675, 676, 677, 678, 679, 680, 681] (by decide +kernel) (by decide +kernel)
set_option maxRecDepth 20000 in
theorem gL_law_X4_plug : GoodIn wsL_law (wsV RL 112 RX4 yX4_plug wsX4_plug) := goodIn_app (goodIn_of _ (by decide +kernel)) ggL_law_X4_plug
set_option maxRecDepth 20000 in
theorem ggL_law_L_pull : GoodIn wsL_law wsL_pull := goodIn_ca (goodIn_ca (goodIn_r _ [250, 131, 94, 251, 252, 253, 2, 254, 101, 102, 20, 136, 137, 138, 139, 140, 141, 39, 103, 104, 105, 225, 226, 227, 228, 142, 143, 144, 15, 145, 50, 51, 255, 256, 257, 258, 21, 106, 107, 108, 109, 639, 640, 641, 642, 643, 644, 645, 646, 647, 648, 649, 650, 651, 652, 653, 654, 655, 656, 657, 682, 683] (by decide +kernel) (by decide +kernel)) (goodIn_sub (fun _ h => List.mem_append_left _ (List.mem_append_right _ h)) (by decide +kernel))) (goodIn_sub (fun _ h => List.mem_append_right _ h) (by decide +kernel))
set_option maxRecDepth 20000 in
theorem gL_law_L_pull : GoodIn wsL_law (va_wsS RL 113 yL_pull wsL_pull) := goodIn_app (goodIn_of _ (by decide +kernel)) ggL_law_L_pull
set_option maxRecDepth 20000 in
theorem ggL_law_X4_pull : GoodIn wsL_law wsX4_pull := goodIn_r _ [262, 74, 175, 176, 177, 5, 178, 115, 116, 117, 118, 119, 120, 121, 122, 123, 658, 659, 660, 661, 662, 663, 664, 665, 666, 667, 668, 669, 670, 671, 672, 673, 674, 675, 676, 677, 678, 679, 680, 681] (by decide +kernel) (by decide +kernel)
set_option maxRecDepth 20000 in
theorem gL_law_X4_pull : GoodIn wsL_law (wsV RL 116 RX4 yX4_pull wsX4_pull) := goodIn_app (goodIn_of _ (by decide +kernel)) ggL_law_X4_pull
set_option maxRecDepth 20000 in
theorem ggL_law_L_addMove : GoodIn wsL_law wsL_addMove := goodIn_ca (goodIn_ca (goodIn_ca (goodIn_r _ [265, 131, 93, 94, 266, 267, 268, 2, 269, 99, 100, 101, 102, 34, 136, 137, 138, 139, 140, 141, 39, 103, 104, 105, 270, 271, 272, 33, 273, 274, 275, 276, 277, 278, 63, 64, 279, 107, 108, 15, 109, 50, 639, 640, 641, 642, 643, 644, 645, 646, 647, 648, 649, 650, 651, 652, 653, 654, 655, 656, 657, 685, 686, 687, 688, 689, 682, 683] (by decide +kernel) (by decide +kernel)) (goodIn_sub (fun _ h => List.mem_append_left _ (List.mem_append_left _ (List.mem_append_right _ h))) (by decide +kernel))) (goodIn_sub (fun _ h => List.mem_append_left _ (List.mem_append_right _ h)) (by decide +kernel))) (goodIn_sub (fun _ h => List.mem_append_right _ h) (by decide +kernel))
set_option maxRecDepth 20000 in
theorem gL_law_L_addMove : GoodIn wsL_law (va_wsS RL 117 yL_addMove wsL_addMove) := goodIn_app (goodIn_of _ (by decide +kernel)) ggL_law_L_addMove
set_option maxRecDepth 20000 in
theorem ggL_law_X4_addMove : GoodIn wsL_law wsX4_addMove := goodIn_r _ [283, 284, 83, 84, 171, 172, 173, 5, 174, 175, 176, 177, 178, 115, 116, 117, 118, 119, 120, 121, 122, 123, 658, 659, 660, 661, 662, 663, 664, 665, 666, 667, 668, 669, 670, 671, 672, 673, 674, 675, 676, 677, 678, 679, 680, 681] (by decide +kernel) (by decide +kernel)
set_option maxRecDepth 20000 in
theorem gL_law_X4_addMove : GoodIn wsL_law (wsV RL 119 RX4 yX4_addMove wsX4_addMove) := goodIn_app (goodIn_of _ (by decide +kernel)) ggL_law_X4_addMove
set_option maxRecDepth 20000 in
theorem ggL_law_X3_dropPlan : GoodIn wsL_law wsX3_dropPlan := goodIn_r _ [288, 34, 270, 271, 272, 33, 273, 274, 289, 290, 291, 292, 639, 640, 641, 642, 643, 644, 645, 646, 647, 648, 649, 650, 651, 652, 653, 654, 655, 656, 657, 685, 686, 687, 688, 689] (by decide +kernel) (by decide +kernel)
set_option maxRecDepth 20000 in
theorem gL_law_X3_dropPlan : GoodIn wsL_law (wsV RL 120 RX3 yX3_dropPlan wsX3_dropPlan) := goodIn_app (goodIn_of _ (by decide +kernel)) ggL_law_X3_dropPlan
set_option maxRecDepth 20000 in
theorem ggL_law_X4_dropPlan : GoodIn wsL_law wsX4_dropPlan := goodIn_r _ [296, 123, 284, 658, 659, 660, 661, 662, 663, 664, 665, 666, 667, 668, 669, 670, 671, 672, 673, 674, 675, 676, 677, 678, 679, 680, 681] (by decide +kernel) (by decide +kernel)
set_option maxRecDepth 20000 in
theorem gL_law_X4_dropPlan : GoodIn wsL_law (wsV RL 123 RX4 yX4_dropPlan wsX4_dropPlan) := goodIn_app (goodIn_of _ (by decide +kernel)) ggL_law_X4_dropPlan
set_option maxRecDepth 20000 in
theorem ggL_law_L_carryOut : GoodIn wsL_law wsL_carryOut := goodIn_ca (goodIn_r _ [299, 94, 300, 301, 302, 2, 303, 101, 102, 34, 304, 305, 306, 307, 270, 271, 272, 33, 273, 274, 308, 309, 310, 311, 63, 312, 143, 144, 15, 145, 50, 51, 225, 226, 227, 228, 20, 142, 313, 314, 315, 316, 317, 318, 319, 320, 321, 64, 322, 323, 324, 325, 326, 327, 328, 329, 330, 331, 332, 333, 334, 21, 335, 336, 337, 338, 65, 66, 279, 107, 108, 109, 255, 256, 257, 258, 106, 339, 340, 341, 342, 343, 344, 345, 346, 347, 348, 349, 350, 351, 352, 353, 354, 229, 230, 231, 232, 289, 290, 291, 292, 639, 640, 641, 642, 643, 644, 645, 646, 647, 648, 649, 650, 651, 652, 653, 654, 655, 656, 657, 685, 686, 687, 688, 689, 682, 683] (by decide +kernel) (by decide +kernel)) (goodIn_sub (fun _ h => List.mem_append_left _ (List.mem_append_right _ h)) (by decide +kernel))
set_option maxRecDepth 20000 in
theorem gL_law_L_carryOut : GoodIn wsL_law (va_wsS RL 124 yL_carryOut wsL_carryOut) := goodIn_app (goodIn_of _ (by decide +kernel)) ggL_law_L_carryOut
set_option maxRecDepth 20000 in
theorem ggL_law_X4_carryOut : GoodIn wsL_law wsX4_carryOut := goodIn_r _ [358, 115, 74, 85, 75, 86, 284, 359, 360, 361, 5, 362, 83, 84, 363, 364, 365, 366, 367, 368, 369, 370, 119, 120, 121, 122, 123, 658, 659, 660, 661, 662, 663, 664, 665, 666, 667, 668, 669, 670, 671, 672, 673, 674, 675, 676, 677, 678, 679, 680, 681] (by decide +kernel) (by decide +kernel)
set_option maxRecDepth 20000 in
theorem gL_law_X4_carryOut : GoodIn wsL_law (wsV RL 127 RX4 yX4_carryOut wsX4_carryOut) := goodIn_app (goodIn_of _ (by decide +kernel)) ggL_law_X4_carryOut
set_option maxRecDepth 20000 in
theorem ggL_law_X3_ports : GoodIn wsL_law wsX3_ports := goodIn_r _ [374, 39, 639, 640, 641, 642, 643, 644, 645, 646, 647, 648, 649, 650, 651, 652, 653, 654, 655, 656, 657] (by decide +kernel) (by decide +kernel)
set_option maxRecDepth 20000 in
theorem gL_law_X3_ports : GoodIn wsL_law (wsV RL 128 RX3 yX3_ports wsX3_ports) := goodIn_app (goodIn_of _ (by decide +kernel)) ggL_law_X3_ports
set_option maxRecDepth 20000 in
theorem ggL_law_X4_ports : GoodIn wsL_law wsX4_ports := goodIn_r _ [378, 123, 115, 658, 659, 660, 661, 662, 663, 664, 665, 666, 667, 668, 669, 670, 671, 672, 673, 674, 675, 676, 677, 678, 679, 680, 681] (by decide +kernel) (by decide +kernel)
set_option maxRecDepth 20000 in
theorem gL_law_X4_ports : GoodIn wsL_law (wsV RL 131 RX4 yX4_ports wsX4_ports) := goodIn_app (goodIn_of _ (by decide +kernel)) ggL_law_X4_ports
set_option maxRecDepth 20000 in
theorem ggL_law_X3_trunks : GoodIn wsL_law wsX3_trunks := goodIn_r _ [382, 40, 639, 640, 641, 642, 643, 644, 645, 646, 647, 648, 649, 650, 651, 652, 653, 654, 655, 656, 657] (by decide +kernel) (by decide +kernel)
set_option maxRecDepth 20000 in
theorem gL_law_X3_trunks : GoodIn wsL_law (wsV RL 132 RX3 yX3_trunks wsX3_trunks) := goodIn_app (goodIn_of _ (by decide +kernel)) ggL_law_X3_trunks
set_option maxRecDepth 20000 in
theorem ggL_law_X4_trunks : GoodIn wsL_law wsX4_trunks := goodIn_r _ [386, 123, 166, 658, 659, 660, 661, 662, 663, 664, 665, 666, 667, 668, 669, 670, 671, 672, 673, 674, 675, 676, 677, 678, 679, 680, 681] (by decide +kernel) (by decide +kernel)
set_option maxRecDepth 20000 in
theorem gL_law_X4_trunks : GoodIn wsL_law (wsV RL 135 RX4 yX4_trunks wsX4_trunks) := goodIn_app (goodIn_of _ (by decide +kernel)) ggL_law_X4_trunks
set_option maxRecDepth 20000 in
theorem ggL_law_X3_cables : GoodIn wsL_law wsX3_cables := goodIn_r _ [390, 39, 391, 392, 393, 2, 394, 20, 142, 143, 144, 15, 145, 50, 51, 639, 640, 641, 642, 643, 644, 645, 646, 647, 648, 649, 650, 651, 652, 653, 654, 655, 656, 657, 682, 683] (by decide +kernel) (by decide +kernel)
set_option maxRecDepth 20000 in
theorem gL_law_X3_cables : GoodIn wsL_law (wsV RL 136 RX3 yX3_cables wsX3_cables) := goodIn_app (goodIn_of _ (by decide +kernel)) ggL_law_X3_cables
set_option maxRecDepth 20000 in
theorem ggL_law_X4_cables : GoodIn wsL_law wsX4_cables := goodIn_r _ [398, 123, 115, 74, 658, 659, 660, 661, 662, 663, 664, 665, 666, 667, 668, 669, 670, 671, 672, 673, 674, 675, 676, 677, 678, 679, 680, 681] (by decide +kernel) (by decide +kernel)
set_option maxRecDepth 20000 in
theorem gL_law_X4_cables : GoodIn wsL_law (wsV RL 139 RX4 yX4_cables wsX4_cables) := goodIn_app (goodIn_of _ (by decide +kernel)) ggL_law_X4_cables
set_option maxRecDepth 20000 in
theorem ggL_law_L_panelOf : GoodIn wsL_law wsL_panelOf := goodIn_ca (goodIn_r _ [401, 131, 402, 403, 404, 2, 405, 19, 136, 137, 138, 139, 140, 141, 39, 103, 104, 105, 142, 143, 144, 15, 145, 50, 51, 639, 640, 641, 642, 643, 644, 645, 646, 647, 648, 649, 650, 651, 652, 653, 654, 655, 656, 657, 682, 683] (by decide +kernel) (by decide +kernel)) (goodIn_sub (fun _ h => List.mem_append_right _ h) (by decide +kernel))
set_option maxRecDepth 20000 in
theorem gL_law_L_panelOf : GoodIn wsL_law (va_wsS RL 140 yL_panelOf wsL_panelOf) := goodIn_app (goodIn_of _ (by decide +kernel)) ggL_law_L_panelOf
set_option maxRecDepth 20000 in
theorem ggL_law_X4_panelOf : GoodIn wsL_law wsX4_panelOf := goodIn_r _ [409, 175, 176, 177, 5, 178, 115, 116, 117, 118, 119, 120, 121, 122, 123, 179, 180, 181, 182, 73, 658, 659, 660, 661, 662, 663, 664, 665, 666, 667, 668, 669, 670, 671, 672, 673, 674, 675, 676, 677, 678, 679, 680, 681] (by decide +kernel) (by decide +kernel)
set_option maxRecDepth 20000 in
theorem gL_law_X4_panelOf : GoodIn wsL_law (wsV RL 142 RX4 yX4_panelOf wsX4_panelOf) := goodIn_app (goodIn_of _ (by decide +kernel)) ggL_law_X4_panelOf
set_option maxRecDepth 20000 in
theorem ggL_law_L_byCable : GoodIn wsL_law wsL_byCable := goodIn_ca (goodIn_r _ [412, 131, 413, 414, 415, 2, 416, 20, 136, 137, 138, 139, 140, 141, 39, 103, 104, 105, 142, 143, 144, 15, 145, 50, 51, 639, 640, 641, 642, 643, 644, 645, 646, 647, 648, 649, 650, 651, 652, 653, 654, 655, 656, 657, 682, 683] (by decide +kernel) (by decide +kernel)) (goodIn_sub (fun _ h => List.mem_append_right _ h) (by decide +kernel))
set_option maxRecDepth 20000 in
theorem gL_law_L_byCable : GoodIn wsL_law (va_wsS RL 143 yL_byCable wsL_byCable) := goodIn_app (goodIn_of _ (by decide +kernel)) ggL_law_L_byCable
set_option maxRecDepth 20000 in
theorem ggL_law_X4_byCable : GoodIn wsL_law wsX4_byCable := goodIn_r _ [420, 74, 175, 176, 177, 5, 178, 115, 116, 117, 118, 119, 120, 121, 122, 123, 658, 659, 660, 661, 662, 663, 664, 665, 666, 667, 668, 669, 670, 671, 672, 673, 674, 675, 676, 677, 678, 679, 680, 681] (by decide +kernel) (by decide +kernel)
set_option maxRecDepth 20000 in
theorem gL_law_X4_byCable : GoodIn wsL_law (wsV RL 145 RX4 yX4_byCable wsX4_byCable) := goodIn_app (goodIn_of _ (by decide +kernel)) ggL_law_X4_byCable
set_option maxRecDepth 20000 in
theorem ggL_law_L_byStrand : GoodIn wsL_law wsL_byStrand := goodIn_ca (goodIn_r _ [423, 131, 424, 425, 426, 2, 427, 22, 136, 137, 138, 139, 140, 141, 39, 103, 104, 105, 142, 143, 144, 15, 145, 50, 51, 639, 640, 641, 642, 643, 644, 645, 646, 647, 648, 649, 650, 651, 652, 653, 654, 655, 656, 657, 682, 683] (by decide +kernel) (by decide +kernel)) (goodIn_sub (fun _ h => List.mem_append_right _ h) (by decide +kernel))
set_option maxRecDepth 20000 in
theorem gL_law_L_byStrand : GoodIn wsL_law (va_wsS RL 146 yL_byStrand wsL_byStrand) := goodIn_app (goodIn_of _ (by decide +kernel)) ggL_law_L_byStrand
set_option maxRecDepth 20000 in
theorem ggL_law_X4_byStrand : GoodIn wsL_law wsX4_byStrand := goodIn_r _ [431, 76, 175, 176, 177, 5, 178, 115, 116, 117, 118, 119, 120, 121, 122, 123, 658, 659, 660, 661, 662, 663, 664, 665, 666, 667, 668, 669, 670, 671, 672, 673, 674, 675, 676, 677, 678, 679, 680, 681] (by decide +kernel) (by decide +kernel)
set_option maxRecDepth 20000 in
theorem gL_law_X4_byStrand : GoodIn wsL_law (wsV RL 148 RX4 yX4_byStrand wsX4_byStrand) := goodIn_app (goodIn_of _ (by decide +kernel)) ggL_law_X4_byStrand
set_option maxRecDepth 20000 in
theorem ggL_law_L_colour : GoodIn wsL_law wsL_colour := goodIn_ca (goodIn_r _ [434, 131, 435, 436, 437, 2, 438, 21, 136, 137, 138, 139, 140, 141, 39, 103, 104, 105, 142, 143, 144, 15, 145, 50, 51, 639, 640, 641, 642, 643, 644, 645, 646, 647, 648, 649, 650, 651, 652, 653, 654, 655, 656, 657, 682, 683] (by decide +kernel) (by decide +kernel)) (goodIn_sub (fun _ h => List.mem_append_right _ h) (by decide +kernel))
set_option maxRecDepth 20000 in
theorem gL_law_L_colour : GoodIn wsL_law (va_wsS RL 149 yL_colour wsL_colour) := goodIn_app (goodIn_of _ (by decide +kernel)) ggL_law_L_colour
set_option maxRecDepth 20000 in
theorem ggL_law_X4_colour : GoodIn wsL_law wsX4_colour := goodIn_r _ [442, 74, 75, 175, 176, 177, 5, 178, 115, 116, 117, 118, 119, 120, 121, 122, 123, 658, 659, 660, 661, 662, 663, 664, 665, 666, 667, 668, 669, 670, 671, 672, 673, 674, 675, 676, 677, 678, 679, 680, 681] (by decide +kernel) (by decide +kernel)
set_option maxRecDepth 20000 in
theorem gL_law_X4_colour : GoodIn wsL_law (wsV RL 151 RX4 yX4_colour wsX4_colour) := goodIn_app (goodIn_of _ (by decide +kernel)) ggL_law_X4_colour
set_option maxRecDepth 20000 in
theorem ggL_law_L_end : GoodIn wsL_law wsL_end := goodIn_ca (goodIn_r _ [445, 131, 446, 447, 448, 2, 449, 136, 137, 138, 139, 140, 141, 39, 103, 104, 105, 450, 451, 452, 453, 20, 35, 142, 143, 144, 15, 145, 50, 51, 454, 455, 456, 457, 27, 22, 202, 203, 204, 26, 205, 58, 106, 107, 108, 109, 458, 459, 460, 461, 639, 640, 641, 642, 643, 644, 645, 646, 647, 648, 649, 650, 651, 652, 653, 654, 655, 656, 657, 682, 683, 684] (by decide +kernel) (by decide +kernel)) (goodIn_sub (fun _ h => List.mem_append_right _ h) (by decide +kernel))
set_option maxRecDepth 20000 in
theorem gL_law_L_end : GoodIn wsL_law (va_wsS RL 152 yL_end wsL_end) := goodIn_app (goodIn_of _ (by decide +kernel)) ggL_law_L_end
set_option maxRecDepth 20000 in
theorem ggL_law_X4_end : GoodIn wsL_law wsX4_end := goodIn_r _ [465, 175, 176, 177, 5, 178, 115, 116, 117, 118, 119, 120, 121, 122, 123, 466, 467, 468, 469, 470, 471, 82, 77, 87, 472, 473, 474, 475, 74, 78, 76, 244, 245, 246, 247, 72, 179, 180, 181, 182, 73, 658, 659, 660, 661, 662, 663, 664, 665, 666, 667, 668, 669, 670, 671, 672, 673, 674, 675, 676, 677, 678, 679, 680, 681] (by decide +kernel) (by decide +kernel)
set_option maxRecDepth 20000 in
theorem gL_law_X4_end : GoodIn wsL_law (wsV RL 155 RX4 yX4_end wsX4_end) := goodIn_app (goodIn_of _ (by decide +kernel)) ggL_law_X4_end
set_option maxRecDepth 20000 in
theorem ggL_law_L_hops : GoodIn wsL_law wsL_hops := goodIn_ca (goodIn_r _ [478, 131, 479, 480, 481, 2, 482, 136, 137, 138, 139, 140, 141, 39, 103, 104, 105, 450, 451, 452, 453, 20, 35, 142, 143, 144, 15, 145, 50, 51, 454, 455, 456, 457, 27, 22, 202, 203, 204, 26, 205, 58, 106, 107, 108, 109, 639, 640, 641, 642, 643, 644, 645, 646, 647, 648, 649, 650, 651, 652, 653, 654, 655, 656, 657, 682, 683, 684] (by decide +kernel) (by decide +kernel)) (goodIn_sub (fun _ h => List.mem_append_right _ h) (by decide +kernel))
set_option maxRecDepth 20000 in
theorem gL_law_L_hops : GoodIn wsL_law (va_wsS RL 156 yL_hops wsL_hops) := goodIn_app (goodIn_of _ (by decide +kernel)) ggL_law_L_hops
set_option maxRecDepth 20000 in
theorem ggL_law_X4_hops : GoodIn wsL_law wsX4_hops := goodIn_r _ [486, 470, 175, 176, 177, 5, 178, 115, 116, 117, 118, 119, 120, 121, 122, 123, 466, 467, 468, 469, 471, 82, 77, 87, 472, 473, 474, 475, 74, 78, 76, 244, 245, 246, 247, 72, 179, 180, 181, 182, 73, 658, 659, 660, 661, 662, 663, 664, 665, 666, 667, 668, 669, 670, 671, 672, 673, 674, 675, 676, 677, 678, 679, 680, 681] (by decide +kernel) (by decide +kernel)
set_option maxRecDepth 20000 in
theorem gL_law_X4_hops : GoodIn wsL_law (wsV RL 158 RX4 yX4_hops wsX4_hops) := goodIn_app (goodIn_of _ (by decide +kernel)) ggL_law_X4_hops
set_option maxRecDepth 20000 in
theorem ggL_law_L_hopTo : GoodIn wsL_law wsL_hopTo := goodIn_ca (goodIn_r _ [489, 131, 490, 491, 492, 2, 493, 140, 141, 35, 136, 137, 138, 139, 39, 103, 104, 105, 450, 451, 452, 453, 20, 142, 143, 144, 15, 145, 50, 51, 454, 455, 456, 457, 27, 22, 202, 203, 204, 26, 205, 58, 106, 107, 108, 109, 639, 640, 641, 642, 643, 644, 645, 646, 647, 648, 649, 650, 651, 652, 653, 654, 655, 656, 657, 682, 683, 684] (by decide +kernel) (by decide +kernel)) (goodIn_sub (fun _ h => List.mem_append_right _ h) (by decide +kernel))
set_option maxRecDepth 20000 in
theorem gL_law_L_hopTo : GoodIn wsL_law (va_wsS RL 159 yL_hopTo wsL_hopTo) := goodIn_app (goodIn_of _ (by decide +kernel)) ggL_law_L_hopTo
set_option maxRecDepth 20000 in
theorem ggL_law_X4_hopTo : GoodIn wsL_law wsX4_hopTo := goodIn_r _ [497, 470, 87, 175, 176, 177, 5, 178, 115, 116, 117, 118, 466, 467, 468, 469, 471, 82, 77, 472, 473, 474, 475, 74, 78, 76, 244, 245, 246, 247, 72, 179, 180, 181, 182, 73, 119, 120, 121, 122, 123, 658, 659, 660, 661, 662, 663, 664, 665, 666, 667, 668, 669, 670, 671, 672, 673, 674, 675, 676, 677, 678, 679, 680, 681] (by decide +kernel) (by decide +kernel)
set_option maxRecDepth 20000 in
theorem gL_law_X4_hopTo : GoodIn wsL_law (wsV RL 162 RX4 yX4_hopTo wsX4_hopTo) := goodIn_app (goodIn_of _ (by decide +kernel)) ggL_law_X4_hopTo
set_option maxRecDepth 20000 in
theorem ggL_law_L_lengthOf : GoodIn wsL_law wsL_lengthOf := goodIn_ca (goodIn_r _ [500, 131, 501, 502, 503, 2, 504, 35, 30, 23, 136, 137, 138, 139, 140, 141, 39, 103, 104, 105, 450, 451, 452, 453, 20, 142, 143, 144, 15, 145, 50, 51, 454, 455, 456, 457, 27, 22, 202, 203, 204, 26, 205, 58, 106, 107, 108, 109, 233, 234, 235, 236, 19, 16, 237, 238, 47, 239, 639, 640, 641, 642, 643, 644, 645, 646, 647, 648, 649, 650, 651, 652, 653, 654, 655, 656, 657, 682, 683, 684] (by decide +kernel) (by decide +kernel)) (goodIn_sub (fun _ h => List.mem_append_right _ h) (by decide +kernel))
set_option maxRecDepth 20000 in
theorem gL_law_L_lengthOf : GoodIn wsL_law (va_wsS RL 163 yL_lengthOf wsL_lengthOf) := goodIn_app (goodIn_of _ (by decide +kernel)) ggL_law_L_lengthOf
set_option maxRecDepth 20000 in
theorem ggL_law_X4_lengthOf : GoodIn wsL_law wsX4_lengthOf := goodIn_r _ [508, 471, 175, 176, 177, 5, 178, 115, 116, 117, 118, 119, 120, 121, 122, 123, 466, 467, 468, 469, 470, 82, 77, 87, 472, 473, 474, 475, 74, 78, 76, 244, 245, 246, 247, 72, 179, 180, 181, 182, 73, 658, 659, 660, 661, 662, 663, 664, 665, 666, 667, 668, 669, 670, 671, 672, 673, 674, 675, 676, 677, 678, 679, 680, 681] (by decide +kernel) (by decide +kernel)
set_option maxRecDepth 20000 in
theorem gL_law_X4_lengthOf : GoodIn wsL_law (wsV RL 165 RX4 yX4_lengthOf wsX4_lengthOf) := goodIn_app (goodIn_of _ (by decide +kernel)) ggL_law_X4_lengthOf
set_option maxRecDepth 20000 in
theorem ggL_law_L_isRing : GoodIn wsL_law wsL_isRing := goodIn_ca (goodIn_r _ [511, 131, 512, 513, 514, 2, 515, 136, 137, 138, 139, 140, 141, 39, 103, 104, 105, 450, 451, 452, 453, 20, 35, 142, 143, 144, 15, 145, 50, 51, 454, 455, 456, 457, 27, 22, 202, 203, 204, 26, 205, 58, 106, 107, 108, 109, 458, 459, 460, 461, 639, 640, 641, 642, 643, 644, 645, 646, 647, 648, 649, 650, 651, 652, 653, 654, 655, 656, 657, 682, 683, 684] (by decide +kernel) (by decide +kernel)) (goodIn_sub (fun _ h => List.mem_append_right _ h) (by decide +kernel))
set_option maxRecDepth 20000 in
theorem gL_law_L_isRing : GoodIn wsL_law (va_wsS RL 166 yL_isRing wsL_isRing) := goodIn_app (goodIn_of _ (by decide +kernel)) ggL_law_L_isRing
set_option maxRecDepth 20000 in
theorem ggL_law_X4_isRing : GoodIn wsL_law wsX4_isRing := goodIn_r _ [519, 470, 175, 176, 177, 5, 178, 115, 116, 117, 118, 119, 120, 121, 122, 123, 466, 467, 468, 469, 471, 82, 77, 87, 472, 473, 474, 475, 74, 78, 76, 244, 245, 246, 247, 72, 179, 180, 181, 182, 73, 658, 659, 660, 661, 662, 663, 664, 665, 666, 667, 668, 669, 670, 671, 672, 673, 674, 675, 676, 677, 678, 679, 680, 681] (by decide +kernel) (by decide +kernel)
set_option maxRecDepth 20000 in
theorem gL_law_X4_isRing : GoodIn wsL_law (wsV RL 168 RX4 yX4_isRing wsX4_isRing) := goodIn_app (goodIn_of _ (by decide +kernel)) ggL_law_X4_isRing
set_option maxRecDepth 20000 in
theorem ggL_law_L_areJoined : GoodIn wsL_law wsL_areJoined := goodIn_ca (goodIn_r _ [522, 131, 523, 524, 525, 2, 526, 136, 137, 138, 139, 140, 141, 39, 103, 104, 105, 450, 451, 452, 453, 20, 35, 142, 143, 144, 15, 145, 50, 51, 454, 455, 456, 457, 27, 22, 202, 203, 204, 26, 205, 58, 106, 107, 108, 109, 527, 528, 529, 530, 639, 640, 641, 642, 643, 644, 645, 646, 647, 648, 649, 650, 651, 652, 653, 654, 655, 656, 657, 682, 683, 684] (by decide +kernel) (by decide +kernel)) (goodIn_sub (fun _ h => List.mem_append_right _ h) (by decide +kernel))
set_option maxRecDepth 20000 in
theorem gL_law_L_areJoined : GoodIn wsL_law (va_wsS RL 169 yL_areJoined wsL_areJoined) := goodIn_app (goodIn_of _ (by decide +kernel)) ggL_law_L_areJoined
set_option maxRecDepth 20000 in
theorem ggL_law_X4_areJoined : GoodIn wsL_law wsX4_areJoined := goodIn_r _ [534, 171, 172, 173, 5, 174, 175, 176, 177, 178, 115, 116, 117, 118, 119, 120, 121, 122, 123, 535, 536, 537, 538, 539, 540, 541, 542, 470, 87, 466, 467, 468, 469, 471, 82, 77, 472, 473, 474, 475, 74, 78, 76, 244, 245, 246, 247, 72, 179, 180, 181, 182, 73, 658, 659, 660, 661, 662, 663, 664, 665, 666, 667, 668, 669, 670, 671, 672, 673, 674, 675, 676, 677, 678, 679, 680, 681] (by decide +kernel) (by decide +kernel)
set_option maxRecDepth 20000 in
theorem gL_law_X4_areJoined : GoodIn wsL_law (wsV RL 171 RX4 yX4_areJoined wsX4_areJoined) := goodIn_app (goodIn_of _ (by decide +kernel)) ggL_law_X4_areJoined
set_option maxRecDepth 20000 in
theorem ggL_law_L_areJoinedBySearch : GoodIn wsL_law wsL_areJoinedBySearch := goodIn_ca (goodIn_r _ [545, 131, 546, 547, 548, 2, 549, 37, 136, 137, 138, 139, 140, 141, 39, 103, 104, 105, 550, 551, 552, 553, 36, 20, 554, 555, 556, 26, 557, 58, 558, 559, 560, 561, 202, 203, 204, 205, 206, 207, 208, 209, 106, 107, 108, 15, 109, 50, 142, 143, 144, 145, 51, 454, 455, 456, 457, 27, 22, 639, 640, 641, 642, 643, 644, 645, 646, 647, 648, 649, 650, 651, 652, 653, 654, 655, 656, 657, 684, 682, 683] (by decide +kernel) (by decide +kernel)) (goodIn_sub (fun _ h => List.mem_append_right _ h) (by decide +kernel))
set_option maxRecDepth 20000 in
theorem gL_law_L_areJoinedBySearch : GoodIn wsL_law (va_wsS RL 172 yL_areJoinedBySearch wsL_areJoinedBySearch) := goodIn_app (goodIn_of _ (by decide +kernel)) ggL_law_L_areJoinedBySearch
set_option maxRecDepth 20000 in
theorem ggL_law_X4_areJoinedBySearch : GoodIn wsL_law wsX4_areJoinedBySearch := goodIn_r _ [565, 88, 171, 172, 173, 5, 174, 175, 176, 177, 178, 115, 116, 117, 118, 119, 120, 121, 122, 123, 566, 567, 568, 569, 472, 473, 474, 475, 74, 78, 76, 658, 659, 660, 661, 662, 663, 664, 665, 666, 667, 668, 669, 670, 671, 672, 673, 674, 675, 676, 677, 678, 679, 680, 681] (by decide +kernel) (by decide +kernel)
set_option maxRecDepth 20000 in
theorem gL_law_X4_areJoinedBySearch : GoodIn wsL_law (wsV RL 174 RX4 yX4_areJoinedBySearch wsX4_areJoinedBySearch) := goodIn_app (goodIn_of _ (by decide +kernel)) ggL_law_X4_areJoinedBySearch
set_option maxRecDepth 20000 in
theorem ggL_law_X3_lines : GoodIn wsL_law wsX3_lines := goodIn_r _ [573, 37, 39, 554, 555, 556, 26, 557, 58, 202, 203, 204, 205, 206, 207, 208, 209, 450, 451, 452, 2, 453, 20, 35, 142, 143, 144, 15, 145, 50, 51, 454, 455, 456, 457, 27, 22, 106, 107, 108, 109, 574, 575, 576, 577, 639, 640, 641, 642, 643, 644, 645, 646, 647, 648, 649, 650, 651, 652, 653, 654, 655, 656, 657, 684, 682, 683] (by decide +kernel) (by decide +kernel)
set_option maxRecDepth 20000 in
theorem gL_law_X3_lines : GoodIn wsL_law (wsV RL 175 RX3 yX3_lines wsX3_lines) := goodIn_app (goodIn_of _ (by decide +kernel)) ggL_law_X3_lines
set_option maxRecDepth 20000 in
theorem ggL_law_X4_lines : GoodIn wsL_law wsX4_lines := goodIn_r _ [581, 123, 115, 88, 566, 567, 568, 5, 569, 472, 473, 474, 475, 74, 78, 76, 658, 659, 660, 661, 662, 663, 664, 665, 666, 667, 668, 669, 670, 671, 672, 673, 674, 675, 676, 677, 678, 679, 680, 681] (by decide +kernel) (by decide +kernel)
set_option maxRecDepth 20000 in
theorem gL_law_X4_lines : GoodIn wsL_law (wsV RL 178 RX4 yX4_lines wsX4_lines) := goodIn_app (goodIn_of _ (by decide +kernel)) ggL_law_X4_lines
set_option maxRecDepth 20000 in
theorem ggL_law_L_freePort : GoodIn wsL_law wsL_freePort := goodIn_ca (goodIn_r _ [584, 131, 585, 586, 587, 2, 588, 17, 18, 589, 590, 591, 592, 140, 141, 38, 103, 104, 105, 142, 143, 144, 15, 145, 50, 51, 225, 226, 227, 228, 20, 154, 155, 156, 157, 22, 639, 640, 641, 642, 643, 644, 645, 646, 647, 648, 649, 650, 651, 652, 653, 654, 655, 656, 657, 682, 683] (by decide +kernel) (by decide +kernel)) (goodIn_sub (fun _ h => List.mem_append_right _ h) (by decide +kernel))
set_option maxRecDepth 20000 in
theorem gL_law_L_freePort : GoodIn wsL_law (va_wsS RL 179 yL_freePort wsL_freePort) := goodIn_app (goodIn_of _ (by decide +kernel)) ggL_law_L_freePort
set_option maxRecDepth 20000 in
theorem ggL_law_X4_freePort : GoodIn wsL_law wsX4_freePort := goodIn_r _ [596, 73, 74, 76, 597, 598, 599, 5, 600, 114, 116, 117, 118, 119, 120, 121, 122, 123, 658, 659, 660, 661, 662, 663, 664, 665, 666, 667, 668, 669, 670, 671, 672, 673, 674, 675, 676, 677, 678, 679, 680, 681] (by decide +kernel) (by decide +kernel)
set_option maxRecDepth 20000 in
theorem gL_law_X4_freePort : GoodIn wsL_law (wsV RL 181 RX4 yX4_freePort wsX4_freePort) := goodIn_app (goodIn_of _ (by decide +kernel)) ggL_law_X4_freePort
set_option maxRecDepth 20000 in
theorem ggL_law_L_freeStrand : GoodIn wsL_law wsL_freeStrand := goodIn_ca (goodIn_r _ [603, 131, 604, 605, 606, 2, 607, 17, 18, 19, 589, 590, 591, 592, 140, 141, 38, 103, 104, 105, 142, 143, 144, 15, 145, 50, 51, 454, 455, 456, 457, 27, 22, 202, 203, 204, 26, 205, 58, 225, 226, 227, 228, 20, 639, 640, 641, 642, 643, 644, 645, 646, 647, 648, 649, 650, 651, 652, 653, 654, 655, 656, 657, 682, 683, 684] (by decide +kernel) (by decide +kernel)) (goodIn_sub (fun _ h => List.mem_append_right _ h) (by decide +kernel))
set_option maxRecDepth 20000 in
theorem gL_law_L_freeStrand : GoodIn wsL_law (va_wsS RL 182 yL_freeStrand wsL_freeStrand) := goodIn_app (goodIn_of _ (by decide +kernel)) ggL_law_L_freeStrand
set_option maxRecDepth 20000 in
theorem ggL_law_X4_freeStrand : GoodIn wsL_law wsX4_freeStrand := goodIn_r _ [611, 73, 74, 597, 598, 599, 5, 600, 114, 116, 117, 118, 119, 120, 121, 122, 123, 472, 473, 474, 475, 78, 76, 179, 180, 181, 182, 658, 659, 660, 661, 662, 663, 664, 665, 666, 667, 668, 669, 670, 671, 672, 673, 674, 675, 676, 677, 678, 679, 680, 681] (by decide +kernel) (by decide +kernel)
set_option maxRecDepth 20000 in
theorem gL_law_X4_freeStrand : GoodIn wsL_law (wsV RL 184 RX4 yX4_freeStrand wsX4_freeStrand) := goodIn_app (goodIn_of _ (by decide +kernel)) ggL_law_X4_freeStrand
set_option maxRecDepth 20000 in
theorem ggL_law_L_used : GoodIn wsL_law wsL_used := goodIn_ca (goodIn_r _ [614, 131, 615, 616, 617, 2, 618, 28, 29, 22, 198, 199, 200, 201, 140, 141, 40, 103, 104, 105, 142, 143, 144, 15, 145, 50, 51, 225, 226, 227, 228, 20, 639, 640, 641, 642, 643, 644, 645, 646, 647, 648, 649, 650, 651, 652, 653, 654, 655, 656, 657, 682, 683] (by decide +kernel) (by decide +kernel)) (goodIn_sub (fun _ h => List.mem_append_right _ h) (by decide +kernel))
set_option maxRecDepth 20000 in
theorem gL_law_L_used : GoodIn wsL_law (va_wsS RL 185 yL_used wsL_used) := goodIn_app (goodIn_of _ (by decide +kernel)) ggL_law_L_used
set_option maxRecDepth 20000 in
theorem ggL_law_X4_used : GoodIn wsL_law wsX4_used := goodIn_r _ [622, 81, 74, 79, 80, 214, 215, 216, 5, 217, 166, 116, 117, 118, 119, 120, 121, 122, 123, 658, 659, 660, 661, 662, 663, 664, 665, 666, 667, 668, 669, 670, 671, 672, 673, 674, 675, 676, 677, 678, 679, 680, 681] (by decide +kernel) (by decide +kernel)
set_option maxRecDepth 20000 in
theorem gL_law_X4_used : GoodIn wsL_law (wsV RL 187 RX4 yX4_used wsX4_used) := goodIn_app (goodIn_of _ (by decide +kernel)) ggL_law_X4_used
set_option maxRecDepth 20000 in
theorem ggL_law_X3_canCarryOut : GoodIn wsL_law wsX3_canCarryOut := goodIn_r _ [626, 304, 305, 306, 2, 307, 34, 270, 271, 272, 33, 273, 274, 308, 309, 310, 311, 63, 312, 143, 144, 15, 145, 50, 51, 225, 226, 227, 228, 20, 142, 313, 314, 315, 316, 317, 318, 319, 320, 321, 64, 322, 323, 324, 325, 326, 327, 328, 329, 330, 639, 640, 641, 642, 643, 644, 645, 646, 647, 648, 649, 650, 651, 652, 653, 654, 655, 656, 657, 685, 686, 687, 688, 689, 682, 683] (by decide +kernel) (by decide +kernel)
set_option maxRecDepth 20000 in
theorem gL_law_X3_canCarryOut : GoodIn wsL_law (wsV RL 188 RX3 yX3_canCarryOut wsX3_canCarryOut) := goodIn_app (goodIn_of _ (by decide +kernel)) ggL_law_X3_canCarryOut
set_option maxRecDepth 20000 in
theorem ggL_law_X4_canCarryOut : GoodIn wsL_law wsX4_canCarryOut := goodIn_r _ [630, 123, 359, 360, 361, 5, 362, 83, 84, 284, 74, 115, 85, 86, 75, 363, 364, 365, 366, 367, 368, 369, 370, 658, 659, 660, 661, 662, 663, 664, 665, 666, 667, 668, 669, 670, 671, 672, 673, 674, 675, 676, 677, 678, 679, 680, 681] (by decide +kernel) (by decide +kernel)
set_option maxRecDepth 20000 in
theorem gL_law_X4_canCarryOut : GoodIn wsL_law (wsV RL 192 RX4 yX4_canCarryOut wsX4_canCarryOut) := goodIn_app (goodIn_of _ (by decide +kernel)) ggL_law_X4_canCarryOut
set_option maxRecDepth 20000 in
theorem ggL_law_X3_cableLength : GoodIn wsL_law wsX3_cableLength := goodIn_r _ [634, 39, 20, 391, 392, 393, 2, 394, 142, 143, 144, 15, 145, 50, 51, 233, 234, 235, 236, 19, 16, 237, 238, 47, 239, 639, 640, 641, 642, 643, 644, 645, 646, 647, 648, 649, 650, 651, 652, 653, 654, 655, 656, 657, 682, 683] (by decide +kernel) (by decide +kernel)
set_option maxRecDepth 20000 in
theorem gL_law_X3_cableLength : GoodIn wsL_law (wsV RL 193 RX3 yX3_cableLength wsX3_cableLength) := goodIn_app (goodIn_of _ (by decide +kernel)) ggL_law_X3_cableLength
set_option maxRecDepth 20000 in
theorem ggL_law_X4_cableLength : GoodIn wsL_law wsX4_cableLength := goodIn_r _ [638, 123, 115, 74, 244, 245, 246, 5, 247, 72, 179, 180, 181, 182, 73, 658, 659, 660, 661, 662, 663, 664, 665, 666, 667, 668, 669, 670, 671, 672, 673, 674, 675, 676, 677, 678, 679, 680, 681] (by decide +kernel) (by decide +kernel)
set_option maxRecDepth 20000 in
theorem gL_law_X4_cableLength : GoodIn wsL_law (wsV RL 196 RX4 yX4_cableLength wsX4_cableLength) := goodIn_app (goodIn_of _ (by decide +kernel)) ggL_law_X4_cableLength
end
section
theorem dL_law_0 : decode cL_law 0 = .ok (.new 8, 3) := by decide +kernel
theorem dL_law_3 : decode cL_law 3 = .ok (.dup, 1) := by decide +kernel
theorem dL_law_4 : decode cL_law 4 = .ok (.invokespecial 88, 3) := by decide +kernel
theorem dL_law_7 : decode cL_law 7 = .ok (.astore_n 1, 1) := by decide +kernel
theorem dL_law_8 : decode cL_law 8 = .ok (.new 89, 3) := by decide +kernel
theorem dL_law_11 : decode cL_law 11 = .ok (.dup, 1) := by decide +kernel
theorem dL_law_12 : decode cL_law 12 = .ok (.invokespecial 91, 3) := by decide +kernel
theorem dL_law_15 : decode cL_law 15 = .ok (.astore_n 2, 1) := by decide +kernel
theorem dL_law_16 : decode cL_law 16 = .ok (.iconst 1, 1) := by decide +kernel
theorem dL_law_17 : decode cL_law 17 = .ok (.newarray .long, 2) := by decide +kernel
theorem dL_law_19 : decode cL_law 19 = .ok (.astore_n 3, 1) := by decide +kernel
theorem dL_law_20 : decode cL_law 20 = .ok (.iconst 0, 1) := by decide +kernel
theorem dL_law_21 : decode cL_law 21 = .ok (.istore 4, 2) := by decide +kernel
theorem dL_law_23 : decode cL_law 23 = .ok (.iload 4, 2) := by decide +kernel
theorem dL_law_25 : decode cL_law 25 = .ok (.aload_n 0, 1) := by decide +kernel
theorem dL_law_26 : decode cL_law 26 = .ok (.arraylength, 1) := by decide +kernel
theorem dL_law_27 : decode cL_law 27 = .ok (.iconst 5, 1) := by decide +kernel
theorem dL_law_28 : decode cL_law 28 = .ok (.isub, 1) := by decide +kernel
theorem dL_law_29 : decode cL_law 29 = .ok (.if_icmp .gt 1708, 3) := by decide +kernel
theorem dL_law_32 : decode cL_law 32 = .ok (.aload_n 0, 1) := by decide +kernel
theorem dL_law_33 : decode cL_law 33 = .ok (.iload 4, 2) := by decide +kernel
theorem dL_law_35 : decode cL_law 35 = .ok (.iaload, 1) := by decide +kernel
theorem dL_law_36 : decode cL_law 36 = .ok (.bipush 31, 2) := by decide +kernel
theorem dL_law_38 : decode cL_law 38 = .ok (.iand, 1) := by decide +kernel
theorem dL_law_39 : decode cL_law 39 = .ok (.tableswitch 1692 0 27 #[125, 193, 285, 388, 468, 524, 592, 605, 649, 662, 675, 688, 744, 800, 856, 912, 996, 1080, 1176, 1260, 1323, 1398, 1473, 1486, 1542, 1610, 1666, 1679], 125) := by decide +kernel
theorem dL_law_164 : decode cL_law 164 = .ok (.aload_n 1, 1) := by decide +kernel
theorem dL_law_165 : decode cL_law 165 = .ok (.aload_n 0, 1) := by decide +kernel
theorem dL_law_166 : decode cL_law 166 = .ok (.iload 4, 2) := by decide +kernel
theorem dL_law_168 : decode cL_law 168 = .ok (.iconst 1, 1) := by decide +kernel
theorem dL_law_169 : decode cL_law 169 = .ok (.iadd, 1) := by decide +kernel
theorem dL_law_170 : decode cL_law 170 = .ok (.iaload, 1) := by decide +kernel
theorem dL_law_171 : decode cL_law 171 = .ok (.aload_n 0, 1) := by decide +kernel
theorem dL_law_172 : decode cL_law 172 = .ok (.iload 4, 2) := by decide +kernel
theorem dL_law_174 : decode cL_law 174 = .ok (.iconst 2, 1) := by decide +kernel
theorem dL_law_175 : decode cL_law 175 = .ok (.iadd, 1) := by decide +kernel
theorem dL_law_176 : decode cL_law 176 = .ok (.iaload, 1) := by decide +kernel
theorem dL_law_177 : decode cL_law 177 = .ok (.aload_n 3, 1) := by decide +kernel
theorem dL_law_178 : decode cL_law 178 = .ok (.invokestatic 92, 3) := by decide +kernel
theorem dL_law_181 : decode cL_law 181 = .ok (.istore 5, 2) := by decide +kernel
theorem dL_law_183 : decode cL_law 183 = .ok (.aload_n 2, 1) := by decide +kernel
theorem dL_law_184 : decode cL_law 184 = .ok (.aload_n 0, 1) := by decide +kernel
theorem dL_law_185 : decode cL_law 185 = .ok (.iload 4, 2) := by decide +kernel
theorem dL_law_187 : decode cL_law 187 = .ok (.iconst 1, 1) := by decide +kernel
theorem dL_law_188 : decode cL_law 188 = .ok (.iadd, 1) := by decide +kernel
theorem dL_law_189 : decode cL_law 189 = .ok (.iaload, 1) := by decide +kernel
theorem dL_law_190 : decode cL_law 190 = .ok (.aload_n 0, 1) := by decide +kernel
theorem dL_law_191 : decode cL_law 191 = .ok (.iload 4, 2) := by decide +kernel
theorem dL_law_193 : decode cL_law 193 = .ok (.iconst 2, 1) := by decide +kernel
theorem dL_law_194 : decode cL_law 194 = .ok (.iadd, 1) := by decide +kernel
theorem dL_law_195 : decode cL_law 195 = .ok (.iaload, 1) := by decide +kernel
theorem dL_law_196 : decode cL_law 196 = .ok (.invokevirtual 97, 3) := by decide +kernel
theorem dL_law_199 : decode cL_law 199 = .ok (.istore 6, 2) := by decide +kernel
theorem dL_law_201 : decode cL_law 201 = .ok (.aload_n 2, 1) := by decide +kernel
theorem dL_law_202 : decode cL_law 202 = .ok (.invokevirtual 98, 3) := by decide +kernel
theorem dL_law_205 : decode cL_law 205 = .ok (.iload 5, 2) := by decide +kernel
theorem dL_law_207 : decode cL_law 207 = .ok (.if_icmp .eq 5, 3) := by decide +kernel
theorem dL_law_210 : decode cL_law 210 = .ok (.iconst 0, 1) := by decide +kernel
theorem dL_law_211 : decode cL_law 211 = .ok (.ireturn, 1) := by decide +kernel
theorem dL_law_212 : decode cL_law 212 = .ok (.iload 5, 2) := by decide +kernel
theorem dL_law_214 : decode cL_law 214 = .ok (.ifCond .ne 15, 3) := by decide +kernel
theorem dL_law_217 : decode cL_law 217 = .ok (.aload_n 3, 1) := by decide +kernel
theorem dL_law_218 : decode cL_law 218 = .ok (.iconst 0, 1) := by decide +kernel
theorem dL_law_219 : decode cL_law 219 = .ok (.laload, 1) := by decide +kernel
theorem dL_law_220 : decode cL_law 220 = .ok (.iload 6, 2) := by decide +kernel
theorem dL_law_222 : decode cL_law 222 = .ok (.i2l, 1) := by decide +kernel
theorem dL_law_223 : decode cL_law 223 = .ok (.lcmp, 1) := by decide +kernel
theorem dL_law_224 : decode cL_law 224 = .ok (.ifCond .eq 5, 3) := by decide +kernel
theorem dL_law_227 : decode cL_law 227 = .ok (.iconst 0, 1) := by decide +kernel
theorem dL_law_228 : decode cL_law 228 = .ok (.ireturn, 1) := by decide +kernel
theorem dL_law_229 : decode cL_law 229 = .ok (.goto 1502, 3) := by decide +kernel
theorem dL_law_232 : decode cL_law 232 = .ok (.aload_n 1, 1) := by decide +kernel
theorem dL_law_233 : decode cL_law 233 = .ok (.aload_n 0, 1) := by decide +kernel
theorem dL_law_234 : decode cL_law 234 = .ok (.iload 4, 2) := by decide +kernel
theorem dL_law_236 : decode cL_law 236 = .ok (.iconst 1, 1) := by decide +kernel
theorem dL_law_237 : decode cL_law 237 = .ok (.iadd, 1) := by decide +kernel
theorem dL_law_238 : decode cL_law 238 = .ok (.iaload, 1) := by decide +kernel
theorem dL_law_239 : decode cL_law 239 = .ok (.aload_n 0, 1) := by decide +kernel
theorem dL_law_240 : decode cL_law 240 = .ok (.iload 4, 2) := by decide +kernel
theorem dL_law_242 : decode cL_law 242 = .ok (.iconst 2, 1) := by decide +kernel
theorem dL_law_243 : decode cL_law 243 = .ok (.iadd, 1) := by decide +kernel
theorem dL_law_244 : decode cL_law 244 = .ok (.iaload, 1) := by decide +kernel
theorem dL_law_245 : decode cL_law 245 = .ok (.aload_n 0, 1) := by decide +kernel
theorem dL_law_246 : decode cL_law 246 = .ok (.iload 4, 2) := by decide +kernel
theorem dL_law_248 : decode cL_law 248 = .ok (.iconst 3, 1) := by decide +kernel
theorem dL_law_249 : decode cL_law 249 = .ok (.iadd, 1) := by decide +kernel
theorem dL_law_250 : decode cL_law 250 = .ok (.iaload, 1) := by decide +kernel
theorem dL_law_251 : decode cL_law 251 = .ok (.aload_n 0, 1) := by decide +kernel
theorem dL_law_252 : decode cL_law 252 = .ok (.iload 4, 2) := by decide +kernel
theorem dL_law_254 : decode cL_law 254 = .ok (.iconst 4, 1) := by decide +kernel
theorem dL_law_255 : decode cL_law 255 = .ok (.iadd, 1) := by decide +kernel
theorem dL_law_256 : decode cL_law 256 = .ok (.iaload, 1) := by decide +kernel
theorem dL_law_257 : decode cL_law 257 = .ok (.aload_n 3, 1) := by decide +kernel
theorem dL_law_258 : decode cL_law 258 = .ok (.invokestatic 101, 3) := by decide +kernel
theorem dL_law_261 : decode cL_law 261 = .ok (.istore 5, 2) := by decide +kernel
theorem dL_law_263 : decode cL_law 263 = .ok (.aload_n 2, 1) := by decide +kernel
theorem dL_law_264 : decode cL_law 264 = .ok (.aload_n 0, 1) := by decide +kernel
theorem dL_law_265 : decode cL_law 265 = .ok (.iload 4, 2) := by decide +kernel
theorem dL_law_267 : decode cL_law 267 = .ok (.iconst 1, 1) := by decide +kernel
theorem dL_law_268 : decode cL_law 268 = .ok (.iadd, 1) := by decide +kernel
theorem dL_law_269 : decode cL_law 269 = .ok (.iaload, 1) := by decide +kernel
theorem dL_law_270 : decode cL_law 270 = .ok (.aload_n 0, 1) := by decide +kernel
theorem dL_law_271 : decode cL_law 271 = .ok (.iload 4, 2) := by decide +kernel
theorem dL_law_273 : decode cL_law 273 = .ok (.iconst 2, 1) := by decide +kernel
theorem dL_law_274 : decode cL_law 274 = .ok (.iadd, 1) := by decide +kernel
theorem dL_law_275 : decode cL_law 275 = .ok (.iaload, 1) := by decide +kernel
theorem dL_law_276 : decode cL_law 276 = .ok (.aload_n 0, 1) := by decide +kernel
theorem dL_law_277 : decode cL_law 277 = .ok (.iload 4, 2) := by decide +kernel
theorem dL_law_279 : decode cL_law 279 = .ok (.iconst 3, 1) := by decide +kernel
theorem dL_law_280 : decode cL_law 280 = .ok (.iadd, 1) := by decide +kernel
theorem dL_law_281 : decode cL_law 281 = .ok (.iaload, 1) := by decide +kernel
theorem dL_law_282 : decode cL_law 282 = .ok (.aload_n 0, 1) := by decide +kernel
theorem dL_law_283 : decode cL_law 283 = .ok (.iload 4, 2) := by decide +kernel
theorem dL_law_285 : decode cL_law 285 = .ok (.iconst 4, 1) := by decide +kernel
theorem dL_law_286 : decode cL_law 286 = .ok (.iadd, 1) := by decide +kernel
theorem dL_law_287 : decode cL_law 287 = .ok (.iaload, 1) := by decide +kernel
theorem dL_law_288 : decode cL_law 288 = .ok (.invokevirtual 104, 3) := by decide +kernel
theorem dL_law_291 : decode cL_law 291 = .ok (.istore 6, 2) := by decide +kernel
theorem dL_law_293 : decode cL_law 293 = .ok (.aload_n 2, 1) := by decide +kernel
theorem dL_law_294 : decode cL_law 294 = .ok (.invokevirtual 98, 3) := by decide +kernel
theorem dL_law_297 : decode cL_law 297 = .ok (.iload 5, 2) := by decide +kernel
theorem dL_law_299 : decode cL_law 299 = .ok (.if_icmp .eq 5, 3) := by decide +kernel
theorem dL_law_302 : decode cL_law 302 = .ok (.iconst 0, 1) := by decide +kernel
theorem dL_law_303 : decode cL_law 303 = .ok (.ireturn, 1) := by decide +kernel
theorem dL_law_304 : decode cL_law 304 = .ok (.iload 5, 2) := by decide +kernel
theorem dL_law_306 : decode cL_law 306 = .ok (.ifCond .ne 15, 3) := by decide +kernel
theorem dL_law_309 : decode cL_law 309 = .ok (.aload_n 3, 1) := by decide +kernel
theorem dL_law_310 : decode cL_law 310 = .ok (.iconst 0, 1) := by decide +kernel
theorem dL_law_311 : decode cL_law 311 = .ok (.laload, 1) := by decide +kernel
theorem dL_law_312 : decode cL_law 312 = .ok (.iload 6, 2) := by decide +kernel
theorem dL_law_314 : decode cL_law 314 = .ok (.i2l, 1) := by decide +kernel
theorem dL_law_315 : decode cL_law 315 = .ok (.lcmp, 1) := by decide +kernel
theorem dL_law_316 : decode cL_law 316 = .ok (.ifCond .eq 5, 3) := by decide +kernel
theorem dL_law_319 : decode cL_law 319 = .ok (.iconst 0, 1) := by decide +kernel
theorem dL_law_320 : decode cL_law 320 = .ok (.ireturn, 1) := by decide +kernel
theorem dL_law_321 : decode cL_law 321 = .ok (.goto 1410, 3) := by decide +kernel
theorem dL_law_324 : decode cL_law 324 = .ok (.aload_n 1, 1) := by decide +kernel
theorem dL_law_325 : decode cL_law 325 = .ok (.aload_n 0, 1) := by decide +kernel
theorem dL_law_326 : decode cL_law 326 = .ok (.iload 4, 2) := by decide +kernel
theorem dL_law_328 : decode cL_law 328 = .ok (.iconst 1, 1) := by decide +kernel
theorem dL_law_329 : decode cL_law 329 = .ok (.iadd, 1) := by decide +kernel
theorem dL_law_330 : decode cL_law 330 = .ok (.iaload, 1) := by decide +kernel
theorem dL_law_331 : decode cL_law 331 = .ok (.aload_n 0, 1) := by decide +kernel
theorem dL_law_332 : decode cL_law 332 = .ok (.iload 4, 2) := by decide +kernel
theorem dL_law_334 : decode cL_law 334 = .ok (.iconst 2, 1) := by decide +kernel
theorem dL_law_335 : decode cL_law 335 = .ok (.iadd, 1) := by decide +kernel
theorem dL_law_336 : decode cL_law 336 = .ok (.iaload, 1) := by decide +kernel
theorem dL_law_337 : decode cL_law 337 = .ok (.aload_n 0, 1) := by decide +kernel
theorem dL_law_338 : decode cL_law 338 = .ok (.iload 4, 2) := by decide +kernel
theorem dL_law_340 : decode cL_law 340 = .ok (.iconst 3, 1) := by decide +kernel
theorem dL_law_341 : decode cL_law 341 = .ok (.iadd, 1) := by decide +kernel
theorem dL_law_342 : decode cL_law 342 = .ok (.iaload, 1) := by decide +kernel
theorem dL_law_343 : decode cL_law 343 = .ok (.ifCond .eq 7, 3) := by decide +kernel
theorem dL_law_346 : decode cL_law 346 = .ok (.iconst 1, 1) := by decide +kernel
theorem dL_law_347 : decode cL_law 347 = .ok (.goto 4, 3) := by decide +kernel
theorem dL_law_350 : decode cL_law 350 = .ok (.iconst 0, 1) := by decide +kernel
theorem dL_law_351 : decode cL_law 351 = .ok (.aload_n 3, 1) := by decide +kernel
theorem dL_law_352 : decode cL_law 352 = .ok (.invokestatic 105, 3) := by decide +kernel
theorem dL_law_355 : decode cL_law 355 = .ok (.istore 5, 2) := by decide +kernel
theorem dL_law_357 : decode cL_law 357 = .ok (.aload_n 2, 1) := by decide +kernel
theorem dL_law_358 : decode cL_law 358 = .ok (.aload_n 0, 1) := by decide +kernel
theorem dL_law_359 : decode cL_law 359 = .ok (.iload 4, 2) := by decide +kernel
theorem dL_law_361 : decode cL_law 361 = .ok (.iconst 1, 1) := by decide +kernel
theorem dL_law_362 : decode cL_law 362 = .ok (.iadd, 1) := by decide +kernel
theorem dL_law_363 : decode cL_law 363 = .ok (.iaload, 1) := by decide +kernel
theorem dL_law_364 : decode cL_law 364 = .ok (.aload_n 0, 1) := by decide +kernel
theorem dL_law_365 : decode cL_law 365 = .ok (.iload 4, 2) := by decide +kernel
theorem dL_law_367 : decode cL_law 367 = .ok (.iconst 2, 1) := by decide +kernel
theorem dL_law_368 : decode cL_law 368 = .ok (.iadd, 1) := by decide +kernel
theorem dL_law_369 : decode cL_law 369 = .ok (.iaload, 1) := by decide +kernel
theorem dL_law_370 : decode cL_law 370 = .ok (.aload_n 0, 1) := by decide +kernel
theorem dL_law_371 : decode cL_law 371 = .ok (.iload 4, 2) := by decide +kernel
theorem dL_law_373 : decode cL_law 373 = .ok (.iconst 3, 1) := by decide +kernel
theorem dL_law_374 : decode cL_law 374 = .ok (.iadd, 1) := by decide +kernel
theorem dL_law_375 : decode cL_law 375 = .ok (.iaload, 1) := by decide +kernel
theorem dL_law_376 : decode cL_law 376 = .ok (.ifCond .eq 7, 3) := by decide +kernel
theorem dL_law_379 : decode cL_law 379 = .ok (.iconst 1, 1) := by decide +kernel
theorem dL_law_380 : decode cL_law 380 = .ok (.goto 4, 3) := by decide +kernel
theorem dL_law_383 : decode cL_law 383 = .ok (.iconst 0, 1) := by decide +kernel
theorem dL_law_384 : decode cL_law 384 = .ok (.invokevirtual 108, 3) := by decide +kernel
theorem dL_law_387 : decode cL_law 387 = .ok (.istore 6, 2) := by decide +kernel
theorem dL_law_389 : decode cL_law 389 = .ok (.aload_n 2, 1) := by decide +kernel
theorem dL_law_390 : decode cL_law 390 = .ok (.invokevirtual 98, 3) := by decide +kernel
theorem dL_law_393 : decode cL_law 393 = .ok (.iload 5, 2) := by decide +kernel
theorem dL_law_395 : decode cL_law 395 = .ok (.if_icmp .eq 5, 3) := by decide +kernel
theorem dL_law_398 : decode cL_law 398 = .ok (.iconst 0, 1) := by decide +kernel
theorem dL_law_399 : decode cL_law 399 = .ok (.ireturn, 1) := by decide +kernel
theorem dL_law_400 : decode cL_law 400 = .ok (.iload 5, 2) := by decide +kernel
theorem dL_law_402 : decode cL_law 402 = .ok (.ifCond .ne 22, 3) := by decide +kernel
theorem dL_law_405 : decode cL_law 405 = .ok (.aload_n 3, 1) := by decide +kernel
theorem dL_law_406 : decode cL_law 406 = .ok (.iconst 0, 1) := by decide +kernel
theorem dL_law_407 : decode cL_law 407 = .ok (.laload, 1) := by decide +kernel
theorem dL_law_408 : decode cL_law 408 = .ok (.iload 6, 2) := by decide +kernel
theorem dL_law_410 : decode cL_law 410 = .ok (.ifCond .eq 7, 3) := by decide +kernel
theorem dL_law_413 : decode cL_law 413 = .ok (.lconst 1, 1) := by decide +kernel
theorem dL_law_414 : decode cL_law 414 = .ok (.goto 4, 3) := by decide +kernel
theorem dL_law_417 : decode cL_law 417 = .ok (.lconst 0, 1) := by decide +kernel
theorem dL_law_418 : decode cL_law 418 = .ok (.lcmp, 1) := by decide +kernel
theorem dL_law_419 : decode cL_law 419 = .ok (.ifCond .eq 5, 3) := by decide +kernel
theorem dL_law_422 : decode cL_law 422 = .ok (.iconst 0, 1) := by decide +kernel
theorem dL_law_423 : decode cL_law 423 = .ok (.ireturn, 1) := by decide +kernel
theorem dL_law_424 : decode cL_law 424 = .ok (.goto 1307, 3) := by decide +kernel
theorem dL_law_427 : decode cL_law 427 = .ok (.aload_n 1, 1) := by decide +kernel
theorem dL_law_428 : decode cL_law 428 = .ok (.aload_n 0, 1) := by decide +kernel
theorem dL_law_429 : decode cL_law 429 = .ok (.iload 4, 2) := by decide +kernel
theorem dL_law_431 : decode cL_law 431 = .ok (.iconst 1, 1) := by decide +kernel
theorem dL_law_432 : decode cL_law 432 = .ok (.iadd, 1) := by decide +kernel
theorem dL_law_433 : decode cL_law 433 = .ok (.iaload, 1) := by decide +kernel
theorem dL_law_434 : decode cL_law 434 = .ok (.aload_n 0, 1) := by decide +kernel
theorem dL_law_435 : decode cL_law 435 = .ok (.iload 4, 2) := by decide +kernel
theorem dL_law_437 : decode cL_law 437 = .ok (.iconst 2, 1) := by decide +kernel
theorem dL_law_438 : decode cL_law 438 = .ok (.iadd, 1) := by decide +kernel
theorem dL_law_439 : decode cL_law 439 = .ok (.iaload, 1) := by decide +kernel
theorem dL_law_440 : decode cL_law 440 = .ok (.aload_n 0, 1) := by decide +kernel
theorem dL_law_441 : decode cL_law 441 = .ok (.iload 4, 2) := by decide +kernel
theorem dL_law_443 : decode cL_law 443 = .ok (.iconst 3, 1) := by decide +kernel
theorem dL_law_444 : decode cL_law 444 = .ok (.iadd, 1) := by decide +kernel
theorem dL_law_445 : decode cL_law 445 = .ok (.iaload, 1) := by decide +kernel
theorem dL_law_446 : decode cL_law 446 = .ok (.aload_n 3, 1) := by decide +kernel
theorem dL_law_447 : decode cL_law 447 = .ok (.invokestatic 109, 3) := by decide +kernel
theorem dL_law_450 : decode cL_law 450 = .ok (.istore 5, 2) := by decide +kernel
theorem dL_law_452 : decode cL_law 452 = .ok (.aload_n 2, 1) := by decide +kernel
theorem dL_law_453 : decode cL_law 453 = .ok (.aload_n 0, 1) := by decide +kernel
theorem dL_law_454 : decode cL_law 454 = .ok (.iload 4, 2) := by decide +kernel
theorem dL_law_456 : decode cL_law 456 = .ok (.iconst 1, 1) := by decide +kernel
theorem dL_law_457 : decode cL_law 457 = .ok (.iadd, 1) := by decide +kernel
theorem dL_law_458 : decode cL_law 458 = .ok (.iaload, 1) := by decide +kernel
theorem dL_law_459 : decode cL_law 459 = .ok (.aload_n 0, 1) := by decide +kernel
theorem dL_law_460 : decode cL_law 460 = .ok (.iload 4, 2) := by decide +kernel
theorem dL_law_462 : decode cL_law 462 = .ok (.iconst 2, 1) := by decide +kernel
theorem dL_law_463 : decode cL_law 463 = .ok (.iadd, 1) := by decide +kernel
theorem dL_law_464 : decode cL_law 464 = .ok (.iaload, 1) := by decide +kernel
theorem dL_law_465 : decode cL_law 465 = .ok (.aload_n 0, 1) := by decide +kernel
theorem dL_law_466 : decode cL_law 466 = .ok (.iload 4, 2) := by decide +kernel
theorem dL_law_468 : decode cL_law 468 = .ok (.iconst 3, 1) := by decide +kernel
theorem dL_law_469 : decode cL_law 469 = .ok (.iadd, 1) := by decide +kernel
theorem dL_law_470 : decode cL_law 470 = .ok (.iaload, 1) := by decide +kernel
theorem dL_law_471 : decode cL_law 471 = .ok (.invokevirtual 112, 3) := by decide +kernel
theorem dL_law_474 : decode cL_law 474 = .ok (.istore 6, 2) := by decide +kernel
theorem dL_law_476 : decode cL_law 476 = .ok (.aload_n 2, 1) := by decide +kernel
theorem dL_law_477 : decode cL_law 477 = .ok (.invokevirtual 98, 3) := by decide +kernel
theorem dL_law_480 : decode cL_law 480 = .ok (.iload 5, 2) := by decide +kernel
theorem dL_law_482 : decode cL_law 482 = .ok (.if_icmp .eq 5, 3) := by decide +kernel
theorem dL_law_485 : decode cL_law 485 = .ok (.iconst 0, 1) := by decide +kernel
theorem dL_law_486 : decode cL_law 486 = .ok (.ireturn, 1) := by decide +kernel
theorem dL_law_487 : decode cL_law 487 = .ok (.iload 5, 2) := by decide +kernel
theorem dL_law_489 : decode cL_law 489 = .ok (.ifCond .ne 15, 3) := by decide +kernel
theorem dL_law_492 : decode cL_law 492 = .ok (.aload_n 3, 1) := by decide +kernel
theorem dL_law_493 : decode cL_law 493 = .ok (.iconst 0, 1) := by decide +kernel
theorem dL_law_494 : decode cL_law 494 = .ok (.laload, 1) := by decide +kernel
theorem dL_law_495 : decode cL_law 495 = .ok (.iload 6, 2) := by decide +kernel
theorem dL_law_497 : decode cL_law 497 = .ok (.i2l, 1) := by decide +kernel
theorem dL_law_498 : decode cL_law 498 = .ok (.lcmp, 1) := by decide +kernel
theorem dL_law_499 : decode cL_law 499 = .ok (.ifCond .eq 5, 3) := by decide +kernel
theorem dL_law_502 : decode cL_law 502 = .ok (.iconst 0, 1) := by decide +kernel
theorem dL_law_503 : decode cL_law 503 = .ok (.ireturn, 1) := by decide +kernel
theorem dL_law_504 : decode cL_law 504 = .ok (.goto 1227, 3) := by decide +kernel
theorem dL_law_507 : decode cL_law 507 = .ok (.aload_n 1, 1) := by decide +kernel
theorem dL_law_508 : decode cL_law 508 = .ok (.aload_n 0, 1) := by decide +kernel
theorem dL_law_509 : decode cL_law 509 = .ok (.iload 4, 2) := by decide +kernel
theorem dL_law_511 : decode cL_law 511 = .ok (.iconst 1, 1) := by decide +kernel
theorem dL_law_512 : decode cL_law 512 = .ok (.iadd, 1) := by decide +kernel
theorem dL_law_513 : decode cL_law 513 = .ok (.iaload, 1) := by decide +kernel
theorem dL_law_514 : decode cL_law 514 = .ok (.aload_n 3, 1) := by decide +kernel
theorem dL_law_515 : decode cL_law 515 = .ok (.invokestatic 113, 3) := by decide +kernel
theorem dL_law_518 : decode cL_law 518 = .ok (.istore 5, 2) := by decide +kernel
theorem dL_law_520 : decode cL_law 520 = .ok (.aload_n 2, 1) := by decide +kernel
theorem dL_law_521 : decode cL_law 521 = .ok (.aload_n 0, 1) := by decide +kernel
theorem dL_law_522 : decode cL_law 522 = .ok (.iload 4, 2) := by decide +kernel
theorem dL_law_524 : decode cL_law 524 = .ok (.iconst 1, 1) := by decide +kernel
theorem dL_law_525 : decode cL_law 525 = .ok (.iadd, 1) := by decide +kernel
theorem dL_law_526 : decode cL_law 526 = .ok (.iaload, 1) := by decide +kernel
theorem dL_law_527 : decode cL_law 527 = .ok (.invokevirtual 116, 3) := by decide +kernel
theorem dL_law_530 : decode cL_law 530 = .ok (.istore 6, 2) := by decide +kernel
theorem dL_law_532 : decode cL_law 532 = .ok (.aload_n 2, 1) := by decide +kernel
theorem dL_law_533 : decode cL_law 533 = .ok (.invokevirtual 98, 3) := by decide +kernel
theorem dL_law_536 : decode cL_law 536 = .ok (.iload 5, 2) := by decide +kernel
theorem dL_law_538 : decode cL_law 538 = .ok (.if_icmp .eq 5, 3) := by decide +kernel
theorem dL_law_541 : decode cL_law 541 = .ok (.iconst 0, 1) := by decide +kernel
theorem dL_law_542 : decode cL_law 542 = .ok (.ireturn, 1) := by decide +kernel
theorem dL_law_543 : decode cL_law 543 = .ok (.iload 5, 2) := by decide +kernel
theorem dL_law_545 : decode cL_law 545 = .ok (.ifCond .ne 15, 3) := by decide +kernel
theorem dL_law_548 : decode cL_law 548 = .ok (.aload_n 3, 1) := by decide +kernel
theorem dL_law_549 : decode cL_law 549 = .ok (.iconst 0, 1) := by decide +kernel
theorem dL_law_550 : decode cL_law 550 = .ok (.laload, 1) := by decide +kernel
theorem dL_law_551 : decode cL_law 551 = .ok (.iload 6, 2) := by decide +kernel
theorem dL_law_553 : decode cL_law 553 = .ok (.i2l, 1) := by decide +kernel
theorem dL_law_554 : decode cL_law 554 = .ok (.lcmp, 1) := by decide +kernel
theorem dL_law_555 : decode cL_law 555 = .ok (.ifCond .eq 5, 3) := by decide +kernel
theorem dL_law_558 : decode cL_law 558 = .ok (.iconst 0, 1) := by decide +kernel
theorem dL_law_559 : decode cL_law 559 = .ok (.ireturn, 1) := by decide +kernel
theorem dL_law_560 : decode cL_law 560 = .ok (.goto 1171, 3) := by decide +kernel
theorem dL_law_563 : decode cL_law 563 = .ok (.aload_n 1, 1) := by decide +kernel
theorem dL_law_564 : decode cL_law 564 = .ok (.aload_n 0, 1) := by decide +kernel
theorem dL_law_565 : decode cL_law 565 = .ok (.iload 4, 2) := by decide +kernel
theorem dL_law_567 : decode cL_law 567 = .ok (.iconst 1, 1) := by decide +kernel
theorem dL_law_568 : decode cL_law 568 = .ok (.iadd, 1) := by decide +kernel
theorem dL_law_569 : decode cL_law 569 = .ok (.iaload, 1) := by decide +kernel
theorem dL_law_570 : decode cL_law 570 = .ok (.aload_n 0, 1) := by decide +kernel
theorem dL_law_571 : decode cL_law 571 = .ok (.iload 4, 2) := by decide +kernel
theorem dL_law_573 : decode cL_law 573 = .ok (.iconst 2, 1) := by decide +kernel
theorem dL_law_574 : decode cL_law 574 = .ok (.iadd, 1) := by decide +kernel
theorem dL_law_575 : decode cL_law 575 = .ok (.iaload, 1) := by decide +kernel
theorem dL_law_576 : decode cL_law 576 = .ok (.aload_n 3, 1) := by decide +kernel
theorem dL_law_577 : decode cL_law 577 = .ok (.invokestatic 117, 3) := by decide +kernel
theorem dL_law_580 : decode cL_law 580 = .ok (.istore 5, 2) := by decide +kernel
theorem dL_law_582 : decode cL_law 582 = .ok (.aload_n 2, 1) := by decide +kernel
theorem dL_law_583 : decode cL_law 583 = .ok (.aload_n 0, 1) := by decide +kernel
theorem dL_law_584 : decode cL_law 584 = .ok (.iload 4, 2) := by decide +kernel
theorem dL_law_586 : decode cL_law 586 = .ok (.iconst 1, 1) := by decide +kernel
theorem dL_law_587 : decode cL_law 587 = .ok (.iadd, 1) := by decide +kernel
theorem dL_law_588 : decode cL_law 588 = .ok (.iaload, 1) := by decide +kernel
theorem dL_law_589 : decode cL_law 589 = .ok (.aload_n 0, 1) := by decide +kernel
theorem dL_law_590 : decode cL_law 590 = .ok (.iload 4, 2) := by decide +kernel
theorem dL_law_592 : decode cL_law 592 = .ok (.iconst 2, 1) := by decide +kernel
theorem dL_law_593 : decode cL_law 593 = .ok (.iadd, 1) := by decide +kernel
theorem dL_law_594 : decode cL_law 594 = .ok (.iaload, 1) := by decide +kernel
theorem dL_law_595 : decode cL_law 595 = .ok (.invokevirtual 119, 3) := by decide +kernel
theorem dL_law_598 : decode cL_law 598 = .ok (.istore 6, 2) := by decide +kernel
theorem dL_law_600 : decode cL_law 600 = .ok (.aload_n 2, 1) := by decide +kernel
theorem dL_law_601 : decode cL_law 601 = .ok (.invokevirtual 98, 3) := by decide +kernel
theorem dL_law_604 : decode cL_law 604 = .ok (.iload 5, 2) := by decide +kernel
theorem dL_law_606 : decode cL_law 606 = .ok (.if_icmp .eq 5, 3) := by decide +kernel
theorem dL_law_609 : decode cL_law 609 = .ok (.iconst 0, 1) := by decide +kernel
theorem dL_law_610 : decode cL_law 610 = .ok (.ireturn, 1) := by decide +kernel
theorem dL_law_611 : decode cL_law 611 = .ok (.iload 5, 2) := by decide +kernel
theorem dL_law_613 : decode cL_law 613 = .ok (.ifCond .ne 15, 3) := by decide +kernel
theorem dL_law_616 : decode cL_law 616 = .ok (.aload_n 3, 1) := by decide +kernel
theorem dL_law_617 : decode cL_law 617 = .ok (.iconst 0, 1) := by decide +kernel
theorem dL_law_618 : decode cL_law 618 = .ok (.laload, 1) := by decide +kernel
theorem dL_law_619 : decode cL_law 619 = .ok (.iload 6, 2) := by decide +kernel
theorem dL_law_621 : decode cL_law 621 = .ok (.i2l, 1) := by decide +kernel
theorem dL_law_622 : decode cL_law 622 = .ok (.lcmp, 1) := by decide +kernel
theorem dL_law_623 : decode cL_law 623 = .ok (.ifCond .eq 5, 3) := by decide +kernel
theorem dL_law_626 : decode cL_law 626 = .ok (.iconst 0, 1) := by decide +kernel
theorem dL_law_627 : decode cL_law 627 = .ok (.ireturn, 1) := by decide +kernel
theorem dL_law_628 : decode cL_law 628 = .ok (.goto 1103, 3) := by decide +kernel
theorem dL_law_631 : decode cL_law 631 = .ok (.aload_n 1, 1) := by decide +kernel
theorem dL_law_632 : decode cL_law 632 = .ok (.invokevirtual 120, 3) := by decide +kernel
theorem dL_law_635 : decode cL_law 635 = .ok (.aload_n 2, 1) := by decide +kernel
theorem dL_law_636 : decode cL_law 636 = .ok (.invokevirtual 123, 3) := by decide +kernel
theorem dL_law_639 : decode cL_law 639 = .ok (.if_icmp .eq 1092, 3) := by decide +kernel
theorem dL_law_642 : decode cL_law 642 = .ok (.iconst 0, 1) := by decide +kernel
theorem dL_law_643 : decode cL_law 643 = .ok (.ireturn, 1) := by decide +kernel
theorem dL_law_644 : decode cL_law 644 = .ok (.aload_n 1, 1) := by decide +kernel
theorem dL_law_645 : decode cL_law 645 = .ok (.aload_n 3, 1) := by decide +kernel
theorem dL_law_646 : decode cL_law 646 = .ok (.invokestatic 124, 3) := by decide +kernel
theorem dL_law_649 : decode cL_law 649 = .ok (.istore 5, 2) := by decide +kernel
theorem dL_law_651 : decode cL_law 651 = .ok (.aload_n 2, 1) := by decide +kernel
theorem dL_law_652 : decode cL_law 652 = .ok (.invokevirtual 127, 3) := by decide +kernel
theorem dL_law_655 : decode cL_law 655 = .ok (.istore 6, 2) := by decide +kernel
theorem dL_law_657 : decode cL_law 657 = .ok (.aload_n 2, 1) := by decide +kernel
theorem dL_law_658 : decode cL_law 658 = .ok (.invokevirtual 98, 3) := by decide +kernel
theorem dL_law_661 : decode cL_law 661 = .ok (.iload 5, 2) := by decide +kernel
theorem dL_law_663 : decode cL_law 663 = .ok (.if_icmp .eq 5, 3) := by decide +kernel
theorem dL_law_666 : decode cL_law 666 = .ok (.iconst 0, 1) := by decide +kernel
theorem dL_law_667 : decode cL_law 667 = .ok (.ireturn, 1) := by decide +kernel
theorem dL_law_668 : decode cL_law 668 = .ok (.iload 5, 2) := by decide +kernel
theorem dL_law_670 : decode cL_law 670 = .ok (.ifCond .ne 15, 3) := by decide +kernel
theorem dL_law_673 : decode cL_law 673 = .ok (.aload_n 3, 1) := by decide +kernel
theorem dL_law_674 : decode cL_law 674 = .ok (.iconst 0, 1) := by decide +kernel
theorem dL_law_675 : decode cL_law 675 = .ok (.laload, 1) := by decide +kernel
theorem dL_law_676 : decode cL_law 676 = .ok (.iload 6, 2) := by decide +kernel
theorem dL_law_678 : decode cL_law 678 = .ok (.i2l, 1) := by decide +kernel
theorem dL_law_679 : decode cL_law 679 = .ok (.lcmp, 1) := by decide +kernel
theorem dL_law_680 : decode cL_law 680 = .ok (.ifCond .eq 5, 3) := by decide +kernel
theorem dL_law_683 : decode cL_law 683 = .ok (.iconst 0, 1) := by decide +kernel
theorem dL_law_684 : decode cL_law 684 = .ok (.ireturn, 1) := by decide +kernel
theorem dL_law_685 : decode cL_law 685 = .ok (.goto 1046, 3) := by decide +kernel
theorem dL_law_688 : decode cL_law 688 = .ok (.aload_n 1, 1) := by decide +kernel
theorem dL_law_689 : decode cL_law 689 = .ok (.invokevirtual 128, 3) := by decide +kernel
theorem dL_law_692 : decode cL_law 692 = .ok (.aload_n 2, 1) := by decide +kernel
theorem dL_law_693 : decode cL_law 693 = .ok (.invokevirtual 131, 3) := by decide +kernel
theorem dL_law_696 : decode cL_law 696 = .ok (.if_icmp .eq 1035, 3) := by decide +kernel
theorem dL_law_699 : decode cL_law 699 = .ok (.iconst 0, 1) := by decide +kernel
theorem dL_law_700 : decode cL_law 700 = .ok (.ireturn, 1) := by decide +kernel
theorem dL_law_701 : decode cL_law 701 = .ok (.aload_n 1, 1) := by decide +kernel
theorem dL_law_702 : decode cL_law 702 = .ok (.invokevirtual 132, 3) := by decide +kernel
theorem dL_law_705 : decode cL_law 705 = .ok (.aload_n 2, 1) := by decide +kernel
theorem dL_law_706 : decode cL_law 706 = .ok (.invokevirtual 135, 3) := by decide +kernel
theorem dL_law_709 : decode cL_law 709 = .ok (.if_icmp .eq 1022, 3) := by decide +kernel
theorem dL_law_712 : decode cL_law 712 = .ok (.iconst 0, 1) := by decide +kernel
theorem dL_law_713 : decode cL_law 713 = .ok (.ireturn, 1) := by decide +kernel
theorem dL_law_714 : decode cL_law 714 = .ok (.aload_n 1, 1) := by decide +kernel
theorem dL_law_715 : decode cL_law 715 = .ok (.invokevirtual 136, 3) := by decide +kernel
theorem dL_law_718 : decode cL_law 718 = .ok (.aload_n 2, 1) := by decide +kernel
theorem dL_law_719 : decode cL_law 719 = .ok (.invokevirtual 139, 3) := by decide +kernel
theorem dL_law_722 : decode cL_law 722 = .ok (.if_icmp .eq 1009, 3) := by decide +kernel
theorem dL_law_725 : decode cL_law 725 = .ok (.iconst 0, 1) := by decide +kernel
theorem dL_law_726 : decode cL_law 726 = .ok (.ireturn, 1) := by decide +kernel
theorem dL_law_727 : decode cL_law 727 = .ok (.aload_n 1, 1) := by decide +kernel
theorem dL_law_728 : decode cL_law 728 = .ok (.aload_n 0, 1) := by decide +kernel
theorem dL_law_729 : decode cL_law 729 = .ok (.iload 4, 2) := by decide +kernel
theorem dL_law_731 : decode cL_law 731 = .ok (.iconst 1, 1) := by decide +kernel
theorem dL_law_732 : decode cL_law 732 = .ok (.iadd, 1) := by decide +kernel
theorem dL_law_733 : decode cL_law 733 = .ok (.iaload, 1) := by decide +kernel
theorem dL_law_734 : decode cL_law 734 = .ok (.aload_n 3, 1) := by decide +kernel
theorem dL_law_735 : decode cL_law 735 = .ok (.invokestatic 140, 3) := by decide +kernel
theorem dL_law_738 : decode cL_law 738 = .ok (.istore 5, 2) := by decide +kernel
theorem dL_law_740 : decode cL_law 740 = .ok (.aload_n 2, 1) := by decide +kernel
theorem dL_law_741 : decode cL_law 741 = .ok (.aload_n 0, 1) := by decide +kernel
theorem dL_law_742 : decode cL_law 742 = .ok (.iload 4, 2) := by decide +kernel
theorem dL_law_744 : decode cL_law 744 = .ok (.iconst 1, 1) := by decide +kernel
theorem dL_law_745 : decode cL_law 745 = .ok (.iadd, 1) := by decide +kernel
theorem dL_law_746 : decode cL_law 746 = .ok (.iaload, 1) := by decide +kernel
theorem dL_law_747 : decode cL_law 747 = .ok (.invokevirtual 142, 3) := by decide +kernel
theorem dL_law_750 : decode cL_law 750 = .ok (.istore 6, 2) := by decide +kernel
theorem dL_law_752 : decode cL_law 752 = .ok (.aload_n 2, 1) := by decide +kernel
theorem dL_law_753 : decode cL_law 753 = .ok (.invokevirtual 98, 3) := by decide +kernel
theorem dL_law_756 : decode cL_law 756 = .ok (.iload 5, 2) := by decide +kernel
theorem dL_law_758 : decode cL_law 758 = .ok (.if_icmp .eq 5, 3) := by decide +kernel
theorem dL_law_761 : decode cL_law 761 = .ok (.iconst 0, 1) := by decide +kernel
theorem dL_law_762 : decode cL_law 762 = .ok (.ireturn, 1) := by decide +kernel
theorem dL_law_763 : decode cL_law 763 = .ok (.iload 5, 2) := by decide +kernel
theorem dL_law_765 : decode cL_law 765 = .ok (.ifCond .ne 15, 3) := by decide +kernel
theorem dL_law_768 : decode cL_law 768 = .ok (.aload_n 3, 1) := by decide +kernel
theorem dL_law_769 : decode cL_law 769 = .ok (.iconst 0, 1) := by decide +kernel
theorem dL_law_770 : decode cL_law 770 = .ok (.laload, 1) := by decide +kernel
theorem dL_law_771 : decode cL_law 771 = .ok (.iload 6, 2) := by decide +kernel
theorem dL_law_773 : decode cL_law 773 = .ok (.i2l, 1) := by decide +kernel
theorem dL_law_774 : decode cL_law 774 = .ok (.lcmp, 1) := by decide +kernel
theorem dL_law_775 : decode cL_law 775 = .ok (.ifCond .eq 5, 3) := by decide +kernel
theorem dL_law_778 : decode cL_law 778 = .ok (.iconst 0, 1) := by decide +kernel
theorem dL_law_779 : decode cL_law 779 = .ok (.ireturn, 1) := by decide +kernel
theorem dL_law_780 : decode cL_law 780 = .ok (.goto 951, 3) := by decide +kernel
theorem dL_law_783 : decode cL_law 783 = .ok (.aload_n 1, 1) := by decide +kernel
theorem dL_law_784 : decode cL_law 784 = .ok (.aload_n 0, 1) := by decide +kernel
theorem dL_law_785 : decode cL_law 785 = .ok (.iload 4, 2) := by decide +kernel
theorem dL_law_787 : decode cL_law 787 = .ok (.iconst 1, 1) := by decide +kernel
theorem dL_law_788 : decode cL_law 788 = .ok (.iadd, 1) := by decide +kernel
theorem dL_law_789 : decode cL_law 789 = .ok (.iaload, 1) := by decide +kernel
theorem dL_law_790 : decode cL_law 790 = .ok (.aload_n 3, 1) := by decide +kernel
theorem dL_law_791 : decode cL_law 791 = .ok (.invokestatic 143, 3) := by decide +kernel
theorem dL_law_794 : decode cL_law 794 = .ok (.istore 5, 2) := by decide +kernel
theorem dL_law_796 : decode cL_law 796 = .ok (.aload_n 2, 1) := by decide +kernel
theorem dL_law_797 : decode cL_law 797 = .ok (.aload_n 0, 1) := by decide +kernel
theorem dL_law_798 : decode cL_law 798 = .ok (.iload 4, 2) := by decide +kernel
theorem dL_law_800 : decode cL_law 800 = .ok (.iconst 1, 1) := by decide +kernel
theorem dL_law_801 : decode cL_law 801 = .ok (.iadd, 1) := by decide +kernel
theorem dL_law_802 : decode cL_law 802 = .ok (.iaload, 1) := by decide +kernel
theorem dL_law_803 : decode cL_law 803 = .ok (.invokevirtual 145, 3) := by decide +kernel
theorem dL_law_806 : decode cL_law 806 = .ok (.istore 6, 2) := by decide +kernel
theorem dL_law_808 : decode cL_law 808 = .ok (.aload_n 2, 1) := by decide +kernel
theorem dL_law_809 : decode cL_law 809 = .ok (.invokevirtual 98, 3) := by decide +kernel
theorem dL_law_812 : decode cL_law 812 = .ok (.iload 5, 2) := by decide +kernel
theorem dL_law_814 : decode cL_law 814 = .ok (.if_icmp .eq 5, 3) := by decide +kernel
theorem dL_law_817 : decode cL_law 817 = .ok (.iconst 0, 1) := by decide +kernel
theorem dL_law_818 : decode cL_law 818 = .ok (.ireturn, 1) := by decide +kernel
theorem dL_law_819 : decode cL_law 819 = .ok (.iload 5, 2) := by decide +kernel
theorem dL_law_821 : decode cL_law 821 = .ok (.ifCond .ne 15, 3) := by decide +kernel
theorem dL_law_824 : decode cL_law 824 = .ok (.aload_n 3, 1) := by decide +kernel
theorem dL_law_825 : decode cL_law 825 = .ok (.iconst 0, 1) := by decide +kernel
theorem dL_law_826 : decode cL_law 826 = .ok (.laload, 1) := by decide +kernel
theorem dL_law_827 : decode cL_law 827 = .ok (.iload 6, 2) := by decide +kernel
theorem dL_law_829 : decode cL_law 829 = .ok (.i2l, 1) := by decide +kernel
theorem dL_law_830 : decode cL_law 830 = .ok (.lcmp, 1) := by decide +kernel
theorem dL_law_831 : decode cL_law 831 = .ok (.ifCond .eq 5, 3) := by decide +kernel
theorem dL_law_834 : decode cL_law 834 = .ok (.iconst 0, 1) := by decide +kernel
theorem dL_law_835 : decode cL_law 835 = .ok (.ireturn, 1) := by decide +kernel
theorem dL_law_836 : decode cL_law 836 = .ok (.goto 895, 3) := by decide +kernel
theorem dL_law_839 : decode cL_law 839 = .ok (.aload_n 1, 1) := by decide +kernel
theorem dL_law_840 : decode cL_law 840 = .ok (.aload_n 0, 1) := by decide +kernel
theorem dL_law_841 : decode cL_law 841 = .ok (.iload 4, 2) := by decide +kernel
theorem dL_law_843 : decode cL_law 843 = .ok (.iconst 1, 1) := by decide +kernel
theorem dL_law_844 : decode cL_law 844 = .ok (.iadd, 1) := by decide +kernel
theorem dL_law_845 : decode cL_law 845 = .ok (.iaload, 1) := by decide +kernel
theorem dL_law_846 : decode cL_law 846 = .ok (.aload_n 3, 1) := by decide +kernel
theorem dL_law_847 : decode cL_law 847 = .ok (.invokestatic 146, 3) := by decide +kernel
theorem dL_law_850 : decode cL_law 850 = .ok (.istore 5, 2) := by decide +kernel
theorem dL_law_852 : decode cL_law 852 = .ok (.aload_n 2, 1) := by decide +kernel
theorem dL_law_853 : decode cL_law 853 = .ok (.aload_n 0, 1) := by decide +kernel
theorem dL_law_854 : decode cL_law 854 = .ok (.iload 4, 2) := by decide +kernel
theorem dL_law_856 : decode cL_law 856 = .ok (.iconst 1, 1) := by decide +kernel
theorem dL_law_857 : decode cL_law 857 = .ok (.iadd, 1) := by decide +kernel
theorem dL_law_858 : decode cL_law 858 = .ok (.iaload, 1) := by decide +kernel
theorem dL_law_859 : decode cL_law 859 = .ok (.invokevirtual 148, 3) := by decide +kernel
theorem dL_law_862 : decode cL_law 862 = .ok (.istore 6, 2) := by decide +kernel
theorem dL_law_864 : decode cL_law 864 = .ok (.aload_n 2, 1) := by decide +kernel
theorem dL_law_865 : decode cL_law 865 = .ok (.invokevirtual 98, 3) := by decide +kernel
theorem dL_law_868 : decode cL_law 868 = .ok (.iload 5, 2) := by decide +kernel
theorem dL_law_870 : decode cL_law 870 = .ok (.if_icmp .eq 5, 3) := by decide +kernel
theorem dL_law_873 : decode cL_law 873 = .ok (.iconst 0, 1) := by decide +kernel
theorem dL_law_874 : decode cL_law 874 = .ok (.ireturn, 1) := by decide +kernel
theorem dL_law_875 : decode cL_law 875 = .ok (.iload 5, 2) := by decide +kernel
theorem dL_law_877 : decode cL_law 877 = .ok (.ifCond .ne 15, 3) := by decide +kernel
theorem dL_law_880 : decode cL_law 880 = .ok (.aload_n 3, 1) := by decide +kernel
theorem dL_law_881 : decode cL_law 881 = .ok (.iconst 0, 1) := by decide +kernel
theorem dL_law_882 : decode cL_law 882 = .ok (.laload, 1) := by decide +kernel
theorem dL_law_883 : decode cL_law 883 = .ok (.iload 6, 2) := by decide +kernel
theorem dL_law_885 : decode cL_law 885 = .ok (.i2l, 1) := by decide +kernel
theorem dL_law_886 : decode cL_law 886 = .ok (.lcmp, 1) := by decide +kernel
theorem dL_law_887 : decode cL_law 887 = .ok (.ifCond .eq 5, 3) := by decide +kernel
theorem dL_law_890 : decode cL_law 890 = .ok (.iconst 0, 1) := by decide +kernel
theorem dL_law_891 : decode cL_law 891 = .ok (.ireturn, 1) := by decide +kernel
theorem dL_law_892 : decode cL_law 892 = .ok (.goto 839, 3) := by decide +kernel
theorem dL_law_895 : decode cL_law 895 = .ok (.aload_n 1, 1) := by decide +kernel
theorem dL_law_896 : decode cL_law 896 = .ok (.aload_n 0, 1) := by decide +kernel
theorem dL_law_897 : decode cL_law 897 = .ok (.iload 4, 2) := by decide +kernel
theorem dL_law_899 : decode cL_law 899 = .ok (.iconst 1, 1) := by decide +kernel
theorem dL_law_900 : decode cL_law 900 = .ok (.iadd, 1) := by decide +kernel
theorem dL_law_901 : decode cL_law 901 = .ok (.iaload, 1) := by decide +kernel
theorem dL_law_902 : decode cL_law 902 = .ok (.aload_n 3, 1) := by decide +kernel
theorem dL_law_903 : decode cL_law 903 = .ok (.invokestatic 149, 3) := by decide +kernel
theorem dL_law_906 : decode cL_law 906 = .ok (.istore 5, 2) := by decide +kernel
end
section
theorem dL_law_908 : decode cL_law 908 = .ok (.aload_n 2, 1) := by decide +kernel
theorem dL_law_909 : decode cL_law 909 = .ok (.aload_n 0, 1) := by decide +kernel
theorem dL_law_910 : decode cL_law 910 = .ok (.iload 4, 2) := by decide +kernel
theorem dL_law_912 : decode cL_law 912 = .ok (.iconst 1, 1) := by decide +kernel
theorem dL_law_913 : decode cL_law 913 = .ok (.iadd, 1) := by decide +kernel
theorem dL_law_914 : decode cL_law 914 = .ok (.iaload, 1) := by decide +kernel
theorem dL_law_915 : decode cL_law 915 = .ok (.invokevirtual 151, 3) := by decide +kernel
theorem dL_law_918 : decode cL_law 918 = .ok (.istore 6, 2) := by decide +kernel
theorem dL_law_920 : decode cL_law 920 = .ok (.aload_n 2, 1) := by decide +kernel
theorem dL_law_921 : decode cL_law 921 = .ok (.invokevirtual 98, 3) := by decide +kernel
theorem dL_law_924 : decode cL_law 924 = .ok (.iload 5, 2) := by decide +kernel
theorem dL_law_926 : decode cL_law 926 = .ok (.if_icmp .eq 5, 3) := by decide +kernel
theorem dL_law_929 : decode cL_law 929 = .ok (.iconst 0, 1) := by decide +kernel
theorem dL_law_930 : decode cL_law 930 = .ok (.ireturn, 1) := by decide +kernel
theorem dL_law_931 : decode cL_law 931 = .ok (.iload 5, 2) := by decide +kernel
theorem dL_law_933 : decode cL_law 933 = .ok (.ifCond .ne 15, 3) := by decide +kernel
theorem dL_law_936 : decode cL_law 936 = .ok (.aload_n 3, 1) := by decide +kernel
theorem dL_law_937 : decode cL_law 937 = .ok (.iconst 0, 1) := by decide +kernel
theorem dL_law_938 : decode cL_law 938 = .ok (.laload, 1) := by decide +kernel
theorem dL_law_939 : decode cL_law 939 = .ok (.iload 6, 2) := by decide +kernel
theorem dL_law_941 : decode cL_law 941 = .ok (.i2l, 1) := by decide +kernel
theorem dL_law_942 : decode cL_law 942 = .ok (.lcmp, 1) := by decide +kernel
theorem dL_law_943 : decode cL_law 943 = .ok (.ifCond .eq 5, 3) := by decide +kernel
theorem dL_law_946 : decode cL_law 946 = .ok (.iconst 0, 1) := by decide +kernel
theorem dL_law_947 : decode cL_law 947 = .ok (.ireturn, 1) := by decide +kernel
theorem dL_law_948 : decode cL_law 948 = .ok (.goto 783, 3) := by decide +kernel
theorem dL_law_951 : decode cL_law 951 = .ok (.aload_n 1, 1) := by decide +kernel
theorem dL_law_952 : decode cL_law 952 = .ok (.aload_n 0, 1) := by decide +kernel
theorem dL_law_953 : decode cL_law 953 = .ok (.iload 4, 2) := by decide +kernel
theorem dL_law_955 : decode cL_law 955 = .ok (.iconst 1, 1) := by decide +kernel
theorem dL_law_956 : decode cL_law 956 = .ok (.iadd, 1) := by decide +kernel
theorem dL_law_957 : decode cL_law 957 = .ok (.iaload, 1) := by decide +kernel
theorem dL_law_958 : decode cL_law 958 = .ok (.aload_n 0, 1) := by decide +kernel
theorem dL_law_959 : decode cL_law 959 = .ok (.iload 4, 2) := by decide +kernel
theorem dL_law_961 : decode cL_law 961 = .ok (.iconst 2, 1) := by decide +kernel
theorem dL_law_962 : decode cL_law 962 = .ok (.iadd, 1) := by decide +kernel
theorem dL_law_963 : decode cL_law 963 = .ok (.iaload, 1) := by decide +kernel
theorem dL_law_964 : decode cL_law 964 = .ok (.ifCond .eq 7, 3) := by decide +kernel
theorem dL_law_967 : decode cL_law 967 = .ok (.iconst 1, 1) := by decide +kernel
theorem dL_law_968 : decode cL_law 968 = .ok (.goto 4, 3) := by decide +kernel
theorem dL_law_971 : decode cL_law 971 = .ok (.iconst 0, 1) := by decide +kernel
theorem dL_law_972 : decode cL_law 972 = .ok (.aload_n 3, 1) := by decide +kernel
theorem dL_law_973 : decode cL_law 973 = .ok (.invokestatic 152, 3) := by decide +kernel
theorem dL_law_976 : decode cL_law 976 = .ok (.istore 5, 2) := by decide +kernel
theorem dL_law_978 : decode cL_law 978 = .ok (.aload_n 2, 1) := by decide +kernel
theorem dL_law_979 : decode cL_law 979 = .ok (.aload_n 0, 1) := by decide +kernel
theorem dL_law_980 : decode cL_law 980 = .ok (.iload 4, 2) := by decide +kernel
theorem dL_law_982 : decode cL_law 982 = .ok (.iconst 1, 1) := by decide +kernel
theorem dL_law_983 : decode cL_law 983 = .ok (.iadd, 1) := by decide +kernel
theorem dL_law_984 : decode cL_law 984 = .ok (.iaload, 1) := by decide +kernel
theorem dL_law_985 : decode cL_law 985 = .ok (.aload_n 0, 1) := by decide +kernel
theorem dL_law_986 : decode cL_law 986 = .ok (.iload 4, 2) := by decide +kernel
theorem dL_law_988 : decode cL_law 988 = .ok (.iconst 2, 1) := by decide +kernel
theorem dL_law_989 : decode cL_law 989 = .ok (.iadd, 1) := by decide +kernel
theorem dL_law_990 : decode cL_law 990 = .ok (.iaload, 1) := by decide +kernel
theorem dL_law_991 : decode cL_law 991 = .ok (.ifCond .eq 7, 3) := by decide +kernel
theorem dL_law_994 : decode cL_law 994 = .ok (.iconst 1, 1) := by decide +kernel
theorem dL_law_995 : decode cL_law 995 = .ok (.goto 4, 3) := by decide +kernel
theorem dL_law_998 : decode cL_law 998 = .ok (.iconst 0, 1) := by decide +kernel
theorem dL_law_999 : decode cL_law 999 = .ok (.invokevirtual 155, 3) := by decide +kernel
theorem dL_law_1002 : decode cL_law 1002 = .ok (.istore 6, 2) := by decide +kernel
theorem dL_law_1004 : decode cL_law 1004 = .ok (.aload_n 2, 1) := by decide +kernel
theorem dL_law_1005 : decode cL_law 1005 = .ok (.invokevirtual 98, 3) := by decide +kernel
theorem dL_law_1008 : decode cL_law 1008 = .ok (.iload 5, 2) := by decide +kernel
theorem dL_law_1010 : decode cL_law 1010 = .ok (.if_icmp .eq 5, 3) := by decide +kernel
theorem dL_law_1013 : decode cL_law 1013 = .ok (.iconst 0, 1) := by decide +kernel
theorem dL_law_1014 : decode cL_law 1014 = .ok (.ireturn, 1) := by decide +kernel
theorem dL_law_1015 : decode cL_law 1015 = .ok (.iload 5, 2) := by decide +kernel
theorem dL_law_1017 : decode cL_law 1017 = .ok (.ifCond .ne 15, 3) := by decide +kernel
theorem dL_law_1020 : decode cL_law 1020 = .ok (.aload_n 3, 1) := by decide +kernel
theorem dL_law_1021 : decode cL_law 1021 = .ok (.iconst 0, 1) := by decide +kernel
theorem dL_law_1022 : decode cL_law 1022 = .ok (.laload, 1) := by decide +kernel
theorem dL_law_1023 : decode cL_law 1023 = .ok (.iload 6, 2) := by decide +kernel
theorem dL_law_1025 : decode cL_law 1025 = .ok (.i2l, 1) := by decide +kernel
theorem dL_law_1026 : decode cL_law 1026 = .ok (.lcmp, 1) := by decide +kernel
theorem dL_law_1027 : decode cL_law 1027 = .ok (.ifCond .eq 5, 3) := by decide +kernel
theorem dL_law_1030 : decode cL_law 1030 = .ok (.iconst 0, 1) := by decide +kernel
theorem dL_law_1031 : decode cL_law 1031 = .ok (.ireturn, 1) := by decide +kernel
theorem dL_law_1032 : decode cL_law 1032 = .ok (.goto 699, 3) := by decide +kernel
theorem dL_law_1035 : decode cL_law 1035 = .ok (.aload_n 1, 1) := by decide +kernel
theorem dL_law_1036 : decode cL_law 1036 = .ok (.aload_n 0, 1) := by decide +kernel
theorem dL_law_1037 : decode cL_law 1037 = .ok (.iload 4, 2) := by decide +kernel
theorem dL_law_1039 : decode cL_law 1039 = .ok (.iconst 1, 1) := by decide +kernel
theorem dL_law_1040 : decode cL_law 1040 = .ok (.iadd, 1) := by decide +kernel
theorem dL_law_1041 : decode cL_law 1041 = .ok (.iaload, 1) := by decide +kernel
theorem dL_law_1042 : decode cL_law 1042 = .ok (.aload_n 0, 1) := by decide +kernel
theorem dL_law_1043 : decode cL_law 1043 = .ok (.iload 4, 2) := by decide +kernel
theorem dL_law_1045 : decode cL_law 1045 = .ok (.iconst 2, 1) := by decide +kernel
theorem dL_law_1046 : decode cL_law 1046 = .ok (.iadd, 1) := by decide +kernel
theorem dL_law_1047 : decode cL_law 1047 = .ok (.iaload, 1) := by decide +kernel
theorem dL_law_1048 : decode cL_law 1048 = .ok (.ifCond .eq 7, 3) := by decide +kernel
theorem dL_law_1051 : decode cL_law 1051 = .ok (.iconst 1, 1) := by decide +kernel
theorem dL_law_1052 : decode cL_law 1052 = .ok (.goto 4, 3) := by decide +kernel
theorem dL_law_1055 : decode cL_law 1055 = .ok (.iconst 0, 1) := by decide +kernel
theorem dL_law_1056 : decode cL_law 1056 = .ok (.aload_n 3, 1) := by decide +kernel
theorem dL_law_1057 : decode cL_law 1057 = .ok (.invokestatic 156, 3) := by decide +kernel
theorem dL_law_1060 : decode cL_law 1060 = .ok (.istore 5, 2) := by decide +kernel
theorem dL_law_1062 : decode cL_law 1062 = .ok (.aload_n 2, 1) := by decide +kernel
theorem dL_law_1063 : decode cL_law 1063 = .ok (.aload_n 0, 1) := by decide +kernel
theorem dL_law_1064 : decode cL_law 1064 = .ok (.iload 4, 2) := by decide +kernel
theorem dL_law_1066 : decode cL_law 1066 = .ok (.iconst 1, 1) := by decide +kernel
theorem dL_law_1067 : decode cL_law 1067 = .ok (.iadd, 1) := by decide +kernel
theorem dL_law_1068 : decode cL_law 1068 = .ok (.iaload, 1) := by decide +kernel
theorem dL_law_1069 : decode cL_law 1069 = .ok (.aload_n 0, 1) := by decide +kernel
theorem dL_law_1070 : decode cL_law 1070 = .ok (.iload 4, 2) := by decide +kernel
theorem dL_law_1072 : decode cL_law 1072 = .ok (.iconst 2, 1) := by decide +kernel
theorem dL_law_1073 : decode cL_law 1073 = .ok (.iadd, 1) := by decide +kernel
theorem dL_law_1074 : decode cL_law 1074 = .ok (.iaload, 1) := by decide +kernel
theorem dL_law_1075 : decode cL_law 1075 = .ok (.ifCond .eq 7, 3) := by decide +kernel
theorem dL_law_1078 : decode cL_law 1078 = .ok (.iconst 1, 1) := by decide +kernel
theorem dL_law_1079 : decode cL_law 1079 = .ok (.goto 4, 3) := by decide +kernel
theorem dL_law_1082 : decode cL_law 1082 = .ok (.iconst 0, 1) := by decide +kernel
theorem dL_law_1083 : decode cL_law 1083 = .ok (.invokevirtual 158, 3) := by decide +kernel
theorem dL_law_1086 : decode cL_law 1086 = .ok (.istore 6, 2) := by decide +kernel
theorem dL_law_1088 : decode cL_law 1088 = .ok (.aload_n 2, 1) := by decide +kernel
theorem dL_law_1089 : decode cL_law 1089 = .ok (.invokevirtual 98, 3) := by decide +kernel
theorem dL_law_1092 : decode cL_law 1092 = .ok (.iload 5, 2) := by decide +kernel
theorem dL_law_1094 : decode cL_law 1094 = .ok (.if_icmp .eq 5, 3) := by decide +kernel
theorem dL_law_1097 : decode cL_law 1097 = .ok (.iconst 0, 1) := by decide +kernel
theorem dL_law_1098 : decode cL_law 1098 = .ok (.ireturn, 1) := by decide +kernel
theorem dL_law_1099 : decode cL_law 1099 = .ok (.iload 5, 2) := by decide +kernel
theorem dL_law_1101 : decode cL_law 1101 = .ok (.ifCond .ne 15, 3) := by decide +kernel
theorem dL_law_1104 : decode cL_law 1104 = .ok (.aload_n 3, 1) := by decide +kernel
theorem dL_law_1105 : decode cL_law 1105 = .ok (.iconst 0, 1) := by decide +kernel
theorem dL_law_1106 : decode cL_law 1106 = .ok (.laload, 1) := by decide +kernel
theorem dL_law_1107 : decode cL_law 1107 = .ok (.iload 6, 2) := by decide +kernel
theorem dL_law_1109 : decode cL_law 1109 = .ok (.i2l, 1) := by decide +kernel
theorem dL_law_1110 : decode cL_law 1110 = .ok (.lcmp, 1) := by decide +kernel
theorem dL_law_1111 : decode cL_law 1111 = .ok (.ifCond .eq 5, 3) := by decide +kernel
theorem dL_law_1114 : decode cL_law 1114 = .ok (.iconst 0, 1) := by decide +kernel
theorem dL_law_1115 : decode cL_law 1115 = .ok (.ireturn, 1) := by decide +kernel
theorem dL_law_1116 : decode cL_law 1116 = .ok (.goto 615, 3) := by decide +kernel
theorem dL_law_1119 : decode cL_law 1119 = .ok (.aload_n 1, 1) := by decide +kernel
theorem dL_law_1120 : decode cL_law 1120 = .ok (.aload_n 0, 1) := by decide +kernel
theorem dL_law_1121 : decode cL_law 1121 = .ok (.iload 4, 2) := by decide +kernel
theorem dL_law_1123 : decode cL_law 1123 = .ok (.iconst 1, 1) := by decide +kernel
theorem dL_law_1124 : decode cL_law 1124 = .ok (.iadd, 1) := by decide +kernel
theorem dL_law_1125 : decode cL_law 1125 = .ok (.iaload, 1) := by decide +kernel
theorem dL_law_1126 : decode cL_law 1126 = .ok (.aload_n 0, 1) := by decide +kernel
theorem dL_law_1127 : decode cL_law 1127 = .ok (.iload 4, 2) := by decide +kernel
theorem dL_law_1129 : decode cL_law 1129 = .ok (.iconst 2, 1) := by decide +kernel
theorem dL_law_1130 : decode cL_law 1130 = .ok (.iadd, 1) := by decide +kernel
theorem dL_law_1131 : decode cL_law 1131 = .ok (.iaload, 1) := by decide +kernel
theorem dL_law_1132 : decode cL_law 1132 = .ok (.ifCond .eq 7, 3) := by decide +kernel
theorem dL_law_1135 : decode cL_law 1135 = .ok (.iconst 1, 1) := by decide +kernel
theorem dL_law_1136 : decode cL_law 1136 = .ok (.goto 4, 3) := by decide +kernel
theorem dL_law_1139 : decode cL_law 1139 = .ok (.iconst 0, 1) := by decide +kernel
theorem dL_law_1140 : decode cL_law 1140 = .ok (.aload_n 0, 1) := by decide +kernel
theorem dL_law_1141 : decode cL_law 1141 = .ok (.iload 4, 2) := by decide +kernel
theorem dL_law_1143 : decode cL_law 1143 = .ok (.iconst 3, 1) := by decide +kernel
theorem dL_law_1144 : decode cL_law 1144 = .ok (.iadd, 1) := by decide +kernel
theorem dL_law_1145 : decode cL_law 1145 = .ok (.iaload, 1) := by decide +kernel
theorem dL_law_1146 : decode cL_law 1146 = .ok (.aload_n 3, 1) := by decide +kernel
theorem dL_law_1147 : decode cL_law 1147 = .ok (.invokestatic 159, 3) := by decide +kernel
theorem dL_law_1150 : decode cL_law 1150 = .ok (.istore 5, 2) := by decide +kernel
theorem dL_law_1152 : decode cL_law 1152 = .ok (.aload_n 2, 1) := by decide +kernel
theorem dL_law_1153 : decode cL_law 1153 = .ok (.aload_n 0, 1) := by decide +kernel
theorem dL_law_1154 : decode cL_law 1154 = .ok (.iload 4, 2) := by decide +kernel
theorem dL_law_1156 : decode cL_law 1156 = .ok (.iconst 1, 1) := by decide +kernel
theorem dL_law_1157 : decode cL_law 1157 = .ok (.iadd, 1) := by decide +kernel
theorem dL_law_1158 : decode cL_law 1158 = .ok (.iaload, 1) := by decide +kernel
theorem dL_law_1159 : decode cL_law 1159 = .ok (.aload_n 0, 1) := by decide +kernel
theorem dL_law_1160 : decode cL_law 1160 = .ok (.iload 4, 2) := by decide +kernel
theorem dL_law_1162 : decode cL_law 1162 = .ok (.iconst 2, 1) := by decide +kernel
theorem dL_law_1163 : decode cL_law 1163 = .ok (.iadd, 1) := by decide +kernel
theorem dL_law_1164 : decode cL_law 1164 = .ok (.iaload, 1) := by decide +kernel
theorem dL_law_1165 : decode cL_law 1165 = .ok (.ifCond .eq 7, 3) := by decide +kernel
theorem dL_law_1168 : decode cL_law 1168 = .ok (.iconst 1, 1) := by decide +kernel
theorem dL_law_1169 : decode cL_law 1169 = .ok (.goto 4, 3) := by decide +kernel
theorem dL_law_1172 : decode cL_law 1172 = .ok (.iconst 0, 1) := by decide +kernel
theorem dL_law_1173 : decode cL_law 1173 = .ok (.aload_n 0, 1) := by decide +kernel
theorem dL_law_1174 : decode cL_law 1174 = .ok (.iload 4, 2) := by decide +kernel
theorem dL_law_1176 : decode cL_law 1176 = .ok (.iconst 3, 1) := by decide +kernel
theorem dL_law_1177 : decode cL_law 1177 = .ok (.iadd, 1) := by decide +kernel
theorem dL_law_1178 : decode cL_law 1178 = .ok (.iaload, 1) := by decide +kernel
theorem dL_law_1179 : decode cL_law 1179 = .ok (.invokevirtual 162, 3) := by decide +kernel
theorem dL_law_1182 : decode cL_law 1182 = .ok (.istore 6, 2) := by decide +kernel
theorem dL_law_1184 : decode cL_law 1184 = .ok (.aload_n 2, 1) := by decide +kernel
theorem dL_law_1185 : decode cL_law 1185 = .ok (.invokevirtual 98, 3) := by decide +kernel
theorem dL_law_1188 : decode cL_law 1188 = .ok (.iload 5, 2) := by decide +kernel
theorem dL_law_1190 : decode cL_law 1190 = .ok (.if_icmp .eq 5, 3) := by decide +kernel
theorem dL_law_1193 : decode cL_law 1193 = .ok (.iconst 0, 1) := by decide +kernel
theorem dL_law_1194 : decode cL_law 1194 = .ok (.ireturn, 1) := by decide +kernel
theorem dL_law_1195 : decode cL_law 1195 = .ok (.iload 5, 2) := by decide +kernel
theorem dL_law_1197 : decode cL_law 1197 = .ok (.ifCond .ne 15, 3) := by decide +kernel
theorem dL_law_1200 : decode cL_law 1200 = .ok (.aload_n 3, 1) := by decide +kernel
theorem dL_law_1201 : decode cL_law 1201 = .ok (.iconst 0, 1) := by decide +kernel
theorem dL_law_1202 : decode cL_law 1202 = .ok (.laload, 1) := by decide +kernel
theorem dL_law_1203 : decode cL_law 1203 = .ok (.iload 6, 2) := by decide +kernel
theorem dL_law_1205 : decode cL_law 1205 = .ok (.i2l, 1) := by decide +kernel
theorem dL_law_1206 : decode cL_law 1206 = .ok (.lcmp, 1) := by decide +kernel
theorem dL_law_1207 : decode cL_law 1207 = .ok (.ifCond .eq 5, 3) := by decide +kernel
theorem dL_law_1210 : decode cL_law 1210 = .ok (.iconst 0, 1) := by decide +kernel
theorem dL_law_1211 : decode cL_law 1211 = .ok (.ireturn, 1) := by decide +kernel
theorem dL_law_1212 : decode cL_law 1212 = .ok (.goto 519, 3) := by decide +kernel
theorem dL_law_1215 : decode cL_law 1215 = .ok (.aload_n 1, 1) := by decide +kernel
theorem dL_law_1216 : decode cL_law 1216 = .ok (.aload_n 0, 1) := by decide +kernel
theorem dL_law_1217 : decode cL_law 1217 = .ok (.iload 4, 2) := by decide +kernel
theorem dL_law_1219 : decode cL_law 1219 = .ok (.iconst 1, 1) := by decide +kernel
theorem dL_law_1220 : decode cL_law 1220 = .ok (.iadd, 1) := by decide +kernel
theorem dL_law_1221 : decode cL_law 1221 = .ok (.iaload, 1) := by decide +kernel
theorem dL_law_1222 : decode cL_law 1222 = .ok (.aload_n 0, 1) := by decide +kernel
theorem dL_law_1223 : decode cL_law 1223 = .ok (.iload 4, 2) := by decide +kernel
theorem dL_law_1225 : decode cL_law 1225 = .ok (.iconst 2, 1) := by decide +kernel
theorem dL_law_1226 : decode cL_law 1226 = .ok (.iadd, 1) := by decide +kernel
theorem dL_law_1227 : decode cL_law 1227 = .ok (.iaload, 1) := by decide +kernel
theorem dL_law_1228 : decode cL_law 1228 = .ok (.ifCond .eq 7, 3) := by decide +kernel
theorem dL_law_1231 : decode cL_law 1231 = .ok (.iconst 1, 1) := by decide +kernel
theorem dL_law_1232 : decode cL_law 1232 = .ok (.goto 4, 3) := by decide +kernel
theorem dL_law_1235 : decode cL_law 1235 = .ok (.iconst 0, 1) := by decide +kernel
theorem dL_law_1236 : decode cL_law 1236 = .ok (.aload_n 3, 1) := by decide +kernel
theorem dL_law_1237 : decode cL_law 1237 = .ok (.invokestatic 163, 3) := by decide +kernel
theorem dL_law_1240 : decode cL_law 1240 = .ok (.istore 5, 2) := by decide +kernel
theorem dL_law_1242 : decode cL_law 1242 = .ok (.aload_n 2, 1) := by decide +kernel
theorem dL_law_1243 : decode cL_law 1243 = .ok (.aload_n 0, 1) := by decide +kernel
theorem dL_law_1244 : decode cL_law 1244 = .ok (.iload 4, 2) := by decide +kernel
theorem dL_law_1246 : decode cL_law 1246 = .ok (.iconst 1, 1) := by decide +kernel
theorem dL_law_1247 : decode cL_law 1247 = .ok (.iadd, 1) := by decide +kernel
theorem dL_law_1248 : decode cL_law 1248 = .ok (.iaload, 1) := by decide +kernel
theorem dL_law_1249 : decode cL_law 1249 = .ok (.aload_n 0, 1) := by decide +kernel
theorem dL_law_1250 : decode cL_law 1250 = .ok (.iload 4, 2) := by decide +kernel
theorem dL_law_1252 : decode cL_law 1252 = .ok (.iconst 2, 1) := by decide +kernel
theorem dL_law_1253 : decode cL_law 1253 = .ok (.iadd, 1) := by decide +kernel
theorem dL_law_1254 : decode cL_law 1254 = .ok (.iaload, 1) := by decide +kernel
theorem dL_law_1255 : decode cL_law 1255 = .ok (.ifCond .eq 7, 3) := by decide +kernel
theorem dL_law_1258 : decode cL_law 1258 = .ok (.iconst 1, 1) := by decide +kernel
theorem dL_law_1259 : decode cL_law 1259 = .ok (.goto 4, 3) := by decide +kernel
theorem dL_law_1262 : decode cL_law 1262 = .ok (.iconst 0, 1) := by decide +kernel
theorem dL_law_1263 : decode cL_law 1263 = .ok (.invokevirtual 165, 3) := by decide +kernel
theorem dL_law_1266 : decode cL_law 1266 = .ok (.istore 6, 2) := by decide +kernel
theorem dL_law_1268 : decode cL_law 1268 = .ok (.aload_n 2, 1) := by decide +kernel
theorem dL_law_1269 : decode cL_law 1269 = .ok (.invokevirtual 98, 3) := by decide +kernel
theorem dL_law_1272 : decode cL_law 1272 = .ok (.iload 5, 2) := by decide +kernel
theorem dL_law_1274 : decode cL_law 1274 = .ok (.if_icmp .eq 5, 3) := by decide +kernel
theorem dL_law_1277 : decode cL_law 1277 = .ok (.iconst 0, 1) := by decide +kernel
theorem dL_law_1278 : decode cL_law 1278 = .ok (.ireturn, 1) := by decide +kernel
theorem dL_law_1279 : decode cL_law 1279 = .ok (.iload 5, 2) := by decide +kernel
theorem dL_law_1281 : decode cL_law 1281 = .ok (.ifCond .ne 15, 3) := by decide +kernel
theorem dL_law_1284 : decode cL_law 1284 = .ok (.aload_n 3, 1) := by decide +kernel
theorem dL_law_1285 : decode cL_law 1285 = .ok (.iconst 0, 1) := by decide +kernel
theorem dL_law_1286 : decode cL_law 1286 = .ok (.laload, 1) := by decide +kernel
theorem dL_law_1287 : decode cL_law 1287 = .ok (.iload 6, 2) := by decide +kernel
theorem dL_law_1289 : decode cL_law 1289 = .ok (.i2l, 1) := by decide +kernel
theorem dL_law_1290 : decode cL_law 1290 = .ok (.lcmp, 1) := by decide +kernel
theorem dL_law_1291 : decode cL_law 1291 = .ok (.ifCond .eq 5, 3) := by decide +kernel
theorem dL_law_1294 : decode cL_law 1294 = .ok (.iconst 0, 1) := by decide +kernel
theorem dL_law_1295 : decode cL_law 1295 = .ok (.ireturn, 1) := by decide +kernel
theorem dL_law_1296 : decode cL_law 1296 = .ok (.goto 435, 3) := by decide +kernel
theorem dL_law_1299 : decode cL_law 1299 = .ok (.aload_n 1, 1) := by decide +kernel
theorem dL_law_1300 : decode cL_law 1300 = .ok (.aload_n 0, 1) := by decide +kernel
theorem dL_law_1301 : decode cL_law 1301 = .ok (.iload 4, 2) := by decide +kernel
theorem dL_law_1303 : decode cL_law 1303 = .ok (.iconst 1, 1) := by decide +kernel
theorem dL_law_1304 : decode cL_law 1304 = .ok (.iadd, 1) := by decide +kernel
theorem dL_law_1305 : decode cL_law 1305 = .ok (.iaload, 1) := by decide +kernel
theorem dL_law_1306 : decode cL_law 1306 = .ok (.aload_n 3, 1) := by decide +kernel
theorem dL_law_1307 : decode cL_law 1307 = .ok (.invokestatic 166, 3) := by decide +kernel
theorem dL_law_1310 : decode cL_law 1310 = .ok (.istore 5, 2) := by decide +kernel
theorem dL_law_1312 : decode cL_law 1312 = .ok (.aload_n 2, 1) := by decide +kernel
theorem dL_law_1313 : decode cL_law 1313 = .ok (.aload_n 0, 1) := by decide +kernel
theorem dL_law_1314 : decode cL_law 1314 = .ok (.iload 4, 2) := by decide +kernel
theorem dL_law_1316 : decode cL_law 1316 = .ok (.iconst 1, 1) := by decide +kernel
theorem dL_law_1317 : decode cL_law 1317 = .ok (.iadd, 1) := by decide +kernel
theorem dL_law_1318 : decode cL_law 1318 = .ok (.iaload, 1) := by decide +kernel
theorem dL_law_1319 : decode cL_law 1319 = .ok (.invokevirtual 168, 3) := by decide +kernel
theorem dL_law_1322 : decode cL_law 1322 = .ok (.istore 6, 2) := by decide +kernel
theorem dL_law_1324 : decode cL_law 1324 = .ok (.aload_n 2, 1) := by decide +kernel
theorem dL_law_1325 : decode cL_law 1325 = .ok (.invokevirtual 98, 3) := by decide +kernel
theorem dL_law_1328 : decode cL_law 1328 = .ok (.iload 5, 2) := by decide +kernel
theorem dL_law_1330 : decode cL_law 1330 = .ok (.if_icmp .eq 5, 3) := by decide +kernel
theorem dL_law_1333 : decode cL_law 1333 = .ok (.iconst 0, 1) := by decide +kernel
theorem dL_law_1334 : decode cL_law 1334 = .ok (.ireturn, 1) := by decide +kernel
theorem dL_law_1335 : decode cL_law 1335 = .ok (.iload 5, 2) := by decide +kernel
theorem dL_law_1337 : decode cL_law 1337 = .ok (.ifCond .ne 22, 3) := by decide +kernel
theorem dL_law_1340 : decode cL_law 1340 = .ok (.aload_n 3, 1) := by decide +kernel
theorem dL_law_1341 : decode cL_law 1341 = .ok (.iconst 0, 1) := by decide +kernel
theorem dL_law_1342 : decode cL_law 1342 = .ok (.laload, 1) := by decide +kernel
theorem dL_law_1343 : decode cL_law 1343 = .ok (.iload 6, 2) := by decide +kernel
theorem dL_law_1345 : decode cL_law 1345 = .ok (.ifCond .eq 7, 3) := by decide +kernel
theorem dL_law_1348 : decode cL_law 1348 = .ok (.lconst 1, 1) := by decide +kernel
theorem dL_law_1349 : decode cL_law 1349 = .ok (.goto 4, 3) := by decide +kernel
theorem dL_law_1352 : decode cL_law 1352 = .ok (.lconst 0, 1) := by decide +kernel
theorem dL_law_1353 : decode cL_law 1353 = .ok (.lcmp, 1) := by decide +kernel
theorem dL_law_1354 : decode cL_law 1354 = .ok (.ifCond .eq 5, 3) := by decide +kernel
theorem dL_law_1357 : decode cL_law 1357 = .ok (.iconst 0, 1) := by decide +kernel
theorem dL_law_1358 : decode cL_law 1358 = .ok (.ireturn, 1) := by decide +kernel
theorem dL_law_1359 : decode cL_law 1359 = .ok (.goto 372, 3) := by decide +kernel
theorem dL_law_1362 : decode cL_law 1362 = .ok (.aload_n 1, 1) := by decide +kernel
theorem dL_law_1363 : decode cL_law 1363 = .ok (.aload_n 0, 1) := by decide +kernel
theorem dL_law_1364 : decode cL_law 1364 = .ok (.iload 4, 2) := by decide +kernel
theorem dL_law_1366 : decode cL_law 1366 = .ok (.iconst 1, 1) := by decide +kernel
theorem dL_law_1367 : decode cL_law 1367 = .ok (.iadd, 1) := by decide +kernel
theorem dL_law_1368 : decode cL_law 1368 = .ok (.iaload, 1) := by decide +kernel
theorem dL_law_1369 : decode cL_law 1369 = .ok (.aload_n 0, 1) := by decide +kernel
theorem dL_law_1370 : decode cL_law 1370 = .ok (.iload 4, 2) := by decide +kernel
theorem dL_law_1372 : decode cL_law 1372 = .ok (.iconst 2, 1) := by decide +kernel
theorem dL_law_1373 : decode cL_law 1373 = .ok (.iadd, 1) := by decide +kernel
theorem dL_law_1374 : decode cL_law 1374 = .ok (.iaload, 1) := by decide +kernel
theorem dL_law_1375 : decode cL_law 1375 = .ok (.aload_n 3, 1) := by decide +kernel
theorem dL_law_1376 : decode cL_law 1376 = .ok (.invokestatic 169, 3) := by decide +kernel
theorem dL_law_1379 : decode cL_law 1379 = .ok (.istore 5, 2) := by decide +kernel
theorem dL_law_1381 : decode cL_law 1381 = .ok (.aload_n 2, 1) := by decide +kernel
theorem dL_law_1382 : decode cL_law 1382 = .ok (.aload_n 0, 1) := by decide +kernel
theorem dL_law_1383 : decode cL_law 1383 = .ok (.iload 4, 2) := by decide +kernel
theorem dL_law_1385 : decode cL_law 1385 = .ok (.iconst 1, 1) := by decide +kernel
theorem dL_law_1386 : decode cL_law 1386 = .ok (.iadd, 1) := by decide +kernel
theorem dL_law_1387 : decode cL_law 1387 = .ok (.iaload, 1) := by decide +kernel
theorem dL_law_1388 : decode cL_law 1388 = .ok (.aload_n 0, 1) := by decide +kernel
theorem dL_law_1389 : decode cL_law 1389 = .ok (.iload 4, 2) := by decide +kernel
theorem dL_law_1391 : decode cL_law 1391 = .ok (.iconst 2, 1) := by decide +kernel
theorem dL_law_1392 : decode cL_law 1392 = .ok (.iadd, 1) := by decide +kernel
theorem dL_law_1393 : decode cL_law 1393 = .ok (.iaload, 1) := by decide +kernel
theorem dL_law_1394 : decode cL_law 1394 = .ok (.invokevirtual 171, 3) := by decide +kernel
theorem dL_law_1397 : decode cL_law 1397 = .ok (.istore 6, 2) := by decide +kernel
theorem dL_law_1399 : decode cL_law 1399 = .ok (.aload_n 2, 1) := by decide +kernel
theorem dL_law_1400 : decode cL_law 1400 = .ok (.invokevirtual 98, 3) := by decide +kernel
theorem dL_law_1403 : decode cL_law 1403 = .ok (.iload 5, 2) := by decide +kernel
theorem dL_law_1405 : decode cL_law 1405 = .ok (.if_icmp .eq 5, 3) := by decide +kernel
theorem dL_law_1408 : decode cL_law 1408 = .ok (.iconst 0, 1) := by decide +kernel
theorem dL_law_1409 : decode cL_law 1409 = .ok (.ireturn, 1) := by decide +kernel
theorem dL_law_1410 : decode cL_law 1410 = .ok (.iload 5, 2) := by decide +kernel
theorem dL_law_1412 : decode cL_law 1412 = .ok (.ifCond .ne 22, 3) := by decide +kernel
theorem dL_law_1415 : decode cL_law 1415 = .ok (.aload_n 3, 1) := by decide +kernel
theorem dL_law_1416 : decode cL_law 1416 = .ok (.iconst 0, 1) := by decide +kernel
theorem dL_law_1417 : decode cL_law 1417 = .ok (.laload, 1) := by decide +kernel
theorem dL_law_1418 : decode cL_law 1418 = .ok (.iload 6, 2) := by decide +kernel
theorem dL_law_1420 : decode cL_law 1420 = .ok (.ifCond .eq 7, 3) := by decide +kernel
theorem dL_law_1423 : decode cL_law 1423 = .ok (.lconst 1, 1) := by decide +kernel
theorem dL_law_1424 : decode cL_law 1424 = .ok (.goto 4, 3) := by decide +kernel
theorem dL_law_1427 : decode cL_law 1427 = .ok (.lconst 0, 1) := by decide +kernel
theorem dL_law_1428 : decode cL_law 1428 = .ok (.lcmp, 1) := by decide +kernel
theorem dL_law_1429 : decode cL_law 1429 = .ok (.ifCond .eq 5, 3) := by decide +kernel
theorem dL_law_1432 : decode cL_law 1432 = .ok (.iconst 0, 1) := by decide +kernel
theorem dL_law_1433 : decode cL_law 1433 = .ok (.ireturn, 1) := by decide +kernel
theorem dL_law_1434 : decode cL_law 1434 = .ok (.goto 297, 3) := by decide +kernel
theorem dL_law_1437 : decode cL_law 1437 = .ok (.aload_n 1, 1) := by decide +kernel
theorem dL_law_1438 : decode cL_law 1438 = .ok (.aload_n 0, 1) := by decide +kernel
theorem dL_law_1439 : decode cL_law 1439 = .ok (.iload 4, 2) := by decide +kernel
theorem dL_law_1441 : decode cL_law 1441 = .ok (.iconst 1, 1) := by decide +kernel
theorem dL_law_1442 : decode cL_law 1442 = .ok (.iadd, 1) := by decide +kernel
theorem dL_law_1443 : decode cL_law 1443 = .ok (.iaload, 1) := by decide +kernel
theorem dL_law_1444 : decode cL_law 1444 = .ok (.aload_n 0, 1) := by decide +kernel
theorem dL_law_1445 : decode cL_law 1445 = .ok (.iload 4, 2) := by decide +kernel
theorem dL_law_1447 : decode cL_law 1447 = .ok (.iconst 2, 1) := by decide +kernel
theorem dL_law_1448 : decode cL_law 1448 = .ok (.iadd, 1) := by decide +kernel
theorem dL_law_1449 : decode cL_law 1449 = .ok (.iaload, 1) := by decide +kernel
theorem dL_law_1450 : decode cL_law 1450 = .ok (.aload_n 3, 1) := by decide +kernel
theorem dL_law_1451 : decode cL_law 1451 = .ok (.invokestatic 172, 3) := by decide +kernel
theorem dL_law_1454 : decode cL_law 1454 = .ok (.istore 5, 2) := by decide +kernel
theorem dL_law_1456 : decode cL_law 1456 = .ok (.aload_n 2, 1) := by decide +kernel
theorem dL_law_1457 : decode cL_law 1457 = .ok (.aload_n 0, 1) := by decide +kernel
theorem dL_law_1458 : decode cL_law 1458 = .ok (.iload 4, 2) := by decide +kernel
theorem dL_law_1460 : decode cL_law 1460 = .ok (.iconst 1, 1) := by decide +kernel
theorem dL_law_1461 : decode cL_law 1461 = .ok (.iadd, 1) := by decide +kernel
theorem dL_law_1462 : decode cL_law 1462 = .ok (.iaload, 1) := by decide +kernel
theorem dL_law_1463 : decode cL_law 1463 = .ok (.aload_n 0, 1) := by decide +kernel
theorem dL_law_1464 : decode cL_law 1464 = .ok (.iload 4, 2) := by decide +kernel
theorem dL_law_1466 : decode cL_law 1466 = .ok (.iconst 2, 1) := by decide +kernel
theorem dL_law_1467 : decode cL_law 1467 = .ok (.iadd, 1) := by decide +kernel
theorem dL_law_1468 : decode cL_law 1468 = .ok (.iaload, 1) := by decide +kernel
theorem dL_law_1469 : decode cL_law 1469 = .ok (.invokevirtual 174, 3) := by decide +kernel
theorem dL_law_1472 : decode cL_law 1472 = .ok (.istore 6, 2) := by decide +kernel
theorem dL_law_1474 : decode cL_law 1474 = .ok (.aload_n 2, 1) := by decide +kernel
theorem dL_law_1475 : decode cL_law 1475 = .ok (.invokevirtual 98, 3) := by decide +kernel
theorem dL_law_1478 : decode cL_law 1478 = .ok (.iload 5, 2) := by decide +kernel
theorem dL_law_1480 : decode cL_law 1480 = .ok (.if_icmp .eq 5, 3) := by decide +kernel
theorem dL_law_1483 : decode cL_law 1483 = .ok (.iconst 0, 1) := by decide +kernel
theorem dL_law_1484 : decode cL_law 1484 = .ok (.ireturn, 1) := by decide +kernel
theorem dL_law_1485 : decode cL_law 1485 = .ok (.iload 5, 2) := by decide +kernel
theorem dL_law_1487 : decode cL_law 1487 = .ok (.ifCond .ne 22, 3) := by decide +kernel
theorem dL_law_1490 : decode cL_law 1490 = .ok (.aload_n 3, 1) := by decide +kernel
theorem dL_law_1491 : decode cL_law 1491 = .ok (.iconst 0, 1) := by decide +kernel
theorem dL_law_1492 : decode cL_law 1492 = .ok (.laload, 1) := by decide +kernel
theorem dL_law_1493 : decode cL_law 1493 = .ok (.iload 6, 2) := by decide +kernel
theorem dL_law_1495 : decode cL_law 1495 = .ok (.ifCond .eq 7, 3) := by decide +kernel
theorem dL_law_1498 : decode cL_law 1498 = .ok (.lconst 1, 1) := by decide +kernel
theorem dL_law_1499 : decode cL_law 1499 = .ok (.goto 4, 3) := by decide +kernel
theorem dL_law_1502 : decode cL_law 1502 = .ok (.lconst 0, 1) := by decide +kernel
theorem dL_law_1503 : decode cL_law 1503 = .ok (.lcmp, 1) := by decide +kernel
theorem dL_law_1504 : decode cL_law 1504 = .ok (.ifCond .eq 5, 3) := by decide +kernel
theorem dL_law_1507 : decode cL_law 1507 = .ok (.iconst 0, 1) := by decide +kernel
theorem dL_law_1508 : decode cL_law 1508 = .ok (.ireturn, 1) := by decide +kernel
theorem dL_law_1509 : decode cL_law 1509 = .ok (.goto 222, 3) := by decide +kernel
theorem dL_law_1512 : decode cL_law 1512 = .ok (.aload_n 1, 1) := by decide +kernel
theorem dL_law_1513 : decode cL_law 1513 = .ok (.invokevirtual 175, 3) := by decide +kernel
theorem dL_law_1516 : decode cL_law 1516 = .ok (.aload_n 2, 1) := by decide +kernel
theorem dL_law_1517 : decode cL_law 1517 = .ok (.invokevirtual 178, 3) := by decide +kernel
theorem dL_law_1520 : decode cL_law 1520 = .ok (.if_icmp .eq 211, 3) := by decide +kernel
theorem dL_law_1523 : decode cL_law 1523 = .ok (.iconst 0, 1) := by decide +kernel
theorem dL_law_1524 : decode cL_law 1524 = .ok (.ireturn, 1) := by decide +kernel
theorem dL_law_1525 : decode cL_law 1525 = .ok (.aload_n 1, 1) := by decide +kernel
theorem dL_law_1526 : decode cL_law 1526 = .ok (.aload_n 0, 1) := by decide +kernel
theorem dL_law_1527 : decode cL_law 1527 = .ok (.iload 4, 2) := by decide +kernel
theorem dL_law_1529 : decode cL_law 1529 = .ok (.iconst 1, 1) := by decide +kernel
theorem dL_law_1530 : decode cL_law 1530 = .ok (.iadd, 1) := by decide +kernel
theorem dL_law_1531 : decode cL_law 1531 = .ok (.iaload, 1) := by decide +kernel
theorem dL_law_1532 : decode cL_law 1532 = .ok (.aload_n 3, 1) := by decide +kernel
theorem dL_law_1533 : decode cL_law 1533 = .ok (.invokestatic 179, 3) := by decide +kernel
theorem dL_law_1536 : decode cL_law 1536 = .ok (.istore 5, 2) := by decide +kernel
theorem dL_law_1538 : decode cL_law 1538 = .ok (.aload_n 2, 1) := by decide +kernel
theorem dL_law_1539 : decode cL_law 1539 = .ok (.aload_n 0, 1) := by decide +kernel
theorem dL_law_1540 : decode cL_law 1540 = .ok (.iload 4, 2) := by decide +kernel
theorem dL_law_1542 : decode cL_law 1542 = .ok (.iconst 1, 1) := by decide +kernel
theorem dL_law_1543 : decode cL_law 1543 = .ok (.iadd, 1) := by decide +kernel
theorem dL_law_1544 : decode cL_law 1544 = .ok (.iaload, 1) := by decide +kernel
theorem dL_law_1545 : decode cL_law 1545 = .ok (.invokevirtual 181, 3) := by decide +kernel
theorem dL_law_1548 : decode cL_law 1548 = .ok (.istore 6, 2) := by decide +kernel
theorem dL_law_1550 : decode cL_law 1550 = .ok (.aload_n 2, 1) := by decide +kernel
theorem dL_law_1551 : decode cL_law 1551 = .ok (.invokevirtual 98, 3) := by decide +kernel
theorem dL_law_1554 : decode cL_law 1554 = .ok (.iload 5, 2) := by decide +kernel
theorem dL_law_1556 : decode cL_law 1556 = .ok (.if_icmp .eq 5, 3) := by decide +kernel
theorem dL_law_1559 : decode cL_law 1559 = .ok (.iconst 0, 1) := by decide +kernel
theorem dL_law_1560 : decode cL_law 1560 = .ok (.ireturn, 1) := by decide +kernel
theorem dL_law_1561 : decode cL_law 1561 = .ok (.iload 5, 2) := by decide +kernel
theorem dL_law_1563 : decode cL_law 1563 = .ok (.ifCond .ne 15, 3) := by decide +kernel
theorem dL_law_1566 : decode cL_law 1566 = .ok (.aload_n 3, 1) := by decide +kernel
theorem dL_law_1567 : decode cL_law 1567 = .ok (.iconst 0, 1) := by decide +kernel
theorem dL_law_1568 : decode cL_law 1568 = .ok (.laload, 1) := by decide +kernel
theorem dL_law_1569 : decode cL_law 1569 = .ok (.iload 6, 2) := by decide +kernel
theorem dL_law_1571 : decode cL_law 1571 = .ok (.i2l, 1) := by decide +kernel
theorem dL_law_1572 : decode cL_law 1572 = .ok (.lcmp, 1) := by decide +kernel
theorem dL_law_1573 : decode cL_law 1573 = .ok (.ifCond .eq 5, 3) := by decide +kernel
theorem dL_law_1576 : decode cL_law 1576 = .ok (.iconst 0, 1) := by decide +kernel
theorem dL_law_1577 : decode cL_law 1577 = .ok (.ireturn, 1) := by decide +kernel
theorem dL_law_1578 : decode cL_law 1578 = .ok (.goto 153, 3) := by decide +kernel
theorem dL_law_1581 : decode cL_law 1581 = .ok (.aload_n 1, 1) := by decide +kernel
theorem dL_law_1582 : decode cL_law 1582 = .ok (.aload_n 0, 1) := by decide +kernel
theorem dL_law_1583 : decode cL_law 1583 = .ok (.iload 4, 2) := by decide +kernel
theorem dL_law_1585 : decode cL_law 1585 = .ok (.iconst 1, 1) := by decide +kernel
theorem dL_law_1586 : decode cL_law 1586 = .ok (.iadd, 1) := by decide +kernel
theorem dL_law_1587 : decode cL_law 1587 = .ok (.iaload, 1) := by decide +kernel
theorem dL_law_1588 : decode cL_law 1588 = .ok (.aload_n 0, 1) := by decide +kernel
theorem dL_law_1589 : decode cL_law 1589 = .ok (.iload 4, 2) := by decide +kernel
theorem dL_law_1591 : decode cL_law 1591 = .ok (.iconst 2, 1) := by decide +kernel
theorem dL_law_1592 : decode cL_law 1592 = .ok (.iadd, 1) := by decide +kernel
theorem dL_law_1593 : decode cL_law 1593 = .ok (.iaload, 1) := by decide +kernel
theorem dL_law_1594 : decode cL_law 1594 = .ok (.aload_n 3, 1) := by decide +kernel
theorem dL_law_1595 : decode cL_law 1595 = .ok (.invokestatic 182, 3) := by decide +kernel
theorem dL_law_1598 : decode cL_law 1598 = .ok (.istore 5, 2) := by decide +kernel
theorem dL_law_1600 : decode cL_law 1600 = .ok (.aload_n 2, 1) := by decide +kernel
theorem dL_law_1601 : decode cL_law 1601 = .ok (.aload_n 0, 1) := by decide +kernel
theorem dL_law_1602 : decode cL_law 1602 = .ok (.iload 4, 2) := by decide +kernel
theorem dL_law_1604 : decode cL_law 1604 = .ok (.iconst 1, 1) := by decide +kernel
theorem dL_law_1605 : decode cL_law 1605 = .ok (.iadd, 1) := by decide +kernel
theorem dL_law_1606 : decode cL_law 1606 = .ok (.iaload, 1) := by decide +kernel
theorem dL_law_1607 : decode cL_law 1607 = .ok (.aload_n 0, 1) := by decide +kernel
theorem dL_law_1608 : decode cL_law 1608 = .ok (.iload 4, 2) := by decide +kernel
theorem dL_law_1610 : decode cL_law 1610 = .ok (.iconst 2, 1) := by decide +kernel
theorem dL_law_1611 : decode cL_law 1611 = .ok (.iadd, 1) := by decide +kernel
theorem dL_law_1612 : decode cL_law 1612 = .ok (.iaload, 1) := by decide +kernel
theorem dL_law_1613 : decode cL_law 1613 = .ok (.invokevirtual 184, 3) := by decide +kernel
theorem dL_law_1616 : decode cL_law 1616 = .ok (.istore 6, 2) := by decide +kernel
theorem dL_law_1618 : decode cL_law 1618 = .ok (.aload_n 2, 1) := by decide +kernel
theorem dL_law_1619 : decode cL_law 1619 = .ok (.invokevirtual 98, 3) := by decide +kernel
theorem dL_law_1622 : decode cL_law 1622 = .ok (.iload 5, 2) := by decide +kernel
theorem dL_law_1624 : decode cL_law 1624 = .ok (.if_icmp .eq 5, 3) := by decide +kernel
theorem dL_law_1627 : decode cL_law 1627 = .ok (.iconst 0, 1) := by decide +kernel
theorem dL_law_1628 : decode cL_law 1628 = .ok (.ireturn, 1) := by decide +kernel
theorem dL_law_1629 : decode cL_law 1629 = .ok (.iload 5, 2) := by decide +kernel
theorem dL_law_1631 : decode cL_law 1631 = .ok (.ifCond .ne 15, 3) := by decide +kernel
theorem dL_law_1634 : decode cL_law 1634 = .ok (.aload_n 3, 1) := by decide +kernel
theorem dL_law_1635 : decode cL_law 1635 = .ok (.iconst 0, 1) := by decide +kernel
theorem dL_law_1636 : decode cL_law 1636 = .ok (.laload, 1) := by decide +kernel
theorem dL_law_1637 : decode cL_law 1637 = .ok (.iload 6, 2) := by decide +kernel
theorem dL_law_1639 : decode cL_law 1639 = .ok (.i2l, 1) := by decide +kernel
theorem dL_law_1640 : decode cL_law 1640 = .ok (.lcmp, 1) := by decide +kernel
theorem dL_law_1641 : decode cL_law 1641 = .ok (.ifCond .eq 5, 3) := by decide +kernel
theorem dL_law_1644 : decode cL_law 1644 = .ok (.iconst 0, 1) := by decide +kernel
theorem dL_law_1645 : decode cL_law 1645 = .ok (.ireturn, 1) := by decide +kernel
theorem dL_law_1646 : decode cL_law 1646 = .ok (.goto 85, 3) := by decide +kernel
theorem dL_law_1649 : decode cL_law 1649 = .ok (.aload_n 1, 1) := by decide +kernel
theorem dL_law_1650 : decode cL_law 1650 = .ok (.aload_n 0, 1) := by decide +kernel
theorem dL_law_1651 : decode cL_law 1651 = .ok (.iload 4, 2) := by decide +kernel
theorem dL_law_1653 : decode cL_law 1653 = .ok (.iconst 1, 1) := by decide +kernel
theorem dL_law_1654 : decode cL_law 1654 = .ok (.iadd, 1) := by decide +kernel
theorem dL_law_1655 : decode cL_law 1655 = .ok (.iaload, 1) := by decide +kernel
theorem dL_law_1656 : decode cL_law 1656 = .ok (.aload_n 3, 1) := by decide +kernel
theorem dL_law_1657 : decode cL_law 1657 = .ok (.invokestatic 185, 3) := by decide +kernel
theorem dL_law_1660 : decode cL_law 1660 = .ok (.istore 5, 2) := by decide +kernel
theorem dL_law_1662 : decode cL_law 1662 = .ok (.aload_n 2, 1) := by decide +kernel
theorem dL_law_1663 : decode cL_law 1663 = .ok (.aload_n 0, 1) := by decide +kernel
theorem dL_law_1664 : decode cL_law 1664 = .ok (.iload 4, 2) := by decide +kernel
theorem dL_law_1666 : decode cL_law 1666 = .ok (.iconst 1, 1) := by decide +kernel
theorem dL_law_1667 : decode cL_law 1667 = .ok (.iadd, 1) := by decide +kernel
theorem dL_law_1668 : decode cL_law 1668 = .ok (.iaload, 1) := by decide +kernel
theorem dL_law_1669 : decode cL_law 1669 = .ok (.invokevirtual 187, 3) := by decide +kernel
theorem dL_law_1672 : decode cL_law 1672 = .ok (.istore 6, 2) := by decide +kernel
theorem dL_law_1674 : decode cL_law 1674 = .ok (.aload_n 2, 1) := by decide +kernel
theorem dL_law_1675 : decode cL_law 1675 = .ok (.invokevirtual 98, 3) := by decide +kernel
theorem dL_law_1678 : decode cL_law 1678 = .ok (.iload 5, 2) := by decide +kernel
theorem dL_law_1680 : decode cL_law 1680 = .ok (.if_icmp .eq 5, 3) := by decide +kernel
theorem dL_law_1683 : decode cL_law 1683 = .ok (.iconst 0, 1) := by decide +kernel
theorem dL_law_1684 : decode cL_law 1684 = .ok (.ireturn, 1) := by decide +kernel
theorem dL_law_1685 : decode cL_law 1685 = .ok (.iload 5, 2) := by decide +kernel
theorem dL_law_1687 : decode cL_law 1687 = .ok (.ifCond .ne 15, 3) := by decide +kernel
theorem dL_law_1690 : decode cL_law 1690 = .ok (.aload_n 3, 1) := by decide +kernel
theorem dL_law_1691 : decode cL_law 1691 = .ok (.iconst 0, 1) := by decide +kernel
theorem dL_law_1692 : decode cL_law 1692 = .ok (.laload, 1) := by decide +kernel
theorem dL_law_1693 : decode cL_law 1693 = .ok (.iload 6, 2) := by decide +kernel
theorem dL_law_1695 : decode cL_law 1695 = .ok (.i2l, 1) := by decide +kernel
theorem dL_law_1696 : decode cL_law 1696 = .ok (.lcmp, 1) := by decide +kernel
theorem dL_law_1697 : decode cL_law 1697 = .ok (.ifCond .eq 5, 3) := by decide +kernel
theorem dL_law_1700 : decode cL_law 1700 = .ok (.iconst 0, 1) := by decide +kernel
theorem dL_law_1701 : decode cL_law 1701 = .ok (.ireturn, 1) := by decide +kernel
theorem dL_law_1702 : decode cL_law 1702 = .ok (.goto 29, 3) := by decide +kernel
theorem dL_law_1705 : decode cL_law 1705 = .ok (.aload_n 1, 1) := by decide +kernel
theorem dL_law_1706 : decode cL_law 1706 = .ok (.invokevirtual 188, 3) := by decide +kernel
theorem dL_law_1709 : decode cL_law 1709 = .ok (.aload_n 2, 1) := by decide +kernel
theorem dL_law_1710 : decode cL_law 1710 = .ok (.invokevirtual 192, 3) := by decide +kernel
theorem dL_law_1713 : decode cL_law 1713 = .ok (.if_icmp .eq 18, 3) := by decide +kernel
theorem dL_law_1716 : decode cL_law 1716 = .ok (.iconst 0, 1) := by decide +kernel
theorem dL_law_1717 : decode cL_law 1717 = .ok (.ireturn, 1) := by decide +kernel
theorem dL_law_1718 : decode cL_law 1718 = .ok (.aload_n 1, 1) := by decide +kernel
theorem dL_law_1719 : decode cL_law 1719 = .ok (.invokevirtual 193, 3) := by decide +kernel
theorem dL_law_1722 : decode cL_law 1722 = .ok (.aload_n 2, 1) := by decide +kernel
theorem dL_law_1723 : decode cL_law 1723 = .ok (.invokevirtual 196, 3) := by decide +kernel
theorem dL_law_1726 : decode cL_law 1726 = .ok (.if_icmp .eq 5, 3) := by decide +kernel
theorem dL_law_1729 : decode cL_law 1729 = .ok (.iconst 0, 1) := by decide +kernel
theorem dL_law_1730 : decode cL_law 1730 = .ok (.ireturn, 1) := by decide +kernel
theorem dL_law_1731 : decode cL_law 1731 = .ok (.iinc 4 5, 3) := by decide +kernel
theorem dL_law_1734 : decode cL_law 1734 = .ok (.goto (-1711), 3) := by decide +kernel
theorem dL_law_1737 : decode cL_law 1737 = .ok (.iconst 1, 1) := by decide +kernel
theorem dL_law_1738 : decode cL_law 1738 = .ok (.ireturn, 1) := by decide +kernel
abbrev vwCl : List vw_C := [(RX0, TX0, 1), (RX1, TX1, 5), (RX2, TX2, 2), (RX3, TX3, 19), (RX4, TX4, 24)]
end
