theorem dX4_isPanel_8 : decode cX4_isPanel 8 = .ok (.invokestatic 69, 3) := by decide +kernel
theorem dX4_isPanel_11 : decode cX4_isPanel 11 = .ok (.ireturn, 1) := by decide +kernel
set_option maxRecDepth 20000 in
theorem ggX4_freePort_X4_isPanel : GoodIn wsX4_freePort wsX4_isPanel := goodIn_r _ [8, 9, 10, 11, 7, 12, 18, 19, 20, 21, 22, 23, 24, 25, 26, 27, 28, 29, 30, 31, 32, 33, 34, 35, 36, 37, 38, 39, 40, 41] (by decide +kernel) (by decide +kernel)
set_option maxRecDepth 20000 in
theorem gX4_freePort_X4_isPanel : GoodIn wsX4_freePort (wsV RX4 149 RX4 yX4_isPanel wsX4_isPanel) := goodIn_app (goodIn_of _ (by decide +kernel)) ggX4_freePort_X4_isPanel
set_option maxRecDepth 20000 in
theorem ggX4_freePort_X4_holds : GoodIn wsX4_freePort wsX4_holds := goodIn_r _ [16, 17, 18, 19, 20, 21, 22, 23, 24, 25, 26, 27, 28, 29, 30, 31, 32, 33, 34, 35, 36, 37, 38, 39, 40, 41] (by decide +kernel) (by decide +kernel)
set_option maxRecDepth 20000 in
theorem gX4_freePort_X4_holds : GoodIn wsX4_freePort (wsV RX4 80 RX4 yX4_holds wsX4_holds) := goodIn_app (goodIn_of _ (by decide +kernel)) ggX4_freePort_X4_holds
theorem dX4_freePort_0 : decode cX4_freePort 0 = .ok (.aload_n 0, 1) := by decide +kernel
theorem dX4_freePort_1 : decode cX4_freePort 1 = .ok (.aload_n 0, 1) := by decide +kernel
theorem dX4_freePort_2 : decode cX4_freePort 2 = .ok (.iload_n 1, 1) := by decide +kernel
theorem dX4_freePort_3 : decode cX4_freePort 3 = .ok (.invokevirtual 149, 3) := by decide +kernel
theorem dX4_freePort_6 : decode cX4_freePort 6 = .ok (.ifCond .eq 7, 3) := by decide +kernel
theorem dX4_freePort_9 : decode cX4_freePort 9 = .ok (.iconst 0, 1) := by decide +kernel
theorem dX4_freePort_10 : decode cX4_freePort 10 = .ok (.goto 4, 3) := by decide +kernel
theorem dX4_freePort_13 : decode cX4_freePort 13 = .ok (.iconst 1, 1) := by decide +kernel
theorem dX4_freePort_14 : decode cX4_freePort 14 = .ok (.invokevirtual 80, 3) := by decide +kernel
theorem dX4_freePort_17 : decode cX4_freePort 17 = .ok (.ifCond .ne 5, 3) := by decide +kernel
theorem dX4_freePort_20 : decode cX4_freePort 20 = .ok (.iconst 0, 1) := by decide +kernel
theorem dX4_freePort_21 : decode cX4_freePort 21 = .ok (.ireturn, 1) := by decide +kernel
theorem dX4_freePort_22 : decode cX4_freePort 22 = .ok (.aload_n 0, 1) := by decide +kernel
theorem dX4_freePort_23 : decode cX4_freePort 23 = .ok (.getfield 13, 3) := by decide +kernel
theorem dX4_freePort_26 : decode cX4_freePort 26 = .ok (.iload_n 1, 1) := by decide +kernel
theorem dX4_freePort_27 : decode cX4_freePort 27 = .ok (.iaload, 1) := by decide +kernel
theorem dX4_freePort_28 : decode cX4_freePort 28 = .ok (.istore_n 2, 1) := by decide +kernel
theorem dX4_freePort_29 : decode cX4_freePort 29 = .ok (.iload_n 2, 1) := by decide +kernel
theorem dX4_freePort_30 : decode cX4_freePort 30 = .ok (.aload_n 0, 1) := by decide +kernel
theorem dX4_freePort_31 : decode cX4_freePort 31 = .ok (.getfield 13, 3) := by decide +kernel
theorem dX4_freePort_34 : decode cX4_freePort 34 = .ok (.iload_n 1, 1) := by decide +kernel
theorem dX4_freePort_35 : decode cX4_freePort 35 = .ok (.iconst 1, 1) := by decide +kernel
theorem dX4_freePort_36 : decode cX4_freePort 36 = .ok (.iadd, 1) := by decide +kernel
theorem dX4_freePort_37 : decode cX4_freePort 37 = .ok (.iaload, 1) := by decide +kernel
theorem dX4_freePort_38 : decode cX4_freePort 38 = .ok (.if_icmp .ge 31, 3) := by decide +kernel
theorem dX4_freePort_41 : decode cX4_freePort 41 = .ok (.aload_n 0, 1) := by decide +kernel
theorem dX4_freePort_42 : decode cX4_freePort 42 = .ok (.getfield 16, 3) := by decide +kernel
theorem dX4_freePort_45 : decode cX4_freePort 45 = .ok (.iload_n 2, 1) := by decide +kernel
theorem dX4_freePort_46 : decode cX4_freePort 46 = .ok (.iaload, 1) := by decide +kernel
theorem dX4_freePort_47 : decode cX4_freePort 47 = .ok (.iconst (-1), 1) := by decide +kernel
theorem dX4_freePort_48 : decode cX4_freePort 48 = .ok (.if_icmp .ne 15, 3) := by decide +kernel
theorem dX4_freePort_51 : decode cX4_freePort 51 = .ok (.aload_n 0, 1) := by decide +kernel
theorem dX4_freePort_52 : decode cX4_freePort 52 = .ok (.getfield 22, 3) := by decide +kernel
theorem dX4_freePort_55 : decode cX4_freePort 55 = .ok (.iload_n 2, 1) := by decide +kernel
theorem dX4_freePort_56 : decode cX4_freePort 56 = .ok (.iaload, 1) := by decide +kernel
theorem dX4_freePort_57 : decode cX4_freePort 57 = .ok (.iconst (-1), 1) := by decide +kernel
theorem dX4_freePort_58 : decode cX4_freePort 58 = .ok (.if_icmp .ne 5, 3) := by decide +kernel
theorem dX4_freePort_61 : decode cX4_freePort 61 = .ok (.iload_n 2, 1) := by decide +kernel
theorem dX4_freePort_62 : decode cX4_freePort 62 = .ok (.ireturn, 1) := by decide +kernel
theorem dX4_freePort_63 : decode cX4_freePort 63 = .ok (.iinc 2 1, 3) := by decide +kernel
theorem dX4_freePort_66 : decode cX4_freePort 66 = .ok (.goto (-37), 3) := by decide +kernel
theorem dX4_freePort_69 : decode cX4_freePort 69 = .ok (.iconst (-1), 1) := by decide +kernel
theorem dX4_freePort_70 : decode cX4_freePort 70 = .ok (.ireturn, 1) := by decide +kernel
set_option maxRecDepth 20000 in
theorem ggX4_freeStrand_X4_isPanel : GoodIn wsX4_freeStrand wsX4_isPanel := goodIn_r _ [7, 8, 9, 10, 6, 11, 27, 28, 29, 30, 31, 32, 33, 34, 35, 36, 37, 38, 39, 40, 41, 42, 43, 44, 45, 46, 47, 48, 49, 50] (by decide +kernel) (by decide +kernel)
set_option maxRecDepth 20000 in
theorem gX4_freeStrand_X4_isPanel : GoodIn wsX4_freeStrand (wsV RX4 149 RX4 yX4_isPanel wsX4_isPanel) := goodIn_app (goodIn_of _ (by decide +kernel)) ggX4_freeStrand_X4_isPanel
set_option maxRecDepth 20000 in
theorem ggX4_freeStrand_X4_holds : GoodIn wsX4_freeStrand wsX4_holds := goodIn_r _ [15, 16, 27, 28, 29, 30, 31, 32, 33, 34, 35, 36, 37, 38, 39, 40, 41, 42, 43, 44, 45, 46, 47, 48, 49, 50] (by decide +kernel) (by decide +kernel)
set_option maxRecDepth 20000 in
theorem gX4_freeStrand_X4_holds : GoodIn wsX4_freeStrand (wsV RX4 80 RX4 yX4_holds wsX4_holds) := goodIn_app (goodIn_of _ (by decide +kernel)) ggX4_freeStrand_X4_holds
set_option maxRecDepth 20000 in
theorem ggX4_freeStrand_X4_next : GoodIn wsX4_freeStrand wsX4_next := goodIn_r _ [20, 2, 21, 22, 27, 28, 29, 30, 31, 32, 33, 34, 35, 36, 37, 38, 39, 40, 41, 42, 43, 44, 45, 46, 47, 48, 49, 50] (by decide +kernel) (by decide +kernel)
set_option maxRecDepth 20000 in
theorem gX4_freeStrand_X4_next : GoodIn wsX4_freeStrand (wsV RX4 132 RX4 yX4_next wsX4_next) := goodIn_app (goodIn_of _ (by decide +kernel)) ggX4_freeStrand_X4_next
set_option maxRecDepth 20000 in
theorem ggX4_freeStrand_X4_panel : GoodIn wsX4_freeStrand wsX4_panel := goodIn_r _ [26, 1, 27, 28, 29, 30, 31, 32, 33, 34, 35, 36, 37, 38, 39, 40, 41, 42, 43, 44, 45, 46, 47, 48, 49, 50] (by decide +kernel) (by decide +kernel)
set_option maxRecDepth 20000 in
theorem gX4_freeStrand_X4_panel : GoodIn wsX4_freeStrand (wsV RX4 83 RX4 yX4_panel wsX4_panel) := goodIn_app (goodIn_of _ (by decide +kernel)) ggX4_freeStrand_X4_panel
theorem dX4_freeStrand_0 : decode cX4_freeStrand 0 = .ok (.aload_n 0, 1) := by decide +kernel
theorem dX4_freeStrand_1 : decode cX4_freeStrand 1 = .ok (.aload_n 0, 1) := by decide +kernel
theorem dX4_freeStrand_2 : decode cX4_freeStrand 2 = .ok (.iload_n 1, 1) := by decide +kernel
theorem dX4_freeStrand_3 : decode cX4_freeStrand 3 = .ok (.invokevirtual 149, 3) := by decide +kernel
theorem dX4_freeStrand_6 : decode cX4_freeStrand 6 = .ok (.ifCond .eq 15, 3) := by decide +kernel
theorem dX4_freeStrand_9 : decode cX4_freeStrand 9 = .ok (.aload_n 0, 1) := by decide +kernel
theorem dX4_freeStrand_10 : decode cX4_freeStrand 10 = .ok (.iload_n 2, 1) := by decide +kernel
theorem dX4_freeStrand_11 : decode cX4_freeStrand 11 = .ok (.invokevirtual 149, 3) := by decide +kernel
theorem dX4_freeStrand_14 : decode cX4_freeStrand 14 = .ok (.ifCond .eq 7, 3) := by decide +kernel
theorem dX4_freeStrand_17 : decode cX4_freeStrand 17 = .ok (.iconst 0, 1) := by decide +kernel
theorem dX4_freeStrand_18 : decode cX4_freeStrand 18 = .ok (.goto 4, 3) := by decide +kernel
theorem dX4_freeStrand_21 : decode cX4_freeStrand 21 = .ok (.iconst 1, 1) := by decide +kernel
theorem dX4_freeStrand_22 : decode cX4_freeStrand 22 = .ok (.invokevirtual 80, 3) := by decide +kernel
theorem dX4_freeStrand_25 : decode cX4_freeStrand 25 = .ok (.ifCond .ne 5, 3) := by decide +kernel
theorem dX4_freeStrand_28 : decode cX4_freeStrand 28 = .ok (.iconst 0, 1) := by decide +kernel
theorem dX4_freeStrand_29 : decode cX4_freeStrand 29 = .ok (.ireturn, 1) := by decide +kernel
theorem dX4_freeStrand_30 : decode cX4_freeStrand 30 = .ok (.aload_n 0, 1) := by decide +kernel
theorem dX4_freeStrand_31 : decode cX4_freeStrand 31 = .ok (.getfield 13, 3) := by decide +kernel
theorem dX4_freeStrand_34 : decode cX4_freeStrand 34 = .ok (.iload_n 1, 1) := by decide +kernel
theorem dX4_freeStrand_35 : decode cX4_freeStrand 35 = .ok (.iaload, 1) := by decide +kernel
theorem dX4_freeStrand_36 : decode cX4_freeStrand 36 = .ok (.istore_n 3, 1) := by decide +kernel
theorem dX4_freeStrand_37 : decode cX4_freeStrand 37 = .ok (.iload_n 3, 1) := by decide +kernel
theorem dX4_freeStrand_38 : decode cX4_freeStrand 38 = .ok (.aload_n 0, 1) := by decide +kernel
theorem dX4_freeStrand_39 : decode cX4_freeStrand 39 = .ok (.getfield 13, 3) := by decide +kernel
theorem dX4_freeStrand_42 : decode cX4_freeStrand 42 = .ok (.iload_n 1, 1) := by decide +kernel
theorem dX4_freeStrand_43 : decode cX4_freeStrand 43 = .ok (.iconst 1, 1) := by decide +kernel
theorem dX4_freeStrand_44 : decode cX4_freeStrand 44 = .ok (.iadd, 1) := by decide +kernel
theorem dX4_freeStrand_45 : decode cX4_freeStrand 45 = .ok (.iaload, 1) := by decide +kernel
theorem dX4_freeStrand_46 : decode cX4_freeStrand 46 = .ok (.if_icmp .ge 56, 3) := by decide +kernel
theorem dX4_freeStrand_49 : decode cX4_freeStrand 49 = .ok (.aload_n 0, 1) := by decide +kernel
theorem dX4_freeStrand_50 : decode cX4_freeStrand 50 = .ok (.iload_n 3, 1) := by decide +kernel
theorem dX4_freeStrand_51 : decode cX4_freeStrand 51 = .ok (.iconst 0, 1) := by decide +kernel
theorem dX4_freeStrand_52 : decode cX4_freeStrand 52 = .ok (.invokevirtual 132, 3) := by decide +kernel
theorem dX4_freeStrand_55 : decode cX4_freeStrand 55 = .ok (.istore 4, 2) := by decide +kernel
theorem dX4_freeStrand_57 : decode cX4_freeStrand 57 = .ok (.iload 4, 2) := by decide +kernel
theorem dX4_freeStrand_59 : decode cX4_freeStrand 59 = .ok (.iconst (-1), 1) := by decide +kernel
theorem dX4_freeStrand_60 : decode cX4_freeStrand 60 = .ok (.if_icmp .eq 36, 3) := by decide +kernel
theorem dX4_freeStrand_63 : decode cX4_freeStrand 63 = .ok (.aload_n 0, 1) := by decide +kernel
theorem dX4_freeStrand_64 : decode cX4_freeStrand 64 = .ok (.iload 4, 2) := by decide +kernel
theorem dX4_freeStrand_66 : decode cX4_freeStrand 66 = .ok (.invokevirtual 83, 3) := by decide +kernel
theorem dX4_freeStrand_69 : decode cX4_freeStrand 69 = .ok (.iload_n 2, 1) := by decide +kernel
theorem dX4_freeStrand_70 : decode cX4_freeStrand 70 = .ok (.if_icmp .ne 26, 3) := by decide +kernel
theorem dX4_freeStrand_73 : decode cX4_freeStrand 73 = .ok (.aload_n 0, 1) := by decide +kernel
theorem dX4_freeStrand_74 : decode cX4_freeStrand 74 = .ok (.getfield 16, 3) := by decide +kernel
theorem dX4_freeStrand_77 : decode cX4_freeStrand 77 = .ok (.iload_n 3, 1) := by decide +kernel
theorem dX4_freeStrand_78 : decode cX4_freeStrand 78 = .ok (.iaload, 1) := by decide +kernel
theorem dX4_freeStrand_79 : decode cX4_freeStrand 79 = .ok (.iconst (-1), 1) := by decide +kernel
theorem dX4_freeStrand_80 : decode cX4_freeStrand 80 = .ok (.if_icmp .ne 16, 3) := by decide +kernel
theorem dX4_freeStrand_83 : decode cX4_freeStrand 83 = .ok (.aload_n 0, 1) := by decide +kernel
theorem dX4_freeStrand_84 : decode cX4_freeStrand 84 = .ok (.getfield 16, 3) := by decide +kernel
theorem dX4_freeStrand_87 : decode cX4_freeStrand 87 = .ok (.iload 4, 2) := by decide +kernel
theorem dX4_freeStrand_89 : decode cX4_freeStrand 89 = .ok (.iaload, 1) := by decide +kernel
theorem dX4_freeStrand_90 : decode cX4_freeStrand 90 = .ok (.iconst (-1), 1) := by decide +kernel
theorem dX4_freeStrand_91 : decode cX4_freeStrand 91 = .ok (.if_icmp .ne 5, 3) := by decide +kernel
theorem dX4_freeStrand_94 : decode cX4_freeStrand 94 = .ok (.iload_n 3, 1) := by decide +kernel
theorem dX4_freeStrand_95 : decode cX4_freeStrand 95 = .ok (.ireturn, 1) := by decide +kernel
theorem dX4_freeStrand_96 : decode cX4_freeStrand 96 = .ok (.iinc 3 1, 3) := by decide +kernel
theorem dX4_freeStrand_99 : decode cX4_freeStrand 99 = .ok (.goto (-62), 3) := by decide +kernel
theorem dX4_freeStrand_102 : decode cX4_freeStrand 102 = .ok (.iconst (-1), 1) := by decide +kernel
theorem dX4_freeStrand_103 : decode cX4_freeStrand 103 = .ok (.ireturn, 1) := by decide +kernel
set_option maxRecDepth 20000 in
theorem ggX4_used_X4_isTrunk : GoodIn wsX4_used wsX4_isTrunk := goodIn_r _ [9, 10, 11, 12, 8, 13, 19, 20, 21, 22, 23, 24, 25, 26, 27, 28, 29, 30, 31, 32, 33, 34, 35, 36, 37, 38, 39, 40, 41, 42] (by decide +kernel) (by decide +kernel)
set_option maxRecDepth 20000 in
theorem gX4_used_X4_isTrunk : GoodIn wsX4_used (wsV RX4 105 RX4 yX4_isTrunk wsX4_isTrunk) := goodIn_app (goodIn_of _ (by decide +kernel)) ggX4_used_X4_isTrunk
set_option maxRecDepth 20000 in
theorem ggX4_used_X4_holds : GoodIn wsX4_used wsX4_holds := goodIn_r _ [17, 18, 19, 20, 21, 22, 23, 24, 25, 26, 27, 28, 29, 30, 31, 32, 33, 34, 35, 36, 37, 38, 39, 40, 41, 42] (by decide +kernel) (by decide +kernel)
set_option maxRecDepth 20000 in
theorem gX4_used_X4_holds : GoodIn wsX4_used (wsV RX4 80 RX4 yX4_holds wsX4_holds) := goodIn_app (goodIn_of _ (by decide +kernel)) ggX4_used_X4_holds
theorem dX4_used_0 : decode cX4_used 0 = .ok (.aload_n 0, 1) := by decide +kernel
theorem dX4_used_1 : decode cX4_used 1 = .ok (.aload_n 0, 1) := by decide +kernel
theorem dX4_used_2 : decode cX4_used 2 = .ok (.iload_n 1, 1) := by decide +kernel
theorem dX4_used_3 : decode cX4_used 3 = .ok (.invokevirtual 105, 3) := by decide +kernel
theorem dX4_used_6 : decode cX4_used 6 = .ok (.ifCond .eq 7, 3) := by decide +kernel
theorem dX4_used_9 : decode cX4_used 9 = .ok (.iconst 0, 1) := by decide +kernel
theorem dX4_used_10 : decode cX4_used 10 = .ok (.goto 4, 3) := by decide +kernel
theorem dX4_used_13 : decode cX4_used 13 = .ok (.iconst 1, 1) := by decide +kernel
theorem dX4_used_14 : decode cX4_used 14 = .ok (.invokevirtual 80, 3) := by decide +kernel
theorem dX4_used_17 : decode cX4_used 17 = .ok (.ifCond .ne 5, 3) := by decide +kernel
theorem dX4_used_20 : decode cX4_used 20 = .ok (.iconst 0, 1) := by decide +kernel
theorem dX4_used_21 : decode cX4_used 21 = .ok (.ireturn, 1) := by decide +kernel
theorem dX4_used_22 : decode cX4_used 22 = .ok (.iconst 0, 1) := by decide +kernel
theorem dX4_used_23 : decode cX4_used 23 = .ok (.istore_n 2, 1) := by decide +kernel
theorem dX4_used_24 : decode cX4_used 24 = .ok (.iconst 0, 1) := by decide +kernel
theorem dX4_used_25 : decode cX4_used 25 = .ok (.istore_n 3, 1) := by decide +kernel
theorem dX4_used_26 : decode cX4_used 26 = .ok (.iload_n 3, 1) := by decide +kernel
theorem dX4_used_27 : decode cX4_used 27 = .ok (.aload_n 0, 1) := by decide +kernel
theorem dX4_used_28 : decode cX4_used 28 = .ok (.getfield 38, 3) := by decide +kernel
theorem dX4_used_31 : decode cX4_used 31 = .ok (.iload_n 1, 1) := by decide +kernel
theorem dX4_used_32 : decode cX4_used 32 = .ok (.iaload, 1) := by decide +kernel
theorem dX4_used_33 : decode cX4_used 33 = .ok (.if_icmp .ge 51, 3) := by decide +kernel
theorem dX4_used_36 : decode cX4_used 36 = .ok (.iload_n 2, 1) := by decide +kernel
theorem dX4_used_37 : decode cX4_used 37 = .ok (.aload_n 0, 1) := by decide +kernel
theorem dX4_used_38 : decode cX4_used 38 = .ok (.getfield 16, 3) := by decide +kernel
theorem dX4_used_41 : decode cX4_used 41 = .ok (.aload_n 0, 1) := by decide +kernel
theorem dX4_used_42 : decode cX4_used 42 = .ok (.getfield 32, 3) := by decide +kernel
theorem dX4_used_45 : decode cX4_used 45 = .ok (.iload_n 1, 1) := by decide +kernel
theorem dX4_used_46 : decode cX4_used 46 = .ok (.iaload, 1) := by decide +kernel
theorem dX4_used_47 : decode cX4_used 47 = .ok (.iload_n 3, 1) := by decide +kernel
theorem dX4_used_48 : decode cX4_used 48 = .ok (.iadd, 1) := by decide +kernel
theorem dX4_used_49 : decode cX4_used 49 = .ok (.iaload, 1) := by decide +kernel
theorem dX4_used_50 : decode cX4_used 50 = .ok (.iconst (-1), 1) := by decide +kernel
theorem dX4_used_51 : decode cX4_used 51 = .ok (.if_icmp .eq 24, 3) := by decide +kernel
theorem dX4_used_54 : decode cX4_used 54 = .ok (.aload_n 0, 1) := by decide +kernel
theorem dX4_used_55 : decode cX4_used 55 = .ok (.getfield 16, 3) := by decide +kernel
theorem dX4_used_58 : decode cX4_used 58 = .ok (.aload_n 0, 1) := by decide +kernel
theorem dX4_used_59 : decode cX4_used 59 = .ok (.getfield 35, 3) := by decide +kernel
theorem dX4_used_62 : decode cX4_used 62 = .ok (.iload_n 1, 1) := by decide +kernel
theorem dX4_used_63 : decode cX4_used 63 = .ok (.iaload, 1) := by decide +kernel
theorem dX4_used_64 : decode cX4_used 64 = .ok (.iload_n 3, 1) := by decide +kernel
theorem dX4_used_65 : decode cX4_used 65 = .ok (.iadd, 1) := by decide +kernel
theorem dX4_used_66 : decode cX4_used 66 = .ok (.iaload, 1) := by decide +kernel
theorem dX4_used_67 : decode cX4_used 67 = .ok (.iconst (-1), 1) := by decide +kernel
theorem dX4_used_68 : decode cX4_used 68 = .ok (.if_icmp .eq 7, 3) := by decide +kernel
theorem dX4_used_71 : decode cX4_used 71 = .ok (.iconst 1, 1) := by decide +kernel
theorem dX4_used_72 : decode cX4_used 72 = .ok (.goto 4, 3) := by decide +kernel
theorem dX4_used_75 : decode cX4_used 75 = .ok (.iconst 0, 1) := by decide +kernel
theorem dX4_used_76 : decode cX4_used 76 = .ok (.iadd, 1) := by decide +kernel
theorem dX4_used_77 : decode cX4_used 77 = .ok (.istore_n 2, 1) := by decide +kernel
theorem dX4_used_78 : decode cX4_used 78 = .ok (.iinc 3 1, 3) := by decide +kernel
theorem dX4_used_81 : decode cX4_used 81 = .ok (.goto (-55), 3) := by decide +kernel
theorem dX4_used_84 : decode cX4_used 84 = .ok (.iload_n 2, 1) := by decide +kernel
theorem dX4_used_85 : decode cX4_used 85 = .ok (.ireturn, 1) := by decide +kernel
set_option maxRecDepth 20000 in
theorem ggX4_canCarryOut_X4_lays : GoodIn wsX4_canCarryOut wsX4_lays := goodIn_r _ [6, 7, 8, 9, 10, 11, 12, 13, 14, 15, 16, 17, 5, 18, 19, 20, 21, 22, 23, 24, 25, 26, 27, 28, 29, 30, 31, 32, 33, 34, 35, 36, 37, 38, 39, 40, 41, 42, 43, 44, 45, 46] (by decide +kernel) (by decide +kernel)
set_option maxRecDepth 20000 in
theorem gX4_canCarryOut_X4_lays : GoodIn wsX4_canCarryOut (wsV RX4 122 RX4 yX4_lays wsX4_lays) := goodIn_app (goodIn_of _ (by decide +kernel)) ggX4_canCarryOut_X4_lays
theorem dX4_canCarryOut_0 : decode cX4_canCarryOut 0 = .ok (.aload_n 0, 1) := by decide +kernel
theorem dX4_canCarryOut_1 : decode cX4_canCarryOut 1 = .ok (.iconst 0, 1) := by decide +kernel
theorem dX4_canCarryOut_2 : decode cX4_canCarryOut 2 = .ok (.putfield 62, 3) := by decide +kernel
theorem dX4_canCarryOut_5 : decode cX4_canCarryOut 5 = .ok (.aload_n 0, 1) := by decide +kernel
theorem dX4_canCarryOut_6 : decode cX4_canCarryOut 6 = .ok (.invokevirtual 122, 3) := by decide +kernel
theorem dX4_canCarryOut_9 : decode cX4_canCarryOut 9 = .ok (.ireturn, 1) := by decide +kernel
set_option maxRecDepth 20000 in
theorem ggX4_cableLength_X4_length : GoodIn wsX4_cableLength wsX4_length := goodIn_r _ [8, 9, 10, 11, 12, 7, 13, 14, 15, 16, 17, 18, 19, 20, 21, 22, 23, 24, 25, 26, 27, 28, 29, 30, 31, 32, 33, 34, 35, 36, 37, 38] (by decide +kernel) (by decide +kernel)
set_option maxRecDepth 20000 in
theorem gX4_cableLength_X4_length : GoodIn wsX4_cableLength (wsV RX4 108 RX4 yX4_length wsX4_length) := goodIn_app (goodIn_of _ (by decide +kernel)) ggX4_cableLength_X4_length
theorem dX4_cableLength_0 : decode cX4_cableLength 0 = .ok (.aload_n 0, 1) := by decide +kernel
theorem dX4_cableLength_1 : decode cX4_cableLength 1 = .ok (.iconst 0, 1) := by decide +kernel
theorem dX4_cableLength_2 : decode cX4_cableLength 2 = .ok (.putfield 62, 3) := by decide +kernel
theorem dX4_cableLength_5 : decode cX4_cableLength 5 = .ok (.iconst 0, 1) := by decide +kernel
theorem dX4_cableLength_6 : decode cX4_cableLength 6 = .ok (.istore_n 1, 1) := by decide +kernel
theorem dX4_cableLength_7 : decode cX4_cableLength 7 = .ok (.iconst 0, 1) := by decide +kernel
theorem dX4_cableLength_8 : decode cX4_cableLength 8 = .ok (.istore_n 2, 1) := by decide +kernel
theorem dX4_cableLength_9 : decode cX4_cableLength 9 = .ok (.iload_n 2, 1) := by decide +kernel
theorem dX4_cableLength_10 : decode cX4_cableLength 10 = .ok (.aload_n 0, 1) := by decide +kernel
theorem dX4_cableLength_11 : decode cX4_cableLength 11 = .ok (.getfield 66, 3) := by decide +kernel
theorem dX4_cableLength_14 : decode cX4_cableLength 14 = .ok (.if_icmp .ge 37, 3) := by decide +kernel
theorem dX4_cableLength_17 : decode cX4_cableLength 17 = .ok (.iload_n 1, 1) := by decide +kernel
theorem dX4_cableLength_18 : decode cX4_cableLength 18 = .ok (.aload_n 0, 1) := by decide +kernel
theorem dX4_cableLength_19 : decode cX4_cableLength 19 = .ok (.getfield 16, 3) := by decide +kernel
theorem dX4_cableLength_22 : decode cX4_cableLength 22 = .ok (.iload_n 2, 1) := by decide +kernel
theorem dX4_cableLength_23 : decode cX4_cableLength 23 = .ok (.iaload, 1) := by decide +kernel
theorem dX4_cableLength_24 : decode cX4_cableLength 24 = .ok (.iload_n 2, 1) := by decide +kernel
theorem dX4_cableLength_25 : decode cX4_cableLength 25 = .ok (.if_icmp .le 17, 3) := by decide +kernel
theorem dX4_cableLength_28 : decode cX4_cableLength 28 = .ok (.aload_n 0, 1) := by decide +kernel
theorem dX4_cableLength_29 : decode cX4_cableLength 29 = .ok (.iload_n 2, 1) := by decide +kernel
theorem dX4_cableLength_30 : decode cX4_cableLength 30 = .ok (.aload_n 0, 1) := by decide +kernel
theorem dX4_cableLength_31 : decode cX4_cableLength 31 = .ok (.getfield 16, 3) := by decide +kernel
theorem dX4_cableLength_34 : decode cX4_cableLength 34 = .ok (.iload_n 2, 1) := by decide +kernel
theorem dX4_cableLength_35 : decode cX4_cableLength 35 = .ok (.iaload, 1) := by decide +kernel
theorem dX4_cableLength_36 : decode cX4_cableLength 36 = .ok (.invokevirtual 108, 3) := by decide +kernel
theorem dX4_cableLength_39 : decode cX4_cableLength 39 = .ok (.goto 4, 3) := by decide +kernel
theorem dX4_cableLength_42 : decode cX4_cableLength 42 = .ok (.iconst 0, 1) := by decide +kernel
theorem dX4_cableLength_43 : decode cX4_cableLength 43 = .ok (.iadd, 1) := by decide +kernel
theorem dX4_cableLength_44 : decode cX4_cableLength 44 = .ok (.istore_n 1, 1) := by decide +kernel
theorem dX4_cableLength_45 : decode cX4_cableLength 45 = .ok (.iinc 2 1, 3) := by decide +kernel
theorem dX4_cableLength_48 : decode cX4_cableLength 48 = .ok (.goto (-39), 3) := by decide +kernel
theorem dX4_cableLength_51 : decode cX4_cableLength 51 = .ok (.iload_n 1, 1) := by decide +kernel
theorem dX4_cableLength_52 : decode cX4_cableLength 52 = .ok (.ireturn, 1) := by decide +kernel
theorem dJ9_abs_0f7a4_0 : decode cJ9_abs_0f7a4 0 = .ok (.iload_n 0, 1) := by decide +kernel
theorem dJ9_abs_0f7a4_1 : decode cJ9_abs_0f7a4 1 = .ok (.ifCond .ge 8, 3) := by decide +kernel
theorem dJ9_abs_0f7a4_4 : decode cJ9_abs_0f7a4 4 = .ok (.iload_n 0, 1) := by decide +kernel
theorem dJ9_abs_0f7a4_5 : decode cJ9_abs_0f7a4 5 = .ok (.ineg, 1) := by decide +kernel
theorem dJ9_abs_0f7a4_6 : decode cJ9_abs_0f7a4 6 = .ok (.goto 4, 3) := by decide +kernel
theorem dJ9_abs_0f7a4_9 : decode cJ9_abs_0f7a4 9 = .ok (.iload_n 0, 1) := by decide +kernel
theorem dJ9_abs_0f7a4_10 : decode cJ9_abs_0f7a4 10 = .ok (.ireturn, 1) := by decide +kernel
theorem dJ9_max_7cf53_0 : decode cJ9_max_7cf53 0 = .ok (.iload_n 0, 1) := by decide +kernel
theorem dJ9_max_7cf53_1 : decode cJ9_max_7cf53 1 = .ok (.iload_n 1, 1) := by decide +kernel
theorem dJ9_max_7cf53_2 : decode cJ9_max_7cf53 2 = .ok (.if_icmp .lt 7, 3) := by decide +kernel
theorem dJ9_max_7cf53_5 : decode cJ9_max_7cf53 5 = .ok (.iload_n 0, 1) := by decide +kernel
theorem dJ9_max_7cf53_6 : decode cJ9_max_7cf53 6 = .ok (.goto 4, 3) := by decide +kernel
theorem dJ9_max_7cf53_9 : decode cJ9_max_7cf53 9 = .ok (.iload_n 1, 1) := by decide +kernel
theorem dJ9_max_7cf53_10 : decode cJ9_max_7cf53 10 = .ok (.ireturn, 1) := by decide +kernel
set_option maxRecDepth 20000 in
theorem ggL_addPanel_X3_addPanel : GoodIn wsL_addPanel wsX3_addPanel := goodIn_ca (goodIn_ca (goodIn_r _ [7, 8, 9, 10, 11, 12, 13, 14, 15, 16, 17, 18, 19, 6, 20, 21, 22, 23, 24, 25, 26, 27, 28, 29, 30, 31, 32, 33, 34, 35, 36, 37, 38, 39, 40, 41, 42, 43, 44, 45, 46, 47] (by decide +kernel) (by decide +kernel)) (goodIn_sub (fun _ h => List.mem_cons_of_mem _ (List.mem_append_left _ (List.mem_append_right _ h))) (by decide +kernel))) (goodIn_sub (fun _ h => List.mem_cons_of_mem _ (List.mem_append_right _ h)) (by decide +kernel))
set_option maxRecDepth 20000 in
theorem gL_addPanel_X3_addPanel : GoodIn wsL_addPanel (wsV RL 7 RX3 yX3_addPanel wsX3_addPanel) := goodIn_app (goodIn_of _ (by decide +kernel)) ggL_addPanel_X3_addPanel
theorem dL_addPanel_0 : decode cL_addPanel 0 = .ok (.aload_n 3, 1) := by decide +kernel
theorem dL_addPanel_1 : decode cL_addPanel 1 = .ok (.iconst 0, 1) := by decide +kernel
theorem dL_addPanel_2 : decode cL_addPanel 2 = .ok (.aload_n 0, 1) := by decide +kernel
theorem dL_addPanel_3 : decode cL_addPanel 3 = .ok (.iload_n 1, 1) := by decide +kernel
theorem dL_addPanel_4 : decode cL_addPanel 4 = .ok (.iload_n 2, 1) := by decide +kernel
theorem dL_addPanel_5 : decode cL_addPanel 5 = .ok (.invokevirtual 7, 3) := by decide +kernel
theorem dL_addPanel_8 : decode cL_addPanel 8 = .ok (.i2l, 1) := by decide +kernel
theorem dL_addPanel_9 : decode cL_addPanel 9 = .ok (.lastore, 1) := by decide +kernel
theorem dL_addPanel_10 : decode cL_addPanel 10 = .ok (.goto 11, 3) := by decide +kernel
theorem dL_addPanel_13 : decode cL_addPanel 13 = .ok (.astore 4, 2) := by decide +kernel
theorem dL_addPanel_15 : decode cL_addPanel 15 = .ok (.iconst 1, 1) := by decide +kernel
theorem dL_addPanel_16 : decode cL_addPanel 16 = .ok (.ireturn, 1) := by decide +kernel
theorem dL_addPanel_17 : decode cL_addPanel 17 = .ok (.astore 4, 2) := by decide +kernel
theorem dL_addPanel_19 : decode cL_addPanel 19 = .ok (.iconst 2, 1) := by decide +kernel
theorem dL_addPanel_20 : decode cL_addPanel 20 = .ok (.ireturn, 1) := by decide +kernel
theorem dL_addPanel_21 : decode cL_addPanel 21 = .ok (.iconst 0, 1) := by decide +kernel
theorem dL_addPanel_22 : decode cL_addPanel 22 = .ok (.ireturn, 1) := by decide +kernel
set_option maxRecDepth 20000 in
theorem ggL_addTrunk_X3_addTrunk : GoodIn wsL_addTrunk wsX3_addTrunk := goodIn_ca (goodIn_ca (goodIn_ca (goodIn_r _ [8, 9, 10, 11, 12, 13, 14, 15, 16, 17, 18, 19, 20, 7, 21, 22, 23, 24, 25, 26, 27, 28, 29, 30, 31, 32, 33, 34, 35, 36, 37, 38, 39, 40, 41, 42, 43, 44, 45, 46, 47, 48, 49, 50, 51, 52, 53, 54, 55, 56, 57, 58, 59, 60, 61, 62, 63, 64, 65, 66, 67, 68, 69, 70, 71, 72, 73, 74, 75, 76, 77, 78, 79] (by decide +kernel) (by decide +kernel)) (goodIn_sub (fun _ h => List.mem_cons_of_mem _ (List.mem_append_left _ (List.mem_append_left _ (List.mem_append_right _ h)))) (by decide +kernel))) (goodIn_sub (fun _ h => List.mem_cons_of_mem _ (List.mem_append_left _ (List.mem_append_right _ h))) (by decide +kernel))) (goodIn_sub (fun _ h => List.mem_cons_of_mem _ (List.mem_append_right _ h)) (by decide +kernel))
set_option maxRecDepth 20000 in
theorem gL_addTrunk_X3_addTrunk : GoodIn wsL_addTrunk (wsV RL 17 RX3 yX3_addTrunk wsX3_addTrunk) := goodIn_app (goodIn_of _ (by decide +kernel)) ggL_addTrunk_X3_addTrunk
theorem dL_addTrunk_0 : decode cL_addTrunk 0 = .ok (.aload 5, 2) := by decide +kernel
theorem dL_addTrunk_2 : decode cL_addTrunk 2 = .ok (.iconst 0, 1) := by decide +kernel
theorem dL_addTrunk_3 : decode cL_addTrunk 3 = .ok (.aload_n 0, 1) := by decide +kernel
theorem dL_addTrunk_4 : decode cL_addTrunk 4 = .ok (.iload_n 1, 1) := by decide +kernel
theorem dL_addTrunk_5 : decode cL_addTrunk 5 = .ok (.iload_n 2, 1) := by decide +kernel
theorem dL_addTrunk_6 : decode cL_addTrunk 6 = .ok (.iload_n 3, 1) := by decide +kernel
theorem dL_addTrunk_7 : decode cL_addTrunk 7 = .ok (.iload 4, 2) := by decide +kernel
theorem dL_addTrunk_9 : decode cL_addTrunk 9 = .ok (.invokevirtual 17, 3) := by decide +kernel
theorem dL_addTrunk_12 : decode cL_addTrunk 12 = .ok (.i2l, 1) := by decide +kernel
theorem dL_addTrunk_13 : decode cL_addTrunk 13 = .ok (.lastore, 1) := by decide +kernel
theorem dL_addTrunk_14 : decode cL_addTrunk 14 = .ok (.goto 15, 3) := by decide +kernel
theorem dL_addTrunk_17 : decode cL_addTrunk 17 = .ok (.astore 6, 2) := by decide +kernel
theorem dL_addTrunk_19 : decode cL_addTrunk 19 = .ok (.iconst 1, 1) := by decide +kernel
theorem dL_addTrunk_20 : decode cL_addTrunk 20 = .ok (.ireturn, 1) := by decide +kernel
theorem dL_addTrunk_21 : decode cL_addTrunk 21 = .ok (.astore 6, 2) := by decide +kernel
theorem dL_addTrunk_23 : decode cL_addTrunk 23 = .ok (.iconst 2, 1) := by decide +kernel
theorem dL_addTrunk_24 : decode cL_addTrunk 24 = .ok (.ireturn, 1) := by decide +kernel
theorem dL_addTrunk_25 : decode cL_addTrunk 25 = .ok (.astore 6, 2) := by decide +kernel
theorem dL_addTrunk_27 : decode cL_addTrunk 27 = .ok (.iconst 3, 1) := by decide +kernel
theorem dL_addTrunk_28 : decode cL_addTrunk 28 = .ok (.ireturn, 1) := by decide +kernel
theorem dL_addTrunk_29 : decode cL_addTrunk 29 = .ok (.iconst 0, 1) := by decide +kernel
theorem dL_addTrunk_30 : decode cL_addTrunk 30 = .ok (.ireturn, 1) := by decide +kernel
set_option maxRecDepth 20000 in
theorem ggL_setBroken_X3_setBroken : GoodIn wsL_setBroken wsX3_setBroken := goodIn_ca (goodIn_r _ [6, 7, 8, 9, 10, 11, 12, 13, 14, 15, 5, 16, 17, 18, 19, 20, 21, 22, 23, 24, 25, 26, 27, 28, 29, 30, 31, 32, 33, 34, 35, 36, 37, 38, 39, 40, 41, 42, 43, 44, 45, 46, 47, 48, 49, 50, 51, 52, 53, 54, 55, 56, 57, 58, 59] (by decide +kernel) (by decide +kernel)) (goodIn_sub (fun _ h => List.mem_cons_of_mem _ (List.mem_append_right _ h)) (by decide +kernel))
set_option maxRecDepth 20000 in
theorem gL_setBroken_X3_setBroken : GoodIn wsL_setBroken (wsV RL 23 RX3 yX3_setBroken wsX3_setBroken) := goodIn_app (goodIn_of _ (by decide +kernel)) ggL_setBroken_X3_setBroken
theorem dL_setBroken_0 : decode cL_setBroken 0 = .ok (.aload 4, 2) := by decide +kernel
theorem dL_setBroken_2 : decode cL_setBroken 2 = .ok (.iconst 0, 1) := by decide +kernel
theorem dL_setBroken_3 : decode cL_setBroken 3 = .ok (.aload_n 0, 1) := by decide +kernel
theorem dL_setBroken_4 : decode cL_setBroken 4 = .ok (.iload_n 1, 1) := by decide +kernel
theorem dL_setBroken_5 : decode cL_setBroken 5 = .ok (.iload_n 2, 1) := by decide +kernel
theorem dL_setBroken_6 : decode cL_setBroken 6 = .ok (.iload_n 3, 1) := by decide +kernel
theorem dL_setBroken_7 : decode cL_setBroken 7 = .ok (.invokevirtual 23, 3) := by decide +kernel
theorem dL_setBroken_10 : decode cL_setBroken 10 = .ok (.ifCond .eq 7, 3) := by decide +kernel
theorem dL_setBroken_13 : decode cL_setBroken 13 = .ok (.lconst 1, 1) := by decide +kernel
theorem dL_setBroken_14 : decode cL_setBroken 14 = .ok (.goto 4, 3) := by decide +kernel
theorem dL_setBroken_17 : decode cL_setBroken 17 = .ok (.lconst 0, 1) := by decide +kernel
theorem dL_setBroken_18 : decode cL_setBroken 18 = .ok (.lastore, 1) := by decide +kernel
theorem dL_setBroken_19 : decode cL_setBroken 19 = .ok (.goto 7, 3) := by decide +kernel
theorem dL_setBroken_22 : decode cL_setBroken 22 = .ok (.astore 5, 2) := by decide +kernel
theorem dL_setBroken_24 : decode cL_setBroken 24 = .ok (.iconst 1, 1) := by decide +kernel
theorem dL_setBroken_25 : decode cL_setBroken 25 = .ok (.ireturn, 1) := by decide +kernel
theorem dL_setBroken_26 : decode cL_setBroken 26 = .ok (.iconst 0, 1) := by decide +kernel
theorem dL_setBroken_27 : decode cL_setBroken 27 = .ok (.ireturn, 1) := by decide +kernel
set_option maxRecDepth 20000 in
theorem ggL_plug_X3_plug : GoodIn wsL_plug wsX3_plug := goodIn_ca (goodIn_ca (goodIn_ca (goodIn_r _ [8, 9, 10, 11, 12, 13, 14, 15, 7, 16, 17, 18, 19, 20, 21, 22, 23, 24, 25, 26, 27, 28, 29, 30, 31, 32, 33, 34, 35, 36, 37, 38, 39, 40, 41, 42, 43, 44, 45, 46, 47, 48, 49, 50, 51, 52, 53, 54, 55, 56, 57, 58, 59, 60, 61, 62, 63, 64, 65, 66, 67, 68, 69, 70, 71, 72, 73, 74] (by decide +kernel) (by decide +kernel)) (goodIn_sub (fun _ h => List.mem_cons_of_mem _ (List.mem_append_left _ (List.mem_append_left _ (List.mem_append_right _ h)))) (by decide +kernel))) (goodIn_sub (fun _ h => List.mem_cons_of_mem _ (List.mem_append_left _ (List.mem_append_right _ h))) (by decide +kernel))) (goodIn_sub (fun _ h => List.mem_cons_of_mem _ (List.mem_append_right _ h)) (by decide +kernel))
set_option maxRecDepth 20000 in
theorem gL_plug_X3_plug : GoodIn wsL_plug (wsV RL 27 RX3 yX3_plug wsX3_plug) := goodIn_app (goodIn_of _ (by decide +kernel)) ggL_plug_X3_plug
theorem dL_plug_0 : decode cL_plug 0 = .ok (.aload 4, 2) := by decide +kernel
theorem dL_plug_2 : decode cL_plug 2 = .ok (.iconst 0, 1) := by decide +kernel
theorem dL_plug_3 : decode cL_plug 3 = .ok (.aload_n 0, 1) := by decide +kernel
theorem dL_plug_4 : decode cL_plug 4 = .ok (.iload_n 1, 1) := by decide +kernel
theorem dL_plug_5 : decode cL_plug 5 = .ok (.iload_n 2, 1) := by decide +kernel
theorem dL_plug_6 : decode cL_plug 6 = .ok (.iload_n 3, 1) := by decide +kernel
theorem dL_plug_7 : decode cL_plug 7 = .ok (.invokevirtual 27, 3) := by decide +kernel
theorem dL_plug_10 : decode cL_plug 10 = .ok (.i2l, 1) := by decide +kernel
theorem dL_plug_11 : decode cL_plug 11 = .ok (.lastore, 1) := by decide +kernel
theorem dL_plug_12 : decode cL_plug 12 = .ok (.goto 15, 3) := by decide +kernel
theorem dL_plug_15 : decode cL_plug 15 = .ok (.astore 5, 2) := by decide +kernel
theorem dL_plug_17 : decode cL_plug 17 = .ok (.iconst 1, 1) := by decide +kernel
theorem dL_plug_18 : decode cL_plug 18 = .ok (.ireturn, 1) := by decide +kernel
theorem dL_plug_19 : decode cL_plug 19 = .ok (.astore 5, 2) := by decide +kernel
theorem dL_plug_21 : decode cL_plug 21 = .ok (.iconst 2, 1) := by decide +kernel
theorem dL_plug_22 : decode cL_plug 22 = .ok (.ireturn, 1) := by decide +kernel
theorem dL_plug_23 : decode cL_plug 23 = .ok (.astore 5, 2) := by decide +kernel
theorem dL_plug_25 : decode cL_plug 25 = .ok (.iconst 3, 1) := by decide +kernel
theorem dL_plug_26 : decode cL_plug 26 = .ok (.ireturn, 1) := by decide +kernel
theorem dL_plug_27 : decode cL_plug 27 = .ok (.iconst 0, 1) := by decide +kernel
theorem dL_plug_28 : decode cL_plug 28 = .ok (.ireturn, 1) := by decide +kernel
set_option maxRecDepth 20000 in
theorem ggL_pull_X3_pull : GoodIn wsL_pull wsX3_pull := goodIn_ca (goodIn_ca (goodIn_r _ [7, 8, 9, 10, 11, 12, 13, 6, 14, 15, 16, 17, 18, 19, 20, 21, 22, 23, 24, 25, 26, 27, 28, 29, 30, 31, 32, 33, 34, 35, 36, 37, 38, 39, 40, 41, 42, 43, 44, 45, 46, 47, 48, 49, 50, 51, 52, 53, 54, 55, 56, 57, 58, 59, 60, 61] (by decide +kernel) (by decide +kernel)) (goodIn_sub (fun _ h => List.mem_cons_of_mem _ (List.mem_append_left _ (List.mem_append_right _ h))) (by decide +kernel))) (goodIn_sub (fun _ h => List.mem_cons_of_mem _ (List.mem_append_right _ h)) (by decide +kernel))
set_option maxRecDepth 20000 in
theorem gL_pull_X3_pull : GoodIn wsL_pull (wsV RL 31 RX3 yX3_pull wsX3_pull) := goodIn_app (goodIn_of _ (by decide +kernel)) ggL_pull_X3_pull
theorem dL_pull_0 : decode cL_pull 0 = .ok (.aload_n 2, 1) := by decide +kernel
theorem dL_pull_1 : decode cL_pull 1 = .ok (.iconst 0, 1) := by decide +kernel
theorem dL_pull_2 : decode cL_pull 2 = .ok (.aload_n 0, 1) := by decide +kernel
theorem dL_pull_3 : decode cL_pull 3 = .ok (.iload_n 1, 1) := by decide +kernel
theorem dL_pull_4 : decode cL_pull 4 = .ok (.invokevirtual 31, 3) := by decide +kernel
theorem dL_pull_7 : decode cL_pull 7 = .ok (.i2l, 1) := by decide +kernel
theorem dL_pull_8 : decode cL_pull 8 = .ok (.lastore, 1) := by decide +kernel
theorem dL_pull_9 : decode cL_pull 9 = .ok (.goto 9, 3) := by decide +kernel
theorem dL_pull_12 : decode cL_pull 12 = .ok (.astore_n 3, 1) := by decide +kernel
theorem dL_pull_13 : decode cL_pull 13 = .ok (.iconst 1, 1) := by decide +kernel
theorem dL_pull_14 : decode cL_pull 14 = .ok (.ireturn, 1) := by decide +kernel
theorem dL_pull_15 : decode cL_pull 15 = .ok (.astore_n 3, 1) := by decide +kernel
theorem dL_pull_16 : decode cL_pull 16 = .ok (.iconst 2, 1) := by decide +kernel
theorem dL_pull_17 : decode cL_pull 17 = .ok (.ireturn, 1) := by decide +kernel
theorem dL_pull_18 : decode cL_pull 18 = .ok (.iconst 0, 1) := by decide +kernel
theorem dL_pull_19 : decode cL_pull 19 = .ok (.ireturn, 1) := by decide +kernel
set_option maxRecDepth 20000 in
theorem ggL_addMove_X3_addMove : GoodIn wsL_addMove wsX3_addMove := goodIn_ca (goodIn_ca (goodIn_ca (goodIn_r _ [8, 9, 10, 11, 12, 13, 14, 15, 16, 7, 17, 18, 19, 20, 21, 22, 23, 24, 25, 26, 27, 28, 29, 30, 31, 32, 33, 34, 35, 36, 37, 38, 39, 40, 41, 42, 43, 44, 45, 46, 47, 48, 49, 50, 51, 52, 53, 54, 55, 56, 57, 58, 59, 60, 61, 62, 63, 64, 65, 66, 67] (by decide +kernel) (by decide +kernel)) (goodIn_sub (fun _ h => List.mem_cons_of_mem _ (List.mem_append_left _ (List.mem_append_left _ (List.mem_append_right _ h)))) (by decide +kernel))) (goodIn_sub (fun _ h => List.mem_cons_of_mem _ (List.mem_append_left _ (List.mem_append_right _ h))) (by decide +kernel))) (goodIn_sub (fun _ h => List.mem_cons_of_mem _ (List.mem_append_right _ h)) (by decide +kernel))
set_option maxRecDepth 20000 in
theorem gL_addMove_X3_addMove : GoodIn wsL_addMove (wsV RL 35 RX3 yX3_addMove wsX3_addMove) := goodIn_app (goodIn_of _ (by decide +kernel)) ggL_addMove_X3_addMove
theorem dL_addMove_0 : decode cL_addMove 0 = .ok (.aload_n 3, 1) := by decide +kernel
theorem dL_addMove_1 : decode cL_addMove 1 = .ok (.iconst 0, 1) := by decide +kernel
theorem dL_addMove_2 : decode cL_addMove 2 = .ok (.aload_n 0, 1) := by decide +kernel
theorem dL_addMove_3 : decode cL_addMove 3 = .ok (.iload_n 1, 1) := by decide +kernel
theorem dL_addMove_4 : decode cL_addMove 4 = .ok (.iload_n 2, 1) := by decide +kernel
theorem dL_addMove_5 : decode cL_addMove 5 = .ok (.invokevirtual 35, 3) := by decide +kernel
theorem dL_addMove_8 : decode cL_addMove 8 = .ok (.i2l, 1) := by decide +kernel
theorem dL_addMove_9 : decode cL_addMove 9 = .ok (.lastore, 1) := by decide +kernel
theorem dL_addMove_10 : decode cL_addMove 10 = .ok (.goto 15, 3) := by decide +kernel
theorem dL_addMove_13 : decode cL_addMove 13 = .ok (.astore 4, 2) := by decide +kernel
theorem dL_addMove_15 : decode cL_addMove 15 = .ok (.iconst 1, 1) := by decide +kernel
theorem dL_addMove_16 : decode cL_addMove 16 = .ok (.ireturn, 1) := by decide +kernel
theorem dL_addMove_17 : decode cL_addMove 17 = .ok (.astore 4, 2) := by decide +kernel
theorem dL_addMove_19 : decode cL_addMove 19 = .ok (.iconst 2, 1) := by decide +kernel
theorem dL_addMove_20 : decode cL_addMove 20 = .ok (.ireturn, 1) := by decide +kernel
theorem dL_addMove_21 : decode cL_addMove 21 = .ok (.astore 4, 2) := by decide +kernel
theorem dL_addMove_23 : decode cL_addMove 23 = .ok (.iconst 3, 1) := by decide +kernel
theorem dL_addMove_24 : decode cL_addMove 24 = .ok (.ireturn, 1) := by decide +kernel
theorem dL_addMove_25 : decode cL_addMove 25 = .ok (.iconst 0, 1) := by decide +kernel
theorem dL_addMove_26 : decode cL_addMove 26 = .ok (.ireturn, 1) := by decide +kernel
set_option maxRecDepth 20000 in
theorem ggL_carryOut_X3_carryOut : GoodIn wsL_carryOut wsX3_carryOut := goodIn_ca (goodIn_r _ [6, 7, 8, 9, 10, 11, 12, 5, 13, 14, 15, 16, 17, 18, 19, 20, 21, 22, 23, 24, 25, 26, 27, 28, 29, 30, 31, 32, 33, 34, 35, 36, 37, 38, 39, 40, 41, 42, 43, 44, 45, 46, 47, 48, 49, 50, 51, 52, 53, 54, 55, 56, 57, 58, 59, 60, 61, 62, 63, 64, 65, 66, 67, 68, 69, 70, 71, 72, 73, 74, 75, 76, 77, 78, 79, 80, 81, 82, 83, 84, 85, 86, 87, 88, 89, 90, 91, 92, 93, 94, 95, 96, 97, 98, 99, 100, 101, 102, 103, 104, 105, 106, 107, 108, 109, 110, 111, 112, 113, 114, 115, 116, 117, 118, 119, 120, 121, 122, 123, 124, 125, 126] (by decide +kernel) (by decide +kernel)) (goodIn_sub (fun _ h => List.mem_cons_of_mem _ (List.mem_append_right _ h)) (by decide +kernel))
set_option maxRecDepth 20000 in
theorem gL_carryOut_X3_carryOut : GoodIn wsL_carryOut (wsV RL 38 RX3 yX3_carryOut wsX3_carryOut) := goodIn_app (goodIn_of _ (by decide +kernel)) ggL_carryOut_X3_carryOut
theorem dL_carryOut_0 : decode cL_carryOut 0 = .ok (.aload_n 1, 1) := by decide +kernel
theorem dL_carryOut_1 : decode cL_carryOut 1 = .ok (.iconst 0, 1) := by decide +kernel
theorem dL_carryOut_2 : decode cL_carryOut 2 = .ok (.aload_n 0, 1) := by decide +kernel
theorem dL_carryOut_3 : decode cL_carryOut 3 = .ok (.invokevirtual 38, 3) := by decide +kernel
theorem dL_carryOut_6 : decode cL_carryOut 6 = .ok (.i2l, 1) := by decide +kernel
theorem dL_carryOut_7 : decode cL_carryOut 7 = .ok (.lastore, 1) := by decide +kernel
theorem dL_carryOut_8 : decode cL_carryOut 8 = .ok (.goto 6, 3) := by decide +kernel
theorem dL_carryOut_11 : decode cL_carryOut 11 = .ok (.astore_n 2, 1) := by decide +kernel
theorem dL_carryOut_12 : decode cL_carryOut 12 = .ok (.iconst 1, 1) := by decide +kernel
theorem dL_carryOut_13 : decode cL_carryOut 13 = .ok (.ireturn, 1) := by decide +kernel
theorem dL_carryOut_14 : decode cL_carryOut 14 = .ok (.iconst 0, 1) := by decide +kernel
theorem dL_carryOut_15 : decode cL_carryOut 15 = .ok (.ireturn, 1) := by decide +kernel
set_option maxRecDepth 20000 in
theorem ggL_panelOf_X3_panelOf : GoodIn wsL_panelOf wsX3_panelOf := goodIn_ca (goodIn_r _ [6, 7, 8, 9, 10, 5, 11, 12, 13, 14, 15, 16, 17, 18, 19, 20, 21, 22, 23, 24, 25, 26, 27, 28, 29, 30, 31, 32, 33, 34, 35, 36, 37, 38, 39, 40, 41, 42, 43, 44, 45] (by decide +kernel) (by decide +kernel)) (goodIn_sub (fun _ h => List.mem_cons_of_mem _ (List.mem_append_right _ h)) (by decide +kernel))
set_option maxRecDepth 20000 in
theorem gL_panelOf_X3_panelOf : GoodIn wsL_panelOf (wsV RL 42 RX3 yX3_panelOf wsX3_panelOf) := goodIn_app (goodIn_of _ (by decide +kernel)) ggL_panelOf_X3_panelOf
theorem dL_panelOf_0 : decode cL_panelOf 0 = .ok (.aload_n 2, 1) := by decide +kernel
theorem dL_panelOf_1 : decode cL_panelOf 1 = .ok (.iconst 0, 1) := by decide +kernel
theorem dL_panelOf_2 : decode cL_panelOf 2 = .ok (.aload_n 0, 1) := by decide +kernel
theorem dL_panelOf_3 : decode cL_panelOf 3 = .ok (.iload_n 1, 1) := by decide +kernel
theorem dL_panelOf_4 : decode cL_panelOf 4 = .ok (.invokevirtual 42, 3) := by decide +kernel
theorem dL_panelOf_7 : decode cL_panelOf 7 = .ok (.i2l, 1) := by decide +kernel
theorem dL_panelOf_8 : decode cL_panelOf 8 = .ok (.lastore, 1) := by decide +kernel
theorem dL_panelOf_9 : decode cL_panelOf 9 = .ok (.goto 6, 3) := by decide +kernel
theorem dL_panelOf_12 : decode cL_panelOf 12 = .ok (.astore_n 3, 1) := by decide +kernel
theorem dL_panelOf_13 : decode cL_panelOf 13 = .ok (.iconst 1, 1) := by decide +kernel
theorem dL_panelOf_14 : decode cL_panelOf 14 = .ok (.ireturn, 1) := by decide +kernel
theorem dL_panelOf_15 : decode cL_panelOf 15 = .ok (.iconst 0, 1) := by decide +kernel
theorem dL_panelOf_16 : decode cL_panelOf 16 = .ok (.ireturn, 1) := by decide +kernel
set_option maxRecDepth 20000 in
theorem ggL_byCable_X3_byCable : GoodIn wsL_byCable wsX3_byCable := goodIn_ca (goodIn_r _ [6, 7, 8, 9, 10, 5, 11, 12, 13, 14, 15, 16, 17, 18, 19, 20, 21, 22, 23, 24, 25, 26, 27, 28, 29, 30, 31, 32, 33, 34, 35, 36, 37, 38, 39, 40, 41, 42, 43, 44, 45] (by decide +kernel) (by decide +kernel)) (goodIn_sub (fun _ h => List.mem_cons_of_mem _ (List.mem_append_right _ h)) (by decide +kernel))
set_option maxRecDepth 20000 in
theorem gL_byCable_X3_byCable : GoodIn wsL_byCable (wsV RL 45 RX3 yX3_byCable wsX3_byCable) := goodIn_app (goodIn_of _ (by decide +kernel)) ggL_byCable_X3_byCable
theorem dL_byCable_0 : decode cL_byCable 0 = .ok (.aload_n 2, 1) := by decide +kernel
theorem dL_byCable_1 : decode cL_byCable 1 = .ok (.iconst 0, 1) := by decide +kernel
theorem dL_byCable_2 : decode cL_byCable 2 = .ok (.aload_n 0, 1) := by decide +kernel
theorem dL_byCable_3 : decode cL_byCable 3 = .ok (.iload_n 1, 1) := by decide +kernel
theorem dL_byCable_4 : decode cL_byCable 4 = .ok (.invokevirtual 45, 3) := by decide +kernel
theorem dL_byCable_7 : decode cL_byCable 7 = .ok (.i2l, 1) := by decide +kernel
theorem dL_byCable_8 : decode cL_byCable 8 = .ok (.lastore, 1) := by decide +kernel
theorem dL_byCable_9 : decode cL_byCable 9 = .ok (.goto 6, 3) := by decide +kernel
theorem dL_byCable_12 : decode cL_byCable 12 = .ok (.astore_n 3, 1) := by decide +kernel
theorem dL_byCable_13 : decode cL_byCable 13 = .ok (.iconst 1, 1) := by decide +kernel
theorem dL_byCable_14 : decode cL_byCable 14 = .ok (.ireturn, 1) := by decide +kernel
theorem dL_byCable_15 : decode cL_byCable 15 = .ok (.iconst 0, 1) := by decide +kernel
theorem dL_byCable_16 : decode cL_byCable 16 = .ok (.ireturn, 1) := by decide +kernel
set_option maxRecDepth 20000 in
theorem ggL_byStrand_X3_byStrand : GoodIn wsL_byStrand wsX3_byStrand := goodIn_ca (goodIn_r _ [6, 7, 8, 9, 10, 5, 11, 12, 13, 14, 15, 16, 17, 18, 19, 20, 21, 22, 23, 24, 25, 26, 27, 28, 29, 30, 31, 32, 33, 34, 35, 36, 37, 38, 39, 40, 41, 42, 43, 44, 45] (by decide +kernel) (by decide +kernel)) (goodIn_sub (fun _ h => List.mem_cons_of_mem _ (List.mem_append_right _ h)) (by decide +kernel))
set_option maxRecDepth 20000 in
theorem gL_byStrand_X3_byStrand : GoodIn wsL_byStrand (wsV RL 48 RX3 yX3_byStrand wsX3_byStrand) := goodIn_app (goodIn_of _ (by decide +kernel)) ggL_byStrand_X3_byStrand
theorem dL_byStrand_0 : decode cL_byStrand 0 = .ok (.aload_n 2, 1) := by decide +kernel
theorem dL_byStrand_1 : decode cL_byStrand 1 = .ok (.iconst 0, 1) := by decide +kernel
theorem dL_byStrand_2 : decode cL_byStrand 2 = .ok (.aload_n 0, 1) := by decide +kernel
theorem dL_byStrand_3 : decode cL_byStrand 3 = .ok (.iload_n 1, 1) := by decide +kernel
theorem dL_byStrand_4 : decode cL_byStrand 4 = .ok (.invokevirtual 48, 3) := by decide +kernel
theorem dL_byStrand_7 : decode cL_byStrand 7 = .ok (.i2l, 1) := by decide +kernel
theorem dL_byStrand_8 : decode cL_byStrand 8 = .ok (.lastore, 1) := by decide +kernel
theorem dL_byStrand_9 : decode cL_byStrand 9 = .ok (.goto 6, 3) := by decide +kernel
theorem dL_byStrand_12 : decode cL_byStrand 12 = .ok (.astore_n 3, 1) := by decide +kernel
theorem dL_byStrand_13 : decode cL_byStrand 13 = .ok (.iconst 1, 1) := by decide +kernel
theorem dL_byStrand_14 : decode cL_byStrand 14 = .ok (.ireturn, 1) := by decide +kernel
theorem dL_byStrand_15 : decode cL_byStrand 15 = .ok (.iconst 0, 1) := by decide +kernel
theorem dL_byStrand_16 : decode cL_byStrand 16 = .ok (.ireturn, 1) := by decide +kernel
set_option maxRecDepth 20000 in
theorem ggL_colour_X3_colour : GoodIn wsL_colour wsX3_colour := goodIn_ca (goodIn_r _ [6, 7, 8, 9, 10, 5, 11, 12, 13, 14, 15, 16, 17, 18, 19, 20, 21, 22, 23, 24, 25, 26, 27, 28, 29, 30, 31, 32, 33, 34, 35, 36, 37, 38, 39, 40, 41, 42, 43, 44, 45] (by decide +kernel) (by decide +kernel)) (goodIn_sub (fun _ h => List.mem_cons_of_mem _ (List.mem_append_right _ h)) (by decide +kernel))
set_option maxRecDepth 20000 in
theorem gL_colour_X3_colour : GoodIn wsL_colour (wsV RL 51 RX3 yX3_colour wsX3_colour) := goodIn_app (goodIn_of _ (by decide +kernel)) ggL_colour_X3_colour
theorem dL_colour_0 : decode cL_colour 0 = .ok (.aload_n 2, 1) := by decide +kernel
theorem dL_colour_1 : decode cL_colour 1 = .ok (.iconst 0, 1) := by decide +kernel
theorem dL_colour_2 : decode cL_colour 2 = .ok (.aload_n 0, 1) := by decide +kernel
theorem dL_colour_3 : decode cL_colour 3 = .ok (.iload_n 1, 1) := by decide +kernel
theorem dL_colour_4 : decode cL_colour 4 = .ok (.invokevirtual 51, 3) := by decide +kernel
theorem dL_colour_7 : decode cL_colour 7 = .ok (.i2l, 1) := by decide +kernel
theorem dL_colour_8 : decode cL_colour 8 = .ok (.lastore, 1) := by decide +kernel
theorem dL_colour_9 : decode cL_colour 9 = .ok (.goto 6, 3) := by decide +kernel
theorem dL_colour_12 : decode cL_colour 12 = .ok (.astore_n 3, 1) := by decide +kernel
theorem dL_colour_13 : decode cL_colour 13 = .ok (.iconst 1, 1) := by decide +kernel
theorem dL_colour_14 : decode cL_colour 14 = .ok (.ireturn, 1) := by decide +kernel
theorem dL_colour_15 : decode cL_colour 15 = .ok (.iconst 0, 1) := by decide +kernel
theorem dL_colour_16 : decode cL_colour 16 = .ok (.ireturn, 1) := by decide +kernel
set_option maxRecDepth 20000 in
theorem ggL_end_X3_end : GoodIn wsL_end wsX3_end := goodIn_ca (goodIn_r _ [6, 7, 8, 9, 5, 10, 11, 12, 13, 14, 15, 16, 17, 18, 19, 20, 21, 22, 23, 24, 25, 26, 27, 28, 29, 30, 31, 32, 33, 34, 35, 36, 37, 38, 39, 40, 41, 42, 43, 44, 45, 46, 47, 48, 49, 50, 51, 52, 53, 54, 55, 56, 57, 58, 59, 60, 61, 62, 63, 64, 65, 66, 67, 68, 69, 70, 71] (by decide +kernel) (by decide +kernel)) (goodIn_sub (fun _ h => List.mem_cons_of_mem _ (List.mem_append_right _ h)) (by decide +kernel))
set_option maxRecDepth 20000 in
theorem gL_end_X3_end : GoodIn wsL_end (wsV RL 54 RX3 yX3_end wsX3_end) := goodIn_app (goodIn_of _ (by decide +kernel)) ggL_end_X3_end
theorem dL_end_0 : decode cL_end 0 = .ok (.aload_n 3, 1) := by decide +kernel
theorem dL_end_1 : decode cL_end 1 = .ok (.iconst 0, 1) := by decide +kernel
theorem dL_end_2 : decode cL_end 2 = .ok (.aload_n 0, 1) := by decide +kernel
theorem dL_end_3 : decode cL_end 3 = .ok (.iload_n 1, 1) := by decide +kernel
theorem dL_end_4 : decode cL_end 4 = .ok (.iload_n 2, 1) := by decide +kernel
theorem dL_end_5 : decode cL_end 5 = .ok (.invokevirtual 54, 3) := by decide +kernel
theorem dL_end_8 : decode cL_end 8 = .ok (.i2l, 1) := by decide +kernel
theorem dL_end_9 : decode cL_end 9 = .ok (.lastore, 1) := by decide +kernel
theorem dL_end_10 : decode cL_end 10 = .ok (.goto 7, 3) := by decide +kernel
theorem dL_end_13 : decode cL_end 13 = .ok (.astore 4, 2) := by decide +kernel
theorem dL_end_15 : decode cL_end 15 = .ok (.iconst 1, 1) := by decide +kernel
theorem dL_end_16 : decode cL_end 16 = .ok (.ireturn, 1) := by decide +kernel
theorem dL_end_17 : decode cL_end 17 = .ok (.iconst 0, 1) := by decide +kernel
theorem dL_end_18 : decode cL_end 18 = .ok (.ireturn, 1) := by decide +kernel
set_option maxRecDepth 20000 in
theorem ggL_hops_X3_hops : GoodIn wsL_hops wsX3_hops := goodIn_ca (goodIn_r _ [6, 7, 8, 9, 5, 10, 11, 12, 13, 14, 15, 16, 17, 18, 19, 20, 21, 22, 23, 24, 25, 26, 27, 28, 29, 30, 31, 32, 33, 34, 35, 36, 37, 38, 39, 40, 41, 42, 43, 44, 45, 46, 47, 48, 49, 50, 51, 52, 53, 54, 55, 56, 57, 58, 59, 60, 61, 62, 63, 64, 65, 66, 67] (by decide +kernel) (by decide +kernel)) (goodIn_sub (fun _ h => List.mem_cons_of_mem _ (List.mem_append_right _ h)) (by decide +kernel))
set_option maxRecDepth 20000 in
theorem gL_hops_X3_hops : GoodIn wsL_hops (wsV RL 58 RX3 yX3_hops wsX3_hops) := goodIn_app (goodIn_of _ (by decide +kernel)) ggL_hops_X3_hops
theorem dL_hops_0 : decode cL_hops 0 = .ok (.aload_n 3, 1) := by decide +kernel
theorem dL_hops_1 : decode cL_hops 1 = .ok (.iconst 0, 1) := by decide +kernel
theorem dL_hops_2 : decode cL_hops 2 = .ok (.aload_n 0, 1) := by decide +kernel
theorem dL_hops_3 : decode cL_hops 3 = .ok (.iload_n 1, 1) := by decide +kernel
theorem dL_hops_4 : decode cL_hops 4 = .ok (.iload_n 2, 1) := by decide +kernel
theorem dL_hops_5 : decode cL_hops 5 = .ok (.invokevirtual 58, 3) := by decide +kernel
theorem dL_hops_8 : decode cL_hops 8 = .ok (.i2l, 1) := by decide +kernel
theorem dL_hops_9 : decode cL_hops 9 = .ok (.lastore, 1) := by decide +kernel
theorem dL_hops_10 : decode cL_hops 10 = .ok (.goto 7, 3) := by decide +kernel
theorem dL_hops_13 : decode cL_hops 13 = .ok (.astore 4, 2) := by decide +kernel
theorem dL_hops_15 : decode cL_hops 15 = .ok (.iconst 1, 1) := by decide +kernel
theorem dL_hops_16 : decode cL_hops 16 = .ok (.ireturn, 1) := by decide +kernel
theorem dL_hops_17 : decode cL_hops 17 = .ok (.iconst 0, 1) := by decide +kernel
theorem dL_hops_18 : decode cL_hops 18 = .ok (.ireturn, 1) := by decide +kernel
set_option maxRecDepth 20000 in
theorem ggL_hopTo_X3_hopTo : GoodIn wsL_hopTo wsX3_hopTo := goodIn_ca (goodIn_r _ [6, 7, 8, 9, 10, 11, 12, 5, 13, 14, 15, 16, 17, 18, 19, 20, 21, 22, 23, 24, 25, 26, 27, 28, 29, 30, 31, 32, 33, 34, 35, 36, 37, 38, 39, 40, 41, 42, 43, 44, 45, 46, 47, 48, 49, 50, 51, 52, 53, 54, 55, 56, 57, 58, 59, 60, 61, 62, 63, 64, 65, 66, 67] (by decide +kernel) (by decide +kernel)) (goodIn_sub (fun _ h => List.mem_cons_of_mem _ (List.mem_append_right _ h)) (by decide +kernel))
set_option maxRecDepth 20000 in
theorem gL_hopTo_X3_hopTo : GoodIn wsL_hopTo (wsV RL 61 RX3 yX3_hopTo wsX3_hopTo) := goodIn_app (goodIn_of _ (by decide +kernel)) ggL_hopTo_X3_hopTo
theorem dL_hopTo_0 : decode cL_hopTo 0 = .ok (.aload 4, 2) := by decide +kernel
theorem dL_hopTo_2 : decode cL_hopTo 2 = .ok (.iconst 0, 1) := by decide +kernel
theorem dL_hopTo_3 : decode cL_hopTo 3 = .ok (.aload_n 0, 1) := by decide +kernel
theorem dL_hopTo_4 : decode cL_hopTo 4 = .ok (.iload_n 1, 1) := by decide +kernel
theorem dL_hopTo_5 : decode cL_hopTo 5 = .ok (.iload_n 2, 1) := by decide +kernel
theorem dL_hopTo_6 : decode cL_hopTo 6 = .ok (.iload_n 3, 1) := by decide +kernel
theorem dL_hopTo_7 : decode cL_hopTo 7 = .ok (.invokevirtual 61, 3) := by decide +kernel
theorem dL_hopTo_10 : decode cL_hopTo 10 = .ok (.i2l, 1) := by decide +kernel
theorem dL_hopTo_11 : decode cL_hopTo 11 = .ok (.lastore, 1) := by decide +kernel
theorem dL_hopTo_12 : decode cL_hopTo 12 = .ok (.goto 7, 3) := by decide +kernel
theorem dL_hopTo_15 : decode cL_hopTo 15 = .ok (.astore 5, 2) := by decide +kernel
theorem dL_hopTo_17 : decode cL_hopTo 17 = .ok (.iconst 1, 1) := by decide +kernel
theorem dL_hopTo_18 : decode cL_hopTo 18 = .ok (.ireturn, 1) := by decide +kernel
theorem dL_hopTo_19 : decode cL_hopTo 19 = .ok (.iconst 0, 1) := by decide +kernel
theorem dL_hopTo_20 : decode cL_hopTo 20 = .ok (.ireturn, 1) := by decide +kernel
set_option maxRecDepth 20000 in
theorem ggL_lengthOf_X3_lengthOf : GoodIn wsL_lengthOf wsX3_lengthOf := goodIn_ca (goodIn_r _ [6, 7, 8, 9, 10, 11, 12, 5, 13, 14, 15, 16, 17, 18, 19, 20, 21, 22, 23, 24, 25, 26, 27, 28, 29, 30, 31, 32, 33, 34, 35, 36, 37, 38, 39, 40, 41, 42, 43, 44, 45, 46, 47, 48, 49, 50, 51, 52, 53, 54, 55, 56, 57, 58, 59, 60, 61, 62, 63, 64, 65, 66, 67, 68, 69, 70, 71, 72, 73, 74, 75, 76, 77, 78, 79] (by decide +kernel) (by decide +kernel)) (goodIn_sub (fun _ h => List.mem_cons_of_mem _ (List.mem_append_right _ h)) (by decide +kernel))
set_option maxRecDepth 20000 in
theorem gL_lengthOf_X3_lengthOf : GoodIn wsL_lengthOf (wsV RL 65 RX3 yX3_lengthOf wsX3_lengthOf) := goodIn_app (goodIn_of _ (by decide +kernel)) ggL_lengthOf_X3_lengthOf
theorem dL_lengthOf_0 : decode cL_lengthOf 0 = .ok (.aload_n 3, 1) := by decide +kernel
theorem dL_lengthOf_1 : decode cL_lengthOf 1 = .ok (.iconst 0, 1) := by decide +kernel
theorem dL_lengthOf_2 : decode cL_lengthOf 2 = .ok (.aload_n 0, 1) := by decide +kernel
theorem dL_lengthOf_3 : decode cL_lengthOf 3 = .ok (.iload_n 1, 1) := by decide +kernel
theorem dL_lengthOf_4 : decode cL_lengthOf 4 = .ok (.iload_n 2, 1) := by decide +kernel
theorem dL_lengthOf_5 : decode cL_lengthOf 5 = .ok (.invokevirtual 65, 3) := by decide +kernel
theorem dL_lengthOf_8 : decode cL_lengthOf 8 = .ok (.i2l, 1) := by decide +kernel
theorem dL_lengthOf_9 : decode cL_lengthOf 9 = .ok (.lastore, 1) := by decide +kernel
theorem dL_lengthOf_10 : decode cL_lengthOf 10 = .ok (.goto 7, 3) := by decide +kernel
theorem dL_lengthOf_13 : decode cL_lengthOf 13 = .ok (.astore 4, 2) := by decide +kernel
theorem dL_lengthOf_15 : decode cL_lengthOf 15 = .ok (.iconst 1, 1) := by decide +kernel
theorem dL_lengthOf_16 : decode cL_lengthOf 16 = .ok (.ireturn, 1) := by decide +kernel
theorem dL_lengthOf_17 : decode cL_lengthOf 17 = .ok (.iconst 0, 1) := by decide +kernel
theorem dL_lengthOf_18 : decode cL_lengthOf 18 = .ok (.ireturn, 1) := by decide +kernel
set_option maxRecDepth 20000 in
theorem ggL_isRing_X3_isRing : GoodIn wsL_isRing wsX3_isRing := goodIn_ca (goodIn_r _ [6, 7, 8, 9, 5, 10, 11, 12, 13, 14, 15, 16, 17, 18, 19, 20, 21, 22, 23, 24, 25, 26, 27, 28, 29, 30, 31, 32, 33, 34, 35, 36, 37, 38, 39, 40, 41, 42, 43, 44, 45, 46, 47, 48, 49, 50, 51, 52, 53, 54, 55, 56, 57, 58, 59, 60, 61, 62, 63, 64, 65, 66, 67, 68, 69, 70, 71] (by decide +kernel) (by decide +kernel)) (goodIn_sub (fun _ h => List.mem_cons_of_mem _ (List.mem_append_right _ h)) (by decide +kernel))
set_option maxRecDepth 20000 in
theorem gL_isRing_X3_isRing : GoodIn wsL_isRing (wsV RL 68 RX3 yX3_isRing wsX3_isRing) := goodIn_app (goodIn_of _ (by decide +kernel)) ggL_isRing_X3_isRing
theorem dL_isRing_0 : decode cL_isRing 0 = .ok (.aload_n 2, 1) := by decide +kernel
theorem dL_isRing_1 : decode cL_isRing 1 = .ok (.iconst 0, 1) := by decide +kernel
theorem dL_isRing_2 : decode cL_isRing 2 = .ok (.aload_n 0, 1) := by decide +kernel
theorem dL_isRing_3 : decode cL_isRing 3 = .ok (.iload_n 1, 1) := by decide +kernel
theorem dL_isRing_4 : decode cL_isRing 4 = .ok (.invokevirtual 68, 3) := by decide +kernel
theorem dL_isRing_7 : decode cL_isRing 7 = .ok (.ifCond .eq 7, 3) := by decide +kernel
theorem dL_isRing_10 : decode cL_isRing 10 = .ok (.lconst 1, 1) := by decide +kernel
theorem dL_isRing_11 : decode cL_isRing 11 = .ok (.goto 4, 3) := by decide +kernel
theorem dL_isRing_14 : decode cL_isRing 14 = .ok (.lconst 0, 1) := by decide +kernel
theorem dL_isRing_15 : decode cL_isRing 15 = .ok (.lastore, 1) := by decide +kernel
theorem dL_isRing_16 : decode cL_isRing 16 = .ok (.goto 6, 3) := by decide +kernel
theorem dL_isRing_19 : decode cL_isRing 19 = .ok (.astore_n 3, 1) := by decide +kernel
theorem dL_isRing_20 : decode cL_isRing 20 = .ok (.iconst 1, 1) := by decide +kernel
theorem dL_isRing_21 : decode cL_isRing 21 = .ok (.ireturn, 1) := by decide +kernel
theorem dL_isRing_22 : decode cL_isRing 22 = .ok (.iconst 0, 1) := by decide +kernel
theorem dL_isRing_23 : decode cL_isRing 23 = .ok (.ireturn, 1) := by decide +kernel
set_option maxRecDepth 20000 in
theorem ggL_areJoined_X3_areJoined : GoodIn wsL_areJoined wsX3_areJoined := goodIn_ca (goodIn_r _ [6, 7, 8, 9, 5, 10, 11, 12, 13, 14, 15, 16, 17, 18, 19, 20, 21, 22, 23, 24, 25, 26, 27, 28, 29, 30, 31, 32, 33, 34, 35, 36, 37, 38, 39, 40, 41, 42, 43, 44, 45, 46, 47, 48, 49, 50, 51, 52, 53, 54, 55, 56, 57, 58, 59, 60, 61, 62, 63, 64, 65, 66, 67, 68, 69, 70, 71] (by decide +kernel) (by decide +kernel)) (goodIn_sub (fun _ h => List.mem_cons_of_mem _ (List.mem_append_right _ h)) (by decide +kernel))
set_option maxRecDepth 20000 in
theorem gL_areJoined_X3_areJoined : GoodIn wsL_areJoined (wsV RL 72 RX3 yX3_areJoined wsX3_areJoined) := goodIn_app (goodIn_of _ (by decide +kernel)) ggL_areJoined_X3_areJoined
theorem dL_areJoined_0 : decode cL_areJoined 0 = .ok (.aload_n 3, 1) := by decide +kernel
theorem dL_areJoined_1 : decode cL_areJoined 1 = .ok (.iconst 0, 1) := by decide +kernel
theorem dL_areJoined_2 : decode cL_areJoined 2 = .ok (.aload_n 0, 1) := by decide +kernel
theorem dL_areJoined_3 : decode cL_areJoined 3 = .ok (.iload_n 1, 1) := by decide +kernel
theorem dL_areJoined_4 : decode cL_areJoined 4 = .ok (.iload_n 2, 1) := by decide +kernel
theorem dL_areJoined_5 : decode cL_areJoined 5 = .ok (.invokevirtual 72, 3) := by decide +kernel
theorem dL_areJoined_8 : decode cL_areJoined 8 = .ok (.ifCond .eq 7, 3) := by decide +kernel
theorem dL_areJoined_11 : decode cL_areJoined 11 = .ok (.lconst 1, 1) := by decide +kernel
theorem dL_areJoined_12 : decode cL_areJoined 12 = .ok (.goto 4, 3) := by decide +kernel
theorem dL_areJoined_15 : decode cL_areJoined 15 = .ok (.lconst 0, 1) := by decide +kernel
theorem dL_areJoined_16 : decode cL_areJoined 16 = .ok (.lastore, 1) := by decide +kernel
theorem dL_areJoined_17 : decode cL_areJoined 17 = .ok (.goto 7, 3) := by decide +kernel
theorem dL_areJoined_20 : decode cL_areJoined 20 = .ok (.astore 4, 2) := by decide +kernel
theorem dL_areJoined_22 : decode cL_areJoined 22 = .ok (.iconst 1, 1) := by decide +kernel
theorem dL_areJoined_23 : decode cL_areJoined 23 = .ok (.ireturn, 1) := by decide +kernel
theorem dL_areJoined_24 : decode cL_areJoined 24 = .ok (.iconst 0, 1) := by decide +kernel
theorem dL_areJoined_25 : decode cL_areJoined 25 = .ok (.ireturn, 1) := by decide +kernel
set_option maxRecDepth 20000 in
theorem ggL_areJoinedBySearch_X3_areJoinedBySearch : GoodIn wsL_areJoinedBySearch wsX3_areJoinedBySearch := goodIn_ca (goodIn_r _ [6, 7, 8, 9, 10, 5, 11, 12, 13, 14, 15, 16, 17, 18, 19, 20, 21, 22, 23, 24, 25, 26, 27, 28, 29, 30, 31, 32, 33, 34, 35, 36, 37, 38, 39, 40, 41, 42, 43, 44, 45, 46, 47, 48, 49, 50, 51, 52, 53, 54, 55, 56, 57, 58, 59, 60, 61, 62, 63, 64, 65, 66, 67, 68, 69, 70, 71, 72, 73, 74, 75, 76, 77, 78, 79, 80] (by decide +kernel) (by decide +kernel)) (goodIn_sub (fun _ h => List.mem_cons_of_mem _ (List.mem_append_right _ h)) (by decide +kernel))
set_option maxRecDepth 20000 in
theorem gL_areJoinedBySearch_X3_areJoinedBySearch : GoodIn wsL_areJoinedBySearch (wsV RL 76 RX3 yX3_areJoinedBySearch wsX3_areJoinedBySearch) := goodIn_app (goodIn_of _ (by decide +kernel)) ggL_areJoinedBySearch_X3_areJoinedBySearch
theorem dL_areJoinedBySearch_0 : decode cL_areJoinedBySearch 0 = .ok (.aload_n 3, 1) := by decide +kernel
theorem dL_areJoinedBySearch_1 : decode cL_areJoinedBySearch 1 = .ok (.iconst 0, 1) := by decide +kernel
theorem dL_areJoinedBySearch_2 : decode cL_areJoinedBySearch 2 = .ok (.aload_n 0, 1) := by decide +kernel
theorem dL_areJoinedBySearch_3 : decode cL_areJoinedBySearch 3 = .ok (.iload_n 1, 1) := by decide +kernel
theorem dL_areJoinedBySearch_4 : decode cL_areJoinedBySearch 4 = .ok (.iload_n 2, 1) := by decide +kernel
theorem dL_areJoinedBySearch_5 : decode cL_areJoinedBySearch 5 = .ok (.invokevirtual 76, 3) := by decide +kernel
theorem dL_areJoinedBySearch_8 : decode cL_areJoinedBySearch 8 = .ok (.ifCond .eq 7, 3) := by decide +kernel
theorem dL_areJoinedBySearch_11 : decode cL_areJoinedBySearch 11 = .ok (.lconst 1, 1) := by decide +kernel
theorem dL_areJoinedBySearch_12 : decode cL_areJoinedBySearch 12 = .ok (.goto 4, 3) := by decide +kernel
theorem dL_areJoinedBySearch_15 : decode cL_areJoinedBySearch 15 = .ok (.lconst 0, 1) := by decide +kernel
theorem dL_areJoinedBySearch_16 : decode cL_areJoinedBySearch 16 = .ok (.lastore, 1) := by decide +kernel
theorem dL_areJoinedBySearch_17 : decode cL_areJoinedBySearch 17 = .ok (.goto 7, 3) := by decide +kernel
theorem dL_areJoinedBySearch_20 : decode cL_areJoinedBySearch 20 = .ok (.astore 4, 2) := by decide +kernel
theorem dL_areJoinedBySearch_22 : decode cL_areJoinedBySearch 22 = .ok (.iconst 1, 1) := by decide +kernel
theorem dL_areJoinedBySearch_23 : decode cL_areJoinedBySearch 23 = .ok (.ireturn, 1) := by decide +kernel
theorem dL_areJoinedBySearch_24 : decode cL_areJoinedBySearch 24 = .ok (.iconst 0, 1) := by decide +kernel
theorem dL_areJoinedBySearch_25 : decode cL_areJoinedBySearch 25 = .ok (.ireturn, 1) := by decide +kernel
set_option maxRecDepth 20000 in
theorem ggL_freePort_X3_freePort : GoodIn wsL_freePort wsX3_freePort := goodIn_ca (goodIn_r _ [6, 7, 8, 9, 10, 11, 5, 12, 13, 14, 15, 16, 17, 18, 19, 20, 21, 22, 23, 24, 25, 26, 27, 28, 29, 30, 31, 32, 33, 34, 35, 36, 37, 38, 39, 40, 41, 42, 43, 44, 45, 46, 47, 48, 49, 50, 51, 52, 53, 54, 55, 56] (by decide +kernel) (by decide +kernel)) (goodIn_sub (fun _ h => List.mem_cons_of_mem _ (List.mem_append_right _ h)) (by decide +kernel))
set_option maxRecDepth 20000 in
theorem gL_freePort_X3_freePort : GoodIn wsL_freePort (wsV RL 79 RX3 yX3_freePort wsX3_freePort) := goodIn_app (goodIn_of _ (by decide +kernel)) ggL_freePort_X3_freePort
theorem dL_freePort_0 : decode cL_freePort 0 = .ok (.aload_n 2, 1) := by decide +kernel
theorem dL_freePort_1 : decode cL_freePort 1 = .ok (.iconst 0, 1) := by decide +kernel
theorem dL_freePort_2 : decode cL_freePort 2 = .ok (.aload_n 0, 1) := by decide +kernel
theorem dL_freePort_3 : decode cL_freePort 3 = .ok (.iload_n 1, 1) := by decide +kernel
theorem dL_freePort_4 : decode cL_freePort 4 = .ok (.invokevirtual 79, 3) := by decide +kernel
theorem dL_freePort_7 : decode cL_freePort 7 = .ok (.i2l, 1) := by decide +kernel
theorem dL_freePort_8 : decode cL_freePort 8 = .ok (.lastore, 1) := by decide +kernel
theorem dL_freePort_9 : decode cL_freePort 9 = .ok (.goto 6, 3) := by decide +kernel
theorem dL_freePort_12 : decode cL_freePort 12 = .ok (.astore_n 3, 1) := by decide +kernel
theorem dL_freePort_13 : decode cL_freePort 13 = .ok (.iconst 1, 1) := by decide +kernel
theorem dL_freePort_14 : decode cL_freePort 14 = .ok (.ireturn, 1) := by decide +kernel
theorem dL_freePort_15 : decode cL_freePort 15 = .ok (.iconst 0, 1) := by decide +kernel
theorem dL_freePort_16 : decode cL_freePort 16 = .ok (.ireturn, 1) := by decide +kernel
set_option maxRecDepth 20000 in
theorem ggL_freeStrand_X3_freeStrand : GoodIn wsL_freeStrand wsX3_freeStrand := goodIn_ca (goodIn_r _ [6, 7, 8, 9, 10, 11, 12, 5, 13, 14, 15, 16, 17, 18, 19, 20, 21, 22, 23, 24, 25, 26, 27, 28, 29, 30, 31, 32, 33, 34, 35, 36, 37, 38, 39, 40, 41, 42, 43, 44, 45, 46, 47, 48, 49, 50, 51, 52, 53, 54, 55, 56, 57, 58, 59, 60, 61, 62, 63, 64, 65] (by decide +kernel) (by decide +kernel)) (goodIn_sub (fun _ h => List.mem_cons_of_mem _ (List.mem_append_right _ h)) (by decide +kernel))
set_option maxRecDepth 20000 in
theorem gL_freeStrand_X3_freeStrand : GoodIn wsL_freeStrand (wsV RL 82 RX3 yX3_freeStrand wsX3_freeStrand) := goodIn_app (goodIn_of _ (by decide +kernel)) ggL_freeStrand_X3_freeStrand
theorem dL_freeStrand_0 : decode cL_freeStrand 0 = .ok (.aload_n 3, 1) := by decide +kernel
theorem dL_freeStrand_1 : decode cL_freeStrand 1 = .ok (.iconst 0, 1) := by decide +kernel
theorem dL_freeStrand_2 : decode cL_freeStrand 2 = .ok (.aload_n 0, 1) := by decide +kernel
theorem dL_freeStrand_3 : decode cL_freeStrand 3 = .ok (.iload_n 1, 1) := by decide +kernel
theorem dL_freeStrand_4 : decode cL_freeStrand 4 = .ok (.iload_n 2, 1) := by decide +kernel
theorem dL_freeStrand_5 : decode cL_freeStrand 5 = .ok (.invokevirtual 82, 3) := by decide +kernel
theorem dL_freeStrand_8 : decode cL_freeStrand 8 = .ok (.i2l, 1) := by decide +kernel
theorem dL_freeStrand_9 : decode cL_freeStrand 9 = .ok (.lastore, 1) := by decide +kernel
theorem dL_freeStrand_10 : decode cL_freeStrand 10 = .ok (.goto 7, 3) := by decide +kernel
theorem dL_freeStrand_13 : decode cL_freeStrand 13 = .ok (.astore 4, 2) := by decide +kernel
theorem dL_freeStrand_15 : decode cL_freeStrand 15 = .ok (.iconst 1, 1) := by decide +kernel
theorem dL_freeStrand_16 : decode cL_freeStrand 16 = .ok (.ireturn, 1) := by decide +kernel
theorem dL_freeStrand_17 : decode cL_freeStrand 17 = .ok (.iconst 0, 1) := by decide +kernel
theorem dL_freeStrand_18 : decode cL_freeStrand 18 = .ok (.ireturn, 1) := by decide +kernel
set_option maxRecDepth 20000 in
theorem ggL_used_X3_used : GoodIn wsL_used wsX3_used := goodIn_ca (goodIn_r _ [6, 7, 8, 9, 10, 11, 12, 5, 13, 14, 15, 16, 17, 18, 19, 20, 21, 22, 23, 24, 25, 26, 27, 28, 29, 30, 31, 32, 33, 34, 35, 36, 37, 38, 39, 40, 41, 42, 43, 44, 45, 46, 47, 48, 49, 50, 51, 52] (by decide +kernel) (by decide +kernel)) (goodIn_sub (fun _ h => List.mem_cons_of_mem _ (List.mem_append_right _ h)) (by decide +kernel))
set_option maxRecDepth 20000 in
theorem gL_used_X3_used : GoodIn wsL_used (wsV RL 85 RX3 yX3_used wsX3_used) := goodIn_app (goodIn_of _ (by decide +kernel)) ggL_used_X3_used
theorem dL_used_0 : decode cL_used 0 = .ok (.aload_n 2, 1) := by decide +kernel
theorem dL_used_1 : decode cL_used 1 = .ok (.iconst 0, 1) := by decide +kernel
theorem dL_used_2 : decode cL_used 2 = .ok (.aload_n 0, 1) := by decide +kernel
theorem dL_used_3 : decode cL_used 3 = .ok (.iload_n 1, 1) := by decide +kernel
theorem dL_used_4 : decode cL_used 4 = .ok (.invokevirtual 85, 3) := by decide +kernel
theorem dL_used_7 : decode cL_used 7 = .ok (.i2l, 1) := by decide +kernel
theorem dL_used_8 : decode cL_used 8 = .ok (.lastore, 1) := by decide +kernel
theorem dL_used_9 : decode cL_used 9 = .ok (.goto 6, 3) := by decide +kernel
theorem dL_used_12 : decode cL_used 12 = .ok (.astore_n 3, 1) := by decide +kernel
theorem dL_used_13 : decode cL_used 13 = .ok (.iconst 1, 1) := by decide +kernel
theorem dL_used_14 : decode cL_used 14 = .ok (.ireturn, 1) := by decide +kernel
theorem dL_used_15 : decode cL_used 15 = .ok (.iconst 0, 1) := by decide +kernel
theorem dL_used_16 : decode cL_used 16 = .ok (.ireturn, 1) := by decide +kernel
set_option maxRecDepth 20000 in
theorem ggL_law_X3_init : GoodIn wsL_law wsX3_init := goodIn_r _ [9, 10, 11, 12, 13, 14, 15, 16, 17, 18, 19, 20, 21, 22, 23, 24, 25, 26, 27, 28, 29, 30, 31, 32, 33, 34, 35, 36, 37, 38, 39, 40, 41, 42, 43, 44, 45, 46, 47, 48, 49, 50, 51, 52, 53, 54, 55, 56, 57, 58, 59, 60, 61, 62, 63, 64, 65, 66, 67, 682, 683, 639, 640, 641, 642, 643, 644, 645, 646, 647, 648, 649, 650, 651, 652, 653, 654, 655, 656, 657, 684, 685, 686, 687, 688, 689] (by decide +kernel) (by decide +kernel)
set_option maxRecDepth 20000 in
theorem gL_law_X3_init : GoodIn wsL_law (wsX3_init) := ggL_law_X3_init
set_option maxRecDepth 20000 in
theorem ggL_law_X4_init : GoodIn wsL_law wsX4_init := goodIn_r _ [70, 71, 11, 12, 49, 72, 73, 74, 75, 76, 77, 57, 78, 79, 80, 81, 82, 83, 84, 85, 86, 87, 88, 658, 659, 660, 661, 662, 663, 664, 665, 666, 667, 668, 669, 670, 671, 672, 673, 674, 675, 676, 677, 678, 679, 680, 681] (by decide +kernel) (by decide +kernel)
set_option maxRecDepth 20000 in
theorem gL_law_X4_init : GoodIn wsL_law (wsX4_init) := ggL_law_X4_init
set_option maxRecDepth 20000 in
theorem ggL_law_L_addPanel : GoodIn wsL_law wsL_addPanel := goodIn_ca (goodIn_ca (goodIn_r _ [92, 93, 94, 95, 96, 97, 2, 98, 99, 100, 101, 102, 38, 39, 16, 17, 18, 19, 103, 104, 105, 106, 107, 108, 15, 109, 50, 639, 640, 641, 642, 643, 644, 645, 646, 647, 648, 649, 650, 651, 652, 653, 654, 655, 656, 657, 682, 683] (by decide +kernel) (by decide +kernel)) (goodIn_sub (fun _ h => List.mem_append_left _ (List.mem_append_left _ (List.mem_append_right _ h))) (by decide +kernel))) (goodIn_sub (fun _ h => List.mem_append_left _ (List.mem_append_right _ h)) (by decide +kernel))
set_option maxRecDepth 20000 in
theorem gL_law_L_addPanel : GoodIn wsL_law (va_wsS RL 92 yL_addPanel wsL_addPanel) := goodIn_app (goodIn_of _ (by decide +kernel)) ggL_law_L_addPanel
set_option maxRecDepth 20000 in
theorem ggL_law_X4_addPanel : GoodIn wsL_law wsX4_addPanel := goodIn_r _ [113, 114, 72, 115, 74, 76, 73, 116, 117, 5, 118, 119, 120, 121, 122, 123, 658, 659, 660, 661, 662, 663, 664, 665, 666, 667, 668, 669, 670, 671, 672, 673, 674, 675, 676, 677, 678, 679, 680, 681] (by decide +kernel) (by decide +kernel)
set_option maxRecDepth 20000 in
theorem gL_law_X4_addPanel : GoodIn wsL_law (wsV RL 97 RX4 yX4_addPanel wsX4_addPanel) := goodIn_app (goodIn_of _ (by decide +kernel)) ggL_law_X4_addPanel
set_option maxRecDepth 20000 in
theorem ggL_law_X4_thrown : GoodIn wsL_law wsX4_thrown := goodIn_r _ [127, 123, 658, 659, 660, 661, 662, 663, 664, 665, 666, 667, 668, 669, 670, 671, 672, 673, 674, 675, 676, 677, 678, 679, 680, 681] (by decide +kernel) (by decide +kernel)
set_option maxRecDepth 20000 in
theorem gL_law_X4_thrown : GoodIn wsL_law (wsV RL 98 RX4 yX4_thrown wsX4_thrown) := goodIn_app (goodIn_of _ (by decide +kernel)) ggL_law_X4_thrown
set_option maxRecDepth 20000 in
theorem ggL_law_L_addTrunk : GoodIn wsL_law wsL_addTrunk := goodIn_ca (goodIn_ca (goodIn_ca (goodIn_r _ [130, 131, 93, 94, 132, 133, 134, 2, 135, 99, 100, 101, 102, 19, 40, 28, 29, 30, 136, 137, 138, 139, 140, 141, 39, 103, 104, 105, 142, 143, 144, 15, 145, 50, 51, 146, 147, 148, 149, 17, 18, 150, 151, 152, 153, 154, 155, 156, 157, 22, 106, 107, 108, 109, 158, 159, 160, 161, 23, 639, 640, 641, 642, 643, 644, 645, 646, 647, 648, 649, 650, 651, 652, 653, 654, 655, 656, 657, 682, 683] (by decide +kernel) (by decide +kernel)) (goodIn_sub (fun _ h => List.mem_append_left _ (List.mem_append_left _ (List.mem_append_right _ h))) (by decide +kernel))) (goodIn_sub (fun _ h => List.mem_append_left _ (List.mem_append_right _ h)) (by decide +kernel))) (goodIn_sub (fun _ h => List.mem_append_right _ h) (by decide +kernel))
set_option maxRecDepth 20000 in
theorem gL_law_L_addTrunk : GoodIn wsL_law (va_wsS RL 101 yL_addTrunk wsL_addTrunk) := goodIn_app (goodIn_of _ (by decide +kernel)) ggL_law_L_addTrunk
set_option maxRecDepth 20000 in
theorem ggL_law_X4_addTrunk : GoodIn wsL_law wsX4_addTrunk := goodIn_r _ [165, 79, 166, 80, 81, 82, 167, 168, 169, 5, 170, 76, 171, 172, 173, 174, 175, 176, 177, 178, 115, 116, 117, 118, 179, 180, 181, 182, 73, 183, 184, 185, 186, 119, 120, 121, 122, 123, 187, 188, 189, 190, 77, 78, 658, 659, 660, 661, 662, 663, 664, 665, 666, 667, 668, 669, 670, 671, 672, 673, 674, 675, 676, 677, 678, 679, 680, 681] (by decide +kernel) (by decide +kernel)
set_option maxRecDepth 20000 in
theorem gL_law_X4_addTrunk : GoodIn wsL_law (wsV RL 104 RX4 yX4_addTrunk wsX4_addTrunk) := goodIn_app (goodIn_of _ (by decide +kernel)) ggL_law_X4_addTrunk
set_option maxRecDepth 20000 in
theorem ggL_law_L_setBroken : GoodIn wsL_law wsL_setBroken := goodIn_ca (goodIn_r _ [193, 131, 194, 195, 196, 2, 197, 140, 141, 29, 28, 27, 22, 198, 199, 200, 201, 40, 103, 104, 105, 142, 143, 144, 15, 145, 50, 51, 202, 203, 204, 26, 205, 58, 206, 207, 208, 209, 639, 640, 641, 642, 643, 644, 645, 646, 647, 648, 649, 650, 651, 652, 653, 654, 655, 656, 657, 682, 683, 684] (by decide +kernel) (by decide +kernel)) (goodIn_sub (fun _ h => List.mem_append_right _ h) (by decide +kernel))
set_option maxRecDepth 20000 in
theorem gL_law_L_setBroken : GoodIn wsL_law (va_wsS RL 105 yL_setBroken wsL_setBroken) := goodIn_app (goodIn_of _ (by decide +kernel)) ggL_law_L_setBroken
set_option maxRecDepth 20000 in
theorem ggL_law_X4_setBroken : GoodIn wsL_law wsX4_setBroken := goodIn_r _ [213, 81, 78, 79, 80, 214, 215, 216, 5, 217, 166, 116, 117, 118, 119, 120, 121, 122, 123, 658, 659, 660, 661, 662, 663, 664, 665, 666, 667, 668, 669, 670, 671, 672, 673, 674, 675, 676, 677, 678, 679, 680, 681] (by decide +kernel) (by decide +kernel)
set_option maxRecDepth 20000 in
theorem gL_law_X4_setBroken : GoodIn wsL_law (wsV RL 108 RX4 yX4_setBroken wsX4_setBroken) := goodIn_app (goodIn_of _ (by decide +kernel)) ggL_law_X4_setBroken
set_option maxRecDepth 20000 in
theorem ggL_law_L_plug : GoodIn wsL_law wsL_plug := goodIn_ca (goodIn_ca (goodIn_ca (goodIn_r _ [220, 131, 93, 94, 221, 222, 223, 2, 224, 99, 100, 101, 102, 136, 137, 138, 139, 140, 141, 39, 103, 104, 105, 225, 226, 227, 228, 20, 142, 143, 144, 15, 145, 50, 51, 229, 230, 231, 232, 21, 106, 107, 108, 109, 233, 234, 235, 236, 19, 16, 237, 238, 47, 239, 639, 640, 641, 642, 643, 644, 645, 646, 647, 648, 649, 650, 651, 652, 653, 654, 655, 656, 657, 682, 683] (by decide +kernel) (by decide +kernel)) (goodIn_sub (fun _ h => List.mem_append_left _ (List.mem_append_left _ (List.mem_append_right _ h))) (by decide +kernel))) (goodIn_sub (fun _ h => List.mem_append_left _ (List.mem_append_right _ h)) (by decide +kernel))) (goodIn_sub (fun _ h => List.mem_append_right _ h) (by decide +kernel))
set_option maxRecDepth 20000 in
theorem gL_law_L_plug : GoodIn wsL_law (va_wsS RL 109 yL_plug wsL_plug) := goodIn_app (goodIn_of _ (by decide +kernel)) ggL_law_L_plug
set_option maxRecDepth 20000 in
theorem ggL_law_X4_plug : GoodIn wsL_law wsX4_plug := goodIn_r _ [243, 74, 75, 171, 172, 173, 5, 174, 175, 176, 177, 178, 115, 116, 117, 118, 119, 120, 121, 122, 123, 244, 245, 246, 247, 72, 179, 180, 181, 182, 73, 658, 659, 660, 661, 662, 663, 664, 665, 666, 667, 668, 669, 670, 671, 672, 673, 674, 675, 676, 677, 678, 679, 680, 681] (by decide +kernel) (by decide +kernel)
set_option maxRecDepth 20000 in
theorem gL_law_X4_plug : GoodIn wsL_law (wsV RL 112 RX4 yX4_plug wsX4_plug) := goodIn_app (goodIn_of _ (by decide +kernel)) ggL_law_X4_plug
set_option maxRecDepth 20000 in
theorem ggL_law_L_pull : GoodIn wsL_law wsL_pull := goodIn_ca (goodIn_ca (goodIn_r _ [250, 131, 94, 251, 252, 253, 2, 254, 101, 102, 20, 136, 137, 138, 139, 140, 141, 39, 103, 104, 105, 225, 226, 227, 228, 142, 143, 144, 15, 145, 50, 51, 255, 256, 257, 258, 21, 106, 107, 108, 109, 639, 640, 641, 642, 643, 644, 645, 646, 647, 648, 649, 650, 651, 652, 653, 654, 655, 656, 657, 682, 683] (by decide +kernel) (by decide +kernel)) (goodIn_sub (fun _ h => List.mem_append_left _ (List.mem_append_right _ h)) (by decide +kernel))) (goodIn_sub (fun _ h => List.mem_append_right _ h) (by decide +kernel))
set_option maxRecDepth 20000 in
theorem gL_law_L_pull : GoodIn wsL_law (va_wsS RL 113 yL_pull wsL_pull) := goodIn_app (goodIn_of _ (by decide +kernel)) ggL_law_L_pull
set_option maxRecDepth 20000 in
theorem ggL_law_X4_pull : GoodIn wsL_law wsX4_pull := goodIn_r _ [262, 74, 175, 176, 177, 5, 178, 115, 116, 117, 118, 119, 120, 121, 122, 123, 658, 659, 660, 661, 662, 663, 664, 665, 666, 667, 668, 669, 670, 671, 672, 673, 674, 675, 676, 677, 678, 679, 680, 681] (by decide +kernel) (by decide +kernel)
set_option maxRecDepth 20000 in
theorem gL_law_X4_pull : GoodIn wsL_law (wsV RL 116 RX4 yX4_pull wsX4_pull) := goodIn_app (goodIn_of _ (by decide +kernel)) ggL_law_X4_pull
set_option maxRecDepth 20000 in
theorem ggL_law_L_addMove : GoodIn wsL_law wsL_addMove := goodIn_ca (goodIn_ca (goodIn_ca (goodIn_r _ [265, 131, 93, 94, 266, 267, 268, 2, 269, 99, 100, 101, 102, 34, 136, 137, 138, 139, 140, 141, 39, 103, 104, 105, 270, 271, 272, 33, 273, 274, 275, 276, 277, 278, 63, 64, 279, 107, 108, 15, 109, 50, 639, 640, 641, 642, 643, 644, 645, 646, 647, 648, 649, 650, 651, 652, 653, 654, 655, 656, 657, 685, 686, 687, 688, 689, 682, 683] (by decide +kernel) (by decide +kernel)) (goodIn_sub (fun _ h => List.mem_append_left _ (List.mem_append_left _ (List.mem_append_right _ h))) (by decide +kernel))) (goodIn_sub (fun _ h => List.mem_append_left _ (List.mem_append_right _ h)) (by decide +kernel))) (goodIn_sub (fun _ h => List.mem_append_right _ h) (by decide +kernel))
set_option maxRecDepth 20000 in
theorem gL_law_L_addMove : GoodIn wsL_law (va_wsS RL 117 yL_addMove wsL_addMove) := goodIn_app (goodIn_of _ (by decide +kernel)) ggL_law_L_addMove
set_option maxRecDepth 20000 in
theorem ggL_law_X4_addMove : GoodIn wsL_law wsX4_addMove := goodIn_r _ [283, 284, 83, 84, 171, 172, 173, 5, 174, 175, 176, 177, 178, 115, 116, 117, 118, 119, 120, 121, 122, 123, 658, 659, 660, 661, 662, 663, 664, 665, 666, 667, 668, 669, 670, 671, 672, 673, 674, 675, 676, 677, 678, 679, 680, 681] (by decide +kernel) (by decide +kernel)
set_option maxRecDepth 20000 in
theorem gL_law_X4_addMove : GoodIn wsL_law (wsV RL 119 RX4 yX4_addMove wsX4_addMove) := goodIn_app (goodIn_of _ (by decide +kernel)) ggL_law_X4_addMove
set_option maxRecDepth 20000 in
theorem ggL_law_X3_dropPlan : GoodIn wsL_law wsX3_dropPlan := goodIn_r _ [288, 34, 270, 271, 272, 33, 273, 274, 289, 290, 291, 292, 639, 640, 641, 642, 643, 644, 645, 646, 647, 648, 649, 650, 651, 652, 653, 654, 655, 656, 657, 685, 686, 687, 688, 689] (by decide +kernel) (by decide +kernel)
set_option maxRecDepth 20000 in
theorem gL_law_X3_dropPlan : GoodIn wsL_law (wsV RL 120 RX3 yX3_dropPlan wsX3_dropPlan) := goodIn_app (goodIn_of _ (by decide +kernel)) ggL_law_X3_dropPlan
set_option maxRecDepth 20000 in
theorem ggL_law_X4_dropPlan : GoodIn wsL_law wsX4_dropPlan := goodIn_r _ [296, 123, 284, 658, 659, 660, 661, 662, 663, 664, 665, 666, 667, 668, 669, 670, 671, 672, 673, 674, 675, 676, 677, 678, 679, 680, 681] (by decide +kernel) (by decide +kernel)
set_option maxRecDepth 20000 in
theorem gL_law_X4_dropPlan : GoodIn wsL_law (wsV RL 123 RX4 yX4_dropPlan wsX4_dropPlan) := goodIn_app (goodIn_of _ (by decide +kernel)) ggL_law_X4_dropPlan
set_option maxRecDepth 20000 in
theorem ggL_law_L_carryOut : GoodIn wsL_law wsL_carryOut := goodIn_ca (goodIn_r _ [299, 94, 300, 301, 302, 2, 303, 101, 102, 34, 304, 305, 306, 307, 270, 271, 272, 33, 273, 274, 308, 309, 310, 311, 63, 312, 143, 144, 15, 145, 50, 51, 225, 226, 227, 228, 20, 142, 313, 314, 315, 316, 317, 318, 319, 320, 321, 64, 322, 323, 324, 325, 326, 327, 328, 329, 330, 331, 332, 333, 334, 21, 335, 336, 337, 338, 65, 66, 279, 107, 108, 109, 255, 256, 257, 258, 106, 339, 340, 341, 342, 343, 344, 345, 346, 347, 348, 349, 350, 351, 352, 353, 354, 229, 230, 231, 232, 289, 290, 291, 292, 639, 640, 641, 642, 643, 644, 645, 646, 647, 648, 649, 650, 651, 652, 653, 654, 655, 656, 657, 685, 686, 687, 688, 689, 682, 683] (by decide +kernel) (by decide +kernel)) (goodIn_sub (fun _ h => List.mem_append_left _ (List.mem_append_right _ h)) (by decide +kernel))
set_option maxRecDepth 20000 in
theorem gL_law_L_carryOut : GoodIn wsL_law (va_wsS RL 124 yL_carryOut wsL_carryOut) := goodIn_app (goodIn_of _ (by decide +kernel)) ggL_law_L_carryOut
set_option maxRecDepth 20000 in
theorem ggL_law_X4_carryOut : GoodIn wsL_law wsX4_carryOut := goodIn_r _ [358, 115, 74, 85, 75, 86, 284, 359, 360, 361, 5, 362, 83, 84, 363, 364, 365, 366, 367, 368, 369, 370, 119, 120, 121, 122, 123, 658, 659, 660, 661, 662, 663, 664, 665, 666, 667, 668, 669, 670, 671, 672, 673, 674, 675, 676, 677, 678, 679, 680, 681] (by decide +kernel) (by decide +kernel)
set_option maxRecDepth 20000 in
theorem gL_law_X4_carryOut : GoodIn wsL_law (wsV RL 127 RX4 yX4_carryOut wsX4_carryOut) := goodIn_app (goodIn_of _ (by decide +kernel)) ggL_law_X4_carryOut
set_option maxRecDepth 20000 in
theorem ggL_law_X3_ports : GoodIn wsL_law wsX3_ports := goodIn_r _ [374, 39, 639, 640, 641, 642, 643, 644, 645, 646, 647, 648, 649, 650, 651, 652, 653, 654, 655, 656, 657] (by decide +kernel) (by decide +kernel)
set_option maxRecDepth 20000 in
theorem gL_law_X3_ports : GoodIn wsL_law (wsV RL 128 RX3 yX3_ports wsX3_ports) := goodIn_app (goodIn_of _ (by decide +kernel)) ggL_law_X3_ports
set_option maxRecDepth 20000 in
theorem ggL_law_X4_ports : GoodIn wsL_law wsX4_ports := goodIn_r _ [378, 123, 115, 658, 659, 660, 661, 662, 663, 664, 665, 666, 667, 668, 669, 670, 671, 672, 673, 674, 675, 676, 677, 678, 679, 680, 681] (by decide +kernel) (by decide +kernel)
set_option maxRecDepth 20000 in
theorem gL_law_X4_ports : GoodIn wsL_law (wsV RL 131 RX4 yX4_ports wsX4_ports) := goodIn_app (goodIn_of _ (by decide +kernel)) ggL_law_X4_ports
set_option maxRecDepth 20000 in
theorem ggL_law_X3_trunks : GoodIn wsL_law wsX3_trunks := goodIn_r _ [382, 40, 639, 640, 641, 642, 643, 644, 645, 646, 647, 648, 649, 650, 651, 652, 653, 654, 655, 656, 657] (by decide +kernel) (by decide +kernel)
set_option maxRecDepth 20000 in
theorem gL_law_X3_trunks : GoodIn wsL_law (wsV RL 132 RX3 yX3_trunks wsX3_trunks) := goodIn_app (goodIn_of _ (by decide +kernel)) ggL_law_X3_trunks
set_option maxRecDepth 20000 in
theorem ggL_law_X4_trunks : GoodIn wsL_law wsX4_trunks := goodIn_r _ [386, 123, 166, 658, 659, 660, 661, 662, 663, 664, 665, 666, 667, 668, 669, 670, 671, 672, 673, 674, 675, 676, 677, 678, 679, 680, 681] (by decide +kernel) (by decide +kernel)
set_option maxRecDepth 20000 in
theorem gL_law_X4_trunks : GoodIn wsL_law (wsV RL 135 RX4 yX4_trunks wsX4_trunks) := goodIn_app (goodIn_of _ (by decide +kernel)) ggL_law_X4_trunks
set_option maxRecDepth 20000 in
theorem ggL_law_X3_cables : GoodIn wsL_law wsX3_cables := goodIn_r _ [390, 39, 391, 392, 393, 2, 394, 20, 142, 143, 144, 15, 145, 50, 51, 639, 640, 641, 642, 643, 644, 645, 646, 647, 648, 649, 650, 651, 652, 653, 654, 655, 656, 657, 682, 683] (by decide +kernel) (by decide +kernel)
set_option maxRecDepth 20000 in
theorem gL_law_X3_cables : GoodIn wsL_law (wsV RL 136 RX3 yX3_cables wsX3_cables) := goodIn_app (goodIn_of _ (by decide +kernel)) ggL_law_X3_cables
set_option maxRecDepth 20000 in
theorem ggL_law_X4_cables : GoodIn wsL_law wsX4_cables := goodIn_r _ [398, 123, 115, 74, 658, 659, 660, 661, 662, 663, 664, 665, 666, 667, 668, 669, 670, 671, 672, 673, 674, 675, 676, 677, 678, 679, 680, 681] (by decide +kernel) (by decide +kernel)
set_option maxRecDepth 20000 in
theorem gL_law_X4_cables : GoodIn wsL_law (wsV RL 139 RX4 yX4_cables wsX4_cables) := goodIn_app (goodIn_of _ (by decide +kernel)) ggL_law_X4_cables
set_option maxRecDepth 20000 in
theorem ggL_law_L_panelOf : GoodIn wsL_law wsL_panelOf := goodIn_ca (goodIn_r _ [401, 131, 402, 403, 404, 2, 405, 19, 136, 137, 138, 139, 140, 141, 39, 103, 104, 105, 142, 143, 144, 15, 145, 50, 51, 639, 640, 641, 642, 643, 644, 645, 646, 647, 648, 649, 650, 651, 652, 653, 654, 655, 656, 657, 682, 683] (by decide +kernel) (by decide +kernel)) (goodIn_sub (fun _ h => List.mem_append_right _ h) (by decide +kernel))
set_option maxRecDepth 20000 in
theorem gL_law_L_panelOf : GoodIn wsL_law (va_wsS RL 140 yL_panelOf wsL_panelOf) := goodIn_app (goodIn_of _ (by decide +kernel)) ggL_law_L_panelOf
set_option maxRecDepth 20000 in
theorem ggL_law_X4_panelOf : GoodIn wsL_law wsX4_panelOf := goodIn_r _ [409, 175, 176, 177, 5, 178, 115, 116, 117, 118, 119, 120, 121, 122, 123, 179, 180, 181, 182, 73, 658, 659, 660, 661, 662, 663, 664, 665, 666, 667, 668, 669, 670, 671, 672, 673, 674, 675, 676, 677, 678, 679, 680, 681] (by decide +kernel) (by decide +kernel)
set_option maxRecDepth 20000 in
theorem gL_law_X4_panelOf : GoodIn wsL_law (wsV RL 142 RX4 yX4_panelOf wsX4_panelOf) := goodIn_app (goodIn_of _ (by decide +kernel)) ggL_law_X4_panelOf
set_option maxRecDepth 20000 in
theorem ggL_law_L_byCable : GoodIn wsL_law wsL_byCable := goodIn_ca (goodIn_r _ [412, 131, 413, 414, 415, 2, 416, 20, 136, 137, 138, 139, 140, 141, 39, 103, 104, 105, 142, 143, 144, 15, 145, 50, 51, 639, 640, 641, 642, 643, 644, 645, 646, 647, 648, 649, 650, 651, 652, 653, 654, 655, 656, 657, 682, 683] (by decide +kernel) (by decide +kernel)) (goodIn_sub (fun _ h => List.mem_append_right _ h) (by decide +kernel))
set_option maxRecDepth 20000 in
theorem gL_law_L_byCable : GoodIn wsL_law (va_wsS RL 143 yL_byCable wsL_byCable) := goodIn_app (goodIn_of _ (by decide +kernel)) ggL_law_L_byCable
set_option maxRecDepth 20000 in
theorem ggL_law_X4_byCable : GoodIn wsL_law wsX4_byCable := goodIn_r _ [420, 74, 175, 176, 177, 5, 178, 115, 116, 117, 118, 119, 120, 121, 122, 123, 658, 659, 660, 661, 662, 663, 664, 665, 666, 667, 668, 669, 670, 671, 672, 673, 674, 675, 676, 677, 678, 679, 680, 681] (by decide +kernel) (by decide +kernel)
set_option maxRecDepth 20000 in
theorem gL_law_X4_byCable : GoodIn wsL_law (wsV RL 145 RX4 yX4_byCable wsX4_byCable) := goodIn_app (goodIn_of _ (by decide +kernel)) ggL_law_X4_byCable
set_option maxRecDepth 20000 in
theorem ggL_law_L_byStrand : GoodIn wsL_law wsL_byStrand := goodIn_ca (goodIn_r _ [423, 131, 424, 425, 426, 2, 427, 22, 136, 137, 138, 139, 140, 141, 39, 103, 104, 105, 142, 143, 144, 15, 145, 50, 51, 639, 640, 641, 642, 643, 644, 645, 646, 647, 648, 649, 650, 651, 652, 653, 654, 655, 656, 657, 682, 683] (by decide +kernel) (by decide +kernel)) (goodIn_sub (fun _ h => List.mem_append_right _ h) (by decide +kernel))
set_option maxRecDepth 20000 in
theorem gL_law_L_byStrand : GoodIn wsL_law (va_wsS RL 146 yL_byStrand wsL_byStrand) := goodIn_app (goodIn_of _ (by decide +kernel)) ggL_law_L_byStrand
set_option maxRecDepth 20000 in
theorem ggL_law_X4_byStrand : GoodIn wsL_law wsX4_byStrand := goodIn_r _ [431, 76, 175, 176, 177, 5, 178, 115, 116, 117, 118, 119, 120, 121, 122, 123, 658, 659, 660, 661, 662, 663, 664, 665, 666, 667, 668, 669, 670, 671, 672, 673, 674, 675, 676, 677, 678, 679, 680, 681] (by decide +kernel) (by decide +kernel)
set_option maxRecDepth 20000 in
theorem gL_law_X4_byStrand : GoodIn wsL_law (wsV RL 148 RX4 yX4_byStrand wsX4_byStrand) := goodIn_app (goodIn_of _ (by decide +kernel)) ggL_law_X4_byStrand
set_option maxRecDepth 20000 in
theorem ggL_law_L_colour : GoodIn wsL_law wsL_colour := goodIn_ca (goodIn_r _ [434, 131, 435, 436, 437, 2, 438, 21, 136, 137, 138, 139, 140, 141, 39, 103, 104, 105, 142, 143, 144, 15, 145, 50, 51, 639, 640, 641, 642, 643, 644, 645, 646, 647, 648, 649, 650, 651, 652, 653, 654, 655, 656, 657, 682, 683] (by decide +kernel) (by decide +kernel)) (goodIn_sub (fun _ h => List.mem_append_right _ h) (by decide +kernel))
set_option maxRecDepth 20000 in
theorem gL_law_L_colour : GoodIn wsL_law (va_wsS RL 149 yL_colour wsL_colour) := goodIn_app (goodIn_of _ (by decide +kernel)) ggL_law_L_colour
set_option maxRecDepth 20000 in
theorem ggL_law_X4_colour : GoodIn wsL_law wsX4_colour := goodIn_r _ [442, 74, 75, 175, 176, 177, 5, 178, 115, 116, 117, 118, 119, 120, 121, 122, 123, 658, 659, 660, 661, 662, 663, 664, 665, 666, 667, 668, 669, 670, 671, 672, 673, 674, 675, 676, 677, 678, 679, 680, 681] (by decide +kernel) (by decide +kernel)
set_option maxRecDepth 20000 in
theorem gL_law_X4_colour : GoodIn wsL_law (wsV RL 151 RX4 yX4_colour wsX4_colour) := goodIn_app (goodIn_of _ (by decide +kernel)) ggL_law_X4_colour
set_option maxRecDepth 20000 in
theorem ggL_law_L_end : GoodIn wsL_law wsL_end := goodIn_ca (goodIn_r _ [445, 131, 446, 447, 448, 2, 449, 136, 137, 138, 139, 140, 141, 39, 103, 104, 105, 450, 451, 452, 453, 20, 35, 142, 143, 144, 15, 145, 50, 51, 454, 455, 456, 457, 27, 22, 202, 203, 204, 26, 205, 58, 106, 107, 108, 109, 458, 459, 460, 461, 639, 640, 641, 642, 643, 644, 645, 646, 647, 648, 649, 650, 651, 652, 653, 654, 655, 656, 657, 682, 683, 684] (by decide +kernel) (by decide +kernel)) (goodIn_sub (fun _ h => List.mem_append_right _ h) (by decide +kernel))
set_option maxRecDepth 20000 in
theorem gL_law_L_end : GoodIn wsL_law (va_wsS RL 152 yL_end wsL_end) := goodIn_app (goodIn_of _ (by decide +kernel)) ggL_law_L_end
set_option maxRecDepth 20000 in
theorem ggL_law_X4_end : GoodIn wsL_law wsX4_end := goodIn_r _ [465, 175, 176, 177, 5, 178, 115, 116, 117, 118, 119, 120, 121, 122, 123, 466, 467, 468, 469, 470, 471, 82, 77, 87, 472, 473, 474, 475, 74, 78, 76, 244, 245, 246, 247, 72, 179, 180, 181, 182, 73, 658, 659, 660, 661, 662, 663, 664, 665, 666, 667, 668, 669, 670, 671, 672, 673, 674, 675, 676, 677, 678, 679, 680, 681] (by decide +kernel) (by decide +kernel)
set_option maxRecDepth 20000 in
theorem gL_law_X4_end : GoodIn wsL_law (wsV RL 155 RX4 yX4_end wsX4_end) := goodIn_app (goodIn_of _ (by decide +kernel)) ggL_law_X4_end
set_option maxRecDepth 20000 in
theorem ggL_law_L_hops : GoodIn wsL_law wsL_hops := goodIn_ca (goodIn_r _ [478, 131, 479, 480, 481, 2, 482, 136, 137, 138, 139, 140, 141, 39, 103, 104, 105, 450, 451, 452, 453, 20, 35, 142, 143, 144, 15, 145, 50, 51, 454, 455, 456, 457, 27, 22, 202, 203, 204, 26, 205, 58, 106, 107, 108, 109, 639, 640, 641, 642, 643, 644, 645, 646, 647, 648, 649, 650, 651, 652, 653, 654, 655, 656, 657, 682, 683, 684] (by decide +kernel) (by decide +kernel)) (goodIn_sub (fun _ h => List.mem_append_right _ h) (by decide +kernel))
set_option maxRecDepth 20000 in
theorem gL_law_L_hops : GoodIn wsL_law (va_wsS RL 156 yL_hops wsL_hops) := goodIn_app (goodIn_of _ (by decide +kernel)) ggL_law_L_hops
set_option maxRecDepth 20000 in
theorem ggL_law_X4_hops : GoodIn wsL_law wsX4_hops := goodIn_r _ [486, 470, 175, 176, 177, 5, 178, 115, 116, 117, 118, 119, 120, 121, 122, 123, 466, 467, 468, 469, 471, 82, 77, 87, 472, 473, 474, 475, 74, 78, 76, 244, 245, 246, 247, 72, 179, 180, 181, 182, 73, 658, 659, 660, 661, 662, 663, 664, 665, 666, 667, 668, 669, 670, 671, 672, 673, 674, 675, 676, 677, 678, 679, 680, 681] (by decide +kernel) (by decide +kernel)
set_option maxRecDepth 20000 in
theorem gL_law_X4_hops : GoodIn wsL_law (wsV RL 158 RX4 yX4_hops wsX4_hops) := goodIn_app (goodIn_of _ (by decide +kernel)) ggL_law_X4_hops
set_option maxRecDepth 20000 in
theorem ggL_law_L_hopTo : GoodIn wsL_law wsL_hopTo := goodIn_ca (goodIn_r _ [489, 131, 490, 491, 492, 2, 493, 140, 141, 35, 136, 137, 138, 139, 39, 103, 104, 105, 450, 451, 452, 453, 20, 142, 143, 144, 15, 145, 50, 51, 454, 455, 456, 457, 27, 22, 202, 203, 204, 26, 205, 58, 106, 107, 108, 109, 639, 640, 641, 642, 643, 644, 645, 646, 647, 648, 649, 650, 651, 652, 653, 654, 655, 656, 657, 682, 683, 684] (by decide +kernel) (by decide +kernel)) (goodIn_sub (fun _ h => List.mem_append_right _ h) (by decide +kernel))
set_option maxRecDepth 20000 in
theorem gL_law_L_hopTo : GoodIn wsL_law (va_wsS RL 159 yL_hopTo wsL_hopTo) := goodIn_app (goodIn_of _ (by decide +kernel)) ggL_law_L_hopTo
set_option maxRecDepth 20000 in
theorem ggL_law_X4_hopTo : GoodIn wsL_law wsX4_hopTo := goodIn_r _ [497, 470, 87, 175, 176, 177, 5, 178, 115, 116, 117, 118, 466, 467, 468, 469, 471, 82, 77, 472, 473, 474, 475, 74, 78, 76, 244, 245, 246, 247, 72, 179, 180, 181, 182, 73, 119, 120, 121, 122, 123, 658, 659, 660, 661, 662, 663, 664, 665, 666, 667, 668, 669, 670, 671, 672, 673, 674, 675, 676, 677, 678, 679, 680, 681] (by decide +kernel) (by decide +kernel)
set_option maxRecDepth 20000 in
theorem gL_law_X4_hopTo : GoodIn wsL_law (wsV RL 162 RX4 yX4_hopTo wsX4_hopTo) := goodIn_app (goodIn_of _ (by decide +kernel)) ggL_law_X4_hopTo
set_option maxRecDepth 20000 in
theorem ggL_law_L_lengthOf : GoodIn wsL_law wsL_lengthOf := goodIn_ca (goodIn_r _ [500, 131, 501, 502, 503, 2, 504, 35, 30, 23, 136, 137, 138, 139, 140, 141, 39, 103, 104, 105, 450, 451, 452, 453, 20, 142, 143, 144, 15, 145, 50, 51, 454, 455, 456, 457, 27, 22, 202, 203, 204, 26, 205, 58, 106, 107, 108, 109, 233, 234, 235, 236, 19, 16, 237, 238, 47, 239, 639, 640, 641, 642, 643, 644, 645, 646, 647, 648, 649, 650, 651, 652, 653, 654, 655, 656, 657, 682, 683, 684] (by decide +kernel) (by decide +kernel)) (goodIn_sub (fun _ h => List.mem_append_right _ h) (by decide +kernel))
set_option maxRecDepth 20000 in
theorem gL_law_L_lengthOf : GoodIn wsL_law (va_wsS RL 163 yL_lengthOf wsL_lengthOf) := goodIn_app (goodIn_of _ (by decide +kernel)) ggL_law_L_lengthOf
set_option maxRecDepth 20000 in
theorem ggL_law_X4_lengthOf : GoodIn wsL_law wsX4_lengthOf := goodIn_r _ [508, 471, 175, 176, 177, 5, 178, 115, 116, 117, 118, 119, 120, 121, 122, 123, 466, 467, 468, 469, 470, 82, 77, 87, 472, 473, 474, 475, 74, 78, 76, 244, 245, 246, 247, 72, 179, 180, 181, 182, 73, 658, 659, 660, 661, 662, 663, 664, 665, 666, 667, 668, 669, 670, 671, 672, 673, 674, 675, 676, 677, 678, 679, 680, 681] (by decide +kernel) (by decide +kernel)
set_option maxRecDepth 20000 in
theorem gL_law_X4_lengthOf : GoodIn wsL_law (wsV RL 165 RX4 yX4_lengthOf wsX4_lengthOf) := goodIn_app (goodIn_of _ (by decide +kernel)) ggL_law_X4_lengthOf
set_option maxRecDepth 20000 in
theorem ggL_law_L_isRing : GoodIn wsL_law wsL_isRing := goodIn_ca (goodIn_r _ [511, 131, 512, 513, 514, 2, 515, 136, 137, 138, 139, 140, 141, 39, 103, 104, 105, 450, 451, 452, 453, 20, 35, 142, 143, 144, 15, 145, 50, 51, 454, 455, 456, 457, 27, 22, 202, 203, 204, 26, 205, 58, 106, 107, 108, 109, 458, 459, 460, 461, 639, 640, 641, 642, 643, 644, 645, 646, 647, 648, 649, 650, 651, 652, 653, 654, 655, 656, 657, 682, 683, 684] (by decide +kernel) (by decide +kernel)) (goodIn_sub (fun _ h => List.mem_append_right _ h) (by decide +kernel))
set_option maxRecDepth 20000 in
theorem gL_law_L_isRing : GoodIn wsL_law (va_wsS RL 166 yL_isRing wsL_isRing) := goodIn_app (goodIn_of _ (by decide +kernel)) ggL_law_L_isRing
set_option maxRecDepth 20000 in
theorem ggL_law_X4_isRing : GoodIn wsL_law wsX4_isRing := goodIn_r _ [519, 470, 175, 176, 177, 5, 178, 115, 116, 117, 118, 119, 120, 121, 122, 123, 466, 467, 468, 469, 471, 82, 77, 87, 472, 473, 474, 475, 74, 78, 76, 244, 245, 246, 247, 72, 179, 180, 181, 182, 73, 658, 659, 660, 661, 662, 663, 664, 665, 666, 667, 668, 669, 670, 671, 672, 673, 674, 675, 676, 677, 678, 679, 680, 681] (by decide +kernel) (by decide +kernel)
set_option maxRecDepth 20000 in
theorem gL_law_X4_isRing : GoodIn wsL_law (wsV RL 168 RX4 yX4_isRing wsX4_isRing) := goodIn_app (goodIn_of _ (by decide +kernel)) ggL_law_X4_isRing
set_option maxRecDepth 20000 in
theorem ggL_law_L_areJoined : GoodIn wsL_law wsL_areJoined := goodIn_ca (goodIn_r _ [522, 131, 523, 524, 525, 2, 526, 136, 137, 138, 139, 140, 141, 39, 103, 104, 105, 450, 451, 452, 453, 20, 35, 142, 143, 144, 15, 145, 50, 51, 454, 455, 456, 457, 27, 22, 202, 203, 204, 26, 205, 58, 106, 107, 108, 109, 527, 528, 529, 530, 639, 640, 641, 642, 643, 644, 645, 646, 647, 648, 649, 650, 651, 652, 653, 654, 655, 656, 657, 682, 683, 684] (by decide +kernel) (by decide +kernel)) (goodIn_sub (fun _ h => List.mem_append_right _ h) (by decide +kernel))
set_option maxRecDepth 20000 in
theorem gL_law_L_areJoined : GoodIn wsL_law (va_wsS RL 169 yL_areJoined wsL_areJoined) := goodIn_app (goodIn_of _ (by decide +kernel)) ggL_law_L_areJoined
set_option maxRecDepth 20000 in
theorem ggL_law_X4_areJoined : GoodIn wsL_law wsX4_areJoined := goodIn_r _ [534, 171, 172, 173, 5, 174, 175, 176, 177, 178, 115, 116, 117, 118, 119, 120, 121, 122, 123, 535, 536, 537, 538, 539, 540, 541, 542, 470, 87, 466, 467, 468, 469, 471, 82, 77, 472, 473, 474, 475, 74, 78, 76, 244, 245, 246, 247, 72, 179, 180, 181, 182, 73, 658, 659, 660, 661, 662, 663, 664, 665, 666, 667, 668, 669, 670, 671, 672, 673, 674, 675, 676, 677, 678, 679, 680, 681] (by decide +kernel) (by decide +kernel)
set_option maxRecDepth 20000 in
theorem gL_law_X4_areJoined : GoodIn wsL_law (wsV RL 171 RX4 yX4_areJoined wsX4_areJoined) := goodIn_app (goodIn_of _ (by decide +kernel)) ggL_law_X4_areJoined
set_option maxRecDepth 20000 in
theorem ggL_law_L_areJoinedBySearch : GoodIn wsL_law wsL_areJoinedBySearch := goodIn_ca (goodIn_r _ [545, 131, 546, 547, 548, 2, 549, 37, 136, 137, 138, 139, 140, 141, 39, 103, 104, 105, 550, 551, 552, 553, 36, 20, 554, 555, 556, 26, 557, 58, 558, 559, 560, 561, 202, 203, 204, 205, 206, 207, 208, 209, 106, 107, 108, 15, 109, 50, 142, 143, 144, 145, 51, 454, 455, 456, 457, 27, 22, 639, 640, 641, 642, 643, 644, 645, 646, 647, 648, 649, 650, 651, 652, 653, 654, 655, 656, 657, 684, 682, 683] (by decide +kernel) (by decide +kernel)) (goodIn_sub (fun _ h => List.mem_append_right _ h) (by decide +kernel))
set_option maxRecDepth 20000 in
theorem gL_law_L_areJoinedBySearch : GoodIn wsL_law (va_wsS RL 172 yL_areJoinedBySearch wsL_areJoinedBySearch) := goodIn_app (goodIn_of _ (by decide +kernel)) ggL_law_L_areJoinedBySearch
set_option maxRecDepth 20000 in
theorem ggL_law_X4_areJoinedBySearch : GoodIn wsL_law wsX4_areJoinedBySearch := goodIn_r _ [565, 88, 171, 172, 173, 5, 174, 175, 176, 177, 178, 115, 116, 117, 118, 119, 120, 121, 122, 123, 566, 567, 568, 569, 472, 473, 474, 475, 74, 78, 76, 658, 659, 660, 661, 662, 663, 664, 665, 666, 667, 668, 669, 670, 671, 672, 673, 674, 675, 676, 677, 678, 679, 680, 681] (by decide +kernel) (by decide +kernel)
set_option maxRecDepth 20000 in
theorem gL_law_X4_areJoinedBySearch : GoodIn wsL_law (wsV RL 174 RX4 yX4_areJoinedBySearch wsX4_areJoinedBySearch) := goodIn_app (goodIn_of _ (by decide +kernel)) ggL_law_X4_areJoinedBySearch
set_option maxRecDepth 20000 in
theorem ggL_law_X3_lines : GoodIn wsL_law wsX3_lines := goodIn_r _ [573, 37, 39, 554, 555, 556, 26, 557, 58, 202, 203, 204, 205, 206, 207, 208, 209, 450, 451, 452, 2, 453, 20, 35, 142, 143, 144, 15, 145, 50, 51, 454, 455, 456, 457, 27, 22, 106, 107, 108, 109, 574, 575, 576, 577, 639, 640, 641, 642, 643, 644, 645, 646, 647, 648, 649, 650, 651, 652, 653, 654, 655, 656, 657, 684, 682, 683] (by decide +kernel) (by decide +kernel)
set_option maxRecDepth 20000 in
theorem gL_law_X3_lines : GoodIn wsL_law (wsV RL 175 RX3 yX3_lines wsX3_lines) := goodIn_app (goodIn_of _ (by decide +kernel)) ggL_law_X3_lines
set_option maxRecDepth 20000 in
theorem ggL_law_X4_lines : GoodIn wsL_law wsX4_lines := goodIn_r _ [581, 123, 115, 88, 566, 567, 568, 5, 569, 472, 473, 474, 475, 74, 78, 76, 658, 659, 660, 661, 662, 663, 664, 665, 666, 667, 668, 669, 670, 671, 672, 673, 674, 675, 676, 677, 678, 679, 680, 681] (by decide +kernel) (by decide +kernel)
set_option maxRecDepth 20000 in
theorem gL_law_X4_lines : GoodIn wsL_law (wsV RL 178 RX4 yX4_lines wsX4_lines) := goodIn_app (goodIn_of _ (by decide +kernel)) ggL_law_X4_lines
set_option maxRecDepth 20000 in
theorem ggL_law_L_freePort : GoodIn wsL_law wsL_freePort := goodIn_ca (goodIn_r _ [584, 131, 585, 586, 587, 2, 588, 17, 18, 589, 590, 591, 592, 140, 141, 38, 103, 104, 105, 142, 143, 144, 15, 145, 50, 51, 225, 226, 227, 228, 20, 154, 155, 156, 157, 22, 639, 640, 641, 642, 643, 644, 645, 646, 647, 648, 649, 650, 651, 652, 653, 654, 655, 656, 657, 682, 683] (by decide +kernel) (by decide +kernel)) (goodIn_sub (fun _ h => List.mem_append_right _ h) (by decide +kernel))
set_option maxRecDepth 20000 in
theorem gL_law_L_freePort : GoodIn wsL_law (va_wsS RL 179 yL_freePort wsL_freePort) := goodIn_app (goodIn_of _ (by decide +kernel)) ggL_law_L_freePort
set_option maxRecDepth 20000 in
theorem ggL_law_X4_freePort : GoodIn wsL_law wsX4_freePort := goodIn_r _ [596, 73, 74, 76, 597, 598, 599, 5, 600, 114, 116, 117, 118, 119, 120, 121, 122, 123, 658, 659, 660, 661, 662, 663, 664, 665, 666, 667, 668, 669, 670, 671, 672, 673, 674, 675, 676, 677, 678, 679, 680, 681] (by decide +kernel) (by decide +kernel)
set_option maxRecDepth 20000 in
theorem gL_law_X4_freePort : GoodIn wsL_law (wsV RL 181 RX4 yX4_freePort wsX4_freePort) := goodIn_app (goodIn_of _ (by decide +kernel)) ggL_law_X4_freePort
set_option maxRecDepth 20000 in
theorem ggL_law_L_freeStrand : GoodIn wsL_law wsL_freeStrand := goodIn_ca (goodIn_r _ [603, 131, 604, 605, 606, 2, 607, 17, 18, 19, 589, 590, 591, 592, 140, 141, 38, 103, 104, 105, 142, 143, 144, 15, 145, 50, 51, 454, 455, 456, 457, 27, 22, 202, 203, 204, 26, 205, 58, 225, 226, 227, 228, 20, 639, 640, 641, 642, 643, 644, 645, 646, 647, 648, 649, 650, 651, 652, 653, 654, 655, 656, 657, 682, 683, 684] (by decide +kernel) (by decide +kernel)) (goodIn_sub (fun _ h => List.mem_append_right _ h) (by decide +kernel))
set_option maxRecDepth 20000 in
theorem gL_law_L_freeStrand : GoodIn wsL_law (va_wsS RL 182 yL_freeStrand wsL_freeStrand) := goodIn_app (goodIn_of _ (by decide +kernel)) ggL_law_L_freeStrand
set_option maxRecDepth 20000 in
theorem ggL_law_X4_freeStrand : GoodIn wsL_law wsX4_freeStrand := goodIn_r _ [611, 73, 74, 597, 598, 599, 5, 600, 114, 116, 117, 118, 119, 120, 121, 122, 123, 472, 473, 474, 475, 78, 76, 179, 180, 181, 182, 658, 659, 660, 661, 662, 663, 664, 665, 666, 667, 668, 669, 670, 671, 672, 673, 674, 675, 676, 677, 678, 679, 680, 681] (by decide +kernel) (by decide +kernel)
set_option maxRecDepth 20000 in
theorem gL_law_X4_freeStrand : GoodIn wsL_law (wsV RL 184 RX4 yX4_freeStrand wsX4_freeStrand) := goodIn_app (goodIn_of _ (by decide +kernel)) ggL_law_X4_freeStrand
set_option maxRecDepth 20000 in
theorem ggL_law_L_used : GoodIn wsL_law wsL_used := goodIn_ca (goodIn_r _ [614, 131, 615, 616, 617, 2, 618, 28, 29, 22, 198, 199, 200, 201, 140, 141, 40, 103, 104, 105, 142, 143, 144, 15, 145, 50, 51, 225, 226, 227, 228, 20, 639, 640, 641, 642, 643, 644, 645, 646, 647, 648, 649, 650, 651, 652, 653, 654, 655, 656, 657, 682, 683] (by decide +kernel) (by decide +kernel)) (goodIn_sub (fun _ h => List.mem_append_right _ h) (by decide +kernel))
set_option maxRecDepth 20000 in
theorem gL_law_L_used : GoodIn wsL_law (va_wsS RL 185 yL_used wsL_used) := goodIn_app (goodIn_of _ (by decide +kernel)) ggL_law_L_used
set_option maxRecDepth 20000 in
theorem ggL_law_X4_used : GoodIn wsL_law wsX4_used := goodIn_r _ [622, 81, 74, 79, 80, 214, 215, 216, 5, 217, 166, 116, 117, 118, 119, 120, 121, 122, 123, 658, 659, 660, 661, 662, 663, 664, 665, 666, 667, 668, 669, 670, 671, 672, 673, 674, 675, 676, 677, 678, 679, 680, 681] (by decide +kernel) (by decide +kernel)
set_option maxRecDepth 20000 in
theorem gL_law_X4_used : GoodIn wsL_law (wsV RL 187 RX4 yX4_used wsX4_used) := goodIn_app (goodIn_of _ (by decide +kernel)) ggL_law_X4_used
set_option maxRecDepth 20000 in
theorem ggL_law_X3_canCarryOut : GoodIn wsL_law wsX3_canCarryOut := goodIn_r _ [626, 304, 305, 306, 2, 307, 34, 270, 271, 272, 33, 273, 274, 308, 309, 310, 311, 63, 312, 143, 144, 15, 145, 50, 51, 225, 226, 227, 228, 20, 142, 313, 314, 315, 316, 317, 318, 319, 320, 321, 64, 322, 323, 324, 325, 326, 327, 328, 329, 330, 639, 640, 641, 642, 643, 644, 645, 646, 647, 648, 649, 650, 651, 652, 653, 654, 655, 656, 657, 685, 686, 687, 688, 689, 682, 683] (by decide +kernel) (by decide +kernel)
set_option maxRecDepth 20000 in
theorem gL_law_X3_canCarryOut : GoodIn wsL_law (wsV RL 188 RX3 yX3_canCarryOut wsX3_canCarryOut) := goodIn_app (goodIn_of _ (by decide +kernel)) ggL_law_X3_canCarryOut
set_option maxRecDepth 20000 in
theorem ggL_law_X4_canCarryOut : GoodIn wsL_law wsX4_canCarryOut := goodIn_r _ [630, 123, 359, 360, 361, 5, 362, 83, 84, 284, 74, 115, 85, 86, 75, 363, 364, 365, 366, 367, 368, 369, 370, 658, 659, 660, 661, 662, 663, 664, 665, 666, 667, 668, 669, 670, 671, 672, 673, 674, 675, 676, 677, 678, 679, 680, 681] (by decide +kernel) (by decide +kernel)
set_option maxRecDepth 20000 in
theorem gL_law_X4_canCarryOut : GoodIn wsL_law (wsV RL 192 RX4 yX4_canCarryOut wsX4_canCarryOut) := goodIn_app (goodIn_of _ (by decide +kernel)) ggL_law_X4_canCarryOut
set_option maxRecDepth 20000 in
theorem ggL_law_X3_cableLength : GoodIn wsL_law wsX3_cableLength := goodIn_r _ [634, 39, 20, 391, 392, 393, 2, 394, 142, 143, 144, 15, 145, 50, 51, 233, 234, 235, 236, 19, 16, 237, 238, 47, 239, 639, 640, 641, 642, 643, 644, 645, 646, 647, 648, 649, 650, 651, 652, 653, 654, 655, 656, 657, 682, 683] (by decide +kernel) (by decide +kernel)
set_option maxRecDepth 20000 in
theorem gL_law_X3_cableLength : GoodIn wsL_law (wsV RL 193 RX3 yX3_cableLength wsX3_cableLength) := goodIn_app (goodIn_of _ (by decide +kernel)) ggL_law_X3_cableLength
set_option maxRecDepth 20000 in
theorem ggL_law_X4_cableLength : GoodIn wsL_law wsX4_cableLength := goodIn_r _ [638, 123, 115, 74, 244, 245, 246, 5, 247, 72, 179, 180, 181, 182, 73, 658, 659, 660, 661, 662, 663, 664, 665, 666, 667, 668, 669, 670, 671, 672, 673, 674, 675, 676, 677, 678, 679, 680, 681] (by decide +kernel) (by decide +kernel)
set_option maxRecDepth 20000 in
theorem gL_law_X4_cableLength : GoodIn wsL_law (wsV RL 196 RX4 yX4_cableLength wsX4_cableLength) := goodIn_app (goodIn_of _ (by decide +kernel)) ggL_law_X4_cableLength
