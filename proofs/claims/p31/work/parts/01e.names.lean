theorem dX3_planIsPossible_38 : decode cX3_planIsPossible 38 = .ok (.ifCond .ne 18, 3) := by decide +kernel
theorem dX3_planIsPossible_41 : decode cX3_planIsPossible 41 = .ok (.aload_n 0, 1) := by decide +kernel
theorem dX3_planIsPossible_42 : decode cX3_planIsPossible 42 = .ok (.aload_n 0, 1) := by decide +kernel
theorem dX3_planIsPossible_43 : decode cX3_planIsPossible 43 = .ok (.getfield 60, 3) := by decide +kernel
theorem dX3_planIsPossible_46 : decode cX3_planIsPossible 46 = .ok (.iload_n 2, 1) := by decide +kernel
theorem dX3_planIsPossible_47 : decode cX3_planIsPossible 47 = .ok (.invokevirtual 239, 3) := by decide +kernel
theorem dX3_planIsPossible_50 : decode cX3_planIsPossible 50 = .ok (.invokevirtual 242, 3) := by decide +kernel
theorem dX3_planIsPossible_53 : decode cX3_planIsPossible 53 = .ok (.ifCond .eq 5, 3) := by decide +kernel
theorem dX3_planIsPossible_56 : decode cX3_planIsPossible 56 = .ok (.iconst 0, 1) := by decide +kernel
theorem dX3_planIsPossible_57 : decode cX3_planIsPossible 57 = .ok (.ireturn, 1) := by decide +kernel
theorem dX3_planIsPossible_58 : decode cX3_planIsPossible 58 = .ok (.iinc 2 1, 3) := by decide +kernel
theorem dX3_planIsPossible_61 : decode cX3_planIsPossible 61 = .ok (.goto (-51), 3) := by decide +kernel
theorem dX3_planIsPossible_64 : decode cX3_planIsPossible 64 = .ok (.iconst 1, 1) := by decide +kernel
theorem dX3_planIsPossible_65 : decode cX3_planIsPossible 65 = .ok (.ireturn, 1) := by decide +kernel
set_option maxRecDepth 20000 in
theorem ggX3_staysTaken_X3_hasCable : GoodIn wsX3_staysTaken wsX3_hasCable := goodIn_r _ [6, 7, 8, 9, 10, 11, 12, 13, 14, 27, 28, 29, 30, 31, 32, 33, 34, 35, 36, 37, 38, 39, 40, 41, 42, 43, 44, 45, 46, 47] (by decide +kernel) (by decide +kernel)
set_option maxRecDepth 20000 in
theorem gX3_staysTaken_X3_hasCable : GoodIn wsX3_staysTaken (wsV RX3 148 RX3 yX3_hasCable wsX3_hasCable) := goodIn_app (goodIn_of _ (by decide +kernel)) ggX3_staysTaken_X3_hasCable
set_option maxRecDepth 20000 in
theorem ggX3_staysTaken_X1_pulls : GoodIn wsX3_staysTaken wsX1_pulls := goodIn_r _ [19, 20, 21, 22, 23, 18, 24, 25, 26, 9, 10, 11, 12, 13, 14, 48, 49, 50, 51, 52, 46, 47] (by decide +kernel) (by decide +kernel)
set_option maxRecDepth 20000 in
theorem gX3_staysTaken_X1_pulls : GoodIn wsX3_staysTaken (wsV RX3 245 RX1 yX1_pulls wsX1_pulls) := goodIn_app (goodIn_of _ (by decide +kernel)) ggX3_staysTaken_X1_pulls
theorem dX3_staysTaken_0 : decode cX3_staysTaken 0 = .ok (.aload_n 0, 1) := by decide +kernel
theorem dX3_staysTaken_1 : decode cX3_staysTaken 1 = .ok (.iload_n 1, 1) := by decide +kernel
theorem dX3_staysTaken_2 : decode cX3_staysTaken 2 = .ok (.invokevirtual 148, 3) := by decide +kernel
theorem dX3_staysTaken_5 : decode cX3_staysTaken 5 = .ok (.ifCond .eq 18, 3) := by decide +kernel
theorem dX3_staysTaken_8 : decode cX3_staysTaken 8 = .ok (.aload_n 0, 1) := by decide +kernel
theorem dX3_staysTaken_9 : decode cX3_staysTaken 9 = .ok (.getfield 60, 3) := by decide +kernel
theorem dX3_staysTaken_12 : decode cX3_staysTaken 12 = .ok (.iload_n 1, 1) := by decide +kernel
theorem dX3_staysTaken_13 : decode cX3_staysTaken 13 = .ok (.invokevirtual 245, 3) := by decide +kernel
theorem dX3_staysTaken_16 : decode cX3_staysTaken 16 = .ok (.ifCond .ne 7, 3) := by decide +kernel
theorem dX3_staysTaken_19 : decode cX3_staysTaken 19 = .ok (.iconst 1, 1) := by decide +kernel
theorem dX3_staysTaken_20 : decode cX3_staysTaken 20 = .ok (.goto 4, 3) := by decide +kernel
theorem dX3_staysTaken_23 : decode cX3_staysTaken 23 = .ok (.iconst 0, 1) := by decide +kernel
theorem dX3_staysTaken_24 : decode cX3_staysTaken 24 = .ok (.ireturn, 1) := by decide +kernel
set_option maxRecDepth 20000 in
theorem ggX3_pullPlannedEnds_X1_size : GoodIn wsX3_pullPlannedEnds wsX1_size := goodIn_r _ [8, 9, 58, 59, 60, 61, 62] (by decide +kernel) (by decide +kernel)
set_option maxRecDepth 20000 in
theorem gX3_pullPlannedEnds_X1_size : GoodIn wsX3_pullPlannedEnds (wsV RX3 167 RX1 yX1_size wsX1_size) := goodIn_app (goodIn_of _ (by decide +kernel)) ggX3_pullPlannedEnds_X1_size
set_option maxRecDepth 20000 in
theorem ggX3_pullPlannedEnds_X1_from : GoodIn wsX3_pullPlannedEnds wsX1_from := goodIn_r _ [13, 14, 15, 16, 17, 18, 19, 20, 21, 58, 59, 60, 61, 62, 63, 64] (by decide +kernel) (by decide +kernel)
set_option maxRecDepth 20000 in
theorem gX3_pullPlannedEnds_X1_from : GoodIn wsX3_pullPlannedEnds (wsV RX3 233 RX1 yX1_from wsX1_from) := goodIn_app (goodIn_of _ (by decide +kernel)) ggX3_pullPlannedEnds_X1_from
set_option maxRecDepth 20000 in
theorem ggX3_pullPlannedEnds_X2_at : GoodIn wsX3_pullPlannedEnds wsX2_at := goodIn_r _ [19, 20, 21, 63, 64] (by decide +kernel) (by decide +kernel)
set_option maxRecDepth 20000 in
theorem gX3_pullPlannedEnds_X2_at : GoodIn wsX3_pullPlannedEnds (wsV RX3 107 RX2 yX2_at wsX2_at) := goodIn_app (goodIn_of _ (by decide +kernel)) ggX3_pullPlannedEnds_X2_at
set_option maxRecDepth 20000 in
theorem ggX3_pullPlannedEnds_X1_keepCable : GoodIn wsX3_pullPlannedEnds wsX1_keepCable := goodIn_r _ [26, 27, 28, 29, 30, 31, 18, 32, 20, 58, 59, 60, 61, 62, 63, 64] (by decide +kernel) (by decide +kernel)
set_option maxRecDepth 20000 in
theorem gX3_pullPlannedEnds_X1_keepCable : GoodIn wsX3_pullPlannedEnds (wsV RX3 248 RX1 yX1_keepCable wsX1_keepCable) := goodIn_app (goodIn_of _ (by decide +kernel)) ggX3_pullPlannedEnds_X1_keepCable
set_option maxRecDepth 20000 in
theorem ggX3_pullPlannedEnds_X3_clearCable : GoodIn wsX3_pullPlannedEnds wsX3_clearCable := goodIn_r _ [37, 2, 3, 38, 30, 31, 18, 32, 20, 39, 40, 41, 42, 43, 44, 45, 46, 47, 48, 49, 50, 51, 52, 53, 54, 55, 56, 57, 63, 64] (by decide +kernel) (by decide +kernel)
set_option maxRecDepth 20000 in
theorem gX3_pullPlannedEnds_X3_clearCable : GoodIn wsX3_pullPlannedEnds (wsV RX3 162 RX3 yX3_clearCable wsX3_clearCable) := goodIn_app (goodIn_of _ (by decide +kernel)) ggX3_pullPlannedEnds_X3_clearCable
theorem dX3_pullPlannedEnds_0 : decode cX3_pullPlannedEnds 0 = .ok (.aload_n 0, 1) := by decide +kernel
theorem dX3_pullPlannedEnds_1 : decode cX3_pullPlannedEnds 1 = .ok (.getfield 60, 3) := by decide +kernel
theorem dX3_pullPlannedEnds_4 : decode cX3_pullPlannedEnds 4 = .ok (.invokevirtual 167, 3) := by decide +kernel
theorem dX3_pullPlannedEnds_7 : decode cX3_pullPlannedEnds 7 = .ok (.istore_n 1, 1) := by decide +kernel
theorem dX3_pullPlannedEnds_8 : decode cX3_pullPlannedEnds 8 = .ok (.iconst 0, 1) := by decide +kernel
theorem dX3_pullPlannedEnds_9 : decode cX3_pullPlannedEnds 9 = .ok (.istore_n 2, 1) := by decide +kernel
theorem dX3_pullPlannedEnds_10 : decode cX3_pullPlannedEnds 10 = .ok (.iload_n 2, 1) := by decide +kernel
theorem dX3_pullPlannedEnds_11 : decode cX3_pullPlannedEnds 11 = .ok (.iload_n 1, 1) := by decide +kernel
theorem dX3_pullPlannedEnds_12 : decode cX3_pullPlannedEnds 12 = .ok (.if_icmp .ge 42, 3) := by decide +kernel
theorem dX3_pullPlannedEnds_15 : decode cX3_pullPlannedEnds 15 = .ok (.aload_n 0, 1) := by decide +kernel
theorem dX3_pullPlannedEnds_16 : decode cX3_pullPlannedEnds 16 = .ok (.getfield 60, 3) := by decide +kernel
theorem dX3_pullPlannedEnds_19 : decode cX3_pullPlannedEnds 19 = .ok (.iload_n 2, 1) := by decide +kernel
theorem dX3_pullPlannedEnds_20 : decode cX3_pullPlannedEnds 20 = .ok (.invokevirtual 233, 3) := by decide +kernel
theorem dX3_pullPlannedEnds_23 : decode cX3_pullPlannedEnds 23 = .ok (.istore_n 3, 1) := by decide +kernel
theorem dX3_pullPlannedEnds_24 : decode cX3_pullPlannedEnds 24 = .ok (.aload_n 0, 1) := by decide +kernel
theorem dX3_pullPlannedEnds_25 : decode cX3_pullPlannedEnds 25 = .ok (.getfield 60, 3) := by decide +kernel
theorem dX3_pullPlannedEnds_28 : decode cX3_pullPlannedEnds 28 = .ok (.iload_n 2, 1) := by decide +kernel
theorem dX3_pullPlannedEnds_29 : decode cX3_pullPlannedEnds 29 = .ok (.aload_n 0, 1) := by decide +kernel
theorem dX3_pullPlannedEnds_30 : decode cX3_pullPlannedEnds 30 = .ok (.getfield 27, 3) := by decide +kernel
theorem dX3_pullPlannedEnds_33 : decode cX3_pullPlannedEnds 33 = .ok (.iload_n 3, 1) := by decide +kernel
theorem dX3_pullPlannedEnds_34 : decode cX3_pullPlannedEnds 34 = .ok (.invokevirtual 107, 3) := by decide +kernel
theorem dX3_pullPlannedEnds_37 : decode cX3_pullPlannedEnds 37 = .ok (.aload_n 0, 1) := by decide +kernel
theorem dX3_pullPlannedEnds_38 : decode cX3_pullPlannedEnds 38 = .ok (.getfield 30, 3) := by decide +kernel
theorem dX3_pullPlannedEnds_41 : decode cX3_pullPlannedEnds 41 = .ok (.iload_n 3, 1) := by decide +kernel
theorem dX3_pullPlannedEnds_42 : decode cX3_pullPlannedEnds 42 = .ok (.invokevirtual 107, 3) := by decide +kernel
theorem dX3_pullPlannedEnds_45 : decode cX3_pullPlannedEnds 45 = .ok (.invokevirtual 248, 3) := by decide +kernel
theorem dX3_pullPlannedEnds_48 : decode cX3_pullPlannedEnds 48 = .ok (.iinc 2 1, 3) := by decide +kernel
theorem dX3_pullPlannedEnds_51 : decode cX3_pullPlannedEnds 51 = .ok (.goto (-41), 3) := by decide +kernel
theorem dX3_pullPlannedEnds_54 : decode cX3_pullPlannedEnds 54 = .ok (.iconst 0, 1) := by decide +kernel
theorem dX3_pullPlannedEnds_55 : decode cX3_pullPlannedEnds 55 = .ok (.istore_n 2, 1) := by decide +kernel
theorem dX3_pullPlannedEnds_56 : decode cX3_pullPlannedEnds 56 = .ok (.iload_n 2, 1) := by decide +kernel
theorem dX3_pullPlannedEnds_57 : decode cX3_pullPlannedEnds 57 = .ok (.iload_n 1, 1) := by decide +kernel
theorem dX3_pullPlannedEnds_58 : decode cX3_pullPlannedEnds 58 = .ok (.if_icmp .ge 21, 3) := by decide +kernel
theorem dX3_pullPlannedEnds_61 : decode cX3_pullPlannedEnds 61 = .ok (.aload_n 0, 1) := by decide +kernel
theorem dX3_pullPlannedEnds_62 : decode cX3_pullPlannedEnds 62 = .ok (.aload_n 0, 1) := by decide +kernel
theorem dX3_pullPlannedEnds_63 : decode cX3_pullPlannedEnds 63 = .ok (.getfield 60, 3) := by decide +kernel
theorem dX3_pullPlannedEnds_66 : decode cX3_pullPlannedEnds 66 = .ok (.iload_n 2, 1) := by decide +kernel
theorem dX3_pullPlannedEnds_67 : decode cX3_pullPlannedEnds 67 = .ok (.invokevirtual 233, 3) := by decide +kernel
theorem dX3_pullPlannedEnds_70 : decode cX3_pullPlannedEnds 70 = .ok (.invokevirtual 162, 3) := by decide +kernel
theorem dX3_pullPlannedEnds_73 : decode cX3_pullPlannedEnds 73 = .ok (.iinc 2 1, 3) := by decide +kernel
theorem dX3_pullPlannedEnds_76 : decode cX3_pullPlannedEnds 76 = .ok (.goto (-20), 3) := by decide +kernel
theorem dX3_pullPlannedEnds_79 : decode cX3_pullPlannedEnds 79 = .ok (.return_, 1) := by decide +kernel
set_option maxRecDepth 20000 in
theorem ggX3_plugPlannedEnds_X1_size : GoodIn wsX3_plugPlannedEnds wsX1_size := goodIn_r _ [6, 7, 70, 71, 72, 73, 74] (by decide +kernel) (by decide +kernel)
set_option maxRecDepth 20000 in
theorem gX3_plugPlannedEnds_X1_size : GoodIn wsX3_plugPlannedEnds (wsV RX3 167 RX1 yX1_size wsX1_size) := goodIn_app (goodIn_of _ (by decide +kernel)) ggX3_plugPlannedEnds_X1_size
set_option maxRecDepth 20000 in
theorem ggX3_plugPlannedEnds_X1_keptOther : GoodIn wsX3_plugPlannedEnds wsX1_keptOther := goodIn_r _ [11, 12, 13, 14, 15, 16, 17, 18, 19, 70, 71, 72, 73, 74, 75, 76] (by decide +kernel) (by decide +kernel)
set_option maxRecDepth 20000 in
theorem gX3_plugPlannedEnds_X1_keptOther : GoodIn wsX3_plugPlannedEnds (wsV RX3 251 RX1 yX1_keptOther wsX1_keptOther) := goodIn_app (goodIn_of _ (by decide +kernel)) ggX3_plugPlannedEnds_X1_keptOther
set_option maxRecDepth 20000 in
theorem ggX3_plugPlannedEnds_X1_placeAfterwards : GoodIn wsX3_plugPlannedEnds wsX1_placeAfterwards := goodIn_r _ [23, 7, 24, 25, 26, 5, 27, 28, 13, 14, 15, 16, 17, 18, 19, 29, 30, 31, 32, 33, 70, 71, 72, 73, 74, 75, 76] (by decide +kernel) (by decide +kernel)
set_option maxRecDepth 20000 in
theorem gX3_plugPlannedEnds_X1_placeAfterwards : GoodIn wsX3_plugPlannedEnds (wsV RX3 254 RX1 yX1_placeAfterwards wsX1_placeAfterwards) := goodIn_app (goodIn_of _ (by decide +kernel)) ggX3_plugPlannedEnds_X1_placeAfterwards
set_option maxRecDepth 20000 in
theorem ggX3_plugPlannedEnds_X1_to : GoodIn wsX3_plugPlannedEnds wsX1_to := goodIn_r _ [32, 33, 13, 14, 15, 16, 17, 18, 19, 70, 71, 72, 73, 74, 75, 76] (by decide +kernel) (by decide +kernel)
set_option maxRecDepth 20000 in
theorem gX3_plugPlannedEnds_X1_to : GoodIn wsX3_plugPlannedEnds (wsV RX3 239 RX1 yX1_to wsX1_to) := goodIn_app (goodIn_of _ (by decide +kernel)) ggX3_plugPlannedEnds_X1_to
set_option maxRecDepth 20000 in
theorem ggX3_plugPlannedEnds_X1_keptColour : GoodIn wsX3_plugPlannedEnds wsX1_keptColour := goodIn_r _ [38, 39, 13, 14, 15, 16, 17, 18, 19, 70, 71, 72, 73, 74, 75, 76] (by decide +kernel) (by decide +kernel)
set_option maxRecDepth 20000 in
theorem gX3_plugPlannedEnds_X1_keptColour : GoodIn wsX3_plugPlannedEnds (wsV RX3 257 RX1 yX1_keptColour wsX1_keptColour) := goodIn_app (goodIn_of _ (by decide +kernel)) ggX3_plugPlannedEnds_X1_keptColour
set_option maxRecDepth 20000 in
theorem ggX3_plugPlannedEnds_X3_joinByCable : GoodIn wsX3_plugPlannedEnds wsX3_joinByCable := goodIn_r _ [44, 45, 46, 47, 48, 49, 16, 50, 18, 51, 52, 53, 54, 55, 56, 57, 58, 59, 60, 61, 62, 63, 64, 65, 66, 67, 68, 69, 75, 76] (by decide +kernel) (by decide +kernel)
set_option maxRecDepth 20000 in
theorem gX3_plugPlannedEnds_X3_joinByCable : GoodIn wsX3_plugPlannedEnds (wsV RX3 153 RX3 yX3_joinByCable wsX3_joinByCable) := goodIn_app (goodIn_of _ (by decide +kernel)) ggX3_plugPlannedEnds_X3_joinByCable
theorem dX3_plugPlannedEnds_0 : decode cX3_plugPlannedEnds 0 = .ok (.aload_n 0, 1) := by decide +kernel
theorem dX3_plugPlannedEnds_1 : decode cX3_plugPlannedEnds 1 = .ok (.getfield 60, 3) := by decide +kernel
theorem dX3_plugPlannedEnds_4 : decode cX3_plugPlannedEnds 4 = .ok (.invokevirtual 167, 3) := by decide +kernel
theorem dX3_plugPlannedEnds_7 : decode cX3_plugPlannedEnds 7 = .ok (.istore_n 1, 1) := by decide +kernel
theorem dX3_plugPlannedEnds_8 : decode cX3_plugPlannedEnds 8 = .ok (.iconst 0, 1) := by decide +kernel
theorem dX3_plugPlannedEnds_9 : decode cX3_plugPlannedEnds 9 = .ok (.istore_n 2, 1) := by decide +kernel
theorem dX3_plugPlannedEnds_10 : decode cX3_plugPlannedEnds 10 = .ok (.iload_n 2, 1) := by decide +kernel
theorem dX3_plugPlannedEnds_11 : decode cX3_plugPlannedEnds 11 = .ok (.iload_n 1, 1) := by decide +kernel
theorem dX3_plugPlannedEnds_12 : decode cX3_plugPlannedEnds 12 = .ok (.if_icmp .ge 46, 3) := by decide +kernel
theorem dX3_plugPlannedEnds_15 : decode cX3_plugPlannedEnds 15 = .ok (.aload_n 0, 1) := by decide +kernel
theorem dX3_plugPlannedEnds_16 : decode cX3_plugPlannedEnds 16 = .ok (.getfield 60, 3) := by decide +kernel
theorem dX3_plugPlannedEnds_19 : decode cX3_plugPlannedEnds 19 = .ok (.aload_n 0, 1) := by decide +kernel
theorem dX3_plugPlannedEnds_20 : decode cX3_plugPlannedEnds 20 = .ok (.getfield 60, 3) := by decide +kernel
theorem dX3_plugPlannedEnds_23 : decode cX3_plugPlannedEnds 23 = .ok (.iload_n 2, 1) := by decide +kernel
theorem dX3_plugPlannedEnds_24 : decode cX3_plugPlannedEnds 24 = .ok (.invokevirtual 251, 3) := by decide +kernel
theorem dX3_plugPlannedEnds_27 : decode cX3_plugPlannedEnds 27 = .ok (.invokevirtual 254, 3) := by decide +kernel
theorem dX3_plugPlannedEnds_30 : decode cX3_plugPlannedEnds 30 = .ok (.istore_n 3, 1) := by decide +kernel
theorem dX3_plugPlannedEnds_31 : decode cX3_plugPlannedEnds 31 = .ok (.aload_n 0, 1) := by decide +kernel
theorem dX3_plugPlannedEnds_32 : decode cX3_plugPlannedEnds 32 = .ok (.aload_n 0, 1) := by decide +kernel
theorem dX3_plugPlannedEnds_33 : decode cX3_plugPlannedEnds 33 = .ok (.getfield 60, 3) := by decide +kernel
theorem dX3_plugPlannedEnds_36 : decode cX3_plugPlannedEnds 36 = .ok (.iload_n 2, 1) := by decide +kernel
theorem dX3_plugPlannedEnds_37 : decode cX3_plugPlannedEnds 37 = .ok (.invokevirtual 239, 3) := by decide +kernel
theorem dX3_plugPlannedEnds_40 : decode cX3_plugPlannedEnds 40 = .ok (.iload_n 3, 1) := by decide +kernel
theorem dX3_plugPlannedEnds_41 : decode cX3_plugPlannedEnds 41 = .ok (.aload_n 0, 1) := by decide +kernel
theorem dX3_plugPlannedEnds_42 : decode cX3_plugPlannedEnds 42 = .ok (.getfield 60, 3) := by decide +kernel
theorem dX3_plugPlannedEnds_45 : decode cX3_plugPlannedEnds 45 = .ok (.iload_n 2, 1) := by decide +kernel
theorem dX3_plugPlannedEnds_46 : decode cX3_plugPlannedEnds 46 = .ok (.invokevirtual 257, 3) := by decide +kernel
theorem dX3_plugPlannedEnds_49 : decode cX3_plugPlannedEnds 49 = .ok (.invokevirtual 153, 3) := by decide +kernel
theorem dX3_plugPlannedEnds_52 : decode cX3_plugPlannedEnds 52 = .ok (.iinc 2 1, 3) := by decide +kernel
theorem dX3_plugPlannedEnds_55 : decode cX3_plugPlannedEnds 55 = .ok (.goto (-45), 3) := by decide +kernel
theorem dX3_plugPlannedEnds_58 : decode cX3_plugPlannedEnds 58 = .ok (.return_, 1) := by decide +kernel
set_option maxRecDepth 20000 in
theorem ggX3_trace_X2_at : GoodIn wsX3_trace wsX2_at := goodIn_r _ [7, 8, 9, 46, 47] (by decide +kernel) (by decide +kernel)
set_option maxRecDepth 20000 in
theorem gX3_trace_X2_at : GoodIn wsX3_trace (wsV RX3 107 RX2 yX2_at wsX2_at) := goodIn_app (goodIn_of _ (by decide +kernel)) ggX3_trace_X2_at
set_option maxRecDepth 20000 in
theorem ggX3_trace_X3_openStrandFrom : GoodIn wsX3_trace wsX3_openStrandFrom := goodIn_r _ [14, 15, 16, 17, 18, 19, 20, 21, 22, 3, 4, 5, 6, 7, 8, 9, 27, 28, 29, 30, 31, 32, 33, 34, 35, 36, 37, 38, 39, 40, 41, 42, 43, 44, 45, 48, 46, 47] (by decide +kernel) (by decide +kernel)
set_option maxRecDepth 20000 in
theorem gX3_trace_X3_openStrandFrom : GoodIn wsX3_trace (wsV RX3 219 RX3 yX3_openStrandFrom wsX3_openStrandFrom) := goodIn_app (goodIn_of _ (by decide +kernel)) ggX3_trace_X3_openStrandFrom
set_option maxRecDepth 20000 in
theorem ggX3_trace_X2_put : GoodIn wsX3_trace wsX2_put := goodIn_r _ [26, 8, 46, 47] (by decide +kernel) (by decide +kernel)
set_option maxRecDepth 20000 in
theorem gX3_trace_X2_put : GoodIn wsX3_trace (wsV RX3 99 RX2 yX2_put wsX2_put) := goodIn_app (goodIn_of _ (by decide +kernel)) ggX3_trace_X2_put
theorem dX3_trace_0 : decode cX3_trace 0 = .ok (.iload_n 1, 1) := by decide +kernel
theorem dX3_trace_1 : decode cX3_trace 1 = .ok (.istore_n 3, 1) := by decide +kernel
theorem dX3_trace_2 : decode cX3_trace 2 = .ok (.iload_n 2, 1) := by decide +kernel
theorem dX3_trace_3 : decode cX3_trace 3 = .ok (.istore 4, 2) := by decide +kernel
theorem dX3_trace_5 : decode cX3_trace 5 = .ok (.iconst 0, 1) := by decide +kernel
theorem dX3_trace_6 : decode cX3_trace 6 = .ok (.istore 5, 2) := by decide +kernel
theorem dX3_trace_8 : decode cX3_trace 8 = .ok (.iload 5, 2) := by decide +kernel
theorem dX3_trace_10 : decode cX3_trace 10 = .ok (.sipush 144, 3) := by decide +kernel
theorem dX3_trace_13 : decode cX3_trace 13 = .ok (.if_icmp .ge 71, 3) := by decide +kernel
theorem dX3_trace_16 : decode cX3_trace 16 = .ok (.iload 4, 2) := by decide +kernel
theorem dX3_trace_18 : decode cX3_trace 18 = .ok (.ifCond .eq 14, 3) := by decide +kernel
theorem dX3_trace_21 : decode cX3_trace 21 = .ok (.aload_n 0, 1) := by decide +kernel
theorem dX3_trace_22 : decode cX3_trace 22 = .ok (.getfield 27, 3) := by decide +kernel
theorem dX3_trace_25 : decode cX3_trace 25 = .ok (.iload_n 3, 1) := by decide +kernel
theorem dX3_trace_26 : decode cX3_trace 26 = .ok (.invokevirtual 107, 3) := by decide +kernel
theorem dX3_trace_29 : decode cX3_trace 29 = .ok (.goto 8, 3) := by decide +kernel
theorem dX3_trace_32 : decode cX3_trace 32 = .ok (.aload_n 0, 1) := by decide +kernel
theorem dX3_trace_33 : decode cX3_trace 33 = .ok (.iload_n 3, 1) := by decide +kernel
theorem dX3_trace_34 : decode cX3_trace 34 = .ok (.invokevirtual 219, 3) := by decide +kernel
theorem dX3_trace_37 : decode cX3_trace 37 = .ok (.istore_n 3, 1) := by decide +kernel
theorem dX3_trace_38 : decode cX3_trace 38 = .ok (.iload_n 3, 1) := by decide +kernel
theorem dX3_trace_39 : decode cX3_trace 39 = .ok (.iconst (-1), 1) := by decide +kernel
theorem dX3_trace_40 : decode cX3_trace 40 = .ok (.if_icmp .ne 6, 3) := by decide +kernel
theorem dX3_trace_43 : decode cX3_trace 43 = .ok (.iload 5, 2) := by decide +kernel
theorem dX3_trace_45 : decode cX3_trace 45 = .ok (.ireturn, 1) := by decide +kernel
theorem dX3_trace_46 : decode cX3_trace 46 = .ok (.aload_n 0, 1) := by decide +kernel
theorem dX3_trace_47 : decode cX3_trace 47 = .ok (.getfield 64, 3) := by decide +kernel
theorem dX3_trace_50 : decode cX3_trace 50 = .ok (.iload 5, 2) := by decide +kernel
theorem dX3_trace_52 : decode cX3_trace 52 = .ok (.iload_n 3, 1) := by decide +kernel
theorem dX3_trace_53 : decode cX3_trace 53 = .ok (.invokevirtual 99, 3) := by decide +kernel
theorem dX3_trace_56 : decode cX3_trace 56 = .ok (.iload_n 3, 1) := by decide +kernel
theorem dX3_trace_57 : decode cX3_trace 57 = .ok (.iload_n 1, 1) := by decide +kernel
theorem dX3_trace_58 : decode cX3_trace 58 = .ok (.if_icmp .ne 8, 3) := by decide +kernel
theorem dX3_trace_61 : decode cX3_trace 61 = .ok (.iload 5, 2) := by decide +kernel
theorem dX3_trace_63 : decode cX3_trace 63 = .ok (.iconst 1, 1) := by decide +kernel
theorem dX3_trace_64 : decode cX3_trace 64 = .ok (.iadd, 1) := by decide +kernel
theorem dX3_trace_65 : decode cX3_trace 65 = .ok (.ireturn, 1) := by decide +kernel
theorem dX3_trace_66 : decode cX3_trace 66 = .ok (.iload 4, 2) := by decide +kernel
theorem dX3_trace_68 : decode cX3_trace 68 = .ok (.ifCond .ne 7, 3) := by decide +kernel
theorem dX3_trace_71 : decode cX3_trace 71 = .ok (.iconst 1, 1) := by decide +kernel
theorem dX3_trace_72 : decode cX3_trace 72 = .ok (.goto 4, 3) := by decide +kernel
theorem dX3_trace_75 : decode cX3_trace 75 = .ok (.iconst 0, 1) := by decide +kernel
theorem dX3_trace_76 : decode cX3_trace 76 = .ok (.istore 4, 2) := by decide +kernel
theorem dX3_trace_78 : decode cX3_trace 78 = .ok (.iinc 5 1, 3) := by decide +kernel
theorem dX3_trace_81 : decode cX3_trace 81 = .ok (.goto (-73), 3) := by decide +kernel
theorem dX3_trace_84 : decode cX3_trace 84 = .ok (.sipush 144, 3) := by decide +kernel
theorem dX3_trace_87 : decode cX3_trace 87 = .ok (.ireturn, 1) := by decide +kernel
set_option maxRecDepth 20000 in
theorem ggX3_endOfTrail_X2_at : GoodIn wsX3_endOfTrail wsX2_at := goodIn_r _ [6, 7, 8, 28, 29] (by decide +kernel) (by decide +kernel)
set_option maxRecDepth 20000 in
theorem gX3_endOfTrail_X2_at : GoodIn wsX3_endOfTrail (wsV RX3 107 RX2 yX2_at wsX2_at) := goodIn_app (goodIn_of _ (by decide +kernel)) ggX3_endOfTrail_X2_at
theorem dX3_endOfTrail_0 : decode cX3_endOfTrail 0 = .ok (.iload_n 2, 1) := by decide +kernel
theorem dX3_endOfTrail_1 : decode cX3_endOfTrail 1 = .ok (.ifCond .ne 7, 3) := by decide +kernel
theorem dX3_endOfTrail_4 : decode cX3_endOfTrail 4 = .ok (.iload_n 1, 1) := by decide +kernel
theorem dX3_endOfTrail_5 : decode cX3_endOfTrail 5 = .ok (.goto 13, 3) := by decide +kernel
theorem dX3_endOfTrail_8 : decode cX3_endOfTrail 8 = .ok (.aload_n 0, 1) := by decide +kernel
theorem dX3_endOfTrail_9 : decode cX3_endOfTrail 9 = .ok (.getfield 64, 3) := by decide +kernel
theorem dX3_endOfTrail_12 : decode cX3_endOfTrail 12 = .ok (.iload_n 2, 1) := by decide +kernel
theorem dX3_endOfTrail_13 : decode cX3_endOfTrail 13 = .ok (.iconst 1, 1) := by decide +kernel
theorem dX3_endOfTrail_14 : decode cX3_endOfTrail 14 = .ok (.isub, 1) := by decide +kernel
theorem dX3_endOfTrail_15 : decode cX3_endOfTrail 15 = .ok (.invokevirtual 107, 3) := by decide +kernel
theorem dX3_endOfTrail_18 : decode cX3_endOfTrail 18 = .ok (.ireturn, 1) := by decide +kernel
set_option maxRecDepth 20000 in
theorem ggX3_isOnTrail_X2_at : GoodIn wsX3_isOnTrail wsX2_at := goodIn_r _ [6, 7, 8, 28, 29] (by decide +kernel) (by decide +kernel)
set_option maxRecDepth 20000 in
theorem gX3_isOnTrail_X2_at : GoodIn wsX3_isOnTrail (wsV RX3 107 RX2 yX2_at wsX2_at) := goodIn_app (goodIn_of _ (by decide +kernel)) ggX3_isOnTrail_X2_at
theorem dX3_isOnTrail_0 : decode cX3_isOnTrail 0 = .ok (.iconst 0, 1) := by decide +kernel
theorem dX3_isOnTrail_1 : decode cX3_isOnTrail 1 = .ok (.istore_n 3, 1) := by decide +kernel
theorem dX3_isOnTrail_2 : decode cX3_isOnTrail 2 = .ok (.iload_n 3, 1) := by decide +kernel
theorem dX3_isOnTrail_3 : decode cX3_isOnTrail 3 = .ok (.iload_n 2, 1) := by decide +kernel
theorem dX3_isOnTrail_4 : decode cX3_isOnTrail 4 = .ok (.if_icmp .ge 23, 3) := by decide +kernel
theorem dX3_isOnTrail_7 : decode cX3_isOnTrail 7 = .ok (.aload_n 0, 1) := by decide +kernel
theorem dX3_isOnTrail_8 : decode cX3_isOnTrail 8 = .ok (.getfield 64, 3) := by decide +kernel
theorem dX3_isOnTrail_11 : decode cX3_isOnTrail 11 = .ok (.iload_n 3, 1) := by decide +kernel
theorem dX3_isOnTrail_12 : decode cX3_isOnTrail 12 = .ok (.invokevirtual 107, 3) := by decide +kernel
theorem dX3_isOnTrail_15 : decode cX3_isOnTrail 15 = .ok (.iload_n 1, 1) := by decide +kernel
theorem dX3_isOnTrail_16 : decode cX3_isOnTrail 16 = .ok (.if_icmp .ne 5, 3) := by decide +kernel
theorem dX3_isOnTrail_19 : decode cX3_isOnTrail 19 = .ok (.iconst 1, 1) := by decide +kernel
theorem dX3_isOnTrail_20 : decode cX3_isOnTrail 20 = .ok (.ireturn, 1) := by decide +kernel
theorem dX3_isOnTrail_21 : decode cX3_isOnTrail 21 = .ok (.iinc 3 1, 3) := by decide +kernel
theorem dX3_isOnTrail_24 : decode cX3_isOnTrail 24 = .ok (.goto (-22), 3) := by decide +kernel
theorem dX3_isOnTrail_27 : decode cX3_isOnTrail 27 = .ok (.iconst 0, 1) := by decide +kernel
theorem dX3_isOnTrail_28 : decode cX3_isOnTrail 28 = .ok (.ireturn, 1) := by decide +kernel
set_option maxRecDepth 20000 in
theorem ggX3_markTrail_X2_at : GoodIn wsX3_markTrail wsX2_at := goodIn_r _ [7, 8, 9, 35, 36] (by decide +kernel) (by decide +kernel)
set_option maxRecDepth 20000 in
theorem gX3_markTrail_X2_at : GoodIn wsX3_markTrail (wsV RX3 107 RX2 yX2_at wsX2_at) := goodIn_app (goodIn_of _ (by decide +kernel)) ggX3_markTrail_X2_at
set_option maxRecDepth 20000 in
theorem ggX3_markTrail_X0_set : GoodIn wsX3_markTrail wsX0_set := goodIn_r _ [14, 15, 37] (by decide +kernel) (by decide +kernel)
set_option maxRecDepth 20000 in
theorem gX3_markTrail_X0_set : GoodIn wsX3_markTrail (wsV RX3 142 RX0 yX0_set wsX0_set) := goodIn_app (goodIn_of _ (by decide +kernel)) ggX3_markTrail_X0_set
theorem dX3_markTrail_0 : decode cX3_markTrail 0 = .ok (.iconst 0, 1) := by decide +kernel
theorem dX3_markTrail_1 : decode cX3_markTrail 1 = .ok (.istore_n 2, 1) := by decide +kernel
theorem dX3_markTrail_2 : decode cX3_markTrail 2 = .ok (.iload_n 2, 1) := by decide +kernel
theorem dX3_markTrail_3 : decode cX3_markTrail 3 = .ok (.iload_n 1, 1) := by decide +kernel
theorem dX3_markTrail_4 : decode cX3_markTrail 4 = .ok (.if_icmp .ge 25, 3) := by decide +kernel
theorem dX3_markTrail_7 : decode cX3_markTrail 7 = .ok (.aload_n 0, 1) := by decide +kernel
theorem dX3_markTrail_8 : decode cX3_markTrail 8 = .ok (.getfield 70, 3) := by decide +kernel
theorem dX3_markTrail_11 : decode cX3_markTrail 11 = .ok (.aload_n 0, 1) := by decide +kernel
theorem dX3_markTrail_12 : decode cX3_markTrail 12 = .ok (.getfield 64, 3) := by decide +kernel
theorem dX3_markTrail_15 : decode cX3_markTrail 15 = .ok (.iload_n 2, 1) := by decide +kernel
theorem dX3_markTrail_16 : decode cX3_markTrail 16 = .ok (.invokevirtual 107, 3) := by decide +kernel
theorem dX3_markTrail_19 : decode cX3_markTrail 19 = .ok (.iconst 1, 1) := by decide +kernel
theorem dX3_markTrail_20 : decode cX3_markTrail 20 = .ok (.invokevirtual 142, 3) := by decide +kernel
theorem dX3_markTrail_23 : decode cX3_markTrail 23 = .ok (.iinc 2 1, 3) := by decide +kernel
theorem dX3_markTrail_26 : decode cX3_markTrail 26 = .ok (.goto (-24), 3) := by decide +kernel
theorem dX3_markTrail_29 : decode cX3_markTrail 29 = .ok (.return_, 1) := by decide +kernel
set_option maxRecDepth 20000 in
theorem ggX3_searchFrom_X0_clear : GoodIn wsX3_searchFrom wsX0_clear := goodIn_r _ [8, 9, 59] (by decide +kernel) (by decide +kernel)
set_option maxRecDepth 20000 in
theorem gX3_searchFrom_X0_clear : GoodIn wsX3_searchFrom (wsV RX3 209 RX0 yX0_clear wsX0_clear) := goodIn_app (goodIn_of _ (by decide +kernel)) ggX3_searchFrom_X0_clear
set_option maxRecDepth 20000 in
theorem ggX3_searchFrom_X3_reach : GoodIn wsX3_searchFrom wsX3_reach := goodIn_r _ [14, 1, 2, 15, 16, 17, 7, 18, 9, 19, 20, 21, 22, 23, 24, 25, 26, 27, 28, 40, 41, 42, 43, 44, 45, 46, 47, 48, 49, 50, 51, 52, 53, 54, 55, 56, 57, 58, 59, 60, 61] (by decide +kernel) (by decide +kernel)
set_option maxRecDepth 20000 in
theorem gX3_searchFrom_X3_reach : GoodIn wsX3_searchFrom (wsV RX3 260 RX3 yX3_reach wsX3_reach) := goodIn_app (goodIn_of _ (by decide +kernel)) ggX3_searchFrom_X3_reach
set_option maxRecDepth 20000 in
theorem ggX3_searchFrom_X2_at : GoodIn wsX3_searchFrom wsX2_at := goodIn_r _ [32, 28, 33, 60, 61] (by decide +kernel) (by decide +kernel)
set_option maxRecDepth 20000 in
theorem gX3_searchFrom_X2_at : GoodIn wsX3_searchFrom (wsV RX3 107 RX2 yX2_at wsX2_at) := goodIn_app (goodIn_of _ (by decide +kernel)) ggX3_searchFrom_X2_at
set_option maxRecDepth 20000 in
theorem ggX3_searchFrom_X3_openStrandFrom : GoodIn wsX3_searchFrom wsX3_openStrandFrom := goodIn_r _ [37, 38, 39, 15, 16, 17, 7, 18, 9, 29, 30, 31, 26, 32, 28, 33, 40, 41, 42, 43, 44, 45, 46, 47, 48, 49, 50, 51, 52, 53, 54, 55, 56, 57, 58, 59, 60, 61] (by decide +kernel) (by decide +kernel)
set_option maxRecDepth 20000 in
theorem gX3_searchFrom_X3_openStrandFrom : GoodIn wsX3_searchFrom (wsV RX3 219 RX3 yX3_openStrandFrom wsX3_openStrandFrom) := goodIn_app (goodIn_of _ (by decide +kernel)) ggX3_searchFrom_X3_openStrandFrom
theorem dX3_searchFrom_0 : decode cX3_searchFrom 0 = .ok (.aload_n 0, 1) := by decide +kernel
theorem dX3_searchFrom_1 : decode cX3_searchFrom 1 = .ok (.getfield 70, 3) := by decide +kernel
theorem dX3_searchFrom_4 : decode cX3_searchFrom 4 = .ok (.invokevirtual 209, 3) := by decide +kernel
theorem dX3_searchFrom_7 : decode cX3_searchFrom 7 = .ok (.aload_n 0, 1) := by decide +kernel
theorem dX3_searchFrom_8 : decode cX3_searchFrom 8 = .ok (.iload_n 1, 1) := by decide +kernel
theorem dX3_searchFrom_9 : decode cX3_searchFrom 9 = .ok (.iconst 0, 1) := by decide +kernel
theorem dX3_searchFrom_10 : decode cX3_searchFrom 10 = .ok (.invokevirtual 260, 3) := by decide +kernel
theorem dX3_searchFrom_13 : decode cX3_searchFrom 13 = .ok (.istore_n 2, 1) := by decide +kernel
theorem dX3_searchFrom_14 : decode cX3_searchFrom 14 = .ok (.iconst 0, 1) := by decide +kernel
theorem dX3_searchFrom_15 : decode cX3_searchFrom 15 = .ok (.istore_n 3, 1) := by decide +kernel
theorem dX3_searchFrom_16 : decode cX3_searchFrom 16 = .ok (.iload_n 3, 1) := by decide +kernel
theorem dX3_searchFrom_17 : decode cX3_searchFrom 17 = .ok (.sipush 144, 3) := by decide +kernel
theorem dX3_searchFrom_20 : decode cX3_searchFrom 20 = .ok (.if_icmp .ge 51, 3) := by decide +kernel
theorem dX3_searchFrom_23 : decode cX3_searchFrom 23 = .ok (.iload_n 3, 1) := by decide +kernel
theorem dX3_searchFrom_24 : decode cX3_searchFrom 24 = .ok (.iload_n 2, 1) := by decide +kernel
theorem dX3_searchFrom_25 : decode cX3_searchFrom 25 = .ok (.if_icmp .ge 46, 3) := by decide +kernel
theorem dX3_searchFrom_28 : decode cX3_searchFrom 28 = .ok (.aload_n 0, 1) := by decide +kernel
theorem dX3_searchFrom_29 : decode cX3_searchFrom 29 = .ok (.getfield 67, 3) := by decide +kernel
theorem dX3_searchFrom_32 : decode cX3_searchFrom 32 = .ok (.iload_n 3, 1) := by decide +kernel
theorem dX3_searchFrom_33 : decode cX3_searchFrom 33 = .ok (.invokevirtual 107, 3) := by decide +kernel
theorem dX3_searchFrom_36 : decode cX3_searchFrom 36 = .ok (.istore 4, 2) := by decide +kernel
theorem dX3_searchFrom_38 : decode cX3_searchFrom 38 = .ok (.aload_n 0, 1) := by decide +kernel
theorem dX3_searchFrom_39 : decode cX3_searchFrom 39 = .ok (.aload_n 0, 1) := by decide +kernel
theorem dX3_searchFrom_40 : decode cX3_searchFrom 40 = .ok (.getfield 27, 3) := by decide +kernel
theorem dX3_searchFrom_43 : decode cX3_searchFrom 43 = .ok (.iload 4, 2) := by decide +kernel
theorem dX3_searchFrom_45 : decode cX3_searchFrom 45 = .ok (.invokevirtual 107, 3) := by decide +kernel
theorem dX3_searchFrom_48 : decode cX3_searchFrom 48 = .ok (.iload_n 2, 1) := by decide +kernel
theorem dX3_searchFrom_49 : decode cX3_searchFrom 49 = .ok (.invokevirtual 260, 3) := by decide +kernel
theorem dX3_searchFrom_52 : decode cX3_searchFrom 52 = .ok (.istore_n 2, 1) := by decide +kernel
theorem dX3_searchFrom_53 : decode cX3_searchFrom 53 = .ok (.aload_n 0, 1) := by decide +kernel
theorem dX3_searchFrom_54 : decode cX3_searchFrom 54 = .ok (.aload_n 0, 1) := by decide +kernel
theorem dX3_searchFrom_55 : decode cX3_searchFrom 55 = .ok (.iload 4, 2) := by decide +kernel
theorem dX3_searchFrom_57 : decode cX3_searchFrom 57 = .ok (.invokevirtual 219, 3) := by decide +kernel
theorem dX3_searchFrom_60 : decode cX3_searchFrom 60 = .ok (.iload_n 2, 1) := by decide +kernel
theorem dX3_searchFrom_61 : decode cX3_searchFrom 61 = .ok (.invokevirtual 260, 3) := by decide +kernel
theorem dX3_searchFrom_64 : decode cX3_searchFrom 64 = .ok (.istore_n 2, 1) := by decide +kernel
theorem dX3_searchFrom_65 : decode cX3_searchFrom 65 = .ok (.iinc 3 1, 3) := by decide +kernel
theorem dX3_searchFrom_68 : decode cX3_searchFrom 68 = .ok (.goto (-52), 3) := by decide +kernel
theorem dX3_searchFrom_71 : decode cX3_searchFrom 71 = .ok (.return_, 1) := by decide +kernel
set_option maxRecDepth 20000 in
theorem ggX3_reach_X0_has : GoodIn wsX3_reach wsX0_has := goodIn_r _ [7, 8, 38] (by decide +kernel) (by decide +kernel)
set_option maxRecDepth 20000 in
theorem gX3_reach_X0_has : GoodIn wsX3_reach (wsV RX3 138 RX0 yX0_has wsX0_has) := goodIn_app (goodIn_of _ (by decide +kernel)) ggX3_reach_X0_has
set_option maxRecDepth 20000 in
theorem ggX3_reach_X0_set : GoodIn wsX3_reach wsX0_set := goodIn_r _ [12, 8, 38] (by decide +kernel) (by decide +kernel)
set_option maxRecDepth 20000 in
theorem gX3_reach_X0_set : GoodIn wsX3_reach (wsV RX3 142 RX0 yX0_set wsX0_set) := goodIn_app (goodIn_of _ (by decide +kernel)) ggX3_reach_X0_set
set_option maxRecDepth 20000 in
theorem ggX3_reach_X2_put : GoodIn wsX3_reach wsX2_put := goodIn_r _ [17, 18, 39, 40] (by decide +kernel) (by decide +kernel)
set_option maxRecDepth 20000 in
theorem gX3_reach_X2_put : GoodIn wsX3_reach (wsV RX3 99 RX2 yX2_put wsX2_put) := goodIn_app (goodIn_of _ (by decide +kernel)) ggX3_reach_X2_put
theorem dX3_reach_0 : decode cX3_reach 0 = .ok (.iload_n 1, 1) := by decide +kernel
theorem dX3_reach_1 : decode cX3_reach 1 = .ok (.iconst (-1), 1) := by decide +kernel
theorem dX3_reach_2 : decode cX3_reach 2 = .ok (.if_icmp .eq 14, 3) := by decide +kernel
theorem dX3_reach_5 : decode cX3_reach 5 = .ok (.aload_n 0, 1) := by decide +kernel
theorem dX3_reach_6 : decode cX3_reach 6 = .ok (.getfield 70, 3) := by decide +kernel
theorem dX3_reach_9 : decode cX3_reach 9 = .ok (.iload_n 1, 1) := by decide +kernel
theorem dX3_reach_10 : decode cX3_reach 10 = .ok (.invokevirtual 138, 3) := by decide +kernel
theorem dX3_reach_13 : decode cX3_reach 13 = .ok (.ifCond .eq 5, 3) := by decide +kernel
theorem dX3_reach_16 : decode cX3_reach 16 = .ok (.iload_n 2, 1) := by decide +kernel
theorem dX3_reach_17 : decode cX3_reach 17 = .ok (.ireturn, 1) := by decide +kernel
theorem dX3_reach_18 : decode cX3_reach 18 = .ok (.aload_n 0, 1) := by decide +kernel
theorem dX3_reach_19 : decode cX3_reach 19 = .ok (.getfield 70, 3) := by decide +kernel
theorem dX3_reach_22 : decode cX3_reach 22 = .ok (.iload_n 1, 1) := by decide +kernel
theorem dX3_reach_23 : decode cX3_reach 23 = .ok (.iconst 1, 1) := by decide +kernel
theorem dX3_reach_24 : decode cX3_reach 24 = .ok (.invokevirtual 142, 3) := by decide +kernel
theorem dX3_reach_27 : decode cX3_reach 27 = .ok (.aload_n 0, 1) := by decide +kernel
theorem dX3_reach_28 : decode cX3_reach 28 = .ok (.getfield 67, 3) := by decide +kernel
theorem dX3_reach_31 : decode cX3_reach 31 = .ok (.iload_n 2, 1) := by decide +kernel
theorem dX3_reach_32 : decode cX3_reach 32 = .ok (.iload_n 1, 1) := by decide +kernel
theorem dX3_reach_33 : decode cX3_reach 33 = .ok (.invokevirtual 99, 3) := by decide +kernel
theorem dX3_reach_36 : decode cX3_reach 36 = .ok (.iload_n 2, 1) := by decide +kernel
theorem dX3_reach_37 : decode cX3_reach 37 = .ok (.iconst 1, 1) := by decide +kernel
theorem dX3_reach_38 : decode cX3_reach 38 = .ok (.iadd, 1) := by decide +kernel
theorem dX3_reach_39 : decode cX3_reach 39 = .ok (.ireturn, 1) := by decide +kernel
theorem dJ9_abs_0f7a4_0 : decode cJ9_abs_0f7a4 0 = .ok (.iload_n 0, 1) := by decide +kernel
theorem dJ9_abs_0f7a4_1 : decode cJ9_abs_0f7a4 1 = .ok (.ifCond .ge 8, 3) := by decide +kernel
theorem dJ9_abs_0f7a4_4 : decode cJ9_abs_0f7a4 4 = .ok (.iload_n 0, 1) := by decide +kernel
theorem dJ9_abs_0f7a4_5 : decode cJ9_abs_0f7a4 5 = .ok (.ineg, 1) := by decide +kernel
theorem dJ9_abs_0f7a4_6 : decode cJ9_abs_0f7a4 6 = .ok (.goto 4, 3) := by decide +kernel
theorem dJ9_abs_0f7a4_9 : decode cJ9_abs_0f7a4 9 = .ok (.iload_n 0, 1) := by decide +kernel
theorem dJ9_abs_0f7a4_10 : decode cJ9_abs_0f7a4 10 = .ok (.ireturn, 1) := by decide +kernel
theorem dJ9_max_7cf53_0 : decode cJ9_max_7cf53 0 = .ok (.iload_n 0, 1) := by decide +kernel
theorem dJ9_max_7cf53_1 : decode cJ9_max_7cf53 1 = .ok (.iload_n 1, 1) := by decide +kernel
theorem dJ9_max_7cf53_2 : decode cJ9_max_7cf53 2 = .ok (.if_icmp .lt 7, 3) := by decide +kernel
theorem dJ9_max_7cf53_5 : decode cJ9_max_7cf53 5 = .ok (.iload_n 0, 1) := by decide +kernel
theorem dJ9_max_7cf53_6 : decode cJ9_max_7cf53 6 = .ok (.goto 4, 3) := by decide +kernel
theorem dJ9_max_7cf53_9 : decode cJ9_max_7cf53 9 = .ok (.iload_n 1, 1) := by decide +kernel
theorem dJ9_max_7cf53_10 : decode cJ9_max_7cf53 10 = .ok (.ireturn, 1) := by decide +kernel
theorem dL_cell_0 : decode cL_cell 0 = .ok (.iload_n 1, 1) := by decide +kernel
theorem dL_cell_1 : decode cL_cell 1 = .ok (.aload_n 0, 1) := by decide +kernel
theorem dL_cell_2 : decode cL_cell 2 = .ok (.arraylength, 1) := by decide +kernel
theorem dL_cell_3 : decode cL_cell 3 = .ok (.if_icmp .ge 9, 3) := by decide +kernel
theorem dL_cell_6 : decode cL_cell 6 = .ok (.aload_n 0, 1) := by decide +kernel
theorem dL_cell_7 : decode cL_cell 7 = .ok (.iload_n 1, 1) := by decide +kernel
theorem dL_cell_8 : decode cL_cell 8 = .ok (.iaload, 1) := by decide +kernel
theorem dL_cell_9 : decode cL_cell 9 = .ok (.goto 18, 3) := by decide +kernel
theorem dL_cell_12 : decode cL_cell 12 = .ok (.sipush 7919, 3) := by decide +kernel
theorem dL_cell_15 : decode cL_cell 15 = .ok (.iload_n 1, 1) := by decide +kernel
theorem dL_cell_16 : decode cL_cell 16 = .ok (.sipush 233, 3) := by decide +kernel
theorem dL_cell_19 : decode cL_cell 19 = .ok (.iadd, 1) := by decide +kernel
theorem dL_cell_20 : decode cL_cell 20 = .ok (.imul, 1) := by decide +kernel
theorem dL_cell_21 : decode cL_cell 21 = .ok (.iload_n 1, 1) := by decide +kernel
theorem dL_cell_22 : decode cL_cell 22 = .ok (.sipush 2447, 3) := by decide +kernel
theorem dL_cell_25 : decode cL_cell 25 = .ok (.iadd, 1) := by decide +kernel
theorem dL_cell_26 : decode cL_cell 26 = .ok (.imul, 1) := by decide +kernel
theorem dL_cell_27 : decode cL_cell 27 = .ok (.ireturn, 1) := by decide +kernel
theorem dL_low_0 : decode cL_low 0 = .ok (.iload_n 0, 1) := by decide +kernel
theorem dL_low_1 : decode cL_low 1 = .ok (.ldc 7, 2) := by decide +kernel
theorem dL_low_3 : decode cL_low 3 = .ok (.iand, 1) := by decide +kernel
theorem dL_low_4 : decode cL_low 4 = .ok (.iload_n 1, 1) := by decide +kernel
theorem dL_low_5 : decode cL_low 5 = .ok (.irem, 1) := by decide +kernel
theorem dL_low_6 : decode cL_low 6 = .ok (.ireturn, 1) := by decide +kernel
set_option maxRecDepth 20000 in
theorem ggL_addPanel_X3_addPanel : GoodIn wsL_addPanel wsX3_addPanel := goodIn_ca (goodIn_ca (goodIn_r _ [8, 9, 10, 11, 12, 13, 14, 15, 16, 17, 18, 19, 20, 7, 21, 22, 23, 24, 25, 26, 27, 28, 29, 30, 31, 32, 33, 34, 35, 36, 37, 38, 39, 40, 41, 42, 43, 44, 45, 46, 47, 48] (by decide +kernel) (by decide +kernel)) (goodIn_sub (fun _ h => List.mem_cons_of_mem _ (List.mem_append_left _ (List.mem_append_right _ h))) (by decide +kernel))) (goodIn_sub (fun _ h => List.mem_cons_of_mem _ (List.mem_append_right _ h)) (by decide +kernel))
set_option maxRecDepth 20000 in
theorem gL_addPanel_X3_addPanel : GoodIn wsL_addPanel (wsV RL 8 RX3 yX3_addPanel wsX3_addPanel) := goodIn_app (goodIn_of _ (by decide +kernel)) ggL_addPanel_X3_addPanel
theorem dL_addPanel_0 : decode cL_addPanel 0 = .ok (.aload_n 0, 1) := by decide +kernel
theorem dL_addPanel_1 : decode cL_addPanel 1 = .ok (.iload_n 1, 1) := by decide +kernel
theorem dL_addPanel_2 : decode cL_addPanel 2 = .ok (.iload_n 2, 1) := by decide +kernel
theorem dL_addPanel_3 : decode cL_addPanel 3 = .ok (.invokevirtual 8, 3) := by decide +kernel
theorem dL_addPanel_6 : decode cL_addPanel 6 = .ok (.ireturn, 1) := by decide +kernel
theorem dL_addPanel_7 : decode cL_addPanel 7 = .ok (.astore_n 3, 1) := by decide +kernel
theorem dL_addPanel_8 : decode cL_addPanel 8 = .ok (.ldc 16, 2) := by decide +kernel
theorem dL_addPanel_10 : decode cL_addPanel 10 = .ok (.ireturn, 1) := by decide +kernel
theorem dL_addPanel_11 : decode cL_addPanel 11 = .ok (.astore_n 3, 1) := by decide +kernel
theorem dL_addPanel_12 : decode cL_addPanel 12 = .ok (.ldc 16, 2) := by decide +kernel
theorem dL_addPanel_14 : decode cL_addPanel 14 = .ok (.ireturn, 1) := by decide +kernel
set_option maxRecDepth 20000 in
theorem ggL_addTrunk_X3_addTrunk : GoodIn wsL_addTrunk wsX3_addTrunk := goodIn_ca (goodIn_ca (goodIn_ca (goodIn_r _ [9, 10, 11, 12, 13, 14, 15, 16, 17, 18, 19, 20, 21, 8, 22, 23, 24, 25, 26, 27, 28, 29, 30, 31, 32, 33, 34, 35, 36, 37, 38, 39, 40, 41, 42, 43, 44, 45, 46, 47, 48, 49, 50, 51, 52, 53, 54, 55, 56, 57, 58, 59, 60, 61, 62, 63, 64, 65, 66, 67, 68, 69, 70, 71, 72, 73, 74, 75, 76, 77, 78, 79, 80] (by decide +kernel) (by decide +kernel)) (goodIn_sub (fun _ h => List.mem_cons_of_mem _ (List.mem_append_left _ (List.mem_append_left _ (List.mem_append_right _ h)))) (by decide +kernel))) (goodIn_sub (fun _ h => List.mem_cons_of_mem _ (List.mem_append_left _ (List.mem_append_right _ h))) (by decide +kernel))) (goodIn_sub (fun _ h => List.mem_cons_of_mem _ (List.mem_append_right _ h)) (by decide +kernel))
set_option maxRecDepth 20000 in
theorem gL_addTrunk_X3_addTrunk : GoodIn wsL_addTrunk (wsV RL 19 RX3 yX3_addTrunk wsX3_addTrunk) := goodIn_app (goodIn_of _ (by decide +kernel)) ggL_addTrunk_X3_addTrunk
theorem dL_addTrunk_0 : decode cL_addTrunk 0 = .ok (.aload_n 0, 1) := by decide +kernel
theorem dL_addTrunk_1 : decode cL_addTrunk 1 = .ok (.iload_n 1, 1) := by decide +kernel
theorem dL_addTrunk_2 : decode cL_addTrunk 2 = .ok (.iload_n 2, 1) := by decide +kernel
theorem dL_addTrunk_3 : decode cL_addTrunk 3 = .ok (.iload_n 3, 1) := by decide +kernel
theorem dL_addTrunk_4 : decode cL_addTrunk 4 = .ok (.iload 4, 2) := by decide +kernel
theorem dL_addTrunk_6 : decode cL_addTrunk 6 = .ok (.invokevirtual 19, 3) := by decide +kernel
theorem dL_addTrunk_9 : decode cL_addTrunk 9 = .ok (.ireturn, 1) := by decide +kernel
theorem dL_addTrunk_10 : decode cL_addTrunk 10 = .ok (.astore 5, 2) := by decide +kernel
theorem dL_addTrunk_12 : decode cL_addTrunk 12 = .ok (.ldc 16, 2) := by decide +kernel
theorem dL_addTrunk_14 : decode cL_addTrunk 14 = .ok (.ireturn, 1) := by decide +kernel
theorem dL_addTrunk_15 : decode cL_addTrunk 15 = .ok (.astore 5, 2) := by decide +kernel
theorem dL_addTrunk_17 : decode cL_addTrunk 17 = .ok (.ldc 16, 2) := by decide +kernel
theorem dL_addTrunk_19 : decode cL_addTrunk 19 = .ok (.ireturn, 1) := by decide +kernel
theorem dL_addTrunk_20 : decode cL_addTrunk 20 = .ok (.astore 5, 2) := by decide +kernel
theorem dL_addTrunk_22 : decode cL_addTrunk 22 = .ok (.ldc 16, 2) := by decide +kernel
theorem dL_addTrunk_24 : decode cL_addTrunk 24 = .ok (.ireturn, 1) := by decide +kernel
set_option maxRecDepth 20000 in
theorem ggL_does_X3_setBroken : GoodIn wsL_does wsX3_setBroken := goodIn_ca (goodIn_r _ [9, 10, 11, 12, 13, 14, 15, 16, 17, 18, 8, 19, 20, 21, 22, 23, 24, 25, 26, 27, 28, 29, 30, 31, 32, 33, 34, 35, 36, 37, 38, 39, 40, 165, 166, 167, 168, 169, 170, 171, 172, 173, 174, 175, 176, 177, 178, 179, 180, 181, 182, 183, 184, 185, 186] (by decide +kernel) (by decide +kernel)) (goodIn_sub (fun _ h => List.mem_cons_of_mem _ (List.mem_append_left _ (List.mem_append_left _ (List.mem_append_right _ h)))) (by decide +kernel))
set_option maxRecDepth 20000 in
theorem gL_does_X3_setBroken : GoodIn wsL_does (wsV RL 25 RX3 yX3_setBroken wsX3_setBroken) := goodIn_app (goodIn_of _ (by decide +kernel)) ggL_does_X3_setBroken
set_option maxRecDepth 20000 in
theorem ggL_does_X3_plug : GoodIn wsL_does wsX3_plug := goodIn_ca (goodIn_ca (goodIn_ca (goodIn_r _ [44, 45, 46, 47, 48, 49, 50, 51, 8, 52, 10, 11, 53, 21, 22, 23, 54, 55, 56, 57, 58, 24, 25, 26, 27, 28, 29, 30, 59, 60, 61, 62, 63, 64, 65, 66, 67, 68, 69, 70, 71, 72, 73, 74, 75, 76, 77, 165, 166, 167, 168, 169, 170, 171, 172, 173, 174, 175, 176, 177, 178, 179, 180, 181, 182, 183, 184, 185] (by decide +kernel) (by decide +kernel)) (goodIn_sub (fun _ h => List.mem_cons_of_mem _ (List.mem_append_left _ (List.mem_append_right _ h))) (by decide +kernel))) (goodIn_sub (fun _ h => List.mem_cons_of_mem _ (List.mem_append_right _ h)) (by decide +kernel))) (goodIn_sub (fun _ h => List.mem_cons_of_mem _ (List.mem_append_left _ (List.mem_append_left _ (List.mem_append_right _ h)))) (by decide +kernel))
set_option maxRecDepth 20000 in
theorem gL_does_X3_plug : GoodIn wsL_does (wsV RL 29 RX3 yX3_plug wsX3_plug) := goodIn_app (goodIn_of _ (by decide +kernel)) ggL_does_X3_plug
set_option maxRecDepth 20000 in
theorem ggL_does_X3_pull : GoodIn wsL_does wsX3_pull := goodIn_ca (goodIn_ca (goodIn_r _ [81, 47, 48, 58, 49, 50, 51, 8, 52, 10, 11, 53, 21, 22, 23, 54, 55, 56, 57, 24, 25, 26, 27, 28, 29, 30, 82, 83, 84, 85, 63, 64, 65, 66, 67, 165, 166, 167, 168, 169, 170, 171, 172, 173, 174, 175, 176, 177, 178, 179, 180, 181, 182, 183, 184, 185] (by decide +kernel) (by decide +kernel)) (goodIn_sub (fun _ h => List.mem_cons_of_mem _ (List.mem_append_right _ h)) (by decide +kernel))) (goodIn_sub (fun _ h => List.mem_cons_of_mem _ (List.mem_append_left _ (List.mem_append_left _ (List.mem_append_right _ h)))) (by decide +kernel))
set_option maxRecDepth 20000 in
theorem gL_does_X3_pull : GoodIn wsL_does (wsV RL 33 RX3 yX3_pull wsX3_pull) := goodIn_app (goodIn_of _ (by decide +kernel)) ggL_does_X3_pull
set_option maxRecDepth 20000 in
theorem ggL_does_X3_addMove : GoodIn wsL_does wsX3_addMove := goodIn_ca (goodIn_ca (goodIn_ca (goodIn_r _ [89, 45, 46, 47, 48, 90, 49, 50, 51, 8, 52, 10, 11, 53, 21, 22, 23, 91, 92, 93, 94, 95, 96, 97, 98, 99, 100, 101, 102, 103, 65, 66, 27, 67, 29, 165, 166, 167, 168, 169, 170, 171, 172, 173, 174, 175, 176, 177, 178, 179, 180, 181, 182, 183, 187, 188, 189, 190, 191, 184, 185] (by decide +kernel) (by decide +kernel)) (goodIn_sub (fun _ h => List.mem_cons_of_mem _ (List.mem_append_left _ (List.mem_append_right _ h))) (by decide +kernel))) (goodIn_sub (fun _ h => List.mem_cons_of_mem _ (List.mem_append_right _ h)) (by decide +kernel))) (goodIn_sub (fun _ h => List.mem_cons_of_mem _ (List.mem_append_left _ (List.mem_append_left _ (List.mem_append_right _ h)))) (by decide +kernel))
set_option maxRecDepth 20000 in
theorem gL_does_X3_addMove : GoodIn wsL_does (wsV RL 37 RX3 yX3_addMove wsX3_addMove) := goodIn_app (goodIn_of _ (by decide +kernel)) ggL_does_X3_addMove
set_option maxRecDepth 20000 in
theorem ggL_does_X3_carryOut : GoodIn wsL_does wsX3_carryOut := goodIn_ca (goodIn_r _ [107, 47, 48, 90, 108, 109, 110, 8, 111, 91, 92, 93, 94, 95, 96, 112, 113, 114, 115, 101, 116, 25, 26, 27, 28, 29, 30, 54, 55, 56, 57, 58, 24, 117, 118, 119, 120, 121, 122, 123, 124, 125, 102, 126, 127, 128, 129, 130, 131, 132, 133, 134, 135, 136, 137, 138, 63, 139, 140, 141, 142, 143, 144, 103, 65, 66, 67, 82, 83, 84, 85, 64, 145, 146, 147, 148, 149, 150, 151, 152, 153, 154, 155, 156, 157, 158, 159, 160, 59, 60, 61, 62, 161, 162, 163, 164, 165, 166, 167, 168, 169, 170, 171, 172, 173, 174, 175, 176, 177, 178, 179, 180, 181, 182, 183, 187, 188, 189, 190, 191, 184, 185] (by decide +kernel) (by decide +kernel)) (goodIn_sub (fun _ h => List.mem_cons_of_mem _ (List.mem_append_right _ h)) (by decide +kernel))
set_option maxRecDepth 20000 in
theorem gL_does_X3_carryOut : GoodIn wsL_does (wsV RL 40 RX3 yX3_carryOut wsX3_carryOut) := goodIn_app (goodIn_of _ (by decide +kernel)) ggL_does_X3_carryOut
theorem dL_does_0 : decode cL_does 0 = .ok (.iload_n 1, 1) := by decide +kernel
theorem dL_does_1 : decode cL_does 1 = .ok (.ifCond .ne 31, 3) := by decide +kernel
theorem dL_does_4 : decode cL_does 4 = .ok (.aload_n 0, 1) := by decide +kernel
theorem dL_does_5 : decode cL_does 5 = .ok (.iload_n 2, 1) := by decide +kernel
theorem dL_does_6 : decode cL_does 6 = .ok (.iload_n 3, 1) := by decide +kernel
theorem dL_does_7 : decode cL_does 7 = .ok (.iload 4, 2) := by decide +kernel
theorem dL_does_9 : decode cL_does 9 = .ok (.iconst 1, 1) := by decide +kernel
theorem dL_does_10 : decode cL_does 10 = .ok (.if_icmp .ne 7, 3) := by decide +kernel
theorem dL_does_13 : decode cL_does 13 = .ok (.iconst 1, 1) := by decide +kernel
theorem dL_does_14 : decode cL_does 14 = .ok (.goto 4, 3) := by decide +kernel
theorem dL_does_17 : decode cL_does 17 = .ok (.iconst 0, 1) := by decide +kernel
theorem dL_does_18 : decode cL_does 18 = .ok (.invokevirtual 25, 3) := by decide +kernel
theorem dL_does_21 : decode cL_does 21 = .ok (.ifCond .eq 7, 3) := by decide +kernel
theorem dL_does_24 : decode cL_does 24 = .ok (.iconst 1, 1) := by decide +kernel
theorem dL_does_25 : decode cL_does 25 = .ok (.goto 54, 3) := by decide +kernel
theorem dL_does_28 : decode cL_does 28 = .ok (.iconst 0, 1) := by decide +kernel
theorem dL_does_29 : decode cL_does 29 = .ok (.goto 50, 3) := by decide +kernel
theorem dL_does_32 : decode cL_does 32 = .ok (.iload_n 1, 1) := by decide +kernel
theorem dL_does_33 : decode cL_does 33 = .ok (.iconst 1, 1) := by decide +kernel
theorem dL_does_34 : decode cL_does 34 = .ok (.if_icmp .ne 14, 3) := by decide +kernel
theorem dL_does_37 : decode cL_does 37 = .ok (.aload_n 0, 1) := by decide +kernel
theorem dL_does_38 : decode cL_does 38 = .ok (.iload_n 2, 1) := by decide +kernel
theorem dL_does_39 : decode cL_does 39 = .ok (.iload_n 3, 1) := by decide +kernel
theorem dL_does_40 : decode cL_does 40 = .ok (.iload 4, 2) := by decide +kernel
theorem dL_does_42 : decode cL_does 42 = .ok (.invokevirtual 29, 3) := by decide +kernel
theorem dL_does_45 : decode cL_does 45 = .ok (.goto 34, 3) := by decide +kernel
theorem dL_does_48 : decode cL_does 48 = .ok (.iload_n 1, 1) := by decide +kernel
theorem dL_does_49 : decode cL_does 49 = .ok (.iconst 2, 1) := by decide +kernel
theorem dL_does_50 : decode cL_does 50 = .ok (.if_icmp .ne 11, 3) := by decide +kernel
theorem dL_does_53 : decode cL_does 53 = .ok (.aload_n 0, 1) := by decide +kernel
theorem dL_does_54 : decode cL_does 54 = .ok (.iload_n 2, 1) := by decide +kernel
theorem dL_does_55 : decode cL_does 55 = .ok (.invokevirtual 33, 3) := by decide +kernel
theorem dL_does_58 : decode cL_does 58 = .ok (.goto 21, 3) := by decide +kernel
theorem dL_does_61 : decode cL_does 61 = .ok (.iload_n 1, 1) := by decide +kernel
theorem dL_does_62 : decode cL_does 62 = .ok (.iconst 3, 1) := by decide +kernel
theorem dL_does_63 : decode cL_does 63 = .ok (.if_icmp .ne 12, 3) := by decide +kernel
theorem dL_does_66 : decode cL_does 66 = .ok (.aload_n 0, 1) := by decide +kernel
theorem dL_does_67 : decode cL_does 67 = .ok (.iload_n 2, 1) := by decide +kernel
theorem dL_does_68 : decode cL_does 68 = .ok (.iload_n 3, 1) := by decide +kernel
theorem dL_does_69 : decode cL_does 69 = .ok (.invokevirtual 37, 3) := by decide +kernel
theorem dL_does_72 : decode cL_does 72 = .ok (.goto 7, 3) := by decide +kernel
theorem dL_does_75 : decode cL_does 75 = .ok (.aload_n 0, 1) := by decide +kernel
theorem dL_does_76 : decode cL_does 76 = .ok (.invokevirtual 40, 3) := by decide +kernel
theorem dL_does_79 : decode cL_does 79 = .ok (.ireturn, 1) := by decide +kernel
theorem dL_does_80 : decode cL_does 80 = .ok (.astore 5, 2) := by decide +kernel
theorem dL_does_82 : decode cL_does 82 = .ok (.ldc 16, 2) := by decide +kernel
theorem dL_does_84 : decode cL_does 84 = .ok (.ireturn, 1) := by decide +kernel
theorem dL_does_85 : decode cL_does 85 = .ok (.astore 5, 2) := by decide +kernel
theorem dL_does_87 : decode cL_does 87 = .ok (.ldc 16, 2) := by decide +kernel
theorem dL_does_89 : decode cL_does 89 = .ok (.ireturn, 1) := by decide +kernel
theorem dL_does_90 : decode cL_does 90 = .ok (.astore 5, 2) := by decide +kernel
theorem dL_does_92 : decode cL_does 92 = .ok (.ldc 16, 2) := by decide +kernel
theorem dL_does_94 : decode cL_does 94 = .ok (.ireturn, 1) := by decide +kernel
set_option maxRecDepth 20000 in
theorem ggL_freePort_X3_freePort : GoodIn wsL_freePort wsX3_freePort := goodIn_ca (goodIn_r _ [7, 8, 9, 10, 11, 12, 6, 13, 14, 15, 16, 17, 18, 19, 20, 21, 22, 23, 24, 25, 26, 27, 28, 29, 30, 31, 32, 33, 34, 35, 36, 37, 38, 39, 40, 41, 42, 43, 44, 45, 46, 47, 48, 49, 50, 51, 52, 53, 54, 55, 56, 57] (by decide +kernel) (by decide +kernel)) (goodIn_sub (fun _ h => List.mem_cons_of_mem _ (List.mem_append_right _ h)) (by decide +kernel))
set_option maxRecDepth 20000 in
theorem gL_freePort_X3_freePort : GoodIn wsL_freePort (wsV RL 44 RX3 yX3_freePort wsX3_freePort) := goodIn_app (goodIn_of _ (by decide +kernel)) ggL_freePort_X3_freePort
theorem dL_freePort_0 : decode cL_freePort 0 = .ok (.aload_n 0, 1) := by decide +kernel
theorem dL_freePort_1 : decode cL_freePort 1 = .ok (.iload_n 1, 1) := by decide +kernel
theorem dL_freePort_2 : decode cL_freePort 2 = .ok (.invokevirtual 44, 3) := by decide +kernel
theorem dL_freePort_5 : decode cL_freePort 5 = .ok (.ireturn, 1) := by decide +kernel
theorem dL_freePort_6 : decode cL_freePort 6 = .ok (.astore_n 2, 1) := by decide +kernel
theorem dL_freePort_7 : decode cL_freePort 7 = .ok (.ldc 16, 2) := by decide +kernel
theorem dL_freePort_9 : decode cL_freePort 9 = .ok (.ireturn, 1) := by decide +kernel
set_option maxRecDepth 20000 in
theorem ggL_act_L_low : GoodIn wsL_act wsL_low := goodIn_r _ [4, 5] (by decide +kernel) (by decide +kernel)
set_option maxRecDepth 20000 in
theorem gL_act_L_low : GoodIn wsL_act (va_wsS RL 47 yL_low wsL_low) := goodIn_app (goodIn_of _ (by decide +kernel)) ggL_act_L_low
set_option maxRecDepth 20000 in
theorem ggL_act_X3_ports : GoodIn wsL_act wsX3_ports := goodIn_r _ [10, 11, 216, 217, 218, 219, 220, 221, 222, 223, 224, 225, 226, 227, 228, 229, 230, 231, 232, 233, 234] (by decide +kernel) (by decide +kernel)
set_option maxRecDepth 20000 in
theorem gL_act_X3_ports : GoodIn wsL_act (wsV RL 52 RX3 yX3_ports wsX3_ports) := goodIn_app (goodIn_of _ (by decide +kernel)) ggL_act_X3_ports
set_option maxRecDepth 20000 in
theorem ggL_act_L_addPanel : GoodIn wsL_act wsL_addPanel := goodIn_ca (goodIn_ca (goodIn_r _ [14, 15, 16, 17, 18, 19, 20, 9, 21, 22, 23, 24, 25, 26, 11, 27, 28, 29, 30, 31, 32, 33, 34, 35, 36, 37, 38, 39, 216, 217, 218, 219, 220, 221, 222, 223, 224, 225, 226, 227, 228, 229, 230, 231, 232, 233, 234, 235, 236] (by decide +kernel) (by decide +kernel)) (goodIn_sub (fun _ h => List.mem_cons_of_mem _ (List.mem_append_left _ (List.mem_append_left _ (List.mem_append_right _ h)))) (by decide +kernel))) (goodIn_sub (fun _ h => List.mem_cons_of_mem _ (List.mem_append_left _ (List.mem_append_right _ h))) (by decide +kernel))
set_option maxRecDepth 20000 in
theorem gL_act_L_addPanel : GoodIn wsL_act (va_wsS RL 55 yL_addPanel wsL_addPanel) := goodIn_app (goodIn_of _ (by decide +kernel)) ggL_act_L_addPanel
set_option maxRecDepth 20000 in
theorem ggL_act_L_addTrunk : GoodIn wsL_act wsL_addTrunk := goodIn_ca (goodIn_ca (goodIn_ca (goodIn_r _ [42, 43, 15, 16, 17, 44, 45, 46, 9, 47, 22, 23, 24, 25, 30, 48, 49, 50, 51, 52, 53, 54, 55, 56, 57, 11, 31, 32, 33, 58, 59, 60, 37, 61, 39, 62, 63, 64, 65, 66, 28, 29, 67, 68, 69, 70, 71, 72, 73, 74, 75, 34, 35, 36, 38, 76, 77, 78, 79, 80, 216, 217, 218, 219, 220, 221, 222, 223, 224, 225, 226, 227, 228, 229, 230, 231, 232, 233, 234, 235, 236] (by decide +kernel) (by decide +kernel)) (goodIn_sub (fun _ h => List.mem_cons_of_mem _ (List.mem_append_left _ (List.mem_append_left _ (List.mem_append_right _ h)))) (by decide +kernel))) (goodIn_sub (fun _ h => List.mem_cons_of_mem _ (List.mem_append_left _ (List.mem_append_right _ h))) (by decide +kernel))) (goodIn_sub (fun _ h => List.mem_cons_of_mem _ (List.mem_append_right _ h)) (by decide +kernel))
set_option maxRecDepth 20000 in
theorem gL_act_L_addTrunk : GoodIn wsL_act (va_wsS RL 58 yL_addTrunk wsL_addTrunk) := goodIn_app (goodIn_of _ (by decide +kernel)) ggL_act_L_addTrunk
set_option maxRecDepth 20000 in
theorem ggL_act_L_does : GoodIn wsL_act wsL_does := goodIn_ca (goodIn_ca (goodIn_ca (goodIn_r _ [83, 43, 15, 16, 17, 84, 85, 86, 9, 87, 56, 57, 50, 49, 88, 75, 89, 90, 91, 92, 48, 31, 32, 33, 58, 59, 60, 37, 61, 39, 62, 93, 94, 95, 96, 97, 98, 99, 100, 101, 102, 103, 104, 105, 106, 22, 23, 24, 25, 52, 53, 54, 55, 11, 107, 108, 109, 110, 111, 112, 113, 114, 115, 116, 34, 35, 36, 38, 117, 118, 119, 120, 30, 27, 121, 122, 123, 124, 125, 126, 127, 128, 129, 130, 131, 132, 133, 134, 135, 136, 137, 138, 139, 140, 141, 142, 143, 144, 145, 146, 147, 148, 149, 150, 151, 152, 153, 154, 155, 156, 157, 158, 159, 160, 161, 162, 163, 164, 165, 166, 167, 168, 169, 170, 171, 172, 173, 174, 175, 176, 177, 178, 179, 180, 181, 182, 183, 184, 185, 186, 187, 188, 189, 190, 191, 192, 193, 194, 195, 196, 197, 198, 199, 200, 201, 202, 203, 204, 205, 206, 207, 208, 209, 210, 211, 216, 217, 218, 219, 220, 221, 222, 223, 224, 225, 226, 227, 228, 229, 230, 231, 232, 233, 234, 235, 236, 237, 238, 239, 240, 241, 242] (by decide +kernel) (by decide +kernel)) (goodIn_sub (fun _ h => List.mem_cons_of_mem _ (List.mem_append_right _ h)) (by decide +kernel))) (goodIn_sub (fun _ h => List.mem_cons_of_mem _ (List.mem_append_left _ (List.mem_append_left _ (List.mem_append_right _ h)))) (by decide +kernel))) (goodIn_sub (fun _ h => List.mem_cons_of_mem _ (List.mem_append_left _ (List.mem_append_right _ h))) (by decide +kernel))
set_option maxRecDepth 20000 in
theorem gL_act_L_does : GoodIn wsL_act (va_wsS RL 61 yL_does wsL_does) := goodIn_app (goodIn_of _ (by decide +kernel)) ggL_act_L_does
set_option maxRecDepth 20000 in
theorem ggL_act_X3_dropPlan : GoodIn wsL_act wsX3_dropPlan := goodIn_r _ [215, 137, 138, 139, 140, 141, 142, 143, 208, 209, 210, 211, 216, 217, 218, 219, 220, 221, 222, 223, 224, 225, 226, 227, 228, 229, 230, 231, 232, 233, 234, 238, 239, 240, 241, 242] (by decide +kernel) (by decide +kernel)
set_option maxRecDepth 20000 in
theorem gL_act_X3_dropPlan : GoodIn wsL_act (wsV RL 64 RX3 yX3_dropPlan wsX3_dropPlan) := goodIn_app (goodIn_of _ (by decide +kernel)) ggL_act_X3_dropPlan
theorem dL_act_0 : decode cL_act 0 = .ok (.iload_n 1, 1) := by decide +kernel
theorem dL_act_1 : decode cL_act 1 = .ok (.bipush 24, 2) := by decide +kernel
theorem dL_act_3 : decode cL_act 3 = .ok (.ishr, 1) := by decide +kernel
theorem dL_act_4 : decode cL_act 4 = .ok (.bipush 8, 2) := by decide +kernel
theorem dL_act_6 : decode cL_act 6 = .ok (.invokestatic 47, 3) := by decide +kernel
theorem dL_act_9 : decode cL_act 9 = .ok (.ifCond .ne 7, 3) := by decide +kernel
theorem dL_act_12 : decode cL_act 12 = .ok (.iconst 1, 1) := by decide +kernel
theorem dL_act_13 : decode cL_act 13 = .ok (.goto 4, 3) := by decide +kernel
theorem dL_act_16 : decode cL_act 16 = .ok (.iconst 0, 1) := by decide +kernel
theorem dL_act_17 : decode cL_act 17 = .ok (.istore_n 2, 1) := by decide +kernel
theorem dL_act_18 : decode cL_act 18 = .ok (.iload_n 1, 1) := by decide +kernel
theorem dL_act_19 : decode cL_act 19 = .ok (.iconst 4, 1) := by decide +kernel
theorem dL_act_20 : decode cL_act 20 = .ok (.ishr, 1) := by decide +kernel
theorem dL_act_21 : decode cL_act 21 = .ok (.iload_n 2, 1) := by decide +kernel
theorem dL_act_22 : decode cL_act 22 = .ok (.ifCond .eq 9, 3) := by decide +kernel
theorem dL_act_25 : decode cL_act 25 = .ok (.sipush 150, 3) := by decide +kernel
theorem dL_act_28 : decode cL_act 28 = .ok (.goto 9, 3) := by decide +kernel
theorem dL_act_31 : decode cL_act 31 = .ok (.aload_n 0, 1) := by decide +kernel
theorem dL_act_32 : decode cL_act 32 = .ok (.invokevirtual 52, 3) := by decide +kernel
theorem dL_act_35 : decode cL_act 35 = .ok (.iconst 1, 1) := by decide +kernel
theorem dL_act_36 : decode cL_act 36 = .ok (.iadd, 1) := by decide +kernel
theorem dL_act_37 : decode cL_act 37 = .ok (.invokestatic 47, 3) := by decide +kernel
theorem dL_act_40 : decode cL_act 40 = .ok (.istore_n 3, 1) := by decide +kernel
theorem dL_act_41 : decode cL_act 41 = .ok (.iload_n 1, 1) := by decide +kernel
theorem dL_act_42 : decode cL_act 42 = .ok (.bipush 9, 2) := by decide +kernel
theorem dL_act_44 : decode cL_act 44 = .ok (.ishr, 1) := by decide +kernel
theorem dL_act_45 : decode cL_act 45 = .ok (.iload_n 2, 1) := by decide +kernel
theorem dL_act_46 : decode cL_act 46 = .ok (.ifCond .eq 9, 3) := by decide +kernel
theorem dL_act_49 : decode cL_act 49 = .ok (.sipush 150, 3) := by decide +kernel
theorem dL_act_52 : decode cL_act 52 = .ok (.goto 9, 3) := by decide +kernel
theorem dL_act_55 : decode cL_act 55 = .ok (.aload_n 0, 1) := by decide +kernel
theorem dL_act_56 : decode cL_act 56 = .ok (.invokevirtual 52, 3) := by decide +kernel
theorem dL_act_59 : decode cL_act 59 = .ok (.iconst 1, 1) := by decide +kernel
theorem dL_act_60 : decode cL_act 60 = .ok (.iadd, 1) := by decide +kernel
theorem dL_act_61 : decode cL_act 61 = .ok (.invokestatic 47, 3) := by decide +kernel
theorem dL_act_64 : decode cL_act 64 = .ok (.istore 4, 2) := by decide +kernel
theorem dL_act_66 : decode cL_act 66 = .ok (.iload_n 1, 1) := by decide +kernel
theorem dL_act_67 : decode cL_act 67 = .ok (.bipush 24, 2) := by decide +kernel
theorem dL_act_69 : decode cL_act 69 = .ok (.invokestatic 47, 3) := by decide +kernel
theorem dL_act_72 : decode cL_act 72 = .ok (.istore 5, 2) := by decide +kernel
theorem dL_act_74 : decode cL_act 74 = .ok (.iload 5, 2) := by decide +kernel
theorem dL_act_76 : decode cL_act 76 = .ok (.iconst 2, 1) := by decide +kernel
theorem dL_act_77 : decode cL_act 77 = .ok (.if_icmp .ge 53, 3) := by decide +kernel
theorem dL_act_80 : decode cL_act 80 = .ok (.aload_n 0, 1) := by decide +kernel
theorem dL_act_81 : decode cL_act 81 = .ok (.iload_n 1, 1) := by decide +kernel
theorem dL_act_82 : decode cL_act 82 = .ok (.iconst 5, 1) := by decide +kernel
theorem dL_act_83 : decode cL_act 83 = .ok (.ishr, 1) := by decide +kernel
theorem dL_act_84 : decode cL_act 84 = .ok (.iload_n 2, 1) := by decide +kernel
theorem dL_act_85 : decode cL_act 85 = .ok (.ifCond .eq 8, 3) := by decide +kernel
theorem dL_act_88 : decode cL_act 88 = .ok (.bipush 13, 2) := by decide +kernel
theorem dL_act_90 : decode cL_act 90 = .ok (.goto 5, 3) := by decide +kernel
theorem dL_act_93 : decode cL_act 93 = .ok (.bipush 10, 2) := by decide +kernel
theorem dL_act_95 : decode cL_act 95 = .ok (.invokestatic 47, 3) := by decide +kernel
theorem dL_act_98 : decode cL_act 98 = .ok (.iload_n 1, 1) := by decide +kernel
theorem dL_act_99 : decode cL_act 99 = .ok (.bipush 8, 2) := by decide +kernel
theorem dL_act_101 : decode cL_act 101 = .ok (.ishr, 1) := by decide +kernel
theorem dL_act_102 : decode cL_act 102 = .ok (.iload_n 2, 1) := by decide +kernel
theorem dL_act_103 : decode cL_act 103 = .ok (.ifCond .eq 8, 3) := by decide +kernel
theorem dL_act_106 : decode cL_act 106 = .ok (.bipush 16, 2) := by decide +kernel
theorem dL_act_108 : decode cL_act 108 = .ok (.goto 5, 3) := by decide +kernel
theorem dL_act_111 : decode cL_act 111 = .ok (.bipush 12, 2) := by decide +kernel
theorem dL_act_113 : decode cL_act 113 = .ok (.invokestatic 47, 3) := by decide +kernel
theorem dL_act_116 : decode cL_act 116 = .ok (.iload_n 2, 1) := by decide +kernel
theorem dL_act_117 : decode cL_act 117 = .ok (.ifCond .eq 7, 3) := by decide +kernel
theorem dL_act_120 : decode cL_act 120 = .ok (.iconst 0, 1) := by decide +kernel
theorem dL_act_121 : decode cL_act 121 = .ok (.goto 4, 3) := by decide +kernel
theorem dL_act_124 : decode cL_act 124 = .ok (.iconst 1, 1) := by decide +kernel
theorem dL_act_125 : decode cL_act 125 = .ok (.iadd, 1) := by decide +kernel
theorem dL_act_126 : decode cL_act 126 = .ok (.invokestatic 55, 3) := by decide +kernel
theorem dL_act_129 : decode cL_act 129 = .ok (.ireturn, 1) := by decide +kernel
theorem dL_act_130 : decode cL_act 130 = .ok (.iload 5, 2) := by decide +kernel
theorem dL_act_132 : decode cL_act 132 = .ok (.iconst 5, 1) := by decide +kernel
theorem dL_act_133 : decode cL_act 133 = .ok (.if_icmp .ge 66, 3) := by decide +kernel
theorem dL_act_136 : decode cL_act 136 = .ok (.aload_n 0, 1) := by decide +kernel
theorem dL_act_137 : decode cL_act 137 = .ok (.iload_n 3, 1) := by decide +kernel
theorem dL_act_138 : decode cL_act 138 = .ok (.iload 4, 2) := by decide +kernel
theorem dL_act_140 : decode cL_act 140 = .ok (.iload_n 1, 1) := by decide +kernel
theorem dL_act_141 : decode cL_act 141 = .ok (.bipush 13, 2) := by decide +kernel
theorem dL_act_143 : decode cL_act 143 = .ok (.ishr, 1) := by decide +kernel
theorem dL_act_144 : decode cL_act 144 = .ok (.iload_n 2, 1) := by decide +kernel
theorem dL_act_145 : decode cL_act 145 = .ok (.ifCond .eq 8, 3) := by decide +kernel
theorem dL_act_148 : decode cL_act 148 = .ok (.bipush 15, 2) := by decide +kernel
theorem dL_act_150 : decode cL_act 150 = .ok (.goto 4, 3) := by decide +kernel
theorem dL_act_153 : decode cL_act 153 = .ok (.iconst 4, 1) := by decide +kernel
theorem dL_act_154 : decode cL_act 154 = .ok (.invokestatic 47, 3) := by decide +kernel
theorem dL_act_157 : decode cL_act 157 = .ok (.iload_n 2, 1) := by decide +kernel
theorem dL_act_158 : decode cL_act 158 = .ok (.ifCond .eq 7, 3) := by decide +kernel
theorem dL_act_161 : decode cL_act 161 = .ok (.iconst 0, 1) := by decide +kernel
theorem dL_act_162 : decode cL_act 162 = .ok (.goto 4, 3) := by decide +kernel
theorem dL_act_165 : decode cL_act 165 = .ok (.iconst 1, 1) := by decide +kernel
theorem dL_act_166 : decode cL_act 166 = .ok (.iadd, 1) := by decide +kernel
theorem dL_act_167 : decode cL_act 167 = .ok (.iload_n 1, 1) := by decide +kernel
theorem dL_act_168 : decode cL_act 168 = .ok (.iconst 5, 1) := by decide +kernel
theorem dL_act_169 : decode cL_act 169 = .ok (.ishr, 1) := by decide +kernel
theorem dL_act_170 : decode cL_act 170 = .ok (.iload_n 2, 1) := by decide +kernel
theorem dL_act_171 : decode cL_act 171 = .ok (.ifCond .eq 9, 3) := by decide +kernel
theorem dL_act_174 : decode cL_act 174 = .ok (.sipush 600, 3) := by decide +kernel
theorem dL_act_177 : decode cL_act 177 = .ok (.goto 5, 3) := by decide +kernel
theorem dL_act_180 : decode cL_act 180 = .ok (.bipush 90, 2) := by decide +kernel
theorem dL_act_182 : decode cL_act 182 = .ok (.invokestatic 47, 3) := by decide +kernel
theorem dL_act_185 : decode cL_act 185 = .ok (.iload_n 2, 1) := by decide +kernel
theorem dL_act_186 : decode cL_act 186 = .ok (.ifCond .eq 7, 3) := by decide +kernel
theorem dL_act_189 : decode cL_act 189 = .ok (.iconst 0, 1) := by decide +kernel
theorem dL_act_190 : decode cL_act 190 = .ok (.goto 4, 3) := by decide +kernel
theorem dL_act_193 : decode cL_act 193 = .ok (.iconst 1, 1) := by decide +kernel
theorem dL_act_194 : decode cL_act 194 = .ok (.iadd, 1) := by decide +kernel
theorem dL_act_195 : decode cL_act 195 = .ok (.invokestatic 58, 3) := by decide +kernel
theorem dL_act_198 : decode cL_act 198 = .ok (.ireturn, 1) := by decide +kernel
theorem dL_act_199 : decode cL_act 199 = .ok (.iload 5, 2) := by decide +kernel
theorem dL_act_201 : decode cL_act 201 = .ok (.bipush 8, 2) := by decide +kernel
theorem dL_act_203 : decode cL_act 203 = .ok (.if_icmp .ge 31, 3) := by decide +kernel
theorem dL_act_206 : decode cL_act 206 = .ok (.aload_n 0, 1) := by decide +kernel
theorem dL_act_207 : decode cL_act 207 = .ok (.iconst 0, 1) := by decide +kernel
theorem dL_act_208 : decode cL_act 208 = .ok (.iload_n 1, 1) := by decide +kernel
theorem dL_act_209 : decode cL_act 209 = .ok (.iconst 4, 1) := by decide +kernel
theorem dL_act_210 : decode cL_act 210 = .ok (.ishr, 1) := by decide +kernel
theorem dL_act_211 : decode cL_act 211 = .ok (.bipush 10, 2) := by decide +kernel
theorem dL_act_213 : decode cL_act 213 = .ok (.invokestatic 47, 3) := by decide +kernel
theorem dL_act_216 : decode cL_act 216 = .ok (.iload_n 1, 1) := by decide +kernel
theorem dL_act_217 : decode cL_act 217 = .ok (.bipush 8, 2) := by decide +kernel
theorem dL_act_219 : decode cL_act 219 = .ok (.ishr, 1) := by decide +kernel
theorem dL_act_220 : decode cL_act 220 = .ok (.iconst 4, 1) := by decide +kernel
theorem dL_act_221 : decode cL_act 221 = .ok (.invokestatic 47, 3) := by decide +kernel
theorem dL_act_224 : decode cL_act 224 = .ok (.iload_n 1, 1) := by decide +kernel
theorem dL_act_225 : decode cL_act 225 = .ok (.bipush 12, 2) := by decide +kernel
theorem dL_act_227 : decode cL_act 227 = .ok (.ishr, 1) := by decide +kernel
theorem dL_act_228 : decode cL_act 228 = .ok (.iconst 1, 1) := by decide +kernel
theorem dL_act_229 : decode cL_act 229 = .ok (.iand, 1) := by decide +kernel
theorem dL_act_230 : decode cL_act 230 = .ok (.invokestatic 61, 3) := by decide +kernel
theorem dL_act_233 : decode cL_act 233 = .ok (.ireturn, 1) := by decide +kernel
theorem dL_act_234 : decode cL_act 234 = .ok (.iload 5, 2) := by decide +kernel
theorem dL_act_236 : decode cL_act 236 = .ok (.bipush 15, 2) := by decide +kernel
theorem dL_act_238 : decode cL_act 238 = .ok (.if_icmp .ge 40, 3) := by decide +kernel
theorem dL_act_241 : decode cL_act 241 = .ok (.aload_n 0, 1) := by decide +kernel
theorem dL_act_242 : decode cL_act 242 = .ok (.iconst 1, 1) := by decide +kernel
theorem dL_act_243 : decode cL_act 243 = .ok (.iload_n 3, 1) := by decide +kernel
theorem dL_act_244 : decode cL_act 244 = .ok (.iload 4, 2) := by decide +kernel
theorem dL_act_246 : decode cL_act 246 = .ok (.iload_n 1, 1) := by decide +kernel
theorem dL_act_247 : decode cL_act 247 = .ok (.bipush 13, 2) := by decide +kernel
theorem dL_act_249 : decode cL_act 249 = .ok (.ishr, 1) := by decide +kernel
theorem dL_act_250 : decode cL_act 250 = .ok (.iload_n 2, 1) := by decide +kernel
theorem dL_act_251 : decode cL_act 251 = .ok (.ifCond .eq 8, 3) := by decide +kernel
theorem dL_act_254 : decode cL_act 254 = .ok (.bipush 12, 2) := by decide +kernel
theorem dL_act_256 : decode cL_act 256 = .ok (.goto 5, 3) := by decide +kernel
theorem dL_act_259 : decode cL_act 259 = .ok (.bipush 9, 2) := by decide +kernel
theorem dL_act_261 : decode cL_act 261 = .ok (.invokestatic 47, 3) := by decide +kernel
theorem dL_act_264 : decode cL_act 264 = .ok (.iload_n 2, 1) := by decide +kernel
theorem dL_act_265 : decode cL_act 265 = .ok (.ifCond .eq 7, 3) := by decide +kernel
theorem dL_act_268 : decode cL_act 268 = .ok (.iconst 0, 1) := by decide +kernel
theorem dL_act_269 : decode cL_act 269 = .ok (.goto 4, 3) := by decide +kernel
theorem dL_act_272 : decode cL_act 272 = .ok (.iconst 1, 1) := by decide +kernel
theorem dL_act_273 : decode cL_act 273 = .ok (.iadd, 1) := by decide +kernel
theorem dL_act_274 : decode cL_act 274 = .ok (.invokestatic 61, 3) := by decide +kernel
theorem dL_act_277 : decode cL_act 277 = .ok (.ireturn, 1) := by decide +kernel
theorem dL_act_278 : decode cL_act 278 = .ok (.iload 5, 2) := by decide +kernel
theorem dL_act_280 : decode cL_act 280 = .ok (.bipush 15, 2) := by decide +kernel
theorem dL_act_282 : decode cL_act 282 = .ok (.if_icmp .ne 12, 3) := by decide +kernel
theorem dL_act_285 : decode cL_act 285 = .ok (.aload_n 0, 1) := by decide +kernel
theorem dL_act_286 : decode cL_act 286 = .ok (.iconst 2, 1) := by decide +kernel
theorem dL_act_287 : decode cL_act 287 = .ok (.iload_n 3, 1) := by decide +kernel
theorem dL_act_288 : decode cL_act 288 = .ok (.iconst 0, 1) := by decide +kernel
theorem dL_act_289 : decode cL_act 289 = .ok (.iconst 0, 1) := by decide +kernel
theorem dL_act_290 : decode cL_act 290 = .ok (.invokestatic 61, 3) := by decide +kernel
theorem dL_act_293 : decode cL_act 293 = .ok (.ireturn, 1) := by decide +kernel
theorem dL_act_294 : decode cL_act 294 = .ok (.iload 5, 2) := by decide +kernel
theorem dL_act_296 : decode cL_act 296 = .ok (.bipush 20, 2) := by decide +kernel
theorem dL_act_298 : decode cL_act 298 = .ok (.if_icmp .ge 15, 3) := by decide +kernel
theorem dL_act_301 : decode cL_act 301 = .ok (.aload_n 0, 1) := by decide +kernel
theorem dL_act_302 : decode cL_act 302 = .ok (.iconst 3, 1) := by decide +kernel
theorem dL_act_303 : decode cL_act 303 = .ok (.iload_n 3, 1) := by decide +kernel
theorem dL_act_304 : decode cL_act 304 = .ok (.iload 4, 2) := by decide +kernel
theorem dL_act_306 : decode cL_act 306 = .ok (.iconst 0, 1) := by decide +kernel
theorem dL_act_307 : decode cL_act 307 = .ok (.invokestatic 61, 3) := by decide +kernel
theorem dL_act_310 : decode cL_act 310 = .ok (.goto 25, 3) := by decide +kernel
theorem dL_act_313 : decode cL_act 313 = .ok (.iload 5, 2) := by decide +kernel
theorem dL_act_315 : decode cL_act 315 = .ok (.bipush 20, 2) := by decide +kernel
theorem dL_act_317 : decode cL_act 317 = .ok (.if_icmp .ne 10, 3) := by decide +kernel
theorem dL_act_320 : decode cL_act 320 = .ok (.aload_n 0, 1) := by decide +kernel
theorem dL_act_321 : decode cL_act 321 = .ok (.invokevirtual 64, 3) := by decide +kernel
theorem dL_act_324 : decode cL_act 324 = .ok (.goto 11, 3) := by decide +kernel
theorem dL_act_327 : decode cL_act 327 = .ok (.aload_n 0, 1) := by decide +kernel
theorem dL_act_328 : decode cL_act 328 = .ok (.iconst 4, 1) := by decide +kernel
theorem dL_act_329 : decode cL_act 329 = .ok (.iconst 0, 1) := by decide +kernel
theorem dL_act_330 : decode cL_act 330 = .ok (.iconst 0, 1) := by decide +kernel
theorem dL_act_331 : decode cL_act 331 = .ok (.iconst 0, 1) := by decide +kernel
theorem dL_act_332 : decode cL_act 332 = .ok (.invokestatic 61, 3) := by decide +kernel
theorem dL_act_335 : decode cL_act 335 = .ok (.ireturn, 1) := by decide +kernel
set_option maxRecDepth 20000 in
theorem ggL_areAlike_X3_ports : GoodIn wsL_areAlike wsX3_ports := goodIn_r _ [5, 6, 156, 157, 158, 159, 160, 161, 162, 163, 164, 165, 166, 167, 168, 169, 170, 171, 172, 173, 174] (by decide +kernel) (by decide +kernel)
set_option maxRecDepth 20000 in
theorem gL_areAlike_X3_ports : GoodIn wsL_areAlike (wsV RL 52 RX3 yX3_ports wsX3_ports) := goodIn_app (goodIn_of _ (by decide +kernel)) ggL_areAlike_X3_ports
set_option maxRecDepth 20000 in
theorem ggL_areAlike_X3_trunks : GoodIn wsL_areAlike wsX3_trunks := goodIn_r _ [10, 11, 156, 157, 158, 159, 160, 161, 162, 163, 164, 165, 166, 167, 168, 169, 170, 171, 172, 173, 174] (by decide +kernel) (by decide +kernel)
set_option maxRecDepth 20000 in
theorem gL_areAlike_X3_trunks : GoodIn wsL_areAlike (wsV RL 67 RX3 yX3_trunks wsX3_trunks) := goodIn_app (goodIn_of _ (by decide +kernel)) ggL_areAlike_X3_trunks
set_option maxRecDepth 20000 in
theorem ggL_areAlike_X3_cables : GoodIn wsL_areAlike wsX3_cables := goodIn_r _ [15, 6, 16, 17, 18, 4, 19, 20, 21, 22, 23, 24, 25, 26, 27, 156, 157, 158, 159, 160, 161, 162, 163, 164, 165, 166, 167, 168, 169, 170, 171, 172, 173, 174, 175, 176] (by decide +kernel) (by decide +kernel)
set_option maxRecDepth 20000 in
theorem gL_areAlike_X3_cables : GoodIn wsL_areAlike (wsV RL 70 RX3 yX3_cables wsX3_cables) := goodIn_app (goodIn_of _ (by decide +kernel)) ggL_areAlike_X3_cables
set_option maxRecDepth 20000 in
theorem ggL_areAlike_X3_cableLength : GoodIn wsL_areAlike wsX3_cableLength := goodIn_r _ [31, 6, 20, 16, 17, 18, 4, 19, 21, 22, 23, 24, 25, 26, 27, 32, 33, 34, 35, 36, 37, 38, 39, 40, 41, 156, 157, 158, 159, 160, 161, 162, 163, 164, 165, 166, 167, 168, 169, 170, 171, 172, 173, 174, 175, 176] (by decide +kernel) (by decide +kernel)
set_option maxRecDepth 20000 in
theorem gL_areAlike_X3_cableLength : GoodIn wsL_areAlike (wsV RL 73 RX3 yX3_cableLength wsX3_cableLength) := goodIn_app (goodIn_of _ (by decide +kernel)) ggL_areAlike_X3_cableLength
set_option maxRecDepth 20000 in
theorem ggL_areAlike_X3_lines : GoodIn wsL_areAlike wsX3_lines := goodIn_r _ [45, 46, 6, 47, 48, 49, 50, 51, 52, 53, 54, 55, 56, 57, 58, 59, 60, 61, 62, 63, 4, 64, 20, 65, 21, 22, 23, 24, 25, 26, 27, 66, 67, 68, 69, 70, 71, 72, 73, 74, 75, 76, 77, 78, 79, 156, 157, 158, 159, 160, 161, 162, 163, 164, 165, 166, 167, 168, 169, 170, 171, 172, 173, 174, 177, 175, 176] (by decide +kernel) (by decide +kernel)
set_option maxRecDepth 20000 in
theorem gL_areAlike_X3_lines : GoodIn wsL_areAlike (wsV RL 76 RX3 yX3_lines wsX3_lines) := goodIn_app (goodIn_of _ (by decide +kernel)) ggL_areAlike_X3_lines
set_option maxRecDepth 20000 in
theorem ggL_areAlike_X3_canCarryOut : GoodIn wsL_areAlike wsX3_canCarryOut := goodIn_r _ [83, 84, 85, 86, 4, 87, 88, 89, 90, 91, 92, 93, 94, 95, 96, 97, 98, 99, 100, 22, 23, 24, 25, 26, 27, 101, 102, 103, 104, 20, 21, 105, 106, 107, 108, 109, 110, 111, 112, 113, 114, 115, 116, 117, 118, 119, 120, 121, 122, 123, 156, 157, 158, 159, 160, 161, 162, 163, 164, 165, 166, 167, 168, 169, 170, 171, 172, 173, 174, 178, 179, 180, 181, 182, 175, 176] (by decide +kernel) (by decide +kernel)
set_option maxRecDepth 20000 in
theorem gL_areAlike_X3_canCarryOut : GoodIn wsL_areAlike (wsV RL 79 RX3 yX3_canCarryOut wsX3_canCarryOut) := goodIn_app (goodIn_of _ (by decide +kernel)) ggL_areAlike_X3_canCarryOut
set_option maxRecDepth 20000 in
theorem ggL_areAlike_X3_byCable : GoodIn wsL_areAlike wsX3_byCable := goodIn_ca (goodIn_r _ [127, 20, 128, 129, 130, 4, 131, 132, 133, 6, 134, 135, 136, 21, 22, 23, 24, 25, 26, 27, 156, 157, 158, 159, 160, 161, 162, 163, 164, 165, 166, 167, 168, 169, 170, 171, 172, 173, 174, 175, 176] (by decide +kernel) (by decide +kernel)) (goodIn_sub (fun _ h => List.mem_cons_of_mem _ (List.mem_append_right _ h)) (by decide +kernel))
set_option maxRecDepth 20000 in
theorem gL_areAlike_X3_byCable : GoodIn wsL_areAlike (wsV RL 83 RX3 yX3_byCable wsX3_byCable) := goodIn_app (goodIn_of _ (by decide +kernel)) ggL_areAlike_X3_byCable
set_option maxRecDepth 20000 in
theorem ggL_areAlike_X3_byStrand : GoodIn wsL_areAlike wsX3_byStrand := goodIn_ca (goodIn_r _ [140, 71, 128, 129, 130, 4, 131, 132, 133, 6, 134, 135, 136, 21, 22, 23, 24, 25, 26, 27, 156, 157, 158, 159, 160, 161, 162, 163, 164, 165, 166, 167, 168, 169, 170, 171, 172, 173, 174, 175, 176] (by decide +kernel) (by decide +kernel)) (goodIn_sub (fun _ h => List.mem_cons_of_mem _ (List.mem_append_right _ h)) (by decide +kernel))
set_option maxRecDepth 20000 in
theorem gL_areAlike_X3_byStrand : GoodIn wsL_areAlike (wsV RL 86 RX3 yX3_byStrand wsX3_byStrand) := goodIn_app (goodIn_of _ (by decide +kernel)) ggL_areAlike_X3_byStrand
set_option maxRecDepth 20000 in
theorem ggL_areAlike_X3_colour : GoodIn wsL_areAlike wsX3_colour := goodIn_ca (goodIn_r _ [144, 145, 128, 129, 130, 4, 131, 132, 133, 6, 134, 135, 136, 21, 22, 23, 24, 25, 26, 27, 156, 157, 158, 159, 160, 161, 162, 163, 164, 165, 166, 167, 168, 169, 170, 171, 172, 173, 174, 175, 176] (by decide +kernel) (by decide +kernel)) (goodIn_sub (fun _ h => List.mem_cons_of_mem _ (List.mem_append_right _ h)) (by decide +kernel))
set_option maxRecDepth 20000 in
theorem gL_areAlike_X3_colour : GoodIn wsL_areAlike (wsV RL 89 RX3 yX3_colour wsX3_colour) := goodIn_app (goodIn_of _ (by decide +kernel)) ggL_areAlike_X3_colour
set_option maxRecDepth 20000 in
theorem ggL_areAlike_X3_panelOf : GoodIn wsL_areAlike wsX3_panelOf := goodIn_ca (goodIn_r _ [149, 36, 128, 129, 130, 4, 131, 132, 133, 6, 134, 135, 136, 21, 22, 23, 24, 25, 26, 27, 156, 157, 158, 159, 160, 161, 162, 163, 164, 165, 166, 167, 168, 169, 170, 171, 172, 173, 174, 175, 176] (by decide +kernel) (by decide +kernel)) (goodIn_sub (fun _ h => List.mem_cons_of_mem _ (List.mem_append_right _ h)) (by decide +kernel))
set_option maxRecDepth 20000 in
theorem gL_areAlike_X3_panelOf : GoodIn wsL_areAlike (wsV RL 92 RX3 yX3_panelOf wsX3_panelOf) := goodIn_app (goodIn_of _ (by decide +kernel)) ggL_areAlike_X3_panelOf
set_option maxRecDepth 20000 in
theorem ggL_areAlike_X3_lengthOf : GoodIn wsL_areAlike wsX3_lengthOf := goodIn_ca (goodIn_r _ [153, 65, 154, 155, 128, 129, 130, 4, 131, 132, 133, 6, 134, 135, 136, 61, 62, 63, 64, 20, 21, 22, 23, 24, 25, 26, 27, 66, 67, 68, 69, 70, 71, 53, 54, 55, 50, 56, 52, 72, 73, 74, 75, 32, 33, 34, 35, 36, 37, 38, 39, 40, 41, 156, 157, 158, 159, 160, 161, 162, 163, 164, 165, 166, 167, 168, 169, 170, 171, 172, 173, 174, 175, 176, 177] (by decide +kernel) (by decide +kernel)) (goodIn_sub (fun _ h => List.mem_cons_of_mem _ (List.mem_append_right _ h)) (by decide +kernel))
set_option maxRecDepth 20000 in
theorem gL_areAlike_X3_lengthOf : GoodIn wsL_areAlike (wsV RL 95 RX3 yX3_lengthOf wsX3_lengthOf) := goodIn_app (goodIn_of _ (by decide +kernel)) ggL_areAlike_X3_lengthOf
theorem dL_areAlike_0 : decode cL_areAlike 0 = .ok (.aload_n 0, 1) := by decide +kernel
theorem dL_areAlike_1 : decode cL_areAlike 1 = .ok (.invokevirtual 52, 3) := by decide +kernel
theorem dL_areAlike_4 : decode cL_areAlike 4 = .ok (.aload_n 1, 1) := by decide +kernel
theorem dL_areAlike_5 : decode cL_areAlike 5 = .ok (.invokevirtual 52, 3) := by decide +kernel
theorem dL_areAlike_8 : decode cL_areAlike 8 = .ok (.if_icmp .ne 62, 3) := by decide +kernel
theorem dL_areAlike_11 : decode cL_areAlike 11 = .ok (.aload_n 0, 1) := by decide +kernel
theorem dL_areAlike_12 : decode cL_areAlike 12 = .ok (.invokevirtual 67, 3) := by decide +kernel
theorem dL_areAlike_15 : decode cL_areAlike 15 = .ok (.aload_n 1, 1) := by decide +kernel
theorem dL_areAlike_16 : decode cL_areAlike 16 = .ok (.invokevirtual 67, 3) := by decide +kernel
theorem dL_areAlike_19 : decode cL_areAlike 19 = .ok (.if_icmp .ne 51, 3) := by decide +kernel
theorem dL_areAlike_22 : decode cL_areAlike 22 = .ok (.aload_n 0, 1) := by decide +kernel
theorem dL_areAlike_23 : decode cL_areAlike 23 = .ok (.invokevirtual 70, 3) := by decide +kernel
theorem dL_areAlike_26 : decode cL_areAlike 26 = .ok (.aload_n 1, 1) := by decide +kernel
theorem dL_areAlike_27 : decode cL_areAlike 27 = .ok (.invokevirtual 70, 3) := by decide +kernel
theorem dL_areAlike_30 : decode cL_areAlike 30 = .ok (.if_icmp .ne 40, 3) := by decide +kernel
theorem dL_areAlike_33 : decode cL_areAlike 33 = .ok (.aload_n 0, 1) := by decide +kernel
theorem dL_areAlike_34 : decode cL_areAlike 34 = .ok (.invokevirtual 73, 3) := by decide +kernel
theorem dL_areAlike_37 : decode cL_areAlike 37 = .ok (.aload_n 1, 1) := by decide +kernel
theorem dL_areAlike_38 : decode cL_areAlike 38 = .ok (.invokevirtual 73, 3) := by decide +kernel
theorem dL_areAlike_41 : decode cL_areAlike 41 = .ok (.if_icmp .ne 29, 3) := by decide +kernel
theorem dL_areAlike_44 : decode cL_areAlike 44 = .ok (.aload_n 0, 1) := by decide +kernel
theorem dL_areAlike_45 : decode cL_areAlike 45 = .ok (.invokevirtual 76, 3) := by decide +kernel
theorem dL_areAlike_48 : decode cL_areAlike 48 = .ok (.aload_n 1, 1) := by decide +kernel
theorem dL_areAlike_49 : decode cL_areAlike 49 = .ok (.invokevirtual 76, 3) := by decide +kernel
theorem dL_areAlike_52 : decode cL_areAlike 52 = .ok (.if_icmp .ne 18, 3) := by decide +kernel
theorem dL_areAlike_55 : decode cL_areAlike 55 = .ok (.aload_n 0, 1) := by decide +kernel
theorem dL_areAlike_56 : decode cL_areAlike 56 = .ok (.invokevirtual 79, 3) := by decide +kernel
theorem dL_areAlike_59 : decode cL_areAlike 59 = .ok (.aload_n 1, 1) := by decide +kernel
theorem dL_areAlike_60 : decode cL_areAlike 60 = .ok (.invokevirtual 79, 3) := by decide +kernel
theorem dL_areAlike_63 : decode cL_areAlike 63 = .ok (.if_icmp .ne 7, 3) := by decide +kernel
theorem dL_areAlike_66 : decode cL_areAlike 66 = .ok (.iconst 1, 1) := by decide +kernel
theorem dL_areAlike_67 : decode cL_areAlike 67 = .ok (.goto 4, 3) := by decide +kernel
theorem dL_areAlike_70 : decode cL_areAlike 70 = .ok (.iconst 0, 1) := by decide +kernel
theorem dL_areAlike_71 : decode cL_areAlike 71 = .ok (.istore_n 2, 1) := by decide +kernel
theorem dL_areAlike_72 : decode cL_areAlike 72 = .ok (.iconst 0, 1) := by decide +kernel
theorem dL_areAlike_73 : decode cL_areAlike 73 = .ok (.istore_n 3, 1) := by decide +kernel
theorem dL_areAlike_74 : decode cL_areAlike 74 = .ok (.iload_n 3, 1) := by decide +kernel
theorem dL_areAlike_75 : decode cL_areAlike 75 = .ok (.aload_n 0, 1) := by decide +kernel
theorem dL_areAlike_76 : decode cL_areAlike 76 = .ok (.invokevirtual 52, 3) := by decide +kernel
theorem dL_areAlike_79 : decode cL_areAlike 79 = .ok (.if_icmp .ge 86, 3) := by decide +kernel
theorem dL_areAlike_82 : decode cL_areAlike 82 = .ok (.iload_n 2, 1) := by decide +kernel
theorem dL_areAlike_83 : decode cL_areAlike 83 = .ok (.ifCond .eq 82, 3) := by decide +kernel
theorem dL_areAlike_86 : decode cL_areAlike 86 = .ok (.aload_n 0, 1) := by decide +kernel
theorem dL_areAlike_87 : decode cL_areAlike 87 = .ok (.iload_n 3, 1) := by decide +kernel
theorem dL_areAlike_88 : decode cL_areAlike 88 = .ok (.invokevirtual 83, 3) := by decide +kernel
theorem dL_areAlike_91 : decode cL_areAlike 91 = .ok (.aload_n 1, 1) := by decide +kernel
theorem dL_areAlike_92 : decode cL_areAlike 92 = .ok (.iload_n 3, 1) := by decide +kernel
theorem dL_areAlike_93 : decode cL_areAlike 93 = .ok (.invokevirtual 83, 3) := by decide +kernel
theorem dL_areAlike_96 : decode cL_areAlike 96 = .ok (.if_icmp .ne 61, 3) := by decide +kernel
theorem dL_areAlike_99 : decode cL_areAlike 99 = .ok (.aload_n 0, 1) := by decide +kernel
theorem dL_areAlike_100 : decode cL_areAlike 100 = .ok (.iload_n 3, 1) := by decide +kernel
theorem dL_areAlike_101 : decode cL_areAlike 101 = .ok (.invokevirtual 86, 3) := by decide +kernel
theorem dL_areAlike_104 : decode cL_areAlike 104 = .ok (.aload_n 1, 1) := by decide +kernel
theorem dL_areAlike_105 : decode cL_areAlike 105 = .ok (.iload_n 3, 1) := by decide +kernel
theorem dL_areAlike_106 : decode cL_areAlike 106 = .ok (.invokevirtual 86, 3) := by decide +kernel
theorem dL_areAlike_109 : decode cL_areAlike 109 = .ok (.if_icmp .ne 48, 3) := by decide +kernel
theorem dL_areAlike_112 : decode cL_areAlike 112 = .ok (.aload_n 0, 1) := by decide +kernel
theorem dL_areAlike_113 : decode cL_areAlike 113 = .ok (.iload_n 3, 1) := by decide +kernel
theorem dL_areAlike_114 : decode cL_areAlike 114 = .ok (.invokevirtual 89, 3) := by decide +kernel
theorem dL_areAlike_117 : decode cL_areAlike 117 = .ok (.aload_n 1, 1) := by decide +kernel
theorem dL_areAlike_118 : decode cL_areAlike 118 = .ok (.iload_n 3, 1) := by decide +kernel
theorem dL_areAlike_119 : decode cL_areAlike 119 = .ok (.invokevirtual 89, 3) := by decide +kernel
theorem dL_areAlike_122 : decode cL_areAlike 122 = .ok (.if_icmp .ne 35, 3) := by decide +kernel
theorem dL_areAlike_125 : decode cL_areAlike 125 = .ok (.aload_n 0, 1) := by decide +kernel
theorem dL_areAlike_126 : decode cL_areAlike 126 = .ok (.iload_n 3, 1) := by decide +kernel
theorem dL_areAlike_127 : decode cL_areAlike 127 = .ok (.invokevirtual 92, 3) := by decide +kernel
theorem dL_areAlike_130 : decode cL_areAlike 130 = .ok (.aload_n 1, 1) := by decide +kernel
theorem dL_areAlike_131 : decode cL_areAlike 131 = .ok (.iload_n 3, 1) := by decide +kernel
theorem dL_areAlike_132 : decode cL_areAlike 132 = .ok (.invokevirtual 92, 3) := by decide +kernel
theorem dL_areAlike_135 : decode cL_areAlike 135 = .ok (.if_icmp .ne 22, 3) := by decide +kernel
theorem dL_areAlike_138 : decode cL_areAlike 138 = .ok (.aload_n 0, 1) := by decide +kernel
theorem dL_areAlike_139 : decode cL_areAlike 139 = .ok (.iload_n 3, 1) := by decide +kernel
theorem dL_areAlike_140 : decode cL_areAlike 140 = .ok (.iconst 0, 1) := by decide +kernel
theorem dL_areAlike_141 : decode cL_areAlike 141 = .ok (.invokevirtual 95, 3) := by decide +kernel
theorem dL_areAlike_144 : decode cL_areAlike 144 = .ok (.aload_n 1, 1) := by decide +kernel
theorem dL_areAlike_145 : decode cL_areAlike 145 = .ok (.iload_n 3, 1) := by decide +kernel
theorem dL_areAlike_146 : decode cL_areAlike 146 = .ok (.iconst 0, 1) := by decide +kernel
theorem dL_areAlike_147 : decode cL_areAlike 147 = .ok (.invokevirtual 95, 3) := by decide +kernel
theorem dL_areAlike_150 : decode cL_areAlike 150 = .ok (.if_icmp .ne 7, 3) := by decide +kernel
theorem dL_areAlike_153 : decode cL_areAlike 153 = .ok (.iconst 1, 1) := by decide +kernel
theorem dL_areAlike_154 : decode cL_areAlike 154 = .ok (.goto 4, 3) := by decide +kernel
theorem dL_areAlike_157 : decode cL_areAlike 157 = .ok (.iconst 0, 1) := by decide +kernel
theorem dL_areAlike_158 : decode cL_areAlike 158 = .ok (.istore_n 2, 1) := by decide +kernel
theorem dL_areAlike_159 : decode cL_areAlike 159 = .ok (.iinc 3 1, 3) := by decide +kernel
theorem dL_areAlike_162 : decode cL_areAlike 162 = .ok (.goto (-88), 3) := by decide +kernel
theorem dL_areAlike_165 : decode cL_areAlike 165 = .ok (.iload_n 2, 1) := by decide +kernel
theorem dL_areAlike_166 : decode cL_areAlike 166 = .ok (.ireturn, 1) := by decide +kernel
set_option maxRecDepth 20000 in
theorem ggL_arePortsSo_X3_ports : GoodIn wsL_arePortsSo wsX3_ports := goodIn_r _ [5, 6, 104, 105, 106, 107, 108, 109, 110, 111, 112, 113, 114, 115, 116, 117, 118, 119, 120, 121, 122] (by decide +kernel) (by decide +kernel)
set_option maxRecDepth 20000 in
theorem gL_arePortsSo_X3_ports : GoodIn wsL_arePortsSo (wsV RL 52 RX3 yX3_ports wsX3_ports) := goodIn_app (goodIn_of _ (by decide +kernel)) ggL_arePortsSo_X3_ports
set_option maxRecDepth 20000 in
theorem ggL_arePortsSo_X3_byCable : GoodIn wsL_arePortsSo wsX3_byCable := goodIn_ca (goodIn_r _ [10, 11, 12, 13, 14, 4, 15, 16, 17, 6, 18, 19, 20, 21, 22, 23, 24, 25, 26, 27, 104, 105, 106, 107, 108, 109, 110, 111, 112, 113, 114, 115, 116, 117, 118, 119, 120, 121, 122, 123, 124] (by decide +kernel) (by decide +kernel)) (goodIn_sub (fun _ h => List.mem_cons_of_mem _ (List.mem_append_right _ h)) (by decide +kernel))
set_option maxRecDepth 20000 in
theorem gL_arePortsSo_X3_byCable : GoodIn wsL_arePortsSo (wsV RL 83 RX3 yX3_byCable wsX3_byCable) := goodIn_app (goodIn_of _ (by decide +kernel)) ggL_arePortsSo_X3_byCable
set_option maxRecDepth 20000 in
theorem ggL_arePortsSo_X3_byStrand : GoodIn wsL_arePortsSo wsX3_byStrand := goodIn_ca (goodIn_r _ [31, 32, 12, 13, 14, 4, 15, 16, 17, 6, 18, 19, 20, 21, 22, 23, 24, 25, 26, 27, 104, 105, 106, 107, 108, 109, 110, 111, 112, 113, 114, 115, 116, 117, 118, 119, 120, 121, 122, 123, 124] (by decide +kernel) (by decide +kernel)) (goodIn_sub (fun _ h => List.mem_cons_of_mem _ (List.mem_append_right _ h)) (by decide +kernel))
set_option maxRecDepth 20000 in
theorem gL_arePortsSo_X3_byStrand : GoodIn wsL_arePortsSo (wsV RL 86 RX3 yX3_byStrand wsX3_byStrand) := goodIn_app (goodIn_of _ (by decide +kernel)) ggL_arePortsSo_X3_byStrand
set_option maxRecDepth 20000 in
theorem ggL_arePortsSo_X3_colour : GoodIn wsL_arePortsSo wsX3_colour := goodIn_ca (goodIn_r _ [36, 37, 12, 13, 14, 4, 15, 16, 17, 6, 18, 19, 20, 21, 22, 23, 24, 25, 26, 27, 104, 105, 106, 107, 108, 109, 110, 111, 112, 113, 114, 115, 116, 117, 118, 119, 120, 121, 122, 123, 124] (by decide +kernel) (by decide +kernel)) (goodIn_sub (fun _ h => List.mem_cons_of_mem _ (List.mem_append_right _ h)) (by decide +kernel))
set_option maxRecDepth 20000 in
theorem gL_arePortsSo_X3_colour : GoodIn wsL_arePortsSo (wsV RL 89 RX3 yX3_colour wsX3_colour) := goodIn_app (goodIn_of _ (by decide +kernel)) ggL_arePortsSo_X3_colour
set_option maxRecDepth 20000 in
theorem ggL_arePortsSo_X3_panelOf : GoodIn wsL_arePortsSo wsX3_panelOf := goodIn_ca (goodIn_r _ [41, 42, 12, 13, 14, 4, 15, 16, 17, 6, 18, 19, 20, 21, 22, 23, 24, 25, 26, 27, 104, 105, 106, 107, 108, 109, 110, 111, 112, 113, 114, 115, 116, 117, 118, 119, 120, 121, 122, 123, 124] (by decide +kernel) (by decide +kernel)) (goodIn_sub (fun _ h => List.mem_cons_of_mem _ (List.mem_append_right _ h)) (by decide +kernel))
set_option maxRecDepth 20000 in
theorem gL_arePortsSo_X3_panelOf : GoodIn wsL_arePortsSo (wsV RL 92 RX3 yX3_panelOf wsX3_panelOf) := goodIn_app (goodIn_of _ (by decide +kernel)) ggL_arePortsSo_X3_panelOf
set_option maxRecDepth 20000 in
theorem ggL_arePortsSo_X3_cables : GoodIn wsL_arePortsSo wsX3_cables := goodIn_r _ [46, 6, 47, 48, 49, 4, 50, 11, 21, 22, 23, 24, 25, 26, 27, 104, 105, 106, 107, 108, 109, 110, 111, 112, 113, 114, 115, 116, 117, 118, 119, 120, 121, 122, 123, 124] (by decide +kernel) (by decide +kernel)
set_option maxRecDepth 20000 in
theorem gL_arePortsSo_X3_cables : GoodIn wsL_arePortsSo (wsV RL 70 RX3 yX3_cables wsX3_cables) := goodIn_app (goodIn_of _ (by decide +kernel)) ggL_arePortsSo_X3_cables
set_option maxRecDepth 20000 in
theorem ggL_arePortsSo_X3_cableLength : GoodIn wsL_arePortsSo wsX3_cableLength := goodIn_r _ [54, 6, 11, 47, 48, 49, 4, 50, 21, 22, 23, 24, 25, 26, 27, 55, 56, 57, 58, 42, 59, 60, 61, 62, 63, 104, 105, 106, 107, 108, 109, 110, 111, 112, 113, 114, 115, 116, 117, 118, 119, 120, 121, 122, 123, 124] (by decide +kernel) (by decide +kernel)
set_option maxRecDepth 20000 in
theorem gL_arePortsSo_X3_cableLength : GoodIn wsL_arePortsSo (wsV RL 73 RX3 yX3_cableLength wsX3_cableLength) := goodIn_app (goodIn_of _ (by decide +kernel)) ggL_arePortsSo_X3_cableLength
set_option maxRecDepth 20000 in
theorem ggL_arePortsSo_L_freePort : GoodIn wsL_arePortsSo wsL_freePort := goodIn_ca (goodIn_r _ [67, 68, 69, 70, 71, 72, 4, 73, 74, 75, 76, 77, 78, 79, 16, 17, 80, 18, 19, 20, 21, 22, 23, 24, 25, 26, 27, 81, 82, 83, 84, 11, 85, 86, 87, 88, 32, 104, 105, 106, 107, 108, 109, 110, 111, 112, 113, 114, 115, 116, 117, 118, 119, 120, 121, 122, 123, 124] (by decide +kernel) (by decide +kernel)) (goodIn_sub (fun _ h => List.mem_cons_of_mem _ (List.mem_append_right _ h)) (by decide +kernel))
set_option maxRecDepth 20000 in
theorem gL_arePortsSo_L_freePort : GoodIn wsL_arePortsSo (va_wsS RL 99 yL_freePort wsL_freePort) := goodIn_app (goodIn_of _ (by decide +kernel)) ggL_arePortsSo_L_freePort
set_option maxRecDepth 20000 in
theorem ggL_arePortsSo_X3_trunks : GoodIn wsL_arePortsSo wsX3_trunks := goodIn_r _ [92, 93, 104, 105, 106, 107, 108, 109, 110, 111, 112, 113, 114, 115, 116, 117, 118, 119, 120, 121, 122] (by decide +kernel) (by decide +kernel)
set_option maxRecDepth 20000 in
theorem gL_arePortsSo_X3_trunks : GoodIn wsL_arePortsSo (wsV RL 67 RX3 yX3_trunks wsX3_trunks) := goodIn_app (goodIn_of _ (by decide +kernel)) ggL_arePortsSo_X3_trunks
set_option maxRecDepth 20000 in
theorem ggL_arePortsSo_X3_used : GoodIn wsL_arePortsSo wsX3_used := goodIn_ca (goodIn_r _ [97, 98, 99, 32, 100, 101, 102, 4, 103, 16, 17, 93, 18, 19, 20, 21, 22, 23, 24, 25, 26, 27, 81, 82, 83, 84, 11, 104, 105, 106, 107, 108, 109, 110, 111, 112, 113, 114, 115, 116, 117, 118, 119, 120, 121, 122, 123, 124] (by decide +kernel) (by decide +kernel)) (goodIn_sub (fun _ h => List.mem_cons_of_mem _ (List.mem_append_right _ h)) (by decide +kernel))
set_option maxRecDepth 20000 in
theorem gL_arePortsSo_X3_used : GoodIn wsL_arePortsSo (wsV RL 102 RX3 yX3_used wsX3_used) := goodIn_app (goodIn_of _ (by decide +kernel)) ggL_arePortsSo_X3_used
