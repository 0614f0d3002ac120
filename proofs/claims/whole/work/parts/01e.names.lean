theorem dX3_pullPlannedEnds_61 : decode cX3_pullPlannedEnds 61 = .ok (.aload_n 0, 1) := by decide +kernel
theorem dX3_pullPlannedEnds_62 : decode cX3_pullPlannedEnds 62 = .ok (.aload_n 0, 1) := by decide +kernel
theorem dX3_pullPlannedEnds_63 : decode cX3_pullPlannedEnds 63 = .ok (.getfield 60, 3) := by decide +kernel
theorem dX3_pullPlannedEnds_66 : decode cX3_pullPlannedEnds 66 = .ok (.iload_n 2, 1) := by decide +kernel
theorem dX3_pullPlannedEnds_67 : decode cX3_pullPlannedEnds 67 = .ok (.invokevirtual 233, 3) := by decide +kernel
theorem dX3_pullPlannedEnds_70 : decode cX3_pullPlannedEnds 70 = .ok (.invokevirtual 162, 3) := by decide +kernel
theorem dX3_pullPlannedEnds_73 : decode cX3_pullPlannedEnds 73 = .ok (.iinc 2 1, 3) := by decide +kernel
theorem dX3_pullPlannedEnds_76 : decode cX3_pullPlannedEnds 76 = .ok (.goto (-20), 3) := by decide +kernel
theorem dX3_pullPlannedEnds_79 : decode cX3_pullPlannedEnds 79 = .ok (.return_, 1) := by decide +kernel
set_option maxRecDepth 20000 in
theorem ggX3_plugPlannedEnds_X1_size : GoodIn wsX3_plugPlannedEnds wsX1_size := goodIn_r _ [6, 7, 70, 71, 72, 73, 74] (by decide +kernel) (by decide +kernel)
set_option maxRecDepth 20000 in
theorem gX3_plugPlannedEnds_X1_size : GoodIn wsX3_plugPlannedEnds (wsV RX3 167 RX1 yX1_size wsX1_size) := goodIn_app (goodIn_of _ (by decide +kernel)) ggX3_plugPlannedEnds_X1_size
set_option maxRecDepth 20000 in
theorem ggX3_plugPlannedEnds_X1_keptOther : GoodIn wsX3_plugPlannedEnds wsX1_keptOther := goodIn_r _ [11, 12, 13, 14, 15, 16, 17, 18, 19, 70, 71, 72, 73, 74, 75, 76] (by decide +kernel) (by decide +kernel)
set_option maxRecDepth 20000 in
theorem gX3_plugPlannedEnds_X1_keptOther : GoodIn wsX3_plugPlannedEnds (wsV RX3 251 RX1 yX1_keptOther wsX1_keptOther) := goodIn_app (goodIn_of _ (by decide +kernel)) ggX3_plugPlannedEnds_X1_keptOther
set_option maxRecDepth 20000 in
theorem ggX3_plugPlannedEnds_X1_placeAfterwards : GoodIn wsX3_plugPlannedEnds wsX1_placeAfterwards := goodIn_r _ [23, 7, 24, 25, 26, 5, 27, 28, 13, 14, 15, 16, 17, 18, 19, 29, 30, 31, 32, 33, 70, 71, 72, 73, 74, 75, 76] (by decide +kernel) (by decide +kernel)
set_option maxRecDepth 20000 in
theorem gX3_plugPlannedEnds_X1_placeAfterwards : GoodIn wsX3_plugPlannedEnds (wsV RX3 254 RX1 yX1_placeAfterwards wsX1_placeAfterwards) := goodIn_app (goodIn_of _ (by decide +kernel)) ggX3_plugPlannedEnds_X1_placeAfterwards
set_option maxRecDepth 20000 in
theorem ggX3_plugPlannedEnds_X1_to : GoodIn wsX3_plugPlannedEnds wsX1_to := goodIn_r _ [32, 33, 13, 14, 15, 16, 17, 18, 19, 70, 71, 72, 73, 74, 75, 76] (by decide +kernel) (by decide +kernel)
set_option maxRecDepth 20000 in
theorem gX3_plugPlannedEnds_X1_to : GoodIn wsX3_plugPlannedEnds (wsV RX3 239 RX1 yX1_to wsX1_to) := goodIn_app (goodIn_of _ (by decide +kernel)) ggX3_plugPlannedEnds_X1_to
set_option maxRecDepth 20000 in
theorem ggX3_plugPlannedEnds_X1_keptColour : GoodIn wsX3_plugPlannedEnds wsX1_keptColour := goodIn_r _ [38, 39, 13, 14, 15, 16, 17, 18, 19, 70, 71, 72, 73, 74, 75, 76] (by decide +kernel) (by decide +kernel)
set_option maxRecDepth 20000 in
theorem gX3_plugPlannedEnds_X1_keptColour : GoodIn wsX3_plugPlannedEnds (wsV RX3 257 RX1 yX1_keptColour wsX1_keptColour) := goodIn_app (goodIn_of _ (by decide +kernel)) ggX3_plugPlannedEnds_X1_keptColour
set_option maxRecDepth 20000 in
theorem ggX3_plugPlannedEnds_X3_joinByCable : GoodIn wsX3_plugPlannedEnds wsX3_joinByCable := goodIn_r _ [44, 45, 46, 47, 48, 49, 16, 50, 18, 51, 52, 53, 54, 55, 56, 57, 58, 59, 60, 61, 62, 63, 64, 65, 66, 67, 68, 69, 75, 76] (by decide +kernel) (by decide +kernel)
set_option maxRecDepth 20000 in
theorem gX3_plugPlannedEnds_X3_joinByCable : GoodIn wsX3_plugPlannedEnds (wsV RX3 153 RX3 yX3_joinByCable wsX3_joinByCable) := goodIn_app (goodIn_of _ (by decide +kernel)) ggX3_plugPlannedEnds_X3_joinByCable
theorem dX3_plugPlannedEnds_0 : decode cX3_plugPlannedEnds 0 = .ok (.aload_n 0, 1) := by decide +kernel
theorem dX3_plugPlannedEnds_1 : decode cX3_plugPlannedEnds 1 = .ok (.getfield 60, 3) := by decide +kernel
theorem dX3_plugPlannedEnds_4 : decode cX3_plugPlannedEnds 4 = .ok (.invokevirtual 167, 3) := by decide +kernel
theorem dX3_plugPlannedEnds_7 : decode cX3_plugPlannedEnds 7 = .ok (.istore_n 1, 1) := by decide +kernel
theorem dX3_plugPlannedEnds_8 : decode cX3_plugPlannedEnds 8 = .ok (.iconst 0, 1) := by decide +kernel
theorem dX3_plugPlannedEnds_9 : decode cX3_plugPlannedEnds 9 = .ok (.istore_n 2, 1) := by decide +kernel
theorem dX3_plugPlannedEnds_10 : decode cX3_plugPlannedEnds 10 = .ok (.iload_n 2, 1) := by decide +kernel
theorem dX3_plugPlannedEnds_11 : decode cX3_plugPlannedEnds 11 = .ok (.iload_n 1, 1) := by decide +kernel
theorem dX3_plugPlannedEnds_12 : decode cX3_plugPlannedEnds 12 = .ok (.if_icmp .ge 46, 3) := by decide +kernel
theorem dX3_plugPlannedEnds_15 : decode cX3_plugPlannedEnds 15 = .ok (.aload_n 0, 1) := by decide +kernel
theorem dX3_plugPlannedEnds_16 : decode cX3_plugPlannedEnds 16 = .ok (.getfield 60, 3) := by decide +kernel
theorem dX3_plugPlannedEnds_19 : decode cX3_plugPlannedEnds 19 = .ok (.aload_n 0, 1) := by decide +kernel
theorem dX3_plugPlannedEnds_20 : decode cX3_plugPlannedEnds 20 = .ok (.getfield 60, 3) := by decide +kernel
theorem dX3_plugPlannedEnds_23 : decode cX3_plugPlannedEnds 23 = .ok (.iload_n 2, 1) := by decide +kernel
theorem dX3_plugPlannedEnds_24 : decode cX3_plugPlannedEnds 24 = .ok (.invokevirtual 251, 3) := by decide +kernel
theorem dX3_plugPlannedEnds_27 : decode cX3_plugPlannedEnds 27 = .ok (.invokevirtual 254, 3) := by decide +kernel
theorem dX3_plugPlannedEnds_30 : decode cX3_plugPlannedEnds 30 = .ok (.istore_n 3, 1) := by decide +kernel
theorem dX3_plugPlannedEnds_31 : decode cX3_plugPlannedEnds 31 = .ok (.aload_n 0, 1) := by decide +kernel
theorem dX3_plugPlannedEnds_32 : decode cX3_plugPlannedEnds 32 = .ok (.aload_n 0, 1) := by decide +kernel
theorem dX3_plugPlannedEnds_33 : decode cX3_plugPlannedEnds 33 = .ok (.getfield 60, 3) := by decide +kernel
theorem dX3_plugPlannedEnds_36 : decode cX3_plugPlannedEnds 36 = .ok (.iload_n 2, 1) := by decide +kernel
theorem dX3_plugPlannedEnds_37 : decode cX3_plugPlannedEnds 37 = .ok (.invokevirtual 239, 3) := by decide +kernel
theorem dX3_plugPlannedEnds_40 : decode cX3_plugPlannedEnds 40 = .ok (.iload_n 3, 1) := by decide +kernel
theorem dX3_plugPlannedEnds_41 : decode cX3_plugPlannedEnds 41 = .ok (.aload_n 0, 1) := by decide +kernel
theorem dX3_plugPlannedEnds_42 : decode cX3_plugPlannedEnds 42 = .ok (.getfield 60, 3) := by decide +kernel
theorem dX3_plugPlannedEnds_45 : decode cX3_plugPlannedEnds 45 = .ok (.iload_n 2, 1) := by decide +kernel
theorem dX3_plugPlannedEnds_46 : decode cX3_plugPlannedEnds 46 = .ok (.invokevirtual 257, 3) := by decide +kernel
theorem dX3_plugPlannedEnds_49 : decode cX3_plugPlannedEnds 49 = .ok (.invokevirtual 153, 3) := by decide +kernel
theorem dX3_plugPlannedEnds_52 : decode cX3_plugPlannedEnds 52 = .ok (.iinc 2 1, 3) := by decide +kernel
theorem dX3_plugPlannedEnds_55 : decode cX3_plugPlannedEnds 55 = .ok (.goto (-45), 3) := by decide +kernel
theorem dX3_plugPlannedEnds_58 : decode cX3_plugPlannedEnds 58 = .ok (.return_, 1) := by decide +kernel
set_option maxRecDepth 20000 in
theorem ggX3_trace_X2_at : GoodIn wsX3_trace wsX2_at := goodIn_r _ [7, 8, 9, 46, 47] (by decide +kernel) (by decide +kernel)
set_option maxRecDepth 20000 in
theorem gX3_trace_X2_at : GoodIn wsX3_trace (wsV RX3 107 RX2 yX2_at wsX2_at) := goodIn_app (goodIn_of _ (by decide +kernel)) ggX3_trace_X2_at
set_option maxRecDepth 20000 in
theorem ggX3_trace_X3_openStrandFrom : GoodIn wsX3_trace wsX3_openStrandFrom := goodIn_r _ [14, 15, 16, 17, 18, 19, 20, 21, 22, 3, 4, 5, 6, 7, 8, 9, 27, 28, 29, 30, 31, 32, 33, 34, 35, 36, 37, 38, 39, 40, 41, 42, 43, 44, 45, 48, 46, 47] (by decide +kernel) (by decide +kernel)
set_option maxRecDepth 20000 in
theorem gX3_trace_X3_openStrandFrom : GoodIn wsX3_trace (wsV RX3 219 RX3 yX3_openStrandFrom wsX3_openStrandFrom) := goodIn_app (goodIn_of _ (by decide +kernel)) ggX3_trace_X3_openStrandFrom
set_option maxRecDepth 20000 in
theorem ggX3_trace_X2_put : GoodIn wsX3_trace wsX2_put := goodIn_r _ [26, 8, 46, 47] (by decide +kernel) (by decide +kernel)
set_option maxRecDepth 20000 in
theorem gX3_trace_X2_put : GoodIn wsX3_trace (wsV RX3 99 RX2 yX2_put wsX2_put) := goodIn_app (goodIn_of _ (by decide +kernel)) ggX3_trace_X2_put
theorem dX3_trace_0 : decode cX3_trace 0 = .ok (.iload_n 1, 1) := by decide +kernel
theorem dX3_trace_1 : decode cX3_trace 1 = .ok (.istore_n 3, 1) := by decide +kernel
theorem dX3_trace_2 : decode cX3_trace 2 = .ok (.iload_n 2, 1) := by decide +kernel
theorem dX3_trace_3 : decode cX3_trace 3 = .ok (.istore 4, 2) := by decide +kernel
theorem dX3_trace_5 : decode cX3_trace 5 = .ok (.iconst 0, 1) := by decide +kernel
theorem dX3_trace_6 : decode cX3_trace 6 = .ok (.istore 5, 2) := by decide +kernel
theorem dX3_trace_8 : decode cX3_trace 8 = .ok (.iload 5, 2) := by decide +kernel
theorem dX3_trace_10 : decode cX3_trace 10 = .ok (.sipush 144, 3) := by decide +kernel
theorem dX3_trace_13 : decode cX3_trace 13 = .ok (.if_icmp .ge 71, 3) := by decide +kernel
theorem dX3_trace_16 : decode cX3_trace 16 = .ok (.iload 4, 2) := by decide +kernel
theorem dX3_trace_18 : decode cX3_trace 18 = .ok (.ifCond .eq 14, 3) := by decide +kernel
theorem dX3_trace_21 : decode cX3_trace 21 = .ok (.aload_n 0, 1) := by decide +kernel
theorem dX3_trace_22 : decode cX3_trace 22 = .ok (.getfield 27, 3) := by decide +kernel
theorem dX3_trace_25 : decode cX3_trace 25 = .ok (.iload_n 3, 1) := by decide +kernel
theorem dX3_trace_26 : decode cX3_trace 26 = .ok (.invokevirtual 107, 3) := by decide +kernel
theorem dX3_trace_29 : decode cX3_trace 29 = .ok (.goto 8, 3) := by decide +kernel
theorem dX3_trace_32 : decode cX3_trace 32 = .ok (.aload_n 0, 1) := by decide +kernel
theorem dX3_trace_33 : decode cX3_trace 33 = .ok (.iload_n 3, 1) := by decide +kernel
theorem dX3_trace_34 : decode cX3_trace 34 = .ok (.invokevirtual 219, 3) := by decide +kernel
theorem dX3_trace_37 : decode cX3_trace 37 = .ok (.istore_n 3, 1) := by decide +kernel
theorem dX3_trace_38 : decode cX3_trace 38 = .ok (.iload_n 3, 1) := by decide +kernel
theorem dX3_trace_39 : decode cX3_trace 39 = .ok (.iconst (-1), 1) := by decide +kernel
theorem dX3_trace_40 : decode cX3_trace 40 = .ok (.if_icmp .ne 6, 3) := by decide +kernel
theorem dX3_trace_43 : decode cX3_trace 43 = .ok (.iload 5, 2) := by decide +kernel
theorem dX3_trace_45 : decode cX3_trace 45 = .ok (.ireturn, 1) := by decide +kernel
theorem dX3_trace_46 : decode cX3_trace 46 = .ok (.aload_n 0, 1) := by decide +kernel
theorem dX3_trace_47 : decode cX3_trace 47 = .ok (.getfield 64, 3) := by decide +kernel
theorem dX3_trace_50 : decode cX3_trace 50 = .ok (.iload 5, 2) := by decide +kernel
theorem dX3_trace_52 : decode cX3_trace 52 = .ok (.iload_n 3, 1) := by decide +kernel
theorem dX3_trace_53 : decode cX3_trace 53 = .ok (.invokevirtual 99, 3) := by decide +kernel
theorem dX3_trace_56 : decode cX3_trace 56 = .ok (.iload_n 3, 1) := by decide +kernel
theorem dX3_trace_57 : decode cX3_trace 57 = .ok (.iload_n 1, 1) := by decide +kernel
theorem dX3_trace_58 : decode cX3_trace 58 = .ok (.if_icmp .ne 8, 3) := by decide +kernel
theorem dX3_trace_61 : decode cX3_trace 61 = .ok (.iload 5, 2) := by decide +kernel
theorem dX3_trace_63 : decode cX3_trace 63 = .ok (.iconst 1, 1) := by decide +kernel
theorem dX3_trace_64 : decode cX3_trace 64 = .ok (.iadd, 1) := by decide +kernel
theorem dX3_trace_65 : decode cX3_trace 65 = .ok (.ireturn, 1) := by decide +kernel
theorem dX3_trace_66 : decode cX3_trace 66 = .ok (.iload 4, 2) := by decide +kernel
theorem dX3_trace_68 : decode cX3_trace 68 = .ok (.ifCond .ne 7, 3) := by decide +kernel
theorem dX3_trace_71 : decode cX3_trace 71 = .ok (.iconst 1, 1) := by decide +kernel
theorem dX3_trace_72 : decode cX3_trace 72 = .ok (.goto 4, 3) := by decide +kernel
theorem dX3_trace_75 : decode cX3_trace 75 = .ok (.iconst 0, 1) := by decide +kernel
theorem dX3_trace_76 : decode cX3_trace 76 = .ok (.istore 4, 2) := by decide +kernel
theorem dX3_trace_78 : decode cX3_trace 78 = .ok (.iinc 5 1, 3) := by decide +kernel
theorem dX3_trace_81 : decode cX3_trace 81 = .ok (.goto (-73), 3) := by decide +kernel
theorem dX3_trace_84 : decode cX3_trace 84 = .ok (.sipush 144, 3) := by decide +kernel
theorem dX3_trace_87 : decode cX3_trace 87 = .ok (.ireturn, 1) := by decide +kernel
set_option maxRecDepth 20000 in
theorem ggX3_endOfTrail_X2_at : GoodIn wsX3_endOfTrail wsX2_at := goodIn_r _ [6, 7, 8, 28, 29] (by decide +kernel) (by decide +kernel)
set_option maxRecDepth 20000 in
theorem gX3_endOfTrail_X2_at : GoodIn wsX3_endOfTrail (wsV RX3 107 RX2 yX2_at wsX2_at) := goodIn_app (goodIn_of _ (by decide +kernel)) ggX3_endOfTrail_X2_at
theorem dX3_endOfTrail_0 : decode cX3_endOfTrail 0 = .ok (.iload_n 2, 1) := by decide +kernel
theorem dX3_endOfTrail_1 : decode cX3_endOfTrail 1 = .ok (.ifCond .ne 7, 3) := by decide +kernel
theorem dX3_endOfTrail_4 : decode cX3_endOfTrail 4 = .ok (.iload_n 1, 1) := by decide +kernel
theorem dX3_endOfTrail_5 : decode cX3_endOfTrail 5 = .ok (.goto 13, 3) := by decide +kernel
theorem dX3_endOfTrail_8 : decode cX3_endOfTrail 8 = .ok (.aload_n 0, 1) := by decide +kernel
theorem dX3_endOfTrail_9 : decode cX3_endOfTrail 9 = .ok (.getfield 64, 3) := by decide +kernel
theorem dX3_endOfTrail_12 : decode cX3_endOfTrail 12 = .ok (.iload_n 2, 1) := by decide +kernel
theorem dX3_endOfTrail_13 : decode cX3_endOfTrail 13 = .ok (.iconst 1, 1) := by decide +kernel
theorem dX3_endOfTrail_14 : decode cX3_endOfTrail 14 = .ok (.isub, 1) := by decide +kernel
theorem dX3_endOfTrail_15 : decode cX3_endOfTrail 15 = .ok (.invokevirtual 107, 3) := by decide +kernel
theorem dX3_endOfTrail_18 : decode cX3_endOfTrail 18 = .ok (.ireturn, 1) := by decide +kernel
set_option maxRecDepth 20000 in
theorem ggX3_isOnTrail_X2_at : GoodIn wsX3_isOnTrail wsX2_at := goodIn_r _ [6, 7, 8, 28, 29] (by decide +kernel) (by decide +kernel)
set_option maxRecDepth 20000 in
theorem gX3_isOnTrail_X2_at : GoodIn wsX3_isOnTrail (wsV RX3 107 RX2 yX2_at wsX2_at) := goodIn_app (goodIn_of _ (by decide +kernel)) ggX3_isOnTrail_X2_at
theorem dX3_isOnTrail_0 : decode cX3_isOnTrail 0 = .ok (.iconst 0, 1) := by decide +kernel
theorem dX3_isOnTrail_1 : decode cX3_isOnTrail 1 = .ok (.istore_n 3, 1) := by decide +kernel
theorem dX3_isOnTrail_2 : decode cX3_isOnTrail 2 = .ok (.iload_n 3, 1) := by decide +kernel
theorem dX3_isOnTrail_3 : decode cX3_isOnTrail 3 = .ok (.iload_n 2, 1) := by decide +kernel
theorem dX3_isOnTrail_4 : decode cX3_isOnTrail 4 = .ok (.if_icmp .ge 23, 3) := by decide +kernel
theorem dX3_isOnTrail_7 : decode cX3_isOnTrail 7 = .ok (.aload_n 0, 1) := by decide +kernel
theorem dX3_isOnTrail_8 : decode cX3_isOnTrail 8 = .ok (.getfield 64, 3) := by decide +kernel
theorem dX3_isOnTrail_11 : decode cX3_isOnTrail 11 = .ok (.iload_n 3, 1) := by decide +kernel
theorem dX3_isOnTrail_12 : decode cX3_isOnTrail 12 = .ok (.invokevirtual 107, 3) := by decide +kernel
theorem dX3_isOnTrail_15 : decode cX3_isOnTrail 15 = .ok (.iload_n 1, 1) := by decide +kernel
theorem dX3_isOnTrail_16 : decode cX3_isOnTrail 16 = .ok (.if_icmp .ne 5, 3) := by decide +kernel
theorem dX3_isOnTrail_19 : decode cX3_isOnTrail 19 = .ok (.iconst 1, 1) := by decide +kernel
theorem dX3_isOnTrail_20 : decode cX3_isOnTrail 20 = .ok (.ireturn, 1) := by decide +kernel
theorem dX3_isOnTrail_21 : decode cX3_isOnTrail 21 = .ok (.iinc 3 1, 3) := by decide +kernel
theorem dX3_isOnTrail_24 : decode cX3_isOnTrail 24 = .ok (.goto (-22), 3) := by decide +kernel
theorem dX3_isOnTrail_27 : decode cX3_isOnTrail 27 = .ok (.iconst 0, 1) := by decide +kernel
theorem dX3_isOnTrail_28 : decode cX3_isOnTrail 28 = .ok (.ireturn, 1) := by decide +kernel
set_option maxRecDepth 20000 in
theorem ggX3_markTrail_X2_at : GoodIn wsX3_markTrail wsX2_at := goodIn_r _ [7, 8, 9, 35, 36] (by decide +kernel) (by decide +kernel)
set_option maxRecDepth 20000 in
theorem gX3_markTrail_X2_at : GoodIn wsX3_markTrail (wsV RX3 107 RX2 yX2_at wsX2_at) := goodIn_app (goodIn_of _ (by decide +kernel)) ggX3_markTrail_X2_at
set_option maxRecDepth 20000 in
theorem ggX3_markTrail_X0_set : GoodIn wsX3_markTrail wsX0_set := goodIn_r _ [14, 15, 37] (by decide +kernel) (by decide +kernel)
set_option maxRecDepth 20000 in
theorem gX3_markTrail_X0_set : GoodIn wsX3_markTrail (wsV RX3 142 RX0 yX0_set wsX0_set) := goodIn_app (goodIn_of _ (by decide +kernel)) ggX3_markTrail_X0_set
theorem dX3_markTrail_0 : decode cX3_markTrail 0 = .ok (.iconst 0, 1) := by decide +kernel
theorem dX3_markTrail_1 : decode cX3_markTrail 1 = .ok (.istore_n 2, 1) := by decide +kernel
theorem dX3_markTrail_2 : decode cX3_markTrail 2 = .ok (.iload_n 2, 1) := by decide +kernel
theorem dX3_markTrail_3 : decode cX3_markTrail 3 = .ok (.iload_n 1, 1) := by decide +kernel
theorem dX3_markTrail_4 : decode cX3_markTrail 4 = .ok (.if_icmp .ge 25, 3) := by decide +kernel
theorem dX3_markTrail_7 : decode cX3_markTrail 7 = .ok (.aload_n 0, 1) := by decide +kernel
theorem dX3_markTrail_8 : decode cX3_markTrail 8 = .ok (.getfield 70, 3) := by decide +kernel
theorem dX3_markTrail_11 : decode cX3_markTrail 11 = .ok (.aload_n 0, 1) := by decide +kernel
theorem dX3_markTrail_12 : decode cX3_markTrail 12 = .ok (.getfield 64, 3) := by decide +kernel
theorem dX3_markTrail_15 : decode cX3_markTrail 15 = .ok (.iload_n 2, 1) := by decide +kernel
theorem dX3_markTrail_16 : decode cX3_markTrail 16 = .ok (.invokevirtual 107, 3) := by decide +kernel
theorem dX3_markTrail_19 : decode cX3_markTrail 19 = .ok (.iconst 1, 1) := by decide +kernel
theorem dX3_markTrail_20 : decode cX3_markTrail 20 = .ok (.invokevirtual 142, 3) := by decide +kernel
theorem dX3_markTrail_23 : decode cX3_markTrail 23 = .ok (.iinc 2 1, 3) := by decide +kernel
theorem dX3_markTrail_26 : decode cX3_markTrail 26 = .ok (.goto (-24), 3) := by decide +kernel
theorem dX3_markTrail_29 : decode cX3_markTrail 29 = .ok (.return_, 1) := by decide +kernel
set_option maxRecDepth 20000 in
theorem ggX3_searchFrom_X0_clear : GoodIn wsX3_searchFrom wsX0_clear := goodIn_r _ [8, 9, 59] (by decide +kernel) (by decide +kernel)
set_option maxRecDepth 20000 in
theorem gX3_searchFrom_X0_clear : GoodIn wsX3_searchFrom (wsV RX3 209 RX0 yX0_clear wsX0_clear) := goodIn_app (goodIn_of _ (by decide +kernel)) ggX3_searchFrom_X0_clear
set_option maxRecDepth 20000 in
theorem ggX3_searchFrom_X3_reach : GoodIn wsX3_searchFrom wsX3_reach := goodIn_r _ [14, 1, 2, 15, 16, 17, 7, 18, 9, 19, 20, 21, 22, 23, 24, 25, 26, 27, 28, 40, 41, 42, 43, 44, 45, 46, 47, 48, 49, 50, 51, 52, 53, 54, 55, 56, 57, 58, 59, 60, 61] (by decide +kernel) (by decide +kernel)
set_option maxRecDepth 20000 in
theorem gX3_searchFrom_X3_reach : GoodIn wsX3_searchFrom (wsV RX3 260 RX3 yX3_reach wsX3_reach) := goodIn_app (goodIn_of _ (by decide +kernel)) ggX3_searchFrom_X3_reach
set_option maxRecDepth 20000 in
theorem ggX3_searchFrom_X2_at : GoodIn wsX3_searchFrom wsX2_at := goodIn_r _ [32, 28, 33, 60, 61] (by decide +kernel) (by decide +kernel)
set_option maxRecDepth 20000 in
theorem gX3_searchFrom_X2_at : GoodIn wsX3_searchFrom (wsV RX3 107 RX2 yX2_at wsX2_at) := goodIn_app (goodIn_of _ (by decide +kernel)) ggX3_searchFrom_X2_at
set_option maxRecDepth 20000 in
theorem ggX3_searchFrom_X3_openStrandFrom : GoodIn wsX3_searchFrom wsX3_openStrandFrom := goodIn_r _ [37, 38, 39, 15, 16, 17, 7, 18, 9, 29, 30, 31, 26, 32, 28, 33, 40, 41, 42, 43, 44, 45, 46, 47, 48, 49, 50, 51, 52, 53, 54, 55, 56, 57, 58, 59, 60, 61] (by decide +kernel) (by decide +kernel)
set_option maxRecDepth 20000 in
theorem gX3_searchFrom_X3_openStrandFrom : GoodIn wsX3_searchFrom (wsV RX3 219 RX3 yX3_openStrandFrom wsX3_openStrandFrom) := goodIn_app (goodIn_of _ (by decide +kernel)) ggX3_searchFrom_X3_openStrandFrom
theorem dX3_searchFrom_0 : decode cX3_searchFrom 0 = .ok (.aload_n 0, 1) := by decide +kernel
theorem dX3_searchFrom_1 : decode cX3_searchFrom 1 = .ok (.getfield 70, 3) := by decide +kernel
theorem dX3_searchFrom_4 : decode cX3_searchFrom 4 = .ok (.invokevirtual 209, 3) := by decide +kernel
theorem dX3_searchFrom_7 : decode cX3_searchFrom 7 = .ok (.aload_n 0, 1) := by decide +kernel
theorem dX3_searchFrom_8 : decode cX3_searchFrom 8 = .ok (.iload_n 1, 1) := by decide +kernel
theorem dX3_searchFrom_9 : decode cX3_searchFrom 9 = .ok (.iconst 0, 1) := by decide +kernel
theorem dX3_searchFrom_10 : decode cX3_searchFrom 10 = .ok (.invokevirtual 260, 3) := by decide +kernel
theorem dX3_searchFrom_13 : decode cX3_searchFrom 13 = .ok (.istore_n 2, 1) := by decide +kernel
theorem dX3_searchFrom_14 : decode cX3_searchFrom 14 = .ok (.iconst 0, 1) := by decide +kernel
theorem dX3_searchFrom_15 : decode cX3_searchFrom 15 = .ok (.istore_n 3, 1) := by decide +kernel
theorem dX3_searchFrom_16 : decode cX3_searchFrom 16 = .ok (.iload_n 3, 1) := by decide +kernel
theorem dX3_searchFrom_17 : decode cX3_searchFrom 17 = .ok (.sipush 144, 3) := by decide +kernel
theorem dX3_searchFrom_20 : decode cX3_searchFrom 20 = .ok (.if_icmp .ge 51, 3) := by decide +kernel
theorem dX3_searchFrom_23 : decode cX3_searchFrom 23 = .ok (.iload_n 3, 1) := by decide +kernel
theorem dX3_searchFrom_24 : decode cX3_searchFrom 24 = .ok (.iload_n 2, 1) := by decide +kernel
theorem dX3_searchFrom_25 : decode cX3_searchFrom 25 = .ok (.if_icmp .ge 46, 3) := by decide +kernel
theorem dX3_searchFrom_28 : decode cX3_searchFrom 28 = .ok (.aload_n 0, 1) := by decide +kernel
theorem dX3_searchFrom_29 : decode cX3_searchFrom 29 = .ok (.getfield 67, 3) := by decide +kernel
theorem dX3_searchFrom_32 : decode cX3_searchFrom 32 = .ok (.iload_n 3, 1) := by decide +kernel
theorem dX3_searchFrom_33 : decode cX3_searchFrom 33 = .ok (.invokevirtual 107, 3) := by decide +kernel
theorem dX3_searchFrom_36 : decode cX3_searchFrom 36 = .ok (.istore 4, 2) := by decide +kernel
theorem dX3_searchFrom_38 : decode cX3_searchFrom 38 = .ok (.aload_n 0, 1) := by decide +kernel
theorem dX3_searchFrom_39 : decode cX3_searchFrom 39 = .ok (.aload_n 0, 1) := by decide +kernel
theorem dX3_searchFrom_40 : decode cX3_searchFrom 40 = .ok (.getfield 27, 3) := by decide +kernel
theorem dX3_searchFrom_43 : decode cX3_searchFrom 43 = .ok (.iload 4, 2) := by decide +kernel
theorem dX3_searchFrom_45 : decode cX3_searchFrom 45 = .ok (.invokevirtual 107, 3) := by decide +kernel
theorem dX3_searchFrom_48 : decode cX3_searchFrom 48 = .ok (.iload_n 2, 1) := by decide +kernel
theorem dX3_searchFrom_49 : decode cX3_searchFrom 49 = .ok (.invokevirtual 260, 3) := by decide +kernel
theorem dX3_searchFrom_52 : decode cX3_searchFrom 52 = .ok (.istore_n 2, 1) := by decide +kernel
theorem dX3_searchFrom_53 : decode cX3_searchFrom 53 = .ok (.aload_n 0, 1) := by decide +kernel
theorem dX3_searchFrom_54 : decode cX3_searchFrom 54 = .ok (.aload_n 0, 1) := by decide +kernel
theorem dX3_searchFrom_55 : decode cX3_searchFrom 55 = .ok (.iload 4, 2) := by decide +kernel
theorem dX3_searchFrom_57 : decode cX3_searchFrom 57 = .ok (.invokevirtual 219, 3) := by decide +kernel
theorem dX3_searchFrom_60 : decode cX3_searchFrom 60 = .ok (.iload_n 2, 1) := by decide +kernel
theorem dX3_searchFrom_61 : decode cX3_searchFrom 61 = .ok (.invokevirtual 260, 3) := by decide +kernel
theorem dX3_searchFrom_64 : decode cX3_searchFrom 64 = .ok (.istore_n 2, 1) := by decide +kernel
theorem dX3_searchFrom_65 : decode cX3_searchFrom 65 = .ok (.iinc 3 1, 3) := by decide +kernel
theorem dX3_searchFrom_68 : decode cX3_searchFrom 68 = .ok (.goto (-52), 3) := by decide +kernel
theorem dX3_searchFrom_71 : decode cX3_searchFrom 71 = .ok (.return_, 1) := by decide +kernel
set_option maxRecDepth 20000 in
theorem ggX3_reach_X0_has : GoodIn wsX3_reach wsX0_has := goodIn_r _ [7, 8, 38] (by decide +kernel) (by decide +kernel)
set_option maxRecDepth 20000 in
theorem gX3_reach_X0_has : GoodIn wsX3_reach (wsV RX3 138 RX0 yX0_has wsX0_has) := goodIn_app (goodIn_of _ (by decide +kernel)) ggX3_reach_X0_has
set_option maxRecDepth 20000 in
theorem ggX3_reach_X0_set : GoodIn wsX3_reach wsX0_set := goodIn_r _ [12, 8, 38] (by decide +kernel) (by decide +kernel)
set_option maxRecDepth 20000 in
theorem gX3_reach_X0_set : GoodIn wsX3_reach (wsV RX3 142 RX0 yX0_set wsX0_set) := goodIn_app (goodIn_of _ (by decide +kernel)) ggX3_reach_X0_set
set_option maxRecDepth 20000 in
theorem ggX3_reach_X2_put : GoodIn wsX3_reach wsX2_put := goodIn_r _ [17, 18, 39, 40] (by decide +kernel) (by decide +kernel)
set_option maxRecDepth 20000 in
theorem gX3_reach_X2_put : GoodIn wsX3_reach (wsV RX3 99 RX2 yX2_put wsX2_put) := goodIn_app (goodIn_of _ (by decide +kernel)) ggX3_reach_X2_put
theorem dX3_reach_0 : decode cX3_reach 0 = .ok (.iload_n 1, 1) := by decide +kernel
theorem dX3_reach_1 : decode cX3_reach 1 = .ok (.iconst (-1), 1) := by decide +kernel
theorem dX3_reach_2 : decode cX3_reach 2 = .ok (.if_icmp .eq 14, 3) := by decide +kernel
theorem dX3_reach_5 : decode cX3_reach 5 = .ok (.aload_n 0, 1) := by decide +kernel
theorem dX3_reach_6 : decode cX3_reach 6 = .ok (.getfield 70, 3) := by decide +kernel
theorem dX3_reach_9 : decode cX3_reach 9 = .ok (.iload_n 1, 1) := by decide +kernel
theorem dX3_reach_10 : decode cX3_reach 10 = .ok (.invokevirtual 138, 3) := by decide +kernel
theorem dX3_reach_13 : decode cX3_reach 13 = .ok (.ifCond .eq 5, 3) := by decide +kernel
theorem dX3_reach_16 : decode cX3_reach 16 = .ok (.iload_n 2, 1) := by decide +kernel
theorem dX3_reach_17 : decode cX3_reach 17 = .ok (.ireturn, 1) := by decide +kernel
theorem dX3_reach_18 : decode cX3_reach 18 = .ok (.aload_n 0, 1) := by decide +kernel
theorem dX3_reach_19 : decode cX3_reach 19 = .ok (.getfield 70, 3) := by decide +kernel
theorem dX3_reach_22 : decode cX3_reach 22 = .ok (.iload_n 1, 1) := by decide +kernel
theorem dX3_reach_23 : decode cX3_reach 23 = .ok (.iconst 1, 1) := by decide +kernel
theorem dX3_reach_24 : decode cX3_reach 24 = .ok (.invokevirtual 142, 3) := by decide +kernel
theorem dX3_reach_27 : decode cX3_reach 27 = .ok (.aload_n 0, 1) := by decide +kernel
theorem dX3_reach_28 : decode cX3_reach 28 = .ok (.getfield 67, 3) := by decide +kernel
theorem dX3_reach_31 : decode cX3_reach 31 = .ok (.iload_n 2, 1) := by decide +kernel
theorem dX3_reach_32 : decode cX3_reach 32 = .ok (.iload_n 1, 1) := by decide +kernel
theorem dX3_reach_33 : decode cX3_reach 33 = .ok (.invokevirtual 99, 3) := by decide +kernel
theorem dX3_reach_36 : decode cX3_reach 36 = .ok (.iload_n 2, 1) := by decide +kernel
theorem dX3_reach_37 : decode cX3_reach 37 = .ok (.iconst 1, 1) := by decide +kernel
theorem dX3_reach_38 : decode cX3_reach 38 = .ok (.iadd, 1) := by decide +kernel
theorem dX3_reach_39 : decode cX3_reach 39 = .ok (.ireturn, 1) := by decide +kernel
theorem dX4_init_0 : decode cX4_init 0 = .ok (.aload_n 0, 1) := by decide +kernel
theorem dX4_init_1 : decode cX4_init 1 = .ok (.invokespecial 1, 3) := by decide +kernel
theorem dX4_init_4 : decode cX4_init 4 = .ok (.aload_n 0, 1) := by decide +kernel
theorem dX4_init_5 : decode cX4_init 5 = .ok (.bipush 12, 2) := by decide +kernel
theorem dX4_init_7 : decode cX4_init 7 = .ok (.newarray .int, 2) := by decide +kernel
theorem dX4_init_9 : decode cX4_init 9 = .ok (.putfield 7, 3) := by decide +kernel
theorem dX4_init_12 : decode cX4_init 12 = .ok (.aload_n 0, 1) := by decide +kernel
theorem dX4_init_13 : decode cX4_init 13 = .ok (.bipush 13, 2) := by decide +kernel
theorem dX4_init_15 : decode cX4_init 15 = .ok (.newarray .int, 2) := by decide +kernel
theorem dX4_init_17 : decode cX4_init 17 = .ok (.putfield 13, 3) := by decide +kernel
theorem dX4_init_20 : decode cX4_init 20 = .ok (.aload_n 0, 1) := by decide +kernel
theorem dX4_init_21 : decode cX4_init 21 = .ok (.sipush 144, 3) := by decide +kernel
theorem dX4_init_24 : decode cX4_init 24 = .ok (.newarray .int, 2) := by decide +kernel
theorem dX4_init_26 : decode cX4_init 26 = .ok (.putfield 16, 3) := by decide +kernel
theorem dX4_init_29 : decode cX4_init 29 = .ok (.aload_n 0, 1) := by decide +kernel
theorem dX4_init_30 : decode cX4_init 30 = .ok (.sipush 144, 3) := by decide +kernel
theorem dX4_init_33 : decode cX4_init 33 = .ok (.newarray .int, 2) := by decide +kernel
theorem dX4_init_35 : decode cX4_init 35 = .ok (.putfield 19, 3) := by decide +kernel
theorem dX4_init_38 : decode cX4_init 38 = .ok (.aload_n 0, 1) := by decide +kernel
theorem dX4_init_39 : decode cX4_init 39 = .ok (.sipush 144, 3) := by decide +kernel
theorem dX4_init_42 : decode cX4_init 42 = .ok (.newarray .int, 2) := by decide +kernel
theorem dX4_init_44 : decode cX4_init 44 = .ok (.putfield 22, 3) := by decide +kernel
theorem dX4_init_47 : decode cX4_init 47 = .ok (.aload_n 0, 1) := by decide +kernel
theorem dX4_init_48 : decode cX4_init 48 = .ok (.sipush 144, 3) := by decide +kernel
theorem dX4_init_51 : decode cX4_init 51 = .ok (.newarray .int, 2) := by decide +kernel
theorem dX4_init_53 : decode cX4_init 53 = .ok (.putfield 25, 3) := by decide +kernel
theorem dX4_init_56 : decode cX4_init 56 = .ok (.aload_n 0, 1) := by decide +kernel
theorem dX4_init_57 : decode cX4_init 57 = .ok (.sipush 144, 3) := by decide +kernel
theorem dX4_init_60 : decode cX4_init 60 = .ok (.newarray .boolean, 2) := by decide +kernel
theorem dX4_init_62 : decode cX4_init 62 = .ok (.putfield 28, 3) := by decide +kernel
theorem dX4_init_65 : decode cX4_init 65 = .ok (.aload_n 0, 1) := by decide +kernel
theorem dX4_init_66 : decode cX4_init 66 = .ok (.bipush 10, 2) := by decide +kernel
theorem dX4_init_68 : decode cX4_init 68 = .ok (.newarray .int, 2) := by decide +kernel
theorem dX4_init_70 : decode cX4_init 70 = .ok (.putfield 32, 3) := by decide +kernel
theorem dX4_init_73 : decode cX4_init 73 = .ok (.aload_n 0, 1) := by decide +kernel
theorem dX4_init_74 : decode cX4_init 74 = .ok (.bipush 10, 2) := by decide +kernel
theorem dX4_init_76 : decode cX4_init 76 = .ok (.newarray .int, 2) := by decide +kernel
theorem dX4_init_78 : decode cX4_init 78 = .ok (.putfield 35, 3) := by decide +kernel
theorem dX4_init_81 : decode cX4_init 81 = .ok (.aload_n 0, 1) := by decide +kernel
theorem dX4_init_82 : decode cX4_init 82 = .ok (.bipush 10, 2) := by decide +kernel
theorem dX4_init_84 : decode cX4_init 84 = .ok (.newarray .int, 2) := by decide +kernel
theorem dX4_init_86 : decode cX4_init 86 = .ok (.putfield 38, 3) := by decide +kernel
theorem dX4_init_89 : decode cX4_init 89 = .ok (.aload_n 0, 1) := by decide +kernel
theorem dX4_init_90 : decode cX4_init 90 = .ok (.bipush 10, 2) := by decide +kernel
theorem dX4_init_92 : decode cX4_init 92 = .ok (.newarray .int, 2) := by decide +kernel
theorem dX4_init_94 : decode cX4_init 94 = .ok (.putfield 41, 3) := by decide +kernel
theorem dX4_init_97 : decode cX4_init 97 = .ok (.aload_n 0, 1) := by decide +kernel
theorem dX4_init_98 : decode cX4_init 98 = .ok (.bipush 12, 2) := by decide +kernel
theorem dX4_init_100 : decode cX4_init 100 = .ok (.newarray .int, 2) := by decide +kernel
theorem dX4_init_102 : decode cX4_init 102 = .ok (.putfield 44, 3) := by decide +kernel
theorem dX4_init_105 : decode cX4_init 105 = .ok (.aload_n 0, 1) := by decide +kernel
theorem dX4_init_106 : decode cX4_init 106 = .ok (.bipush 12, 2) := by decide +kernel
theorem dX4_init_108 : decode cX4_init 108 = .ok (.newarray .int, 2) := by decide +kernel
theorem dX4_init_110 : decode cX4_init 110 = .ok (.putfield 47, 3) := by decide +kernel
theorem dX4_init_113 : decode cX4_init 113 = .ok (.aload_n 0, 1) := by decide +kernel
theorem dX4_init_114 : decode cX4_init 114 = .ok (.sipush 144, 3) := by decide +kernel
theorem dX4_init_117 : decode cX4_init 117 = .ok (.newarray .int, 2) := by decide +kernel
theorem dX4_init_119 : decode cX4_init 119 = .ok (.putfield 50, 3) := by decide +kernel
theorem dX4_init_122 : decode cX4_init 122 = .ok (.aload_n 0, 1) := by decide +kernel
theorem dX4_init_123 : decode cX4_init 123 = .ok (.sipush 144, 3) := by decide +kernel
theorem dX4_init_126 : decode cX4_init 126 = .ok (.newarray .int, 2) := by decide +kernel
theorem dX4_init_128 : decode cX4_init 128 = .ok (.putfield 53, 3) := by decide +kernel
theorem dX4_init_131 : decode cX4_init 131 = .ok (.aload_n 0, 1) := by decide +kernel
theorem dX4_init_132 : decode cX4_init 132 = .ok (.sipush 145, 3) := by decide +kernel
theorem dX4_init_135 : decode cX4_init 135 = .ok (.newarray .int, 2) := by decide +kernel
theorem dX4_init_137 : decode cX4_init 137 = .ok (.putfield 56, 3) := by decide +kernel
theorem dX4_init_140 : decode cX4_init 140 = .ok (.aload_n 0, 1) := by decide +kernel
theorem dX4_init_141 : decode cX4_init 141 = .ok (.sipush 144, 3) := by decide +kernel
theorem dX4_init_144 : decode cX4_init 144 = .ok (.newarray .int, 2) := by decide +kernel
theorem dX4_init_146 : decode cX4_init 146 = .ok (.putfield 59, 3) := by decide +kernel
theorem dX4_init_149 : decode cX4_init 149 = .ok (.return_, 1) := by decide +kernel
theorem dX4_thrown_0 : decode cX4_thrown 0 = .ok (.aload_n 0, 1) := by decide +kernel
theorem dX4_thrown_1 : decode cX4_thrown 1 = .ok (.getfield 62, 3) := by decide +kernel
theorem dX4_thrown_4 : decode cX4_thrown 4 = .ok (.ireturn, 1) := by decide +kernel
theorem dX4_holds_0 : decode cX4_holds 0 = .ok (.aload_n 0, 1) := by decide +kernel
theorem dX4_holds_1 : decode cX4_holds 1 = .ok (.iload_n 1, 1) := by decide +kernel
theorem dX4_holds_2 : decode cX4_holds 2 = .ok (.putfield 62, 3) := by decide +kernel
theorem dX4_holds_5 : decode cX4_holds 5 = .ok (.iload_n 1, 1) := by decide +kernel
theorem dX4_holds_6 : decode cX4_holds 6 = .ok (.ifCond .ne 7, 3) := by decide +kernel
theorem dX4_holds_9 : decode cX4_holds 9 = .ok (.iconst 1, 1) := by decide +kernel
theorem dX4_holds_10 : decode cX4_holds 10 = .ok (.goto 4, 3) := by decide +kernel
theorem dX4_holds_13 : decode cX4_holds 13 = .ok (.iconst 0, 1) := by decide +kernel
theorem dX4_holds_14 : decode cX4_holds 14 = .ok (.ireturn, 1) := by decide +kernel
theorem dX4_in_0 : decode cX4_in 0 = .ok (.iload_n 0, 1) := by decide +kernel
theorem dX4_in_1 : decode cX4_in 1 = .ok (.iload_n 1, 1) := by decide +kernel
theorem dX4_in_2 : decode cX4_in 2 = .ok (.if_icmp .lt 12, 3) := by decide +kernel
theorem dX4_in_5 : decode cX4_in 5 = .ok (.iload_n 0, 1) := by decide +kernel
theorem dX4_in_6 : decode cX4_in 6 = .ok (.iload_n 2, 1) := by decide +kernel
theorem dX4_in_7 : decode cX4_in 7 = .ok (.if_icmp .gt 7, 3) := by decide +kernel
theorem dX4_in_10 : decode cX4_in 10 = .ok (.iconst 1, 1) := by decide +kernel
theorem dX4_in_11 : decode cX4_in 11 = .ok (.goto 4, 3) := by decide +kernel
theorem dX4_in_14 : decode cX4_in 14 = .ok (.iconst 0, 1) := by decide +kernel
theorem dX4_in_15 : decode cX4_in 15 = .ok (.ireturn, 1) := by decide +kernel
set_option maxRecDepth 20000 in
theorem ggX4_isPort_X4_in : GoodIn wsX4_isPort wsX4_in := goodIn_r _ [5] (by decide +kernel) (by decide +kernel)
set_option maxRecDepth 20000 in
theorem gX4_isPort_X4_in : GoodIn wsX4_isPort (va_wsS RX4 69 yX4_in wsX4_in) := goodIn_app (goodIn_of _ (by decide +kernel)) ggX4_isPort_X4_in
theorem dX4_isPort_0 : decode cX4_isPort 0 = .ok (.iload_n 1, 1) := by decide +kernel
theorem dX4_isPort_1 : decode cX4_isPort 1 = .ok (.iconst 0, 1) := by decide +kernel
theorem dX4_isPort_2 : decode cX4_isPort 2 = .ok (.aload_n 0, 1) := by decide +kernel
theorem dX4_isPort_3 : decode cX4_isPort 3 = .ok (.getfield 66, 3) := by decide +kernel
theorem dX4_isPort_6 : decode cX4_isPort 6 = .ok (.iconst 1, 1) := by decide +kernel
theorem dX4_isPort_7 : decode cX4_isPort 7 = .ok (.isub, 1) := by decide +kernel
theorem dX4_isPort_8 : decode cX4_isPort 8 = .ok (.invokestatic 69, 3) := by decide +kernel
theorem dX4_isPort_11 : decode cX4_isPort 11 = .ok (.ireturn, 1) := by decide +kernel
set_option maxRecDepth 20000 in
theorem ggX4_arePorts_X4_isPort : GoodIn wsX4_arePorts wsX4_isPort := goodIn_r _ [5, 6, 7, 8, 4, 9, 10, 11, 12, 13, 14, 15, 16, 17, 18, 19, 20, 21, 22, 23, 24, 25, 26, 27, 28, 29, 30, 31, 32, 33] (by decide +kernel) (by decide +kernel)
set_option maxRecDepth 20000 in
theorem gX4_arePorts_X4_isPort : GoodIn wsX4_arePorts (wsV RX4 73 RX4 yX4_isPort wsX4_isPort) := goodIn_app (goodIn_of _ (by decide +kernel)) ggX4_arePorts_X4_isPort
theorem dX4_arePorts_0 : decode cX4_arePorts 0 = .ok (.aload_n 0, 1) := by decide +kernel
theorem dX4_arePorts_1 : decode cX4_arePorts 1 = .ok (.iload_n 1, 1) := by decide +kernel
theorem dX4_arePorts_2 : decode cX4_arePorts 2 = .ok (.invokevirtual 73, 3) := by decide +kernel
theorem dX4_arePorts_5 : decode cX4_arePorts 5 = .ok (.ifCond .eq 15, 3) := by decide +kernel
theorem dX4_arePorts_8 : decode cX4_arePorts 8 = .ok (.aload_n 0, 1) := by decide +kernel
theorem dX4_arePorts_9 : decode cX4_arePorts 9 = .ok (.iload_n 2, 1) := by decide +kernel
theorem dX4_arePorts_10 : decode cX4_arePorts 10 = .ok (.invokevirtual 73, 3) := by decide +kernel
theorem dX4_arePorts_13 : decode cX4_arePorts 13 = .ok (.ifCond .eq 7, 3) := by decide +kernel
theorem dX4_arePorts_16 : decode cX4_arePorts 16 = .ok (.iconst 1, 1) := by decide +kernel
theorem dX4_arePorts_17 : decode cX4_arePorts 17 = .ok (.goto 4, 3) := by decide +kernel
theorem dX4_arePorts_20 : decode cX4_arePorts 20 = .ok (.iconst 0, 1) := by decide +kernel
theorem dX4_arePorts_21 : decode cX4_arePorts 21 = .ok (.ireturn, 1) := by decide +kernel
theorem dX4_panel_0 : decode cX4_panel 0 = .ok (.iconst 0, 1) := by decide +kernel
theorem dX4_panel_1 : decode cX4_panel 1 = .ok (.istore_n 2, 1) := by decide +kernel
theorem dX4_panel_2 : decode cX4_panel 2 = .ok (.aload_n 0, 1) := by decide +kernel
theorem dX4_panel_3 : decode cX4_panel 3 = .ok (.getfield 13, 3) := by decide +kernel
theorem dX4_panel_6 : decode cX4_panel 6 = .ok (.iload_n 2, 1) := by decide +kernel
theorem dX4_panel_7 : decode cX4_panel 7 = .ok (.iconst 1, 1) := by decide +kernel
theorem dX4_panel_8 : decode cX4_panel 8 = .ok (.iadd, 1) := by decide +kernel
theorem dX4_panel_9 : decode cX4_panel 9 = .ok (.iaload, 1) := by decide +kernel
theorem dX4_panel_10 : decode cX4_panel 10 = .ok (.iload_n 1, 1) := by decide +kernel
theorem dX4_panel_11 : decode cX4_panel 11 = .ok (.if_icmp .gt 9, 3) := by decide +kernel
theorem dX4_panel_14 : decode cX4_panel 14 = .ok (.iinc 2 1, 3) := by decide +kernel
theorem dX4_panel_17 : decode cX4_panel 17 = .ok (.goto (-15), 3) := by decide +kernel
theorem dX4_panel_20 : decode cX4_panel 20 = .ok (.iload_n 2, 1) := by decide +kernel
theorem dX4_panel_21 : decode cX4_panel 21 = .ok (.ireturn, 1) := by decide +kernel
set_option maxRecDepth 20000 in
theorem ggX4_addPanel_X4_in : GoodIn wsX4_addPanel wsX4_in := goodIn_r _ [10] (by decide +kernel) (by decide +kernel)
set_option maxRecDepth 20000 in
theorem gX4_addPanel_X4_in : GoodIn wsX4_addPanel (va_wsS RX4 69 yX4_in wsX4_in) := goodIn_app (goodIn_of _ (by decide +kernel)) ggX4_addPanel_X4_in
set_option maxRecDepth 20000 in
theorem ggX4_addPanel_X4_holds : GoodIn wsX4_addPanel wsX4_holds := goodIn_r _ [14, 15, 16, 17, 18, 19, 20, 21, 22, 23, 24, 25, 26, 27, 28, 29, 30, 31, 32, 33, 34, 35, 36, 37, 38, 39] (by decide +kernel) (by decide +kernel)
set_option maxRecDepth 20000 in
theorem gX4_addPanel_X4_holds : GoodIn wsX4_addPanel (wsV RX4 80 RX4 yX4_holds wsX4_holds) := goodIn_app (goodIn_of _ (by decide +kernel)) ggX4_addPanel_X4_holds
theorem dX4_addPanel_0 : decode cX4_addPanel 0 = .ok (.aload_n 0, 1) := by decide +kernel
theorem dX4_addPanel_1 : decode cX4_addPanel 1 = .ok (.iload_n 1, 1) := by decide +kernel
theorem dX4_addPanel_2 : decode cX4_addPanel 2 = .ok (.iconst 0, 1) := by decide +kernel
theorem dX4_addPanel_3 : decode cX4_addPanel 3 = .ok (.bipush 9, 2) := by decide +kernel
theorem dX4_addPanel_5 : decode cX4_addPanel 5 = .ok (.invokestatic 69, 3) := by decide +kernel
theorem dX4_addPanel_8 : decode cX4_addPanel 8 = .ok (.ifCond .eq 13, 3) := by decide +kernel
theorem dX4_addPanel_11 : decode cX4_addPanel 11 = .ok (.iload_n 2, 1) := by decide +kernel
theorem dX4_addPanel_12 : decode cX4_addPanel 12 = .ok (.iconst 1, 1) := by decide +kernel
theorem dX4_addPanel_13 : decode cX4_addPanel 13 = .ok (.bipush 12, 2) := by decide +kernel
theorem dX4_addPanel_15 : decode cX4_addPanel 15 = .ok (.invokestatic 69, 3) := by decide +kernel
theorem dX4_addPanel_18 : decode cX4_addPanel 18 = .ok (.ifCond .ne 7, 3) := by decide +kernel
theorem dX4_addPanel_21 : decode cX4_addPanel 21 = .ok (.iconst 1, 1) := by decide +kernel
theorem dX4_addPanel_22 : decode cX4_addPanel 22 = .ok (.goto 17, 3) := by decide +kernel
theorem dX4_addPanel_25 : decode cX4_addPanel 25 = .ok (.aload_n 0, 1) := by decide +kernel
theorem dX4_addPanel_26 : decode cX4_addPanel 26 = .ok (.getfield 77, 3) := by decide +kernel
theorem dX4_addPanel_29 : decode cX4_addPanel 29 = .ok (.bipush 12, 2) := by decide +kernel
theorem dX4_addPanel_31 : decode cX4_addPanel 31 = .ok (.if_icmp .ne 7, 3) := by decide +kernel
theorem dX4_addPanel_34 : decode cX4_addPanel 34 = .ok (.iconst 2, 1) := by decide +kernel
theorem dX4_addPanel_35 : decode cX4_addPanel 35 = .ok (.goto 4, 3) := by decide +kernel
theorem dX4_addPanel_38 : decode cX4_addPanel 38 = .ok (.iconst 0, 1) := by decide +kernel
theorem dX4_addPanel_39 : decode cX4_addPanel 39 = .ok (.invokevirtual 80, 3) := by decide +kernel
theorem dX4_addPanel_42 : decode cX4_addPanel 42 = .ok (.ifCond .ne 5, 3) := by decide +kernel
theorem dX4_addPanel_45 : decode cX4_addPanel 45 = .ok (.iconst 0, 1) := by decide +kernel
theorem dX4_addPanel_46 : decode cX4_addPanel 46 = .ok (.ireturn, 1) := by decide +kernel
theorem dX4_addPanel_47 : decode cX4_addPanel 47 = .ok (.aload_n 0, 1) := by decide +kernel
theorem dX4_addPanel_48 : decode cX4_addPanel 48 = .ok (.getfield 7, 3) := by decide +kernel
theorem dX4_addPanel_51 : decode cX4_addPanel 51 = .ok (.aload_n 0, 1) := by decide +kernel
theorem dX4_addPanel_52 : decode cX4_addPanel 52 = .ok (.getfield 77, 3) := by decide +kernel
theorem dX4_addPanel_55 : decode cX4_addPanel 55 = .ok (.iload_n 1, 1) := by decide +kernel
theorem dX4_addPanel_56 : decode cX4_addPanel 56 = .ok (.iastore, 1) := by decide +kernel
theorem dX4_addPanel_57 : decode cX4_addPanel 57 = .ok (.aload_n 0, 1) := by decide +kernel
theorem dX4_addPanel_58 : decode cX4_addPanel 58 = .ok (.getfield 66, 3) := by decide +kernel
theorem dX4_addPanel_61 : decode cX4_addPanel 61 = .ok (.istore_n 3, 1) := by decide +kernel
theorem dX4_addPanel_62 : decode cX4_addPanel 62 = .ok (.iload_n 3, 1) := by decide +kernel
theorem dX4_addPanel_63 : decode cX4_addPanel 63 = .ok (.aload_n 0, 1) := by decide +kernel
theorem dX4_addPanel_64 : decode cX4_addPanel 64 = .ok (.getfield 66, 3) := by decide +kernel
theorem dX4_addPanel_67 : decode cX4_addPanel 67 = .ok (.iload_n 2, 1) := by decide +kernel
theorem dX4_addPanel_68 : decode cX4_addPanel 68 = .ok (.iadd, 1) := by decide +kernel
theorem dX4_addPanel_69 : decode cX4_addPanel 69 = .ok (.if_icmp .ge 23, 3) := by decide +kernel
theorem dX4_addPanel_72 : decode cX4_addPanel 72 = .ok (.aload_n 0, 1) := by decide +kernel
theorem dX4_addPanel_73 : decode cX4_addPanel 73 = .ok (.getfield 16, 3) := by decide +kernel
theorem dX4_addPanel_76 : decode cX4_addPanel 76 = .ok (.iload_n 3, 1) := by decide +kernel
theorem dX4_addPanel_77 : decode cX4_addPanel 77 = .ok (.iconst (-1), 1) := by decide +kernel
theorem dX4_addPanel_78 : decode cX4_addPanel 78 = .ok (.iastore, 1) := by decide +kernel
theorem dX4_addPanel_79 : decode cX4_addPanel 79 = .ok (.aload_n 0, 1) := by decide +kernel
theorem dX4_addPanel_80 : decode cX4_addPanel 80 = .ok (.getfield 22, 3) := by decide +kernel
theorem dX4_addPanel_83 : decode cX4_addPanel 83 = .ok (.iload_n 3, 1) := by decide +kernel
theorem dX4_addPanel_84 : decode cX4_addPanel 84 = .ok (.iconst (-1), 1) := by decide +kernel
theorem dX4_addPanel_85 : decode cX4_addPanel 85 = .ok (.iastore, 1) := by decide +kernel
theorem dX4_addPanel_86 : decode cX4_addPanel 86 = .ok (.iinc 3 1, 3) := by decide +kernel
theorem dX4_addPanel_89 : decode cX4_addPanel 89 = .ok (.goto (-27), 3) := by decide +kernel
theorem dX4_addPanel_92 : decode cX4_addPanel 92 = .ok (.aload_n 0, 1) := by decide +kernel
theorem dX4_addPanel_93 : decode cX4_addPanel 93 = .ok (.dup, 1) := by decide +kernel
theorem dX4_addPanel_94 : decode cX4_addPanel 94 = .ok (.getfield 77, 3) := by decide +kernel
theorem dX4_addPanel_97 : decode cX4_addPanel 97 = .ok (.iconst 1, 1) := by decide +kernel
theorem dX4_addPanel_98 : decode cX4_addPanel 98 = .ok (.iadd, 1) := by decide +kernel
theorem dX4_addPanel_99 : decode cX4_addPanel 99 = .ok (.putfield 77, 3) := by decide +kernel
theorem dX4_addPanel_102 : decode cX4_addPanel 102 = .ok (.aload_n 0, 1) := by decide +kernel
theorem dX4_addPanel_103 : decode cX4_addPanel 103 = .ok (.dup, 1) := by decide +kernel
theorem dX4_addPanel_104 : decode cX4_addPanel 104 = .ok (.getfield 66, 3) := by decide +kernel
theorem dX4_addPanel_107 : decode cX4_addPanel 107 = .ok (.iload_n 2, 1) := by decide +kernel
theorem dX4_addPanel_108 : decode cX4_addPanel 108 = .ok (.iadd, 1) := by decide +kernel
theorem dX4_addPanel_109 : decode cX4_addPanel 109 = .ok (.putfield 66, 3) := by decide +kernel
theorem dX4_addPanel_112 : decode cX4_addPanel 112 = .ok (.aload_n 0, 1) := by decide +kernel
theorem dX4_addPanel_113 : decode cX4_addPanel 113 = .ok (.getfield 13, 3) := by decide +kernel
theorem dX4_addPanel_116 : decode cX4_addPanel 116 = .ok (.aload_n 0, 1) := by decide +kernel
theorem dX4_addPanel_117 : decode cX4_addPanel 117 = .ok (.getfield 77, 3) := by decide +kernel
theorem dX4_addPanel_120 : decode cX4_addPanel 120 = .ok (.aload_n 0, 1) := by decide +kernel
theorem dX4_addPanel_121 : decode cX4_addPanel 121 = .ok (.getfield 66, 3) := by decide +kernel
theorem dX4_addPanel_124 : decode cX4_addPanel 124 = .ok (.iastore, 1) := by decide +kernel
theorem dX4_addPanel_125 : decode cX4_addPanel 125 = .ok (.aload_n 0, 1) := by decide +kernel
theorem dX4_addPanel_126 : decode cX4_addPanel 126 = .ok (.getfield 66, 3) := by decide +kernel
theorem dX4_addPanel_129 : decode cX4_addPanel 129 = .ok (.iload_n 2, 1) := by decide +kernel
theorem dX4_addPanel_130 : decode cX4_addPanel 130 = .ok (.isub, 1) := by decide +kernel
theorem dX4_addPanel_131 : decode cX4_addPanel 131 = .ok (.ireturn, 1) := by decide +kernel
set_option maxRecDepth 20000 in
theorem ggX4_isBehind_X4_panel : GoodIn wsX4_isBehind wsX4_panel := goodIn_r _ [6, 1, 7, 8, 9, 10, 11, 12, 13, 14, 15, 16, 17, 18, 19, 20, 21, 22, 23, 24, 25, 26, 27, 28, 29, 30] (by decide +kernel) (by decide +kernel)
set_option maxRecDepth 20000 in
theorem gX4_isBehind_X4_panel : GoodIn wsX4_isBehind (wsV RX4 83 RX4 yX4_panel wsX4_panel) := goodIn_app (goodIn_of _ (by decide +kernel)) ggX4_isBehind_X4_panel
theorem dX4_isBehind_0 : decode cX4_isBehind 0 = .ok (.iload_n 1, 1) := by decide +kernel
theorem dX4_isBehind_1 : decode cX4_isBehind 1 = .ok (.iload_n 2, 1) := by decide +kernel
theorem dX4_isBehind_2 : decode cX4_isBehind 2 = .ok (.iadd, 1) := by decide +kernel
theorem dX4_isBehind_3 : decode cX4_isBehind 3 = .ok (.aload_n 0, 1) := by decide +kernel
theorem dX4_isBehind_4 : decode cX4_isBehind 4 = .ok (.getfield 13, 3) := by decide +kernel
theorem dX4_isBehind_7 : decode cX4_isBehind 7 = .ok (.aload_n 0, 1) := by decide +kernel
theorem dX4_isBehind_8 : decode cX4_isBehind 8 = .ok (.iload_n 1, 1) := by decide +kernel
theorem dX4_isBehind_9 : decode cX4_isBehind 9 = .ok (.invokevirtual 83, 3) := by decide +kernel
theorem dX4_isBehind_12 : decode cX4_isBehind 12 = .ok (.iconst 1, 1) := by decide +kernel
theorem dX4_isBehind_13 : decode cX4_isBehind 13 = .ok (.iadd, 1) := by decide +kernel
theorem dX4_isBehind_14 : decode cX4_isBehind 14 = .ok (.iaload, 1) := by decide +kernel
theorem dX4_isBehind_15 : decode cX4_isBehind 15 = .ok (.if_icmp .gt 7, 3) := by decide +kernel
theorem dX4_isBehind_18 : decode cX4_isBehind 18 = .ok (.iconst 1, 1) := by decide +kernel
theorem dX4_isBehind_19 : decode cX4_isBehind 19 = .ok (.goto 4, 3) := by decide +kernel
theorem dX4_isBehind_22 : decode cX4_isBehind 22 = .ok (.iconst 0, 1) := by decide +kernel
theorem dX4_isBehind_23 : decode cX4_isBehind 23 = .ok (.ireturn, 1) := by decide +kernel
set_option maxRecDepth 20000 in
theorem ggX4_errorOfTrunk_X4_arePorts : GoodIn wsX4_errorOfTrunk wsX4_arePorts := goodIn_r _ [7, 8, 9, 10, 6, 11, 12, 13, 14, 15, 25, 26, 27, 28, 29, 30, 31, 32, 33, 34, 35, 36, 37, 38, 39, 40, 41, 42, 43, 44, 45, 46, 47, 48] (by decide +kernel) (by decide +kernel)
set_option maxRecDepth 20000 in
theorem gX4_errorOfTrunk_X4_arePorts : GoodIn wsX4_errorOfTrunk (wsV RX4 87 RX4 yX4_arePorts wsX4_arePorts) := goodIn_app (goodIn_of _ (by decide +kernel)) ggX4_errorOfTrunk_X4_arePorts
set_option maxRecDepth 20000 in
theorem ggX4_errorOfTrunk_X4_in : GoodIn wsX4_errorOfTrunk wsX4_in := goodIn_r _ [15] (by decide +kernel) (by decide +kernel)
set_option maxRecDepth 20000 in
theorem gX4_errorOfTrunk_X4_in : GoodIn wsX4_errorOfTrunk (va_wsS RX4 69 yX4_in wsX4_in) := goodIn_app (goodIn_of _ (by decide +kernel)) ggX4_errorOfTrunk_X4_in
set_option maxRecDepth 20000 in
theorem ggX4_errorOfTrunk_X4_panel : GoodIn wsX4_errorOfTrunk wsX4_panel := goodIn_r _ [19, 20, 25, 26, 27, 28, 29, 30, 31, 32, 33, 34, 35, 36, 37, 38, 39, 40, 41, 42, 43, 44, 45, 46, 47, 48] (by decide +kernel) (by decide +kernel)
set_option maxRecDepth 20000 in
theorem gX4_errorOfTrunk_X4_panel : GoodIn wsX4_errorOfTrunk (wsV RX4 83 RX4 yX4_panel wsX4_panel) := goodIn_app (goodIn_of _ (by decide +kernel)) ggX4_errorOfTrunk_X4_panel
set_option maxRecDepth 20000 in
theorem ggX4_errorOfTrunk_X4_isBehind : GoodIn wsX4_errorOfTrunk wsX4_isBehind := goodIn_r _ [24, 20, 16, 17, 18, 6, 19, 25, 26, 27, 28, 29, 30, 31, 32, 33, 34, 35, 36, 37, 38, 39, 40, 41, 42, 43, 44, 45, 46, 47, 48] (by decide +kernel) (by decide +kernel)
set_option maxRecDepth 20000 in
theorem gX4_errorOfTrunk_X4_isBehind : GoodIn wsX4_errorOfTrunk (wsV RX4 91 RX4 yX4_isBehind wsX4_isBehind) := goodIn_app (goodIn_of _ (by decide +kernel)) ggX4_errorOfTrunk_X4_isBehind
theorem dX4_errorOfTrunk_0 : decode cX4_errorOfTrunk 0 = .ok (.aload_n 0, 1) := by decide +kernel
theorem dX4_errorOfTrunk_1 : decode cX4_errorOfTrunk 1 = .ok (.iload_n 1, 1) := by decide +kernel
theorem dX4_errorOfTrunk_2 : decode cX4_errorOfTrunk 2 = .ok (.iload_n 2, 1) := by decide +kernel
theorem dX4_errorOfTrunk_3 : decode cX4_errorOfTrunk 3 = .ok (.invokevirtual 87, 3) := by decide +kernel
theorem dX4_errorOfTrunk_6 : decode cX4_errorOfTrunk 6 = .ok (.ifCond .ne 5, 3) := by decide +kernel
theorem dX4_errorOfTrunk_9 : decode cX4_errorOfTrunk 9 = .ok (.iconst 1, 1) := by decide +kernel
theorem dX4_errorOfTrunk_10 : decode cX4_errorOfTrunk 10 = .ok (.ireturn, 1) := by decide +kernel
theorem dX4_errorOfTrunk_11 : decode cX4_errorOfTrunk 11 = .ok (.iload_n 3, 1) := by decide +kernel
theorem dX4_errorOfTrunk_12 : decode cX4_errorOfTrunk 12 = .ok (.iconst 1, 1) := by decide +kernel
theorem dX4_errorOfTrunk_13 : decode cX4_errorOfTrunk 13 = .ok (.bipush 12, 2) := by decide +kernel
theorem dX4_errorOfTrunk_15 : decode cX4_errorOfTrunk 15 = .ok (.invokestatic 69, 3) := by decide +kernel
theorem dX4_errorOfTrunk_18 : decode cX4_errorOfTrunk 18 = .ok (.ifCond .eq 46, 3) := by decide +kernel
theorem dX4_errorOfTrunk_21 : decode cX4_errorOfTrunk 21 = .ok (.iload 4, 2) := by decide +kernel
theorem dX4_errorOfTrunk_23 : decode cX4_errorOfTrunk 23 = .ok (.iconst 1, 1) := by decide +kernel
theorem dX4_errorOfTrunk_24 : decode cX4_errorOfTrunk 24 = .ok (.sipush 500, 3) := by decide +kernel
theorem dX4_errorOfTrunk_27 : decode cX4_errorOfTrunk 27 = .ok (.invokestatic 69, 3) := by decide +kernel
theorem dX4_errorOfTrunk_30 : decode cX4_errorOfTrunk 30 = .ok (.ifCond .eq 34, 3) := by decide +kernel
theorem dX4_errorOfTrunk_33 : decode cX4_errorOfTrunk 33 = .ok (.aload_n 0, 1) := by decide +kernel
theorem dX4_errorOfTrunk_34 : decode cX4_errorOfTrunk 34 = .ok (.iload_n 1, 1) := by decide +kernel
theorem dX4_errorOfTrunk_35 : decode cX4_errorOfTrunk 35 = .ok (.invokevirtual 83, 3) := by decide +kernel
theorem dX4_errorOfTrunk_38 : decode cX4_errorOfTrunk 38 = .ok (.aload_n 0, 1) := by decide +kernel
theorem dX4_errorOfTrunk_39 : decode cX4_errorOfTrunk 39 = .ok (.iload_n 2, 1) := by decide +kernel
theorem dX4_errorOfTrunk_40 : decode cX4_errorOfTrunk 40 = .ok (.invokevirtual 83, 3) := by decide +kernel
theorem dX4_errorOfTrunk_43 : decode cX4_errorOfTrunk 43 = .ok (.if_icmp .eq 21, 3) := by decide +kernel
theorem dX4_errorOfTrunk_46 : decode cX4_errorOfTrunk 46 = .ok (.aload_n 0, 1) := by decide +kernel
theorem dX4_errorOfTrunk_47 : decode cX4_errorOfTrunk 47 = .ok (.iload_n 1, 1) := by decide +kernel
theorem dX4_errorOfTrunk_48 : decode cX4_errorOfTrunk 48 = .ok (.iload_n 3, 1) := by decide +kernel
theorem dX4_errorOfTrunk_49 : decode cX4_errorOfTrunk 49 = .ok (.invokevirtual 91, 3) := by decide +kernel
theorem dX4_errorOfTrunk_52 : decode cX4_errorOfTrunk 52 = .ok (.ifCond .eq 12, 3) := by decide +kernel
theorem dX4_errorOfTrunk_55 : decode cX4_errorOfTrunk 55 = .ok (.aload_n 0, 1) := by decide +kernel
theorem dX4_errorOfTrunk_56 : decode cX4_errorOfTrunk 56 = .ok (.iload_n 2, 1) := by decide +kernel
theorem dX4_errorOfTrunk_57 : decode cX4_errorOfTrunk 57 = .ok (.iload_n 3, 1) := by decide +kernel
theorem dX4_errorOfTrunk_58 : decode cX4_errorOfTrunk 58 = .ok (.invokevirtual 91, 3) := by decide +kernel
theorem dX4_errorOfTrunk_61 : decode cX4_errorOfTrunk 61 = .ok (.ifCond .ne 5, 3) := by decide +kernel
theorem dX4_errorOfTrunk_64 : decode cX4_errorOfTrunk 64 = .ok (.iconst 2, 1) := by decide +kernel
theorem dX4_errorOfTrunk_65 : decode cX4_errorOfTrunk 65 = .ok (.ireturn, 1) := by decide +kernel
theorem dX4_errorOfTrunk_66 : decode cX4_errorOfTrunk 66 = .ok (.aload_n 0, 1) := by decide +kernel
theorem dX4_errorOfTrunk_67 : decode cX4_errorOfTrunk 67 = .ok (.getfield 94, 3) := by decide +kernel
theorem dX4_errorOfTrunk_70 : decode cX4_errorOfTrunk 70 = .ok (.bipush 10, 2) := by decide +kernel
theorem dX4_errorOfTrunk_72 : decode cX4_errorOfTrunk 72 = .ok (.if_icmp .ne 7, 3) := by decide +kernel
theorem dX4_errorOfTrunk_75 : decode cX4_errorOfTrunk 75 = .ok (.iconst 1, 1) := by decide +kernel
theorem dX4_errorOfTrunk_76 : decode cX4_errorOfTrunk 76 = .ok (.goto 4, 3) := by decide +kernel
theorem dX4_errorOfTrunk_79 : decode cX4_errorOfTrunk 79 = .ok (.iconst 0, 1) := by decide +kernel
theorem dX4_errorOfTrunk_80 : decode cX4_errorOfTrunk 80 = .ok (.istore 5, 2) := by decide +kernel
theorem dX4_errorOfTrunk_82 : decode cX4_errorOfTrunk 82 = .ok (.iconst 0, 1) := by decide +kernel
theorem dX4_errorOfTrunk_83 : decode cX4_errorOfTrunk 83 = .ok (.istore 6, 2) := by decide +kernel
theorem dX4_errorOfTrunk_85 : decode cX4_errorOfTrunk 85 = .ok (.iload 6, 2) := by decide +kernel
theorem dX4_errorOfTrunk_87 : decode cX4_errorOfTrunk 87 = .ok (.iload_n 3, 1) := by decide +kernel
theorem dX4_errorOfTrunk_88 : decode cX4_errorOfTrunk 88 = .ok (.if_icmp .ge 47, 3) := by decide +kernel
theorem dX4_errorOfTrunk_91 : decode cX4_errorOfTrunk 91 = .ok (.iload 5, 2) := by decide +kernel
theorem dX4_errorOfTrunk_93 : decode cX4_errorOfTrunk 93 = .ok (.ifCond .ne 29, 3) := by decide +kernel
theorem dX4_errorOfTrunk_96 : decode cX4_errorOfTrunk 96 = .ok (.aload_n 0, 1) := by decide +kernel
theorem dX4_errorOfTrunk_97 : decode cX4_errorOfTrunk 97 = .ok (.getfield 22, 3) := by decide +kernel
theorem dX4_errorOfTrunk_100 : decode cX4_errorOfTrunk 100 = .ok (.iload_n 1, 1) := by decide +kernel
theorem dX4_errorOfTrunk_101 : decode cX4_errorOfTrunk 101 = .ok (.iload 6, 2) := by decide +kernel
theorem dX4_errorOfTrunk_103 : decode cX4_errorOfTrunk 103 = .ok (.iadd, 1) := by decide +kernel
theorem dX4_errorOfTrunk_104 : decode cX4_errorOfTrunk 104 = .ok (.iaload, 1) := by decide +kernel
theorem dX4_errorOfTrunk_105 : decode cX4_errorOfTrunk 105 = .ok (.iconst (-1), 1) := by decide +kernel
theorem dX4_errorOfTrunk_106 : decode cX4_errorOfTrunk 106 = .ok (.if_icmp .ne 16, 3) := by decide +kernel
theorem dX4_errorOfTrunk_109 : decode cX4_errorOfTrunk 109 = .ok (.aload_n 0, 1) := by decide +kernel
theorem dX4_errorOfTrunk_110 : decode cX4_errorOfTrunk 110 = .ok (.getfield 22, 3) := by decide +kernel
theorem dX4_errorOfTrunk_113 : decode cX4_errorOfTrunk 113 = .ok (.iload_n 2, 1) := by decide +kernel
theorem dX4_errorOfTrunk_114 : decode cX4_errorOfTrunk 114 = .ok (.iload 6, 2) := by decide +kernel
theorem dX4_errorOfTrunk_116 : decode cX4_errorOfTrunk 116 = .ok (.iadd, 1) := by decide +kernel
theorem dX4_errorOfTrunk_117 : decode cX4_errorOfTrunk 117 = .ok (.iaload, 1) := by decide +kernel
theorem dX4_errorOfTrunk_118 : decode cX4_errorOfTrunk 118 = .ok (.iconst (-1), 1) := by decide +kernel
theorem dX4_errorOfTrunk_119 : decode cX4_errorOfTrunk 119 = .ok (.if_icmp .eq 7, 3) := by decide +kernel
theorem dX4_errorOfTrunk_122 : decode cX4_errorOfTrunk 122 = .ok (.iconst 1, 1) := by decide +kernel
theorem dX4_errorOfTrunk_123 : decode cX4_errorOfTrunk 123 = .ok (.goto 4, 3) := by decide +kernel
theorem dX4_errorOfTrunk_126 : decode cX4_errorOfTrunk 126 = .ok (.iconst 0, 1) := by decide +kernel
theorem dX4_errorOfTrunk_127 : decode cX4_errorOfTrunk 127 = .ok (.istore 5, 2) := by decide +kernel
theorem dX4_errorOfTrunk_129 : decode cX4_errorOfTrunk 129 = .ok (.iinc 6 1, 3) := by decide +kernel
theorem dX4_errorOfTrunk_132 : decode cX4_errorOfTrunk 132 = .ok (.goto (-47), 3) := by decide +kernel
theorem dX4_errorOfTrunk_135 : decode cX4_errorOfTrunk 135 = .ok (.iload 5, 2) := by decide +kernel
theorem dX4_errorOfTrunk_137 : decode cX4_errorOfTrunk 137 = .ok (.ifCond .eq 7, 3) := by decide +kernel
theorem dX4_errorOfTrunk_140 : decode cX4_errorOfTrunk 140 = .ok (.iconst 3, 1) := by decide +kernel
theorem dX4_errorOfTrunk_141 : decode cX4_errorOfTrunk 141 = .ok (.goto 4, 3) := by decide +kernel
theorem dX4_errorOfTrunk_144 : decode cX4_errorOfTrunk 144 = .ok (.iconst 0, 1) := by decide +kernel
theorem dX4_errorOfTrunk_145 : decode cX4_errorOfTrunk 145 = .ok (.ireturn, 1) := by decide +kernel
set_option maxRecDepth 20000 in
theorem ggX4_addTrunk_X4_errorOfTrunk : GoodIn wsX4_addTrunk wsX4_errorOfTrunk := goodIn_r _ [10, 2, 11, 12, 13, 14, 9, 15, 16, 17, 18, 19, 20, 21, 22, 23, 24, 25, 26, 27, 28, 29, 30, 31, 32, 44, 45, 46, 47, 48, 49, 50, 51, 52, 53, 54, 55, 56, 57, 58, 59, 60, 61, 62, 63, 64, 65, 66, 67] (by decide +kernel) (by decide +kernel)
set_option maxRecDepth 20000 in
theorem gX4_addTrunk_X4_errorOfTrunk : GoodIn wsX4_addTrunk (wsV RX4 97 RX4 yX4_errorOfTrunk wsX4_errorOfTrunk) := goodIn_app (goodIn_of _ (by decide +kernel)) ggX4_addTrunk_X4_errorOfTrunk
set_option maxRecDepth 20000 in
theorem ggX4_addTrunk_X4_holds : GoodIn wsX4_addTrunk wsX4_holds := goodIn_r _ [36, 37, 44, 45, 46, 47, 48, 49, 50, 51, 52, 53, 54, 55, 56, 57, 58, 59, 60, 61, 62, 63, 64, 65, 66, 67] (by decide +kernel) (by decide +kernel)
set_option maxRecDepth 20000 in
theorem gX4_addTrunk_X4_holds : GoodIn wsX4_addTrunk (wsV RX4 80 RX4 yX4_holds wsX4_holds) := goodIn_app (goodIn_of _ (by decide +kernel)) ggX4_addTrunk_X4_holds
set_option maxRecDepth 20000 in
theorem ggX4_addTrunk_X4_joins : GoodIn wsX4_addTrunk wsX4_joins := goodIn_r _ [41, 11, 42, 2, 43, 44, 45, 46, 47, 48, 49, 50, 51, 52, 53, 54, 55, 56, 57, 58, 59, 60, 61, 62, 63, 64, 65, 66, 67] (by decide +kernel) (by decide +kernel)
set_option maxRecDepth 20000 in
theorem gX4_addTrunk_X4_joins : GoodIn wsX4_addTrunk (wsV RX4 101 RX4 yX4_joins wsX4_joins) := goodIn_app (goodIn_of _ (by decide +kernel)) ggX4_addTrunk_X4_joins
theorem dX4_addTrunk_0 : decode cX4_addTrunk 0 = .ok (.aload_n 0, 1) := by decide +kernel
theorem dX4_addTrunk_1 : decode cX4_addTrunk 1 = .ok (.aload_n 0, 1) := by decide +kernel
theorem dX4_addTrunk_2 : decode cX4_addTrunk 2 = .ok (.iload_n 1, 1) := by decide +kernel
theorem dX4_addTrunk_3 : decode cX4_addTrunk 3 = .ok (.iload_n 2, 1) := by decide +kernel
theorem dX4_addTrunk_4 : decode cX4_addTrunk 4 = .ok (.iload_n 3, 1) := by decide +kernel
theorem dX4_addTrunk_5 : decode cX4_addTrunk 5 = .ok (.iload 4, 2) := by decide +kernel
theorem dX4_addTrunk_7 : decode cX4_addTrunk 7 = .ok (.invokevirtual 97, 3) := by decide +kernel
theorem dX4_addTrunk_10 : decode cX4_addTrunk 10 = .ok (.invokevirtual 80, 3) := by decide +kernel
theorem dX4_addTrunk_13 : decode cX4_addTrunk 13 = .ok (.ifCond .ne 5, 3) := by decide +kernel
theorem dX4_addTrunk_16 : decode cX4_addTrunk 16 = .ok (.iconst 0, 1) := by decide +kernel
theorem dX4_addTrunk_17 : decode cX4_addTrunk 17 = .ok (.ireturn, 1) := by decide +kernel
theorem dX4_addTrunk_18 : decode cX4_addTrunk 18 = .ok (.iconst 0, 1) := by decide +kernel
theorem dX4_addTrunk_19 : decode cX4_addTrunk 19 = .ok (.istore 5, 2) := by decide +kernel
theorem dX4_addTrunk_21 : decode cX4_addTrunk 21 = .ok (.iload 5, 2) := by decide +kernel
theorem dX4_addTrunk_23 : decode cX4_addTrunk 23 = .ok (.iload_n 3, 1) := by decide +kernel
theorem dX4_addTrunk_24 : decode cX4_addTrunk 24 = .ok (.if_icmp .ge 33, 3) := by decide +kernel
theorem dX4_addTrunk_27 : decode cX4_addTrunk 27 = .ok (.aload_n 0, 1) := by decide +kernel
theorem dX4_addTrunk_28 : decode cX4_addTrunk 28 = .ok (.iload_n 1, 1) := by decide +kernel
theorem dX4_addTrunk_29 : decode cX4_addTrunk 29 = .ok (.iload 5, 2) := by decide +kernel
theorem dX4_addTrunk_31 : decode cX4_addTrunk 31 = .ok (.iadd, 1) := by decide +kernel
theorem dX4_addTrunk_32 : decode cX4_addTrunk 32 = .ok (.iload_n 2, 1) := by decide +kernel
theorem dX4_addTrunk_33 : decode cX4_addTrunk 33 = .ok (.iload 5, 2) := by decide +kernel
theorem dX4_addTrunk_35 : decode cX4_addTrunk 35 = .ok (.iadd, 1) := by decide +kernel
theorem dX4_addTrunk_36 : decode cX4_addTrunk 36 = .ok (.invokevirtual 101, 3) := by decide +kernel
theorem dX4_addTrunk_39 : decode cX4_addTrunk 39 = .ok (.aload_n 0, 1) := by decide +kernel
theorem dX4_addTrunk_40 : decode cX4_addTrunk 40 = .ok (.iload_n 2, 1) := by decide +kernel
theorem dX4_addTrunk_41 : decode cX4_addTrunk 41 = .ok (.iload 5, 2) := by decide +kernel
theorem dX4_addTrunk_43 : decode cX4_addTrunk 43 = .ok (.iadd, 1) := by decide +kernel
theorem dX4_addTrunk_44 : decode cX4_addTrunk 44 = .ok (.iload_n 1, 1) := by decide +kernel
theorem dX4_addTrunk_45 : decode cX4_addTrunk 45 = .ok (.iload 5, 2) := by decide +kernel
theorem dX4_addTrunk_47 : decode cX4_addTrunk 47 = .ok (.iadd, 1) := by decide +kernel
theorem dX4_addTrunk_48 : decode cX4_addTrunk 48 = .ok (.invokevirtual 101, 3) := by decide +kernel
theorem dX4_addTrunk_51 : decode cX4_addTrunk 51 = .ok (.iinc 5 1, 3) := by decide +kernel
theorem dX4_addTrunk_54 : decode cX4_addTrunk 54 = .ok (.goto (-33), 3) := by decide +kernel
theorem dX4_addTrunk_57 : decode cX4_addTrunk 57 = .ok (.aload_n 0, 1) := by decide +kernel
theorem dX4_addTrunk_58 : decode cX4_addTrunk 58 = .ok (.getfield 32, 3) := by decide +kernel
theorem dX4_addTrunk_61 : decode cX4_addTrunk 61 = .ok (.aload_n 0, 1) := by decide +kernel
theorem dX4_addTrunk_62 : decode cX4_addTrunk 62 = .ok (.getfield 94, 3) := by decide +kernel
theorem dX4_addTrunk_65 : decode cX4_addTrunk 65 = .ok (.iload_n 1, 1) := by decide +kernel
theorem dX4_addTrunk_66 : decode cX4_addTrunk 66 = .ok (.iastore, 1) := by decide +kernel
theorem dX4_addTrunk_67 : decode cX4_addTrunk 67 = .ok (.aload_n 0, 1) := by decide +kernel
theorem dX4_addTrunk_68 : decode cX4_addTrunk 68 = .ok (.getfield 35, 3) := by decide +kernel
theorem dX4_addTrunk_71 : decode cX4_addTrunk 71 = .ok (.aload_n 0, 1) := by decide +kernel
theorem dX4_addTrunk_72 : decode cX4_addTrunk 72 = .ok (.getfield 94, 3) := by decide +kernel
theorem dX4_addTrunk_75 : decode cX4_addTrunk 75 = .ok (.iload_n 2, 1) := by decide +kernel
theorem dX4_addTrunk_76 : decode cX4_addTrunk 76 = .ok (.iastore, 1) := by decide +kernel
theorem dX4_addTrunk_77 : decode cX4_addTrunk 77 = .ok (.aload_n 0, 1) := by decide +kernel
theorem dX4_addTrunk_78 : decode cX4_addTrunk 78 = .ok (.getfield 38, 3) := by decide +kernel
theorem dX4_addTrunk_81 : decode cX4_addTrunk 81 = .ok (.aload_n 0, 1) := by decide +kernel
theorem dX4_addTrunk_82 : decode cX4_addTrunk 82 = .ok (.getfield 94, 3) := by decide +kernel
theorem dX4_addTrunk_85 : decode cX4_addTrunk 85 = .ok (.iload_n 3, 1) := by decide +kernel
theorem dX4_addTrunk_86 : decode cX4_addTrunk 86 = .ok (.iastore, 1) := by decide +kernel
theorem dX4_addTrunk_87 : decode cX4_addTrunk 87 = .ok (.aload_n 0, 1) := by decide +kernel
theorem dX4_addTrunk_88 : decode cX4_addTrunk 88 = .ok (.getfield 41, 3) := by decide +kernel
theorem dX4_addTrunk_91 : decode cX4_addTrunk 91 = .ok (.aload_n 0, 1) := by decide +kernel
theorem dX4_addTrunk_92 : decode cX4_addTrunk 92 = .ok (.getfield 94, 3) := by decide +kernel
theorem dX4_addTrunk_95 : decode cX4_addTrunk 95 = .ok (.iload 4, 2) := by decide +kernel
theorem dX4_addTrunk_97 : decode cX4_addTrunk 97 = .ok (.iastore, 1) := by decide +kernel
theorem dX4_addTrunk_98 : decode cX4_addTrunk 98 = .ok (.aload_n 0, 1) := by decide +kernel
theorem dX4_addTrunk_99 : decode cX4_addTrunk 99 = .ok (.dup, 1) := by decide +kernel
theorem dX4_addTrunk_100 : decode cX4_addTrunk 100 = .ok (.getfield 94, 3) := by decide +kernel
theorem dX4_addTrunk_103 : decode cX4_addTrunk 103 = .ok (.iconst 1, 1) := by decide +kernel
theorem dX4_addTrunk_104 : decode cX4_addTrunk 104 = .ok (.iadd, 1) := by decide +kernel
theorem dX4_addTrunk_105 : decode cX4_addTrunk 105 = .ok (.putfield 94, 3) := by decide +kernel
theorem dX4_addTrunk_108 : decode cX4_addTrunk 108 = .ok (.aload_n 0, 1) := by decide +kernel
theorem dX4_addTrunk_109 : decode cX4_addTrunk 109 = .ok (.getfield 94, 3) := by decide +kernel
theorem dX4_addTrunk_112 : decode cX4_addTrunk 112 = .ok (.iconst 1, 1) := by decide +kernel
theorem dX4_addTrunk_113 : decode cX4_addTrunk 113 = .ok (.isub, 1) := by decide +kernel
theorem dX4_addTrunk_114 : decode cX4_addTrunk 114 = .ok (.ireturn, 1) := by decide +kernel
theorem dX4_joins_0 : decode cX4_joins 0 = .ok (.aload_n 0, 1) := by decide +kernel
theorem dX4_joins_1 : decode cX4_joins 1 = .ok (.getfield 22, 3) := by decide +kernel
theorem dX4_joins_4 : decode cX4_joins 4 = .ok (.iload_n 1, 1) := by decide +kernel
theorem dX4_joins_5 : decode cX4_joins 5 = .ok (.iload_n 2, 1) := by decide +kernel
theorem dX4_joins_6 : decode cX4_joins 6 = .ok (.iastore, 1) := by decide +kernel
theorem dX4_joins_7 : decode cX4_joins 7 = .ok (.aload_n 0, 1) := by decide +kernel
theorem dX4_joins_8 : decode cX4_joins 8 = .ok (.getfield 25, 3) := by decide +kernel
theorem dX4_joins_11 : decode cX4_joins 11 = .ok (.iload_n 1, 1) := by decide +kernel
theorem dX4_joins_12 : decode cX4_joins 12 = .ok (.aload_n 0, 1) := by decide +kernel
theorem dX4_joins_13 : decode cX4_joins 13 = .ok (.getfield 94, 3) := by decide +kernel
theorem dX4_joins_16 : decode cX4_joins 16 = .ok (.iastore, 1) := by decide +kernel
theorem dX4_joins_17 : decode cX4_joins 17 = .ok (.aload_n 0, 1) := by decide +kernel
theorem dX4_joins_18 : decode cX4_joins 18 = .ok (.getfield 28, 3) := by decide +kernel
theorem dX4_joins_21 : decode cX4_joins 21 = .ok (.iload_n 1, 1) := by decide +kernel
theorem dX4_joins_22 : decode cX4_joins 22 = .ok (.iconst 0, 1) := by decide +kernel
theorem dX4_joins_23 : decode cX4_joins 23 = .ok (.bastore, 1) := by decide +kernel
theorem dX4_joins_24 : decode cX4_joins 24 = .ok (.return_, 1) := by decide +kernel
set_option maxRecDepth 20000 in
theorem ggX4_isTrunk_X4_in : GoodIn wsX4_isTrunk wsX4_in := goodIn_r _ [5] (by decide +kernel) (by decide +kernel)
set_option maxRecDepth 20000 in
theorem gX4_isTrunk_X4_in : GoodIn wsX4_isTrunk (va_wsS RX4 69 yX4_in wsX4_in) := goodIn_app (goodIn_of _ (by decide +kernel)) ggX4_isTrunk_X4_in
theorem dX4_isTrunk_0 : decode cX4_isTrunk 0 = .ok (.iload_n 1, 1) := by decide +kernel
theorem dX4_isTrunk_1 : decode cX4_isTrunk 1 = .ok (.iconst 0, 1) := by decide +kernel
theorem dX4_isTrunk_2 : decode cX4_isTrunk 2 = .ok (.aload_n 0, 1) := by decide +kernel
theorem dX4_isTrunk_3 : decode cX4_isTrunk 3 = .ok (.getfield 94, 3) := by decide +kernel
theorem dX4_isTrunk_6 : decode cX4_isTrunk 6 = .ok (.iconst 1, 1) := by decide +kernel
theorem dX4_isTrunk_7 : decode cX4_isTrunk 7 = .ok (.isub, 1) := by decide +kernel
theorem dX4_isTrunk_8 : decode cX4_isTrunk 8 = .ok (.invokestatic 69, 3) := by decide +kernel
theorem dX4_isTrunk_11 : decode cX4_isTrunk 11 = .ok (.ireturn, 1) := by decide +kernel
set_option maxRecDepth 20000 in
theorem ggX4_setBroken_X4_isTrunk : GoodIn wsX4_setBroken wsX4_isTrunk := goodIn_r _ [9, 10, 11, 12, 8, 13, 19, 20, 21, 22, 23, 24, 25, 26, 27, 28, 29, 30, 31, 32, 33, 34, 35, 36, 37, 38, 39, 40, 41, 42] (by decide +kernel) (by decide +kernel)
set_option maxRecDepth 20000 in
theorem gX4_setBroken_X4_isTrunk : GoodIn wsX4_setBroken (wsV RX4 105 RX4 yX4_isTrunk wsX4_isTrunk) := goodIn_app (goodIn_of _ (by decide +kernel)) ggX4_setBroken_X4_isTrunk
set_option maxRecDepth 20000 in
theorem ggX4_setBroken_X4_in : GoodIn wsX4_setBroken wsX4_in := goodIn_r _ [13] (by decide +kernel) (by decide +kernel)
set_option maxRecDepth 20000 in
theorem gX4_setBroken_X4_in : GoodIn wsX4_setBroken (va_wsS RX4 69 yX4_in wsX4_in) := goodIn_app (goodIn_of _ (by decide +kernel)) ggX4_setBroken_X4_in
set_option maxRecDepth 20000 in
theorem ggX4_setBroken_X4_holds : GoodIn wsX4_setBroken wsX4_holds := goodIn_r _ [17, 18, 19, 20, 21, 22, 23, 24, 25, 26, 27, 28, 29, 30, 31, 32, 33, 34, 35, 36, 37, 38, 39, 40, 41, 42] (by decide +kernel) (by decide +kernel)
set_option maxRecDepth 20000 in
theorem gX4_setBroken_X4_holds : GoodIn wsX4_setBroken (wsV RX4 80 RX4 yX4_holds wsX4_holds) := goodIn_app (goodIn_of _ (by decide +kernel)) ggX4_setBroken_X4_holds
theorem dX4_setBroken_0 : decode cX4_setBroken 0 = .ok (.aload_n 0, 1) := by decide +kernel
theorem dX4_setBroken_1 : decode cX4_setBroken 1 = .ok (.aload_n 0, 1) := by decide +kernel
theorem dX4_setBroken_2 : decode cX4_setBroken 2 = .ok (.iload_n 1, 1) := by decide +kernel
theorem dX4_setBroken_3 : decode cX4_setBroken 3 = .ok (.invokevirtual 105, 3) := by decide +kernel
theorem dX4_setBroken_6 : decode cX4_setBroken 6 = .ok (.ifCond .eq 23, 3) := by decide +kernel
theorem dX4_setBroken_9 : decode cX4_setBroken 9 = .ok (.iload_n 2, 1) := by decide +kernel
theorem dX4_setBroken_10 : decode cX4_setBroken 10 = .ok (.iconst 0, 1) := by decide +kernel
theorem dX4_setBroken_11 : decode cX4_setBroken 11 = .ok (.aload_n 0, 1) := by decide +kernel
theorem dX4_setBroken_12 : decode cX4_setBroken 12 = .ok (.getfield 38, 3) := by decide +kernel
theorem dX4_setBroken_15 : decode cX4_setBroken 15 = .ok (.iload_n 1, 1) := by decide +kernel
theorem dX4_setBroken_16 : decode cX4_setBroken 16 = .ok (.iaload, 1) := by decide +kernel
theorem dX4_setBroken_17 : decode cX4_setBroken 17 = .ok (.iconst 1, 1) := by decide +kernel
theorem dX4_setBroken_18 : decode cX4_setBroken 18 = .ok (.isub, 1) := by decide +kernel
theorem dX4_setBroken_19 : decode cX4_setBroken 19 = .ok (.invokestatic 69, 3) := by decide +kernel
theorem dX4_setBroken_22 : decode cX4_setBroken 22 = .ok (.ifCond .eq 7, 3) := by decide +kernel
theorem dX4_setBroken_25 : decode cX4_setBroken 25 = .ok (.iconst 0, 1) := by decide +kernel
theorem dX4_setBroken_26 : decode cX4_setBroken 26 = .ok (.goto 4, 3) := by decide +kernel
theorem dX4_setBroken_29 : decode cX4_setBroken 29 = .ok (.iconst 1, 1) := by decide +kernel
theorem dX4_setBroken_30 : decode cX4_setBroken 30 = .ok (.invokevirtual 80, 3) := by decide +kernel
theorem dX4_setBroken_33 : decode cX4_setBroken 33 = .ok (.ifCond .ne 5, 3) := by decide +kernel
theorem dX4_setBroken_36 : decode cX4_setBroken 36 = .ok (.iconst 0, 1) := by decide +kernel
theorem dX4_setBroken_37 : decode cX4_setBroken 37 = .ok (.ireturn, 1) := by decide +kernel
theorem dX4_setBroken_38 : decode cX4_setBroken 38 = .ok (.aload_n 0, 1) := by decide +kernel
theorem dX4_setBroken_39 : decode cX4_setBroken 39 = .ok (.getfield 28, 3) := by decide +kernel
theorem dX4_setBroken_42 : decode cX4_setBroken 42 = .ok (.aload_n 0, 1) := by decide +kernel
theorem dX4_setBroken_43 : decode cX4_setBroken 43 = .ok (.getfield 32, 3) := by decide +kernel
theorem dX4_setBroken_46 : decode cX4_setBroken 46 = .ok (.iload_n 1, 1) := by decide +kernel
theorem dX4_setBroken_47 : decode cX4_setBroken 47 = .ok (.iaload, 1) := by decide +kernel
theorem dX4_setBroken_48 : decode cX4_setBroken 48 = .ok (.iload_n 2, 1) := by decide +kernel
theorem dX4_setBroken_49 : decode cX4_setBroken 49 = .ok (.iadd, 1) := by decide +kernel
theorem dX4_setBroken_50 : decode cX4_setBroken 50 = .ok (.baload, 1) := by decide +kernel
theorem dX4_setBroken_51 : decode cX4_setBroken 51 = .ok (.istore 4, 2) := by decide +kernel
theorem dX4_setBroken_53 : decode cX4_setBroken 53 = .ok (.aload_n 0, 1) := by decide +kernel
theorem dX4_setBroken_54 : decode cX4_setBroken 54 = .ok (.getfield 28, 3) := by decide +kernel
theorem dX4_setBroken_57 : decode cX4_setBroken 57 = .ok (.aload_n 0, 1) := by decide +kernel
theorem dX4_setBroken_58 : decode cX4_setBroken 58 = .ok (.getfield 32, 3) := by decide +kernel
theorem dX4_setBroken_61 : decode cX4_setBroken 61 = .ok (.iload_n 1, 1) := by decide +kernel
theorem dX4_setBroken_62 : decode cX4_setBroken 62 = .ok (.iaload, 1) := by decide +kernel
theorem dX4_setBroken_63 : decode cX4_setBroken 63 = .ok (.iload_n 2, 1) := by decide +kernel
theorem dX4_setBroken_64 : decode cX4_setBroken 64 = .ok (.iadd, 1) := by decide +kernel
theorem dX4_setBroken_65 : decode cX4_setBroken 65 = .ok (.iload_n 3, 1) := by decide +kernel
theorem dX4_setBroken_66 : decode cX4_setBroken 66 = .ok (.bastore, 1) := by decide +kernel
theorem dX4_setBroken_67 : decode cX4_setBroken 67 = .ok (.aload_n 0, 1) := by decide +kernel
theorem dX4_setBroken_68 : decode cX4_setBroken 68 = .ok (.getfield 28, 3) := by decide +kernel
theorem dX4_setBroken_71 : decode cX4_setBroken 71 = .ok (.aload_n 0, 1) := by decide +kernel
theorem dX4_setBroken_72 : decode cX4_setBroken 72 = .ok (.getfield 35, 3) := by decide +kernel
theorem dX4_setBroken_75 : decode cX4_setBroken 75 = .ok (.iload_n 1, 1) := by decide +kernel
theorem dX4_setBroken_76 : decode cX4_setBroken 76 = .ok (.iaload, 1) := by decide +kernel
theorem dX4_setBroken_77 : decode cX4_setBroken 77 = .ok (.iload_n 2, 1) := by decide +kernel
theorem dX4_setBroken_78 : decode cX4_setBroken 78 = .ok (.iadd, 1) := by decide +kernel
theorem dX4_setBroken_79 : decode cX4_setBroken 79 = .ok (.iload_n 3, 1) := by decide +kernel
theorem dX4_setBroken_80 : decode cX4_setBroken 80 = .ok (.bastore, 1) := by decide +kernel
theorem dX4_setBroken_81 : decode cX4_setBroken 81 = .ok (.iload 4, 2) := by decide +kernel
theorem dX4_setBroken_83 : decode cX4_setBroken 83 = .ok (.ireturn, 1) := by decide +kernel
set_option maxRecDepth 20000 in
theorem ggX4_length_X4_panel : GoodIn wsX4_length wsX4_panel := goodIn_r _ [6, 7, 8, 9, 10, 11, 12, 13, 14, 15, 16, 17, 18, 19, 20, 21, 22, 23, 24, 25, 26, 27, 28, 29, 30, 31] (by decide +kernel) (by decide +kernel)
set_option maxRecDepth 20000 in
theorem gX4_length_X4_panel : GoodIn wsX4_length (wsV RX4 83 RX4 yX4_panel wsX4_panel) := goodIn_app (goodIn_of _ (by decide +kernel)) ggX4_length_X4_panel
theorem dX4_length_0 : decode cX4_length 0 = .ok (.aload_n 0, 1) := by decide +kernel
theorem dX4_length_1 : decode cX4_length 1 = .ok (.getfield 7, 3) := by decide +kernel
theorem dX4_length_4 : decode cX4_length 4 = .ok (.aload_n 0, 1) := by decide +kernel
theorem dX4_length_5 : decode cX4_length 5 = .ok (.iload_n 1, 1) := by decide +kernel
theorem dX4_length_6 : decode cX4_length 6 = .ok (.invokevirtual 83, 3) := by decide +kernel
theorem dX4_length_9 : decode cX4_length 9 = .ok (.iaload, 1) := by decide +kernel
theorem dX4_length_10 : decode cX4_length 10 = .ok (.istore_n 3, 1) := by decide +kernel
theorem dX4_length_11 : decode cX4_length 11 = .ok (.aload_n 0, 1) := by decide +kernel
theorem dX4_length_12 : decode cX4_length 12 = .ok (.getfield 7, 3) := by decide +kernel
theorem dX4_length_15 : decode cX4_length 15 = .ok (.aload_n 0, 1) := by decide +kernel
theorem dX4_length_16 : decode cX4_length 16 = .ok (.iload_n 2, 1) := by decide +kernel
theorem dX4_length_17 : decode cX4_length 17 = .ok (.invokevirtual 83, 3) := by decide +kernel
theorem dX4_length_20 : decode cX4_length 20 = .ok (.iaload, 1) := by decide +kernel
theorem dX4_length_21 : decode cX4_length 21 = .ok (.istore 4, 2) := by decide +kernel
theorem dX4_length_23 : decode cX4_length 23 = .ok (.iload_n 3, 1) := by decide +kernel
theorem dX4_length_24 : decode cX4_length 24 = .ok (.iload 4, 2) := by decide +kernel
theorem dX4_length_26 : decode cX4_length 26 = .ok (.if_icmp .ne 22, 3) := by decide +kernel
theorem dX4_length_29 : decode cX4_length 29 = .ok (.aload_n 0, 1) := by decide +kernel
theorem dX4_length_30 : decode cX4_length 30 = .ok (.iload_n 1, 1) := by decide +kernel
theorem dX4_length_31 : decode cX4_length 31 = .ok (.invokevirtual 83, 3) := by decide +kernel
theorem dX4_length_34 : decode cX4_length 34 = .ok (.aload_n 0, 1) := by decide +kernel
theorem dX4_length_35 : decode cX4_length 35 = .ok (.iload_n 2, 1) := by decide +kernel
theorem dX4_length_36 : decode cX4_length 36 = .ok (.invokevirtual 83, 3) := by decide +kernel
theorem dX4_length_39 : decode cX4_length 39 = .ok (.if_icmp .ne 7, 3) := by decide +kernel
theorem dX4_length_42 : decode cX4_length 42 = .ok (.iconst 1, 1) := by decide +kernel
theorem dX4_length_43 : decode cX4_length 43 = .ok (.goto 4, 3) := by decide +kernel
theorem dX4_length_46 : decode cX4_length 46 = .ok (.iconst 2, 1) := by decide +kernel
theorem dX4_length_47 : decode cX4_length 47 = .ok (.ireturn, 1) := by decide +kernel
theorem dX4_length_48 : decode cX4_length 48 = .ok (.iconst 3, 1) := by decide +kernel
theorem dX4_length_49 : decode cX4_length 49 = .ok (.iconst 2, 1) := by decide +kernel
theorem dX4_length_50 : decode cX4_length 50 = .ok (.iload_n 3, 1) := by decide +kernel
theorem dX4_length_51 : decode cX4_length 51 = .ok (.iload 4, 2) := by decide +kernel
theorem dX4_length_53 : decode cX4_length 53 = .ok (.if_icmp .le 10, 3) := by decide +kernel
theorem dX4_length_56 : decode cX4_length 56 = .ok (.iload_n 3, 1) := by decide +kernel
theorem dX4_length_57 : decode cX4_length 57 = .ok (.iload 4, 2) := by decide +kernel
theorem dX4_length_59 : decode cX4_length 59 = .ok (.isub, 1) := by decide +kernel
theorem dX4_length_60 : decode cX4_length 60 = .ok (.goto 7, 3) := by decide +kernel
theorem dX4_length_63 : decode cX4_length 63 = .ok (.iload 4, 2) := by decide +kernel
theorem dX4_length_65 : decode cX4_length 65 = .ok (.iload_n 3, 1) := by decide +kernel
theorem dX4_length_66 : decode cX4_length 66 = .ok (.isub, 1) := by decide +kernel
theorem dX4_length_67 : decode cX4_length 67 = .ok (.imul, 1) := by decide +kernel
theorem dX4_length_68 : decode cX4_length 68 = .ok (.iadd, 1) := by decide +kernel
theorem dX4_length_69 : decode cX4_length 69 = .ok (.ireturn, 1) := by decide +kernel
set_option maxRecDepth 20000 in
theorem ggX4_plug_X4_arePorts : GoodIn wsX4_plug wsX4_arePorts := goodIn_r _ [7, 8, 9, 10, 6, 11, 12, 13, 14, 15, 31, 32, 33, 34, 35, 36, 37, 38, 39, 40, 41, 42, 43, 44, 45, 46, 47, 48, 49, 50, 51, 52, 53, 54] (by decide +kernel) (by decide +kernel)
set_option maxRecDepth 20000 in
theorem gX4_plug_X4_arePorts : GoodIn wsX4_plug (wsV RX4 87 RX4 yX4_arePorts wsX4_arePorts) := goodIn_app (goodIn_of _ (by decide +kernel)) ggX4_plug_X4_arePorts
set_option maxRecDepth 20000 in
theorem ggX4_plug_X4_in : GoodIn wsX4_plug wsX4_in := goodIn_r _ [15] (by decide +kernel) (by decide +kernel)
set_option maxRecDepth 20000 in
theorem gX4_plug_X4_in : GoodIn wsX4_plug (va_wsS RX4 69 yX4_in wsX4_in) := goodIn_app (goodIn_of _ (by decide +kernel)) ggX4_plug_X4_in
set_option maxRecDepth 20000 in
theorem ggX4_plug_X4_holds : GoodIn wsX4_plug wsX4_holds := goodIn_r _ [19, 20, 31, 32, 33, 34, 35, 36, 37, 38, 39, 40, 41, 42, 43, 44, 45, 46, 47, 48, 49, 50, 51, 52, 53, 54] (by decide +kernel) (by decide +kernel)
set_option maxRecDepth 20000 in
theorem gX4_plug_X4_holds : GoodIn wsX4_plug (wsV RX4 80 RX4 yX4_holds wsX4_holds) := goodIn_app (goodIn_of _ (by decide +kernel)) ggX4_plug_X4_holds
set_option maxRecDepth 20000 in
theorem ggX4_plug_X4_length : GoodIn wsX4_plug wsX4_length := goodIn_r _ [24, 25, 26, 27, 28, 6, 29, 30, 31, 32, 33, 34, 35, 36, 37, 38, 39, 40, 41, 42, 43, 44, 45, 46, 47, 48, 49, 50, 51, 52, 53, 54] (by decide +kernel) (by decide +kernel)
set_option maxRecDepth 20000 in
theorem gX4_plug_X4_length : GoodIn wsX4_plug (wsV RX4 108 RX4 yX4_length wsX4_length) := goodIn_app (goodIn_of _ (by decide +kernel)) ggX4_plug_X4_length
theorem dX4_plug_0 : decode cX4_plug 0 = .ok (.aload_n 0, 1) := by decide +kernel
theorem dX4_plug_1 : decode cX4_plug 1 = .ok (.aload_n 0, 1) := by decide +kernel
theorem dX4_plug_2 : decode cX4_plug 2 = .ok (.iload_n 1, 1) := by decide +kernel
theorem dX4_plug_3 : decode cX4_plug 3 = .ok (.iload_n 2, 1) := by decide +kernel
theorem dX4_plug_4 : decode cX4_plug 4 = .ok (.invokevirtual 87, 3) := by decide +kernel
theorem dX4_plug_7 : decode cX4_plug 7 = .ok (.ifCond .ne 7, 3) := by decide +kernel
theorem dX4_plug_10 : decode cX4_plug 10 = .ok (.iconst 1, 1) := by decide +kernel
theorem dX4_plug_11 : decode cX4_plug 11 = .ok (.goto 47, 3) := by decide +kernel
theorem dX4_plug_14 : decode cX4_plug 14 = .ok (.iload_n 3, 1) := by decide +kernel
theorem dX4_plug_15 : decode cX4_plug 15 = .ok (.iconst 1, 1) := by decide +kernel
theorem dX4_plug_16 : decode cX4_plug 16 = .ok (.bipush 9, 2) := by decide +kernel
theorem dX4_plug_18 : decode cX4_plug 18 = .ok (.invokestatic 69, 3) := by decide +kernel
theorem dX4_plug_21 : decode cX4_plug 21 = .ok (.ifCond .eq 8, 3) := by decide +kernel
theorem dX4_plug_24 : decode cX4_plug 24 = .ok (.iload_n 1, 1) := by decide +kernel
theorem dX4_plug_25 : decode cX4_plug 25 = .ok (.iload_n 2, 1) := by decide +kernel
theorem dX4_plug_26 : decode cX4_plug 26 = .ok (.if_icmp .ne 7, 3) := by decide +kernel
theorem dX4_plug_29 : decode cX4_plug 29 = .ok (.iconst 2, 1) := by decide +kernel
theorem dX4_plug_30 : decode cX4_plug 30 = .ok (.goto 28, 3) := by decide +kernel
theorem dX4_plug_33 : decode cX4_plug 33 = .ok (.aload_n 0, 1) := by decide +kernel
theorem dX4_plug_34 : decode cX4_plug 34 = .ok (.getfield 16, 3) := by decide +kernel
theorem dX4_plug_37 : decode cX4_plug 37 = .ok (.iload_n 1, 1) := by decide +kernel
theorem dX4_plug_38 : decode cX4_plug 38 = .ok (.iaload, 1) := by decide +kernel
theorem dX4_plug_39 : decode cX4_plug 39 = .ok (.iconst (-1), 1) := by decide +kernel
theorem dX4_plug_40 : decode cX4_plug 40 = .ok (.if_icmp .ne 13, 3) := by decide +kernel
theorem dX4_plug_43 : decode cX4_plug 43 = .ok (.aload_n 0, 1) := by decide +kernel
theorem dX4_plug_44 : decode cX4_plug 44 = .ok (.getfield 16, 3) := by decide +kernel
theorem dX4_plug_47 : decode cX4_plug 47 = .ok (.iload_n 2, 1) := by decide +kernel
theorem dX4_plug_48 : decode cX4_plug 48 = .ok (.iaload, 1) := by decide +kernel
theorem dX4_plug_49 : decode cX4_plug 49 = .ok (.iconst (-1), 1) := by decide +kernel
theorem dX4_plug_50 : decode cX4_plug 50 = .ok (.if_icmp .eq 7, 3) := by decide +kernel
theorem dX4_plug_53 : decode cX4_plug 53 = .ok (.iconst 3, 1) := by decide +kernel
theorem dX4_plug_54 : decode cX4_plug 54 = .ok (.goto 4, 3) := by decide +kernel
theorem dX4_plug_57 : decode cX4_plug 57 = .ok (.iconst 0, 1) := by decide +kernel
theorem dX4_plug_58 : decode cX4_plug 58 = .ok (.invokevirtual 80, 3) := by decide +kernel
theorem dX4_plug_61 : decode cX4_plug 61 = .ok (.ifCond .ne 5, 3) := by decide +kernel
theorem dX4_plug_64 : decode cX4_plug 64 = .ok (.iconst 0, 1) := by decide +kernel
theorem dX4_plug_65 : decode cX4_plug 65 = .ok (.ireturn, 1) := by decide +kernel
theorem dX4_plug_66 : decode cX4_plug 66 = .ok (.aload_n 0, 1) := by decide +kernel
theorem dX4_plug_67 : decode cX4_plug 67 = .ok (.getfield 16, 3) := by decide +kernel
theorem dX4_plug_70 : decode cX4_plug 70 = .ok (.iload_n 1, 1) := by decide +kernel
theorem dX4_plug_71 : decode cX4_plug 71 = .ok (.iload_n 2, 1) := by decide +kernel
theorem dX4_plug_72 : decode cX4_plug 72 = .ok (.iastore, 1) := by decide +kernel
theorem dX4_plug_73 : decode cX4_plug 73 = .ok (.aload_n 0, 1) := by decide +kernel
theorem dX4_plug_74 : decode cX4_plug 74 = .ok (.getfield 16, 3) := by decide +kernel
theorem dX4_plug_77 : decode cX4_plug 77 = .ok (.iload_n 2, 1) := by decide +kernel
theorem dX4_plug_78 : decode cX4_plug 78 = .ok (.iload_n 1, 1) := by decide +kernel
theorem dX4_plug_79 : decode cX4_plug 79 = .ok (.iastore, 1) := by decide +kernel
theorem dX4_plug_80 : decode cX4_plug 80 = .ok (.aload_n 0, 1) := by decide +kernel
theorem dX4_plug_81 : decode cX4_plug 81 = .ok (.getfield 19, 3) := by decide +kernel
theorem dX4_plug_84 : decode cX4_plug 84 = .ok (.iload_n 1, 1) := by decide +kernel
theorem dX4_plug_85 : decode cX4_plug 85 = .ok (.iload_n 3, 1) := by decide +kernel
theorem dX4_plug_86 : decode cX4_plug 86 = .ok (.iastore, 1) := by decide +kernel
theorem dX4_plug_87 : decode cX4_plug 87 = .ok (.aload_n 0, 1) := by decide +kernel
theorem dX4_plug_88 : decode cX4_plug 88 = .ok (.getfield 19, 3) := by decide +kernel
theorem dX4_plug_91 : decode cX4_plug 91 = .ok (.iload_n 2, 1) := by decide +kernel
theorem dX4_plug_92 : decode cX4_plug 92 = .ok (.iload_n 3, 1) := by decide +kernel
theorem dX4_plug_93 : decode cX4_plug 93 = .ok (.iastore, 1) := by decide +kernel
theorem dX4_plug_94 : decode cX4_plug 94 = .ok (.aload_n 0, 1) := by decide +kernel
theorem dX4_plug_95 : decode cX4_plug 95 = .ok (.iload_n 1, 1) := by decide +kernel
theorem dX4_plug_96 : decode cX4_plug 96 = .ok (.iload_n 2, 1) := by decide +kernel
theorem dX4_plug_97 : decode cX4_plug 97 = .ok (.invokevirtual 108, 3) := by decide +kernel
theorem dX4_plug_100 : decode cX4_plug 100 = .ok (.ireturn, 1) := by decide +kernel
set_option maxRecDepth 20000 in
theorem ggX4_pull_X4_isPort : GoodIn wsX4_pull wsX4_isPort := goodIn_r _ [6, 7, 8, 9, 5, 10, 16, 17, 18, 19, 20, 21, 22, 23, 24, 25, 26, 27, 28, 29, 30, 31, 32, 33, 34, 35, 36, 37, 38, 39] (by decide +kernel) (by decide +kernel)
set_option maxRecDepth 20000 in
theorem gX4_pull_X4_isPort : GoodIn wsX4_pull (wsV RX4 73 RX4 yX4_isPort wsX4_isPort) := goodIn_app (goodIn_of _ (by decide +kernel)) ggX4_pull_X4_isPort
set_option maxRecDepth 20000 in
theorem ggX4_pull_X4_holds : GoodIn wsX4_pull wsX4_holds := goodIn_r _ [14, 15, 16, 17, 18, 19, 20, 21, 22, 23, 24, 25, 26, 27, 28, 29, 30, 31, 32, 33, 34, 35, 36, 37, 38, 39] (by decide +kernel) (by decide +kernel)
set_option maxRecDepth 20000 in
theorem gX4_pull_X4_holds : GoodIn wsX4_pull (wsV RX4 80 RX4 yX4_holds wsX4_holds) := goodIn_app (goodIn_of _ (by decide +kernel)) ggX4_pull_X4_holds
theorem dX4_pull_0 : decode cX4_pull 0 = .ok (.aload_n 0, 1) := by decide +kernel
theorem dX4_pull_1 : decode cX4_pull 1 = .ok (.aload_n 0, 1) := by decide +kernel
theorem dX4_pull_2 : decode cX4_pull 2 = .ok (.iload_n 1, 1) := by decide +kernel
theorem dX4_pull_3 : decode cX4_pull 3 = .ok (.invokevirtual 73, 3) := by decide +kernel
theorem dX4_pull_6 : decode cX4_pull 6 = .ok (.ifCond .ne 7, 3) := by decide +kernel
theorem dX4_pull_9 : decode cX4_pull 9 = .ok (.iconst 1, 1) := by decide +kernel
theorem dX4_pull_10 : decode cX4_pull 10 = .ok (.goto 18, 3) := by decide +kernel
theorem dX4_pull_13 : decode cX4_pull 13 = .ok (.aload_n 0, 1) := by decide +kernel
theorem dX4_pull_14 : decode cX4_pull 14 = .ok (.getfield 16, 3) := by decide +kernel
theorem dX4_pull_17 : decode cX4_pull 17 = .ok (.iload_n 1, 1) := by decide +kernel
theorem dX4_pull_18 : decode cX4_pull 18 = .ok (.iaload, 1) := by decide +kernel
theorem dX4_pull_19 : decode cX4_pull 19 = .ok (.iconst (-1), 1) := by decide +kernel
theorem dX4_pull_20 : decode cX4_pull 20 = .ok (.if_icmp .ne 7, 3) := by decide +kernel
theorem dX4_pull_23 : decode cX4_pull 23 = .ok (.iconst 2, 1) := by decide +kernel
theorem dX4_pull_24 : decode cX4_pull 24 = .ok (.goto 4, 3) := by decide +kernel
theorem dX4_pull_27 : decode cX4_pull 27 = .ok (.iconst 0, 1) := by decide +kernel
theorem dX4_pull_28 : decode cX4_pull 28 = .ok (.invokevirtual 80, 3) := by decide +kernel
theorem dX4_pull_31 : decode cX4_pull 31 = .ok (.ifCond .ne 5, 3) := by decide +kernel
theorem dX4_pull_34 : decode cX4_pull 34 = .ok (.iconst 0, 1) := by decide +kernel
theorem dX4_pull_35 : decode cX4_pull 35 = .ok (.ireturn, 1) := by decide +kernel
theorem dX4_pull_36 : decode cX4_pull 36 = .ok (.aload_n 0, 1) := by decide +kernel
theorem dX4_pull_37 : decode cX4_pull 37 = .ok (.getfield 16, 3) := by decide +kernel
theorem dX4_pull_40 : decode cX4_pull 40 = .ok (.iload_n 1, 1) := by decide +kernel
theorem dX4_pull_41 : decode cX4_pull 41 = .ok (.iaload, 1) := by decide +kernel
theorem dX4_pull_42 : decode cX4_pull 42 = .ok (.istore_n 2, 1) := by decide +kernel
theorem dX4_pull_43 : decode cX4_pull 43 = .ok (.aload_n 0, 1) := by decide +kernel
theorem dX4_pull_44 : decode cX4_pull 44 = .ok (.getfield 16, 3) := by decide +kernel
theorem dX4_pull_47 : decode cX4_pull 47 = .ok (.iload_n 1, 1) := by decide +kernel
theorem dX4_pull_48 : decode cX4_pull 48 = .ok (.iconst (-1), 1) := by decide +kernel
theorem dX4_pull_49 : decode cX4_pull 49 = .ok (.iastore, 1) := by decide +kernel
theorem dX4_pull_50 : decode cX4_pull 50 = .ok (.aload_n 0, 1) := by decide +kernel
theorem dX4_pull_51 : decode cX4_pull 51 = .ok (.getfield 16, 3) := by decide +kernel
theorem dX4_pull_54 : decode cX4_pull 54 = .ok (.iload_n 2, 1) := by decide +kernel
theorem dX4_pull_55 : decode cX4_pull 55 = .ok (.iconst (-1), 1) := by decide +kernel
theorem dX4_pull_56 : decode cX4_pull 56 = .ok (.iastore, 1) := by decide +kernel
theorem dX4_pull_57 : decode cX4_pull 57 = .ok (.iload_n 2, 1) := by decide +kernel
theorem dX4_pull_58 : decode cX4_pull 58 = .ok (.ireturn, 1) := by decide +kernel
set_option maxRecDepth 20000 in
theorem ggX4_addMove_X4_arePorts : GoodIn wsX4_addMove wsX4_arePorts := goodIn_r _ [8, 9, 10, 11, 7, 12, 13, 14, 15, 16, 22, 23, 24, 25, 26, 27, 28, 29, 30, 31, 32, 33, 34, 35, 36, 37, 38, 39, 40, 41, 42, 43, 44, 45] (by decide +kernel) (by decide +kernel)
set_option maxRecDepth 20000 in
theorem gX4_addMove_X4_arePorts : GoodIn wsX4_addMove (wsV RX4 87 RX4 yX4_arePorts wsX4_arePorts) := goodIn_app (goodIn_of _ (by decide +kernel)) ggX4_addMove_X4_arePorts
set_option maxRecDepth 20000 in
theorem ggX4_addMove_X4_holds : GoodIn wsX4_addMove wsX4_holds := goodIn_r _ [20, 21, 22, 23, 24, 25, 26, 27, 28, 29, 30, 31, 32, 33, 34, 35, 36, 37, 38, 39, 40, 41, 42, 43, 44, 45] (by decide +kernel) (by decide +kernel)
set_option maxRecDepth 20000 in
theorem gX4_addMove_X4_holds : GoodIn wsX4_addMove (wsV RX4 80 RX4 yX4_holds wsX4_holds) := goodIn_app (goodIn_of _ (by decide +kernel)) ggX4_addMove_X4_holds
theorem dX4_addMove_0 : decode cX4_addMove 0 = .ok (.aload_n 0, 1) := by decide +kernel
theorem dX4_addMove_1 : decode cX4_addMove 1 = .ok (.aload_n 0, 1) := by decide +kernel
theorem dX4_addMove_2 : decode cX4_addMove 2 = .ok (.iload_n 1, 1) := by decide +kernel
theorem dX4_addMove_3 : decode cX4_addMove 3 = .ok (.iload_n 2, 1) := by decide +kernel
theorem dX4_addMove_4 : decode cX4_addMove 4 = .ok (.invokevirtual 87, 3) := by decide +kernel
theorem dX4_addMove_7 : decode cX4_addMove 7 = .ok (.ifCond .ne 7, 3) := by decide +kernel
theorem dX4_addMove_10 : decode cX4_addMove 10 = .ok (.iconst 1, 1) := by decide +kernel
theorem dX4_addMove_11 : decode cX4_addMove 11 = .ok (.goto 26, 3) := by decide +kernel
theorem dX4_addMove_14 : decode cX4_addMove 14 = .ok (.iload_n 1, 1) := by decide +kernel
theorem dX4_addMove_15 : decode cX4_addMove 15 = .ok (.iload_n 2, 1) := by decide +kernel
theorem dX4_addMove_16 : decode cX4_addMove 16 = .ok (.if_icmp .ne 7, 3) := by decide +kernel
theorem dX4_addMove_19 : decode cX4_addMove 19 = .ok (.iconst 2, 1) := by decide +kernel
theorem dX4_addMove_20 : decode cX4_addMove 20 = .ok (.goto 17, 3) := by decide +kernel
theorem dX4_addMove_23 : decode cX4_addMove 23 = .ok (.aload_n 0, 1) := by decide +kernel
theorem dX4_addMove_24 : decode cX4_addMove 24 = .ok (.getfield 112, 3) := by decide +kernel
theorem dX4_addMove_27 : decode cX4_addMove 27 = .ok (.bipush 12, 2) := by decide +kernel
theorem dX4_addMove_29 : decode cX4_addMove 29 = .ok (.if_icmp .ne 7, 3) := by decide +kernel
theorem dX4_addMove_32 : decode cX4_addMove 32 = .ok (.iconst 3, 1) := by decide +kernel
theorem dX4_addMove_33 : decode cX4_addMove 33 = .ok (.goto 4, 3) := by decide +kernel
theorem dX4_addMove_36 : decode cX4_addMove 36 = .ok (.iconst 0, 1) := by decide +kernel
theorem dX4_addMove_37 : decode cX4_addMove 37 = .ok (.invokevirtual 80, 3) := by decide +kernel
theorem dX4_addMove_40 : decode cX4_addMove 40 = .ok (.ifCond .ne 5, 3) := by decide +kernel
theorem dX4_addMove_43 : decode cX4_addMove 43 = .ok (.iconst 0, 1) := by decide +kernel
theorem dX4_addMove_44 : decode cX4_addMove 44 = .ok (.ireturn, 1) := by decide +kernel
theorem dX4_addMove_45 : decode cX4_addMove 45 = .ok (.aload_n 0, 1) := by decide +kernel
theorem dX4_addMove_46 : decode cX4_addMove 46 = .ok (.getfield 44, 3) := by decide +kernel
theorem dX4_addMove_49 : decode cX4_addMove 49 = .ok (.aload_n 0, 1) := by decide +kernel
theorem dX4_addMove_50 : decode cX4_addMove 50 = .ok (.getfield 112, 3) := by decide +kernel
theorem dX4_addMove_53 : decode cX4_addMove 53 = .ok (.iload_n 1, 1) := by decide +kernel
theorem dX4_addMove_54 : decode cX4_addMove 54 = .ok (.iastore, 1) := by decide +kernel
theorem dX4_addMove_55 : decode cX4_addMove 55 = .ok (.aload_n 0, 1) := by decide +kernel
theorem dX4_addMove_56 : decode cX4_addMove 56 = .ok (.getfield 47, 3) := by decide +kernel
theorem dX4_addMove_59 : decode cX4_addMove 59 = .ok (.aload_n 0, 1) := by decide +kernel
theorem dX4_addMove_60 : decode cX4_addMove 60 = .ok (.getfield 112, 3) := by decide +kernel
theorem dX4_addMove_63 : decode cX4_addMove 63 = .ok (.iload_n 2, 1) := by decide +kernel
theorem dX4_addMove_64 : decode cX4_addMove 64 = .ok (.iastore, 1) := by decide +kernel
theorem dX4_addMove_65 : decode cX4_addMove 65 = .ok (.aload_n 0, 1) := by decide +kernel
theorem dX4_addMove_66 : decode cX4_addMove 66 = .ok (.dup, 1) := by decide +kernel
theorem dX4_addMove_67 : decode cX4_addMove 67 = .ok (.getfield 112, 3) := by decide +kernel
