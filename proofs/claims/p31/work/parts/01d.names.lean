set_option maxRecDepth 20000 in
theorem ggX3_carryOut_X1_size : GoodIn wsX3_carryOut wsX1_size := goodIn_r _ [13, 14, 115, 116, 117, 118, 119] (by decide +kernel) (by decide +kernel)
set_option maxRecDepth 20000 in
theorem gX3_carryOut_X1_size : GoodIn wsX3_carryOut (wsV RX3 167 RX1 yX1_size wsX1_size) := goodIn_app (goodIn_of _ (by decide +kernel)) ggX3_carryOut_X1_size
set_option maxRecDepth 20000 in
theorem ggX3_carryOut_X3_pullPlannedEnds : GoodIn wsX3_carryOut wsX3_pullPlannedEnds := goodIn_r _ [55, 3, 31, 56, 9, 10, 11, 12, 13, 14, 15, 16, 17, 18, 19, 20, 21, 22, 23, 24, 25, 26, 32, 57, 58, 59, 60, 61, 62, 63, 64, 65, 66, 67, 68, 69, 7, 70, 71, 96, 97, 98, 99, 100, 101, 102, 103, 104, 105, 106, 107, 108, 109, 110, 111, 112, 113, 114, 115, 116, 117, 118, 119, 120, 121] (by decide +kernel) (by decide +kernel)
set_option maxRecDepth 20000 in
theorem gX3_carryOut_X3_pullPlannedEnds : GoodIn wsX3_carryOut (wsV RX3 185 RX3 yX3_pullPlannedEnds wsX3_pullPlannedEnds) := goodIn_app (goodIn_of _ (by decide +kernel)) ggX3_carryOut_X3_pullPlannedEnds
set_option maxRecDepth 20000 in
theorem ggX3_carryOut_X3_plugPlannedEnds : GoodIn wsX3_carryOut wsX3_plugPlannedEnds := goodIn_r _ [75, 3, 9, 10, 11, 12, 13, 14, 76, 77, 78, 79, 61, 20, 21, 22, 23, 24, 25, 26, 80, 81, 82, 83, 37, 16, 17, 18, 19, 38, 39, 40, 41, 42, 43, 84, 85, 86, 87, 62, 88, 89, 90, 7, 91, 31, 56, 71, 64, 65, 66, 96, 97, 98, 99, 100, 101, 102, 103, 104, 105, 106, 107, 108, 109, 110, 111, 112, 113, 114, 115, 116, 117, 118, 119, 120, 121] (by decide +kernel) (by decide +kernel)
set_option maxRecDepth 20000 in
theorem gX3_carryOut_X3_plugPlannedEnds : GoodIn wsX3_carryOut (wsV RX3 188 RX3 yX3_plugPlannedEnds wsX3_plugPlannedEnds) := goodIn_app (goodIn_of _ (by decide +kernel)) ggX3_carryOut_X3_plugPlannedEnds
set_option maxRecDepth 20000 in
theorem ggX3_carryOut_X1_clear : GoodIn wsX3_carryOut wsX1_clear := goodIn_r _ [95, 14, 115, 116, 117, 118, 119] (by decide +kernel) (by decide +kernel)
set_option maxRecDepth 20000 in
theorem gX3_carryOut_X1_clear : GoodIn wsX3_carryOut (wsV RX3 176 RX1 yX1_clear wsX1_clear) := goodIn_app (goodIn_of _ (by decide +kernel)) ggX3_carryOut_X1_clear
theorem dX3_carryOut_0 : decode cX3_carryOut 0 = .ok (.aload_n 0, 1) := by decide +kernel
theorem dX3_carryOut_1 : decode cX3_carryOut 1 = .ok (.invokevirtual 179, 3) := by decide +kernel
theorem dX3_carryOut_4 : decode cX3_carryOut 4 = .ok (.ifCond .ne 13, 3) := by decide +kernel
theorem dX3_carryOut_7 : decode cX3_carryOut 7 = .ok (.new 94, 3) := by decide +kernel
theorem dX3_carryOut_10 : decode cX3_carryOut 10 = .ok (.dup, 1) := by decide +kernel
theorem dX3_carryOut_11 : decode cX3_carryOut 11 = .ok (.ldc 183, 2) := by decide +kernel
theorem dX3_carryOut_13 : decode cX3_carryOut 13 = .ok (.invokespecial 98, 3) := by decide +kernel
theorem dX3_carryOut_16 : decode cX3_carryOut 16 = .ok (.athrow, 1) := by decide +kernel
theorem dX3_carryOut_17 : decode cX3_carryOut 17 = .ok (.aload_n 0, 1) := by decide +kernel
theorem dX3_carryOut_18 : decode cX3_carryOut 18 = .ok (.getfield 60, 3) := by decide +kernel
theorem dX3_carryOut_21 : decode cX3_carryOut 21 = .ok (.invokevirtual 167, 3) := by decide +kernel
theorem dX3_carryOut_24 : decode cX3_carryOut 24 = .ok (.istore_n 1, 1) := by decide +kernel
theorem dX3_carryOut_25 : decode cX3_carryOut 25 = .ok (.aload_n 0, 1) := by decide +kernel
theorem dX3_carryOut_26 : decode cX3_carryOut 26 = .ok (.invokevirtual 185, 3) := by decide +kernel
theorem dX3_carryOut_29 : decode cX3_carryOut 29 = .ok (.aload_n 0, 1) := by decide +kernel
theorem dX3_carryOut_30 : decode cX3_carryOut 30 = .ok (.invokevirtual 188, 3) := by decide +kernel
theorem dX3_carryOut_33 : decode cX3_carryOut 33 = .ok (.aload_n 0, 1) := by decide +kernel
theorem dX3_carryOut_34 : decode cX3_carryOut 34 = .ok (.getfield 60, 3) := by decide +kernel
theorem dX3_carryOut_37 : decode cX3_carryOut 37 = .ok (.invokevirtual 176, 3) := by decide +kernel
theorem dX3_carryOut_40 : decode cX3_carryOut 40 = .ok (.iload_n 1, 1) := by decide +kernel
theorem dX3_carryOut_41 : decode cX3_carryOut 41 = .ok (.ireturn, 1) := by decide +kernel
theorem dX3_ports_0 : decode cX3_ports 0 = .ok (.aload_n 0, 1) := by decide +kernel
theorem dX3_ports_1 : decode cX3_ports 1 = .ok (.getfield 77, 3) := by decide +kernel
theorem dX3_ports_4 : decode cX3_ports 4 = .ok (.ireturn, 1) := by decide +kernel
theorem dX3_trunks_0 : decode cX3_trunks 0 = .ok (.aload_n 0, 1) := by decide +kernel
theorem dX3_trunks_1 : decode cX3_trunks 1 = .ok (.getfield 80, 3) := by decide +kernel
theorem dX3_trunks_4 : decode cX3_trunks 4 = .ok (.ireturn, 1) := by decide +kernel
set_option maxRecDepth 20000 in
theorem ggX3_cables_X3_isLowerEnd : GoodIn wsX3_cables wsX3_isLowerEnd := goodIn_r _ [6, 7, 8, 9, 10, 11, 12, 13, 14, 15, 16, 17, 18, 19, 20, 21, 22, 23, 24, 25, 26, 27, 28, 29, 30, 31, 32, 33, 34, 35] (by decide +kernel) (by decide +kernel)
set_option maxRecDepth 20000 in
theorem gX3_cables_X3_isLowerEnd : GoodIn wsX3_cables (wsV RX3 191 RX3 yX3_isLowerEnd wsX3_isLowerEnd) := goodIn_app (goodIn_of _ (by decide +kernel)) ggX3_cables_X3_isLowerEnd
theorem dX3_cables_0 : decode cX3_cables 0 = .ok (.iconst 0, 1) := by decide +kernel
theorem dX3_cables_1 : decode cX3_cables 1 = .ok (.istore_n 1, 1) := by decide +kernel
theorem dX3_cables_2 : decode cX3_cables 2 = .ok (.iconst 0, 1) := by decide +kernel
theorem dX3_cables_3 : decode cX3_cables 3 = .ok (.istore_n 2, 1) := by decide +kernel
theorem dX3_cables_4 : decode cX3_cables 4 = .ok (.iload_n 2, 1) := by decide +kernel
theorem dX3_cables_5 : decode cX3_cables 5 = .ok (.aload_n 0, 1) := by decide +kernel
theorem dX3_cables_6 : decode cX3_cables 6 = .ok (.getfield 77, 3) := by decide +kernel
theorem dX3_cables_9 : decode cX3_cables 9 = .ok (.if_icmp .ge 20, 3) := by decide +kernel
theorem dX3_cables_12 : decode cX3_cables 12 = .ok (.aload_n 0, 1) := by decide +kernel
theorem dX3_cables_13 : decode cX3_cables 13 = .ok (.iload_n 2, 1) := by decide +kernel
theorem dX3_cables_14 : decode cX3_cables 14 = .ok (.invokevirtual 191, 3) := by decide +kernel
theorem dX3_cables_17 : decode cX3_cables 17 = .ok (.ifCond .eq 6, 3) := by decide +kernel
theorem dX3_cables_20 : decode cX3_cables 20 = .ok (.iinc 1 1, 3) := by decide +kernel
theorem dX3_cables_23 : decode cX3_cables 23 = .ok (.iinc 2 1, 3) := by decide +kernel
theorem dX3_cables_26 : decode cX3_cables 26 = .ok (.goto (-22), 3) := by decide +kernel
theorem dX3_cables_29 : decode cX3_cables 29 = .ok (.iload_n 1, 1) := by decide +kernel
theorem dX3_cables_30 : decode cX3_cables 30 = .ok (.ireturn, 1) := by decide +kernel
set_option maxRecDepth 20000 in
theorem ggX3_panelOf_X3_checkPort : GoodIn wsX3_panelOf wsX3_checkPort := goodIn_ca (goodIn_r _ [6, 7, 8, 9, 10, 11, 5, 12, 20, 21, 22, 23, 24, 25, 26, 27, 28, 29, 30, 31, 32, 33, 34, 35, 36, 37, 38] (by decide +kernel) (by decide +kernel)) (goodIn_sub (fun _ h => List.mem_cons_of_mem _ (List.mem_append_right _ h)) (by decide +kernel))
set_option maxRecDepth 20000 in
theorem gX3_panelOf_X3_checkPort : GoodIn wsX3_panelOf (wsV RX3 102 RX3 yX3_checkPort wsX3_checkPort) := goodIn_app (goodIn_of _ (by decide +kernel)) ggX3_panelOf_X3_checkPort
set_option maxRecDepth 20000 in
theorem ggX3_panelOf_X2_at : GoodIn wsX3_panelOf wsX2_at := goodIn_r _ [17, 18, 19, 39, 40] (by decide +kernel) (by decide +kernel)
set_option maxRecDepth 20000 in
theorem gX3_panelOf_X2_at : GoodIn wsX3_panelOf (wsV RX3 107 RX2 yX2_at wsX2_at) := goodIn_app (goodIn_of _ (by decide +kernel)) ggX3_panelOf_X2_at
theorem dX3_panelOf_0 : decode cX3_panelOf 0 = .ok (.aload_n 0, 1) := by decide +kernel
theorem dX3_panelOf_1 : decode cX3_panelOf 1 = .ok (.iload_n 1, 1) := by decide +kernel
theorem dX3_panelOf_2 : decode cX3_panelOf 2 = .ok (.invokevirtual 102, 3) := by decide +kernel
theorem dX3_panelOf_5 : decode cX3_panelOf 5 = .ok (.aload_n 0, 1) := by decide +kernel
theorem dX3_panelOf_6 : decode cX3_panelOf 6 = .ok (.getfield 24, 3) := by decide +kernel
theorem dX3_panelOf_9 : decode cX3_panelOf 9 = .ok (.iload_n 1, 1) := by decide +kernel
theorem dX3_panelOf_10 : decode cX3_panelOf 10 = .ok (.invokevirtual 107, 3) := by decide +kernel
theorem dX3_panelOf_13 : decode cX3_panelOf 13 = .ok (.ireturn, 1) := by decide +kernel
set_option maxRecDepth 20000 in
theorem ggX3_byCable_X3_checkPort : GoodIn wsX3_byCable wsX3_checkPort := goodIn_ca (goodIn_r _ [6, 7, 8, 9, 10, 11, 5, 12, 20, 21, 22, 23, 24, 25, 26, 27, 28, 29, 30, 31, 32, 33, 34, 35, 36, 37, 38] (by decide +kernel) (by decide +kernel)) (goodIn_sub (fun _ h => List.mem_cons_of_mem _ (List.mem_append_right _ h)) (by decide +kernel))
set_option maxRecDepth 20000 in
theorem gX3_byCable_X3_checkPort : GoodIn wsX3_byCable (wsV RX3 102 RX3 yX3_checkPort wsX3_checkPort) := goodIn_app (goodIn_of _ (by decide +kernel)) ggX3_byCable_X3_checkPort
set_option maxRecDepth 20000 in
theorem ggX3_byCable_X2_at : GoodIn wsX3_byCable wsX2_at := goodIn_r _ [17, 18, 19, 39, 40] (by decide +kernel) (by decide +kernel)
set_option maxRecDepth 20000 in
theorem gX3_byCable_X2_at : GoodIn wsX3_byCable (wsV RX3 107 RX2 yX2_at wsX2_at) := goodIn_app (goodIn_of _ (by decide +kernel)) ggX3_byCable_X2_at
theorem dX3_byCable_0 : decode cX3_byCable 0 = .ok (.aload_n 0, 1) := by decide +kernel
theorem dX3_byCable_1 : decode cX3_byCable 1 = .ok (.iload_n 1, 1) := by decide +kernel
theorem dX3_byCable_2 : decode cX3_byCable 2 = .ok (.invokevirtual 102, 3) := by decide +kernel
theorem dX3_byCable_5 : decode cX3_byCable 5 = .ok (.aload_n 0, 1) := by decide +kernel
theorem dX3_byCable_6 : decode cX3_byCable 6 = .ok (.getfield 27, 3) := by decide +kernel
theorem dX3_byCable_9 : decode cX3_byCable 9 = .ok (.iload_n 1, 1) := by decide +kernel
theorem dX3_byCable_10 : decode cX3_byCable 10 = .ok (.invokevirtual 107, 3) := by decide +kernel
theorem dX3_byCable_13 : decode cX3_byCable 13 = .ok (.ireturn, 1) := by decide +kernel
set_option maxRecDepth 20000 in
theorem ggX3_byStrand_X3_checkPort : GoodIn wsX3_byStrand wsX3_checkPort := goodIn_ca (goodIn_r _ [6, 7, 8, 9, 10, 11, 5, 12, 20, 21, 22, 23, 24, 25, 26, 27, 28, 29, 30, 31, 32, 33, 34, 35, 36, 37, 38] (by decide +kernel) (by decide +kernel)) (goodIn_sub (fun _ h => List.mem_cons_of_mem _ (List.mem_append_right _ h)) (by decide +kernel))
set_option maxRecDepth 20000 in
theorem gX3_byStrand_X3_checkPort : GoodIn wsX3_byStrand (wsV RX3 102 RX3 yX3_checkPort wsX3_checkPort) := goodIn_app (goodIn_of _ (by decide +kernel)) ggX3_byStrand_X3_checkPort
set_option maxRecDepth 20000 in
theorem ggX3_byStrand_X2_at : GoodIn wsX3_byStrand wsX2_at := goodIn_r _ [17, 18, 19, 39, 40] (by decide +kernel) (by decide +kernel)
set_option maxRecDepth 20000 in
theorem gX3_byStrand_X2_at : GoodIn wsX3_byStrand (wsV RX3 107 RX2 yX2_at wsX2_at) := goodIn_app (goodIn_of _ (by decide +kernel)) ggX3_byStrand_X2_at
theorem dX3_byStrand_0 : decode cX3_byStrand 0 = .ok (.aload_n 0, 1) := by decide +kernel
theorem dX3_byStrand_1 : decode cX3_byStrand 1 = .ok (.iload_n 1, 1) := by decide +kernel
theorem dX3_byStrand_2 : decode cX3_byStrand 2 = .ok (.invokevirtual 102, 3) := by decide +kernel
theorem dX3_byStrand_5 : decode cX3_byStrand 5 = .ok (.aload_n 0, 1) := by decide +kernel
theorem dX3_byStrand_6 : decode cX3_byStrand 6 = .ok (.getfield 33, 3) := by decide +kernel
theorem dX3_byStrand_9 : decode cX3_byStrand 9 = .ok (.iload_n 1, 1) := by decide +kernel
theorem dX3_byStrand_10 : decode cX3_byStrand 10 = .ok (.invokevirtual 107, 3) := by decide +kernel
theorem dX3_byStrand_13 : decode cX3_byStrand 13 = .ok (.ireturn, 1) := by decide +kernel
set_option maxRecDepth 20000 in
theorem ggX3_colour_X3_checkPort : GoodIn wsX3_colour wsX3_checkPort := goodIn_ca (goodIn_r _ [6, 7, 8, 9, 10, 11, 5, 12, 20, 21, 22, 23, 24, 25, 26, 27, 28, 29, 30, 31, 32, 33, 34, 35, 36, 37, 38] (by decide +kernel) (by decide +kernel)) (goodIn_sub (fun _ h => List.mem_cons_of_mem _ (List.mem_append_right _ h)) (by decide +kernel))
set_option maxRecDepth 20000 in
theorem gX3_colour_X3_checkPort : GoodIn wsX3_colour (wsV RX3 102 RX3 yX3_checkPort wsX3_checkPort) := goodIn_app (goodIn_of _ (by decide +kernel)) ggX3_colour_X3_checkPort
set_option maxRecDepth 20000 in
theorem ggX3_colour_X2_at : GoodIn wsX3_colour wsX2_at := goodIn_r _ [17, 18, 19, 39, 40] (by decide +kernel) (by decide +kernel)
set_option maxRecDepth 20000 in
theorem gX3_colour_X2_at : GoodIn wsX3_colour (wsV RX3 107 RX2 yX2_at wsX2_at) := goodIn_app (goodIn_of _ (by decide +kernel)) ggX3_colour_X2_at
theorem dX3_colour_0 : decode cX3_colour 0 = .ok (.aload_n 0, 1) := by decide +kernel
theorem dX3_colour_1 : decode cX3_colour 1 = .ok (.iload_n 1, 1) := by decide +kernel
theorem dX3_colour_2 : decode cX3_colour 2 = .ok (.invokevirtual 102, 3) := by decide +kernel
theorem dX3_colour_5 : decode cX3_colour 5 = .ok (.aload_n 0, 1) := by decide +kernel
theorem dX3_colour_6 : decode cX3_colour 6 = .ok (.getfield 30, 3) := by decide +kernel
theorem dX3_colour_9 : decode cX3_colour 9 = .ok (.iload_n 1, 1) := by decide +kernel
theorem dX3_colour_10 : decode cX3_colour 10 = .ok (.invokevirtual 107, 3) := by decide +kernel
theorem dX3_colour_13 : decode cX3_colour 13 = .ok (.ireturn, 1) := by decide +kernel
set_option maxRecDepth 20000 in
theorem ggX3_end_X3_checkPort : GoodIn wsX3_end wsX3_checkPort := goodIn_ca (goodIn_r _ [5, 6, 7, 8, 9, 10, 4, 11, 45, 46, 47, 48, 49, 50, 51, 52, 53, 54, 55, 56, 57, 58, 59, 60, 61, 62, 63] (by decide +kernel) (by decide +kernel)) (goodIn_sub (fun _ h => List.mem_cons_of_mem _ (List.mem_append_right _ h)) (by decide +kernel))
set_option maxRecDepth 20000 in
theorem gX3_end_X3_checkPort : GoodIn wsX3_end (wsV RX3 102 RX3 yX3_checkPort wsX3_checkPort) := goodIn_app (goodIn_of _ (by decide +kernel)) ggX3_end_X3_checkPort
set_option maxRecDepth 20000 in
theorem ggX3_end_X3_trace : GoodIn wsX3_end wsX3_trace := goodIn_r _ [15, 16, 17, 18, 19, 20, 21, 22, 23, 24, 25, 26, 27, 4, 28, 29, 30, 31, 32, 33, 34, 35, 36, 37, 38, 39, 40, 45, 46, 47, 48, 49, 50, 51, 52, 53, 54, 55, 56, 57, 58, 59, 60, 61, 62, 63, 64, 65, 66] (by decide +kernel) (by decide +kernel)
set_option maxRecDepth 20000 in
theorem gX3_end_X3_trace : GoodIn wsX3_end (wsV RX3 194 RX3 yX3_trace wsX3_trace) := goodIn_app (goodIn_of _ (by decide +kernel)) ggX3_end_X3_trace
set_option maxRecDepth 20000 in
theorem ggX3_end_X3_endOfTrail : GoodIn wsX3_end wsX3_endOfTrail := goodIn_r _ [44, 17, 18, 19, 20, 21, 22, 23, 24, 45, 46, 47, 48, 49, 50, 51, 52, 53, 54, 55, 56, 57, 58, 59, 60, 61, 62, 63, 64, 65] (by decide +kernel) (by decide +kernel)
set_option maxRecDepth 20000 in
theorem gX3_end_X3_endOfTrail : GoodIn wsX3_end (wsV RX3 198 RX3 yX3_endOfTrail wsX3_endOfTrail) := goodIn_app (goodIn_of _ (by decide +kernel)) ggX3_end_X3_endOfTrail
theorem dX3_end_0 : decode cX3_end 0 = .ok (.aload_n 0, 1) := by decide +kernel
theorem dX3_end_1 : decode cX3_end 1 = .ok (.iload_n 1, 1) := by decide +kernel
theorem dX3_end_2 : decode cX3_end 2 = .ok (.invokevirtual 102, 3) := by decide +kernel
theorem dX3_end_5 : decode cX3_end 5 = .ok (.aload_n 0, 1) := by decide +kernel
theorem dX3_end_6 : decode cX3_end 6 = .ok (.iload_n 1, 1) := by decide +kernel
theorem dX3_end_7 : decode cX3_end 7 = .ok (.aload_n 0, 1) := by decide +kernel
theorem dX3_end_8 : decode cX3_end 8 = .ok (.iload_n 1, 1) := by decide +kernel
theorem dX3_end_9 : decode cX3_end 9 = .ok (.iload_n 2, 1) := by decide +kernel
theorem dX3_end_10 : decode cX3_end 10 = .ok (.invokevirtual 194, 3) := by decide +kernel
theorem dX3_end_13 : decode cX3_end 13 = .ok (.invokevirtual 198, 3) := by decide +kernel
theorem dX3_end_16 : decode cX3_end 16 = .ok (.ireturn, 1) := by decide +kernel
set_option maxRecDepth 20000 in
theorem ggX3_hops_X3_checkPort : GoodIn wsX3_hops wsX3_checkPort := goodIn_ca (goodIn_r _ [5, 6, 7, 8, 9, 10, 4, 11, 41, 42, 43, 44, 45, 46, 47, 48, 49, 50, 51, 52, 53, 54, 55, 56, 57, 58, 59] (by decide +kernel) (by decide +kernel)) (goodIn_sub (fun _ h => List.mem_cons_of_mem _ (List.mem_append_right _ h)) (by decide +kernel))
set_option maxRecDepth 20000 in
theorem gX3_hops_X3_checkPort : GoodIn wsX3_hops (wsV RX3 102 RX3 yX3_checkPort wsX3_checkPort) := goodIn_app (goodIn_of _ (by decide +kernel)) ggX3_hops_X3_checkPort
set_option maxRecDepth 20000 in
theorem ggX3_hops_X3_trace : GoodIn wsX3_hops wsX3_trace := goodIn_r _ [15, 16, 17, 18, 19, 20, 21, 22, 23, 24, 25, 26, 27, 4, 28, 29, 30, 31, 32, 33, 34, 35, 36, 37, 38, 39, 40, 41, 42, 43, 44, 45, 46, 47, 48, 49, 50, 51, 52, 53, 54, 55, 56, 57, 58, 59, 60, 61, 62] (by decide +kernel) (by decide +kernel)
set_option maxRecDepth 20000 in
theorem gX3_hops_X3_trace : GoodIn wsX3_hops (wsV RX3 194 RX3 yX3_trace wsX3_trace) := goodIn_app (goodIn_of _ (by decide +kernel)) ggX3_hops_X3_trace
theorem dX3_hops_0 : decode cX3_hops 0 = .ok (.aload_n 0, 1) := by decide +kernel
theorem dX3_hops_1 : decode cX3_hops 1 = .ok (.iload_n 1, 1) := by decide +kernel
theorem dX3_hops_2 : decode cX3_hops 2 = .ok (.invokevirtual 102, 3) := by decide +kernel
theorem dX3_hops_5 : decode cX3_hops 5 = .ok (.aload_n 0, 1) := by decide +kernel
theorem dX3_hops_6 : decode cX3_hops 6 = .ok (.iload_n 1, 1) := by decide +kernel
theorem dX3_hops_7 : decode cX3_hops 7 = .ok (.iload_n 2, 1) := by decide +kernel
theorem dX3_hops_8 : decode cX3_hops 8 = .ok (.invokevirtual 194, 3) := by decide +kernel
theorem dX3_hops_11 : decode cX3_hops 11 = .ok (.ireturn, 1) := by decide +kernel
set_option maxRecDepth 20000 in
theorem ggX3_hopTo_X3_checkPort : GoodIn wsX3_hopTo wsX3_checkPort := goodIn_ca (goodIn_r _ [8, 1, 2, 9, 10, 11, 7, 12, 41, 42, 43, 44, 45, 46, 47, 48, 49, 50, 51, 52, 53, 54, 55, 56, 57, 58, 59] (by decide +kernel) (by decide +kernel)) (goodIn_sub (fun _ h => List.mem_cons_of_mem _ (List.mem_append_right _ h)) (by decide +kernel))
set_option maxRecDepth 20000 in
theorem gX3_hopTo_X3_checkPort : GoodIn wsX3_hopTo (wsV RX3 102 RX3 yX3_checkPort wsX3_checkPort) := goodIn_app (goodIn_of _ (by decide +kernel)) ggX3_hopTo_X3_checkPort
set_option maxRecDepth 20000 in
theorem ggX3_hopTo_X3_trace : GoodIn wsX3_hopTo wsX3_trace := goodIn_r _ [16, 17, 3, 18, 19, 20, 21, 22, 23, 24, 25, 26, 27, 7, 28, 29, 30, 31, 32, 33, 34, 35, 36, 37, 38, 39, 40, 41, 42, 43, 44, 45, 46, 47, 48, 49, 50, 51, 52, 53, 54, 55, 56, 57, 58, 59, 60, 61, 62] (by decide +kernel) (by decide +kernel)
set_option maxRecDepth 20000 in
theorem gX3_hopTo_X3_trace : GoodIn wsX3_hopTo (wsV RX3 194 RX3 yX3_trace wsX3_trace) := goodIn_app (goodIn_of _ (by decide +kernel)) ggX3_hopTo_X3_trace
set_option maxRecDepth 20000 in
theorem ggX3_hopTo_X3_isWithin : GoodIn wsX3_hopTo wsX3_isWithin := goodIn_r _ [12] (by decide +kernel) (by decide +kernel)
set_option maxRecDepth 20000 in
theorem gX3_hopTo_X3_isWithin : GoodIn wsX3_hopTo (va_wsS RX3 83 yX3_isWithin wsX3_isWithin) := goodIn_app (goodIn_of _ (by decide +kernel)) ggX3_hopTo_X3_isWithin
set_option maxRecDepth 20000 in
theorem ggX3_hopTo_X2_at : GoodIn wsX3_hopTo wsX2_at := goodIn_r _ [22, 23, 24, 60, 61] (by decide +kernel) (by decide +kernel)
set_option maxRecDepth 20000 in
theorem gX3_hopTo_X2_at : GoodIn wsX3_hopTo (wsV RX3 107 RX2 yX2_at wsX2_at) := goodIn_app (goodIn_of _ (by decide +kernel)) ggX3_hopTo_X2_at
theorem dX3_hopTo_0 : decode cX3_hopTo 0 = .ok (.aload_n 0, 1) := by decide +kernel
theorem dX3_hopTo_1 : decode cX3_hopTo 1 = .ok (.iload_n 1, 1) := by decide +kernel
theorem dX3_hopTo_2 : decode cX3_hopTo 2 = .ok (.invokevirtual 102, 3) := by decide +kernel
theorem dX3_hopTo_5 : decode cX3_hopTo 5 = .ok (.iload_n 3, 1) := by decide +kernel
theorem dX3_hopTo_6 : decode cX3_hopTo 6 = .ok (.iconst 0, 1) := by decide +kernel
theorem dX3_hopTo_7 : decode cX3_hopTo 7 = .ok (.aload_n 0, 1) := by decide +kernel
theorem dX3_hopTo_8 : decode cX3_hopTo 8 = .ok (.iload_n 1, 1) := by decide +kernel
theorem dX3_hopTo_9 : decode cX3_hopTo 9 = .ok (.iload_n 2, 1) := by decide +kernel
theorem dX3_hopTo_10 : decode cX3_hopTo 10 = .ok (.invokevirtual 194, 3) := by decide +kernel
theorem dX3_hopTo_13 : decode cX3_hopTo 13 = .ok (.iconst 1, 1) := by decide +kernel
theorem dX3_hopTo_14 : decode cX3_hopTo 14 = .ok (.isub, 1) := by decide +kernel
theorem dX3_hopTo_15 : decode cX3_hopTo 15 = .ok (.invokestatic 83, 3) := by decide +kernel
theorem dX3_hopTo_18 : decode cX3_hopTo 18 = .ok (.ifCond .ne 13, 3) := by decide +kernel
theorem dX3_hopTo_21 : decode cX3_hopTo 21 = .ok (.new 133, 3) := by decide +kernel
theorem dX3_hopTo_24 : decode cX3_hopTo 24 = .ok (.dup, 1) := by decide +kernel
theorem dX3_hopTo_25 : decode cX3_hopTo 25 = .ok (.ldc 201, 2) := by decide +kernel
theorem dX3_hopTo_27 : decode cX3_hopTo 27 = .ok (.invokespecial 137, 3) := by decide +kernel
theorem dX3_hopTo_30 : decode cX3_hopTo 30 = .ok (.athrow, 1) := by decide +kernel
theorem dX3_hopTo_31 : decode cX3_hopTo 31 = .ok (.aload_n 0, 1) := by decide +kernel
theorem dX3_hopTo_32 : decode cX3_hopTo 32 = .ok (.getfield 64, 3) := by decide +kernel
theorem dX3_hopTo_35 : decode cX3_hopTo 35 = .ok (.iload_n 3, 1) := by decide +kernel
theorem dX3_hopTo_36 : decode cX3_hopTo 36 = .ok (.invokevirtual 107, 3) := by decide +kernel
theorem dX3_hopTo_39 : decode cX3_hopTo 39 = .ok (.ireturn, 1) := by decide +kernel
set_option maxRecDepth 20000 in
theorem ggX3_lengthOf_X3_checkPort : GoodIn wsX3_lengthOf wsX3_checkPort := goodIn_ca (goodIn_r _ [8, 9, 10, 11, 12, 13, 7, 14, 53, 54, 55, 56, 57, 58, 59, 60, 61, 62, 63, 64, 65, 66, 67, 68, 69, 70, 71] (by decide +kernel) (by decide +kernel)) (goodIn_sub (fun _ h => List.mem_cons_of_mem _ (List.mem_append_right _ h)) (by decide +kernel))
set_option maxRecDepth 20000 in
theorem gX3_lengthOf_X3_checkPort : GoodIn wsX3_lengthOf (wsV RX3 102 RX3 yX3_checkPort wsX3_checkPort) := goodIn_app (goodIn_of _ (by decide +kernel)) ggX3_lengthOf_X3_checkPort
set_option maxRecDepth 20000 in
theorem ggX3_lengthOf_X3_trace : GoodIn wsX3_lengthOf wsX3_trace := goodIn_r _ [18, 19, 1, 20, 21, 22, 23, 24, 25, 26, 27, 28, 29, 7, 30, 31, 32, 33, 34, 35, 36, 37, 38, 39, 40, 41, 42, 53, 54, 55, 56, 57, 58, 59, 60, 61, 62, 63, 64, 65, 66, 67, 68, 69, 70, 71, 72, 73, 74] (by decide +kernel) (by decide +kernel)
set_option maxRecDepth 20000 in
theorem gX3_lengthOf_X3_trace : GoodIn wsX3_lengthOf (wsV RX3 194 RX3 yX3_trace wsX3_trace) := goodIn_app (goodIn_of _ (by decide +kernel)) ggX3_lengthOf_X3_trace
set_option maxRecDepth 20000 in
theorem ggX3_lengthOf_X2_at : GoodIn wsX3_lengthOf wsX2_at := goodIn_r _ [24, 25, 26, 72, 73] (by decide +kernel) (by decide +kernel)
set_option maxRecDepth 20000 in
theorem gX3_lengthOf_X2_at : GoodIn wsX3_lengthOf (wsV RX3 107 RX2 yX2_at wsX2_at) := goodIn_app (goodIn_of _ (by decide +kernel)) ggX3_lengthOf_X2_at
set_option maxRecDepth 20000 in
theorem ggX3_lengthOf_X3_lengthBetween : GoodIn wsX3_lengthOf wsX3_lengthBetween := goodIn_r _ [46, 47, 48, 49, 50, 51, 52, 20, 21, 22, 23, 24, 25, 26, 53, 54, 55, 56, 57, 58, 59, 60, 61, 62, 63, 64, 65, 66, 67, 68, 69, 70, 71, 72, 73] (by decide +kernel) (by decide +kernel)
set_option maxRecDepth 20000 in
theorem gX3_lengthOf_X3_lengthBetween : GoodIn wsX3_lengthOf (wsV RX3 156 RX3 yX3_lengthBetween wsX3_lengthBetween) := goodIn_app (goodIn_of _ (by decide +kernel)) ggX3_lengthOf_X3_lengthBetween
theorem dX3_lengthOf_0 : decode cX3_lengthOf 0 = .ok (.aload_n 0, 1) := by decide +kernel
theorem dX3_lengthOf_1 : decode cX3_lengthOf 1 = .ok (.iload_n 1, 1) := by decide +kernel
theorem dX3_lengthOf_2 : decode cX3_lengthOf 2 = .ok (.invokevirtual 102, 3) := by decide +kernel
theorem dX3_lengthOf_5 : decode cX3_lengthOf 5 = .ok (.aload_n 0, 1) := by decide +kernel
theorem dX3_lengthOf_6 : decode cX3_lengthOf 6 = .ok (.iload_n 1, 1) := by decide +kernel
theorem dX3_lengthOf_7 : decode cX3_lengthOf 7 = .ok (.iload_n 2, 1) := by decide +kernel
theorem dX3_lengthOf_8 : decode cX3_lengthOf 8 = .ok (.invokevirtual 194, 3) := by decide +kernel
theorem dX3_lengthOf_11 : decode cX3_lengthOf 11 = .ok (.istore_n 3, 1) := by decide +kernel
theorem dX3_lengthOf_12 : decode cX3_lengthOf 12 = .ok (.iconst 0, 1) := by decide +kernel
theorem dX3_lengthOf_13 : decode cX3_lengthOf 13 = .ok (.istore 4, 2) := by decide +kernel
theorem dX3_lengthOf_15 : decode cX3_lengthOf 15 = .ok (.iload_n 1, 1) := by decide +kernel
theorem dX3_lengthOf_16 : decode cX3_lengthOf 16 = .ok (.istore 5, 2) := by decide +kernel
theorem dX3_lengthOf_18 : decode cX3_lengthOf 18 = .ok (.iload_n 2, 1) := by decide +kernel
theorem dX3_lengthOf_19 : decode cX3_lengthOf 19 = .ok (.istore 6, 2) := by decide +kernel
theorem dX3_lengthOf_21 : decode cX3_lengthOf 21 = .ok (.iconst 0, 1) := by decide +kernel
theorem dX3_lengthOf_22 : decode cX3_lengthOf 22 = .ok (.istore 7, 2) := by decide +kernel
theorem dX3_lengthOf_24 : decode cX3_lengthOf 24 = .ok (.iload 7, 2) := by decide +kernel
theorem dX3_lengthOf_26 : decode cX3_lengthOf 26 = .ok (.iload_n 3, 1) := by decide +kernel
theorem dX3_lengthOf_27 : decode cX3_lengthOf 27 = .ok (.if_icmp .ge 73, 3) := by decide +kernel
theorem dX3_lengthOf_30 : decode cX3_lengthOf 30 = .ok (.aload_n 0, 1) := by decide +kernel
theorem dX3_lengthOf_31 : decode cX3_lengthOf 31 = .ok (.getfield 64, 3) := by decide +kernel
theorem dX3_lengthOf_34 : decode cX3_lengthOf 34 = .ok (.iload 7, 2) := by decide +kernel
theorem dX3_lengthOf_36 : decode cX3_lengthOf 36 = .ok (.invokevirtual 107, 3) := by decide +kernel
theorem dX3_lengthOf_39 : decode cX3_lengthOf 39 = .ok (.istore 8, 2) := by decide +kernel
theorem dX3_lengthOf_41 : decode cX3_lengthOf 41 = .ok (.iload 4, 2) := by decide +kernel
theorem dX3_lengthOf_43 : decode cX3_lengthOf 43 = .ok (.iload 6, 2) := by decide +kernel
theorem dX3_lengthOf_45 : decode cX3_lengthOf 45 = .ok (.ifCond .eq 14, 3) := by decide +kernel
theorem dX3_lengthOf_48 : decode cX3_lengthOf 48 = .ok (.aload_n 0, 1) := by decide +kernel
theorem dX3_lengthOf_49 : decode cX3_lengthOf 49 = .ok (.iload 5, 2) := by decide +kernel
theorem dX3_lengthOf_51 : decode cX3_lengthOf 51 = .ok (.iload 8, 2) := by decide +kernel
theorem dX3_lengthOf_53 : decode cX3_lengthOf 53 = .ok (.invokevirtual 156, 3) := by decide +kernel
theorem dX3_lengthOf_56 : decode cX3_lengthOf 56 = .ok (.goto 19, 3) := by decide +kernel
theorem dX3_lengthOf_59 : decode cX3_lengthOf 59 = .ok (.aload_n 0, 1) := by decide +kernel
theorem dX3_lengthOf_60 : decode cX3_lengthOf 60 = .ok (.getfield 54, 3) := by decide +kernel
theorem dX3_lengthOf_63 : decode cX3_lengthOf 63 = .ok (.aload_n 0, 1) := by decide +kernel
theorem dX3_lengthOf_64 : decode cX3_lengthOf 64 = .ok (.getfield 36, 3) := by decide +kernel
theorem dX3_lengthOf_67 : decode cX3_lengthOf 67 = .ok (.iload 5, 2) := by decide +kernel
theorem dX3_lengthOf_69 : decode cX3_lengthOf 69 = .ok (.invokevirtual 107, 3) := by decide +kernel
theorem dX3_lengthOf_72 : decode cX3_lengthOf 72 = .ok (.invokevirtual 107, 3) := by decide +kernel
theorem dX3_lengthOf_75 : decode cX3_lengthOf 75 = .ok (.iadd, 1) := by decide +kernel
theorem dX3_lengthOf_76 : decode cX3_lengthOf 76 = .ok (.istore 4, 2) := by decide +kernel
theorem dX3_lengthOf_78 : decode cX3_lengthOf 78 = .ok (.iload 8, 2) := by decide +kernel
theorem dX3_lengthOf_80 : decode cX3_lengthOf 80 = .ok (.istore 5, 2) := by decide +kernel
theorem dX3_lengthOf_82 : decode cX3_lengthOf 82 = .ok (.iload 6, 2) := by decide +kernel
theorem dX3_lengthOf_84 : decode cX3_lengthOf 84 = .ok (.ifCond .ne 7, 3) := by decide +kernel
theorem dX3_lengthOf_87 : decode cX3_lengthOf 87 = .ok (.iconst 1, 1) := by decide +kernel
theorem dX3_lengthOf_88 : decode cX3_lengthOf 88 = .ok (.goto 4, 3) := by decide +kernel
theorem dX3_lengthOf_91 : decode cX3_lengthOf 91 = .ok (.iconst 0, 1) := by decide +kernel
theorem dX3_lengthOf_92 : decode cX3_lengthOf 92 = .ok (.istore 6, 2) := by decide +kernel
theorem dX3_lengthOf_94 : decode cX3_lengthOf 94 = .ok (.iinc 7 1, 3) := by decide +kernel
theorem dX3_lengthOf_97 : decode cX3_lengthOf 97 = .ok (.goto (-73), 3) := by decide +kernel
theorem dX3_lengthOf_100 : decode cX3_lengthOf 100 = .ok (.iload 4, 2) := by decide +kernel
theorem dX3_lengthOf_102 : decode cX3_lengthOf 102 = .ok (.ireturn, 1) := by decide +kernel
set_option maxRecDepth 20000 in
theorem ggX3_isRing_X3_checkPort : GoodIn wsX3_isRing wsX3_checkPort := goodIn_ca (goodIn_r _ [5, 6, 7, 8, 9, 10, 4, 11, 45, 46, 47, 48, 49, 50, 51, 52, 53, 54, 55, 56, 57, 58, 59, 60, 61, 62, 63] (by decide +kernel) (by decide +kernel)) (goodIn_sub (fun _ h => List.mem_cons_of_mem _ (List.mem_append_right _ h)) (by decide +kernel))
set_option maxRecDepth 20000 in
theorem gX3_isRing_X3_checkPort : GoodIn wsX3_isRing (wsV RX3 102 RX3 yX3_checkPort wsX3_checkPort) := goodIn_app (goodIn_of _ (by decide +kernel)) ggX3_isRing_X3_checkPort
set_option maxRecDepth 20000 in
theorem ggX3_isRing_X3_trace : GoodIn wsX3_isRing wsX3_trace := goodIn_r _ [15, 16, 17, 18, 19, 20, 21, 22, 23, 24, 25, 26, 27, 4, 28, 29, 30, 31, 32, 33, 34, 35, 36, 37, 38, 39, 40, 45, 46, 47, 48, 49, 50, 51, 52, 53, 54, 55, 56, 57, 58, 59, 60, 61, 62, 63, 64, 65, 66] (by decide +kernel) (by decide +kernel)
set_option maxRecDepth 20000 in
theorem gX3_isRing_X3_trace : GoodIn wsX3_isRing (wsV RX3 194 RX3 yX3_trace wsX3_trace) := goodIn_app (goodIn_of _ (by decide +kernel)) ggX3_isRing_X3_trace
set_option maxRecDepth 20000 in
theorem ggX3_isRing_X3_endOfTrail : GoodIn wsX3_isRing wsX3_endOfTrail := goodIn_r _ [44, 17, 18, 19, 20, 21, 22, 23, 24, 45, 46, 47, 48, 49, 50, 51, 52, 53, 54, 55, 56, 57, 58, 59, 60, 61, 62, 63, 64, 65] (by decide +kernel) (by decide +kernel)
set_option maxRecDepth 20000 in
theorem gX3_isRing_X3_endOfTrail : GoodIn wsX3_isRing (wsV RX3 198 RX3 yX3_endOfTrail wsX3_endOfTrail) := goodIn_app (goodIn_of _ (by decide +kernel)) ggX3_isRing_X3_endOfTrail
theorem dX3_isRing_0 : decode cX3_isRing 0 = .ok (.aload_n 0, 1) := by decide +kernel
theorem dX3_isRing_1 : decode cX3_isRing 1 = .ok (.iload_n 1, 1) := by decide +kernel
theorem dX3_isRing_2 : decode cX3_isRing 2 = .ok (.invokevirtual 102, 3) := by decide +kernel
theorem dX3_isRing_5 : decode cX3_isRing 5 = .ok (.aload_n 0, 1) := by decide +kernel
theorem dX3_isRing_6 : decode cX3_isRing 6 = .ok (.iload_n 1, 1) := by decide +kernel
theorem dX3_isRing_7 : decode cX3_isRing 7 = .ok (.iconst 1, 1) := by decide +kernel
theorem dX3_isRing_8 : decode cX3_isRing 8 = .ok (.invokevirtual 194, 3) := by decide +kernel
theorem dX3_isRing_11 : decode cX3_isRing 11 = .ok (.istore_n 2, 1) := by decide +kernel
theorem dX3_isRing_12 : decode cX3_isRing 12 = .ok (.iload_n 2, 1) := by decide +kernel
theorem dX3_isRing_13 : decode cX3_isRing 13 = .ok (.ifCond .le 17, 3) := by decide +kernel
theorem dX3_isRing_16 : decode cX3_isRing 16 = .ok (.aload_n 0, 1) := by decide +kernel
theorem dX3_isRing_17 : decode cX3_isRing 17 = .ok (.iload_n 1, 1) := by decide +kernel
theorem dX3_isRing_18 : decode cX3_isRing 18 = .ok (.iload_n 2, 1) := by decide +kernel
theorem dX3_isRing_19 : decode cX3_isRing 19 = .ok (.invokevirtual 198, 3) := by decide +kernel
theorem dX3_isRing_22 : decode cX3_isRing 22 = .ok (.iload_n 1, 1) := by decide +kernel
theorem dX3_isRing_23 : decode cX3_isRing 23 = .ok (.if_icmp .ne 7, 3) := by decide +kernel
theorem dX3_isRing_26 : decode cX3_isRing 26 = .ok (.iconst 1, 1) := by decide +kernel
theorem dX3_isRing_27 : decode cX3_isRing 27 = .ok (.goto 4, 3) := by decide +kernel
theorem dX3_isRing_30 : decode cX3_isRing 30 = .ok (.iconst 0, 1) := by decide +kernel
theorem dX3_isRing_31 : decode cX3_isRing 31 = .ok (.ireturn, 1) := by decide +kernel
set_option maxRecDepth 20000 in
theorem ggX3_areJoined_X3_checkPort : GoodIn wsX3_areJoined wsX3_checkPort := goodIn_ca (goodIn_r _ [5, 6, 7, 8, 9, 10, 4, 11, 45, 46, 47, 48, 49, 50, 51, 52, 53, 54, 55, 56, 57, 58, 59, 60, 61, 62, 63] (by decide +kernel) (by decide +kernel)) (goodIn_sub (fun _ h => List.mem_cons_of_mem _ (List.mem_append_right _ h)) (by decide +kernel))
set_option maxRecDepth 20000 in
theorem gX3_areJoined_X3_checkPort : GoodIn wsX3_areJoined (wsV RX3 102 RX3 yX3_checkPort wsX3_checkPort) := goodIn_app (goodIn_of _ (by decide +kernel)) ggX3_areJoined_X3_checkPort
set_option maxRecDepth 20000 in
theorem ggX3_areJoined_X3_trace : GoodIn wsX3_areJoined wsX3_trace := goodIn_r _ [15, 16, 17, 18, 19, 20, 21, 22, 23, 24, 25, 26, 27, 4, 28, 29, 30, 31, 32, 33, 34, 35, 36, 37, 38, 39, 40, 45, 46, 47, 48, 49, 50, 51, 52, 53, 54, 55, 56, 57, 58, 59, 60, 61, 62, 63, 64, 65, 66] (by decide +kernel) (by decide +kernel)
set_option maxRecDepth 20000 in
theorem gX3_areJoined_X3_trace : GoodIn wsX3_areJoined (wsV RX3 194 RX3 yX3_trace wsX3_trace) := goodIn_app (goodIn_of _ (by decide +kernel)) ggX3_areJoined_X3_trace
set_option maxRecDepth 20000 in
theorem ggX3_areJoined_X3_isOnTrail : GoodIn wsX3_areJoined wsX3_isOnTrail := goodIn_r _ [44, 17, 18, 19, 20, 21, 22, 23, 24, 45, 46, 47, 48, 49, 50, 51, 52, 53, 54, 55, 56, 57, 58, 59, 60, 61, 62, 63, 64, 65] (by decide +kernel) (by decide +kernel)
set_option maxRecDepth 20000 in
theorem gX3_areJoined_X3_isOnTrail : GoodIn wsX3_areJoined (wsV RX3 203 RX3 yX3_isOnTrail wsX3_isOnTrail) := goodIn_app (goodIn_of _ (by decide +kernel)) ggX3_areJoined_X3_isOnTrail
theorem dX3_areJoined_0 : decode cX3_areJoined 0 = .ok (.aload_n 0, 1) := by decide +kernel
theorem dX3_areJoined_1 : decode cX3_areJoined 1 = .ok (.iload_n 1, 1) := by decide +kernel
theorem dX3_areJoined_2 : decode cX3_areJoined 2 = .ok (.invokevirtual 102, 3) := by decide +kernel
theorem dX3_areJoined_5 : decode cX3_areJoined 5 = .ok (.aload_n 0, 1) := by decide +kernel
theorem dX3_areJoined_6 : decode cX3_areJoined 6 = .ok (.iload_n 2, 1) := by decide +kernel
theorem dX3_areJoined_7 : decode cX3_areJoined 7 = .ok (.invokevirtual 102, 3) := by decide +kernel
theorem dX3_areJoined_10 : decode cX3_areJoined 10 = .ok (.iload_n 1, 1) := by decide +kernel
theorem dX3_areJoined_11 : decode cX3_areJoined 11 = .ok (.iload_n 2, 1) := by decide +kernel
theorem dX3_areJoined_12 : decode cX3_areJoined 12 = .ok (.if_icmp .eq 31, 3) := by decide +kernel
theorem dX3_areJoined_15 : decode cX3_areJoined 15 = .ok (.aload_n 0, 1) := by decide +kernel
theorem dX3_areJoined_16 : decode cX3_areJoined 16 = .ok (.iload_n 2, 1) := by decide +kernel
theorem dX3_areJoined_17 : decode cX3_areJoined 17 = .ok (.aload_n 0, 1) := by decide +kernel
theorem dX3_areJoined_18 : decode cX3_areJoined 18 = .ok (.iload_n 1, 1) := by decide +kernel
theorem dX3_areJoined_19 : decode cX3_areJoined 19 = .ok (.iconst 1, 1) := by decide +kernel
theorem dX3_areJoined_20 : decode cX3_areJoined 20 = .ok (.invokevirtual 194, 3) := by decide +kernel
theorem dX3_areJoined_23 : decode cX3_areJoined 23 = .ok (.invokevirtual 203, 3) := by decide +kernel
theorem dX3_areJoined_26 : decode cX3_areJoined 26 = .ok (.ifCond .ne 17, 3) := by decide +kernel
theorem dX3_areJoined_29 : decode cX3_areJoined 29 = .ok (.aload_n 0, 1) := by decide +kernel
theorem dX3_areJoined_30 : decode cX3_areJoined 30 = .ok (.iload_n 2, 1) := by decide +kernel
theorem dX3_areJoined_31 : decode cX3_areJoined 31 = .ok (.aload_n 0, 1) := by decide +kernel
theorem dX3_areJoined_32 : decode cX3_areJoined 32 = .ok (.iload_n 1, 1) := by decide +kernel
theorem dX3_areJoined_33 : decode cX3_areJoined 33 = .ok (.iconst 0, 1) := by decide +kernel
theorem dX3_areJoined_34 : decode cX3_areJoined 34 = .ok (.invokevirtual 194, 3) := by decide +kernel
theorem dX3_areJoined_37 : decode cX3_areJoined 37 = .ok (.invokevirtual 203, 3) := by decide +kernel
theorem dX3_areJoined_40 : decode cX3_areJoined 40 = .ok (.ifCond .eq 7, 3) := by decide +kernel
theorem dX3_areJoined_43 : decode cX3_areJoined 43 = .ok (.iconst 1, 1) := by decide +kernel
theorem dX3_areJoined_44 : decode cX3_areJoined 44 = .ok (.goto 4, 3) := by decide +kernel
theorem dX3_areJoined_47 : decode cX3_areJoined 47 = .ok (.iconst 0, 1) := by decide +kernel
theorem dX3_areJoined_48 : decode cX3_areJoined 48 = .ok (.ireturn, 1) := by decide +kernel
set_option maxRecDepth 20000 in
theorem ggX3_areJoinedBySearch_X3_checkPort : GoodIn wsX3_areJoinedBySearch wsX3_checkPort := goodIn_ca (goodIn_r _ [6, 7, 8, 9, 10, 11, 5, 12, 54, 55, 56, 57, 58, 59, 60, 61, 62, 63, 64, 65, 66, 67, 68, 69, 70, 71, 72] (by decide +kernel) (by decide +kernel)) (goodIn_sub (fun _ h => List.mem_cons_of_mem _ (List.mem_append_right _ h)) (by decide +kernel))
set_option maxRecDepth 20000 in
theorem gX3_areJoinedBySearch_X3_checkPort : GoodIn wsX3_areJoinedBySearch (wsV RX3 102 RX3 yX3_checkPort wsX3_checkPort) := goodIn_app (goodIn_of _ (by decide +kernel)) ggX3_areJoinedBySearch_X3_checkPort
set_option maxRecDepth 20000 in
theorem ggX3_areJoinedBySearch_X3_searchFrom : GoodIn wsX3_areJoinedBySearch wsX3_searchFrom := goodIn_r _ [16, 1, 17, 18, 19, 20, 21, 22, 23, 24, 25, 26, 27, 5, 28, 29, 30, 31, 32, 33, 34, 35, 36, 37, 38, 39, 40, 41, 42, 43, 44, 45, 46, 47, 48, 49, 50, 51, 52, 53, 54, 55, 56, 57, 58, 59, 60, 61, 62, 63, 64, 65, 66, 67, 68, 69, 70, 71, 72, 73, 74, 75] (by decide +kernel) (by decide +kernel)
set_option maxRecDepth 20000 in
theorem gX3_areJoinedBySearch_X3_searchFrom : GoodIn wsX3_areJoinedBySearch (wsV RX3 206 RX3 yX3_searchFrom wsX3_searchFrom) := goodIn_app (goodIn_of _ (by decide +kernel)) ggX3_areJoinedBySearch_X3_searchFrom
set_option maxRecDepth 20000 in
theorem ggX3_areJoinedBySearch_X0_has : GoodIn wsX3_areJoinedBySearch wsX0_has := goodIn_r _ [32, 24, 73] (by decide +kernel) (by decide +kernel)
set_option maxRecDepth 20000 in
theorem gX3_areJoinedBySearch_X0_has : GoodIn wsX3_areJoinedBySearch (wsV RX3 138 RX0 yX0_has wsX0_has) := goodIn_app (goodIn_of _ (by decide +kernel)) ggX3_areJoinedBySearch_X0_has
theorem dX3_areJoinedBySearch_0 : decode cX3_areJoinedBySearch 0 = .ok (.aload_n 0, 1) := by decide +kernel
theorem dX3_areJoinedBySearch_1 : decode cX3_areJoinedBySearch 1 = .ok (.iload_n 1, 1) := by decide +kernel
theorem dX3_areJoinedBySearch_2 : decode cX3_areJoinedBySearch 2 = .ok (.invokevirtual 102, 3) := by decide +kernel
theorem dX3_areJoinedBySearch_5 : decode cX3_areJoinedBySearch 5 = .ok (.aload_n 0, 1) := by decide +kernel
theorem dX3_areJoinedBySearch_6 : decode cX3_areJoinedBySearch 6 = .ok (.iload_n 2, 1) := by decide +kernel
theorem dX3_areJoinedBySearch_7 : decode cX3_areJoinedBySearch 7 = .ok (.invokevirtual 102, 3) := by decide +kernel
theorem dX3_areJoinedBySearch_10 : decode cX3_areJoinedBySearch 10 = .ok (.aload_n 0, 1) := by decide +kernel
theorem dX3_areJoinedBySearch_11 : decode cX3_areJoinedBySearch 11 = .ok (.iload_n 1, 1) := by decide +kernel
theorem dX3_areJoinedBySearch_12 : decode cX3_areJoinedBySearch 12 = .ok (.invokevirtual 206, 3) := by decide +kernel
theorem dX3_areJoinedBySearch_15 : decode cX3_areJoinedBySearch 15 = .ok (.aload_n 0, 1) := by decide +kernel
theorem dX3_areJoinedBySearch_16 : decode cX3_areJoinedBySearch 16 = .ok (.getfield 70, 3) := by decide +kernel
theorem dX3_areJoinedBySearch_19 : decode cX3_areJoinedBySearch 19 = .ok (.iload_n 2, 1) := by decide +kernel
theorem dX3_areJoinedBySearch_20 : decode cX3_areJoinedBySearch 20 = .ok (.invokevirtual 138, 3) := by decide +kernel
theorem dX3_areJoinedBySearch_23 : decode cX3_areJoinedBySearch 23 = .ok (.ireturn, 1) := by decide +kernel
set_option maxRecDepth 20000 in
theorem ggX3_lines_X0_clear : GoodIn wsX3_lines wsX0_clear := goodIn_r _ [7, 8, 64] (by decide +kernel) (by decide +kernel)
set_option maxRecDepth 20000 in
theorem gX3_lines_X0_clear : GoodIn wsX3_lines (wsV RX3 209 RX0 yX0_clear wsX0_clear) := goodIn_app (goodIn_of _ (by decide +kernel)) ggX3_lines_X0_clear
set_option maxRecDepth 20000 in
theorem ggX3_lines_X0_has : GoodIn wsX3_lines wsX0_has := goodIn_r _ [12, 8, 64] (by decide +kernel) (by decide +kernel)
set_option maxRecDepth 20000 in
theorem gX3_lines_X0_has : GoodIn wsX3_lines (wsV RX3 138 RX0 yX0_has wsX0_has) := goodIn_app (goodIn_of _ (by decide +kernel)) ggX3_lines_X0_has
set_option maxRecDepth 20000 in
theorem ggX3_lines_X0_set : GoodIn wsX3_lines wsX0_set := goodIn_r _ [16, 8, 64] (by decide +kernel) (by decide +kernel)
set_option maxRecDepth 20000 in
theorem gX3_lines_X0_set : GoodIn wsX3_lines (wsV RX3 142 RX0 yX0_set wsX0_set) := goodIn_app (goodIn_of _ (by decide +kernel)) ggX3_lines_X0_set
set_option maxRecDepth 20000 in
theorem ggX3_lines_X3_trace : GoodIn wsX3_lines wsX3_trace := goodIn_r _ [21, 22, 23, 24, 25, 26, 27, 28, 29, 30, 31, 32, 33, 20, 34, 35, 36, 9, 10, 11, 6, 12, 8, 37, 38, 39, 40, 45, 46, 47, 48, 49, 50, 51, 52, 53, 54, 55, 56, 57, 58, 59, 60, 61, 62, 63, 65, 66, 64] (by decide +kernel) (by decide +kernel)
set_option maxRecDepth 20000 in
theorem gX3_lines_X3_trace : GoodIn wsX3_lines (wsV RX3 194 RX3 yX3_trace wsX3_trace) := goodIn_app (goodIn_of _ (by decide +kernel)) ggX3_lines_X3_trace
set_option maxRecDepth 20000 in
theorem ggX3_lines_X3_markTrail : GoodIn wsX3_lines wsX3_markTrail := goodIn_r _ [44, 1, 23, 24, 25, 26, 27, 28, 29, 30, 13, 14, 15, 6, 16, 8, 45, 46, 47, 48, 49, 50, 51, 52, 53, 54, 55, 56, 57, 58, 59, 60, 61, 62, 63, 65, 66, 64] (by decide +kernel) (by decide +kernel)
set_option maxRecDepth 20000 in
theorem gX3_lines_X3_markTrail : GoodIn wsX3_lines (wsV RX3 210 RX3 yX3_markTrail wsX3_markTrail) := goodIn_app (goodIn_of _ (by decide +kernel)) ggX3_lines_X3_markTrail
theorem dX3_lines_0 : decode cX3_lines 0 = .ok (.aload_n 0, 1) := by decide +kernel
theorem dX3_lines_1 : decode cX3_lines 1 = .ok (.getfield 70, 3) := by decide +kernel
theorem dX3_lines_4 : decode cX3_lines 4 = .ok (.invokevirtual 209, 3) := by decide +kernel
theorem dX3_lines_7 : decode cX3_lines 7 = .ok (.iconst 0, 1) := by decide +kernel
theorem dX3_lines_8 : decode cX3_lines 8 = .ok (.istore_n 1, 1) := by decide +kernel
theorem dX3_lines_9 : decode cX3_lines 9 = .ok (.iconst 0, 1) := by decide +kernel
theorem dX3_lines_10 : decode cX3_lines 10 = .ok (.istore_n 2, 1) := by decide +kernel
theorem dX3_lines_11 : decode cX3_lines 11 = .ok (.iload_n 2, 1) := by decide +kernel
theorem dX3_lines_12 : decode cX3_lines 12 = .ok (.aload_n 0, 1) := by decide +kernel
theorem dX3_lines_13 : decode cX3_lines 13 = .ok (.getfield 77, 3) := by decide +kernel
theorem dX3_lines_16 : decode cX3_lines 16 = .ok (.if_icmp .ge 52, 3) := by decide +kernel
theorem dX3_lines_19 : decode cX3_lines 19 = .ok (.aload_n 0, 1) := by decide +kernel
theorem dX3_lines_20 : decode cX3_lines 20 = .ok (.getfield 70, 3) := by decide +kernel
theorem dX3_lines_23 : decode cX3_lines 23 = .ok (.iload_n 2, 1) := by decide +kernel
theorem dX3_lines_24 : decode cX3_lines 24 = .ok (.invokevirtual 138, 3) := by decide +kernel
theorem dX3_lines_27 : decode cX3_lines 27 = .ok (.ifCond .ne 35, 3) := by decide +kernel
theorem dX3_lines_30 : decode cX3_lines 30 = .ok (.iinc 1 1, 3) := by decide +kernel
theorem dX3_lines_33 : decode cX3_lines 33 = .ok (.aload_n 0, 1) := by decide +kernel
theorem dX3_lines_34 : decode cX3_lines 34 = .ok (.getfield 70, 3) := by decide +kernel
theorem dX3_lines_37 : decode cX3_lines 37 = .ok (.iload_n 2, 1) := by decide +kernel
theorem dX3_lines_38 : decode cX3_lines 38 = .ok (.iconst 1, 1) := by decide +kernel
theorem dX3_lines_39 : decode cX3_lines 39 = .ok (.invokevirtual 142, 3) := by decide +kernel
theorem dX3_lines_42 : decode cX3_lines 42 = .ok (.aload_n 0, 1) := by decide +kernel
theorem dX3_lines_43 : decode cX3_lines 43 = .ok (.aload_n 0, 1) := by decide +kernel
theorem dX3_lines_44 : decode cX3_lines 44 = .ok (.iload_n 2, 1) := by decide +kernel
theorem dX3_lines_45 : decode cX3_lines 45 = .ok (.iconst 1, 1) := by decide +kernel
theorem dX3_lines_46 : decode cX3_lines 46 = .ok (.invokevirtual 194, 3) := by decide +kernel
theorem dX3_lines_49 : decode cX3_lines 49 = .ok (.invokevirtual 210, 3) := by decide +kernel
theorem dX3_lines_52 : decode cX3_lines 52 = .ok (.aload_n 0, 1) := by decide +kernel
theorem dX3_lines_53 : decode cX3_lines 53 = .ok (.aload_n 0, 1) := by decide +kernel
theorem dX3_lines_54 : decode cX3_lines 54 = .ok (.iload_n 2, 1) := by decide +kernel
theorem dX3_lines_55 : decode cX3_lines 55 = .ok (.iconst 0, 1) := by decide +kernel
theorem dX3_lines_56 : decode cX3_lines 56 = .ok (.invokevirtual 194, 3) := by decide +kernel
theorem dX3_lines_59 : decode cX3_lines 59 = .ok (.invokevirtual 210, 3) := by decide +kernel
theorem dX3_lines_62 : decode cX3_lines 62 = .ok (.iinc 2 1, 3) := by decide +kernel
theorem dX3_lines_65 : decode cX3_lines 65 = .ok (.goto (-54), 3) := by decide +kernel
theorem dX3_lines_68 : decode cX3_lines 68 = .ok (.iload_n 1, 1) := by decide +kernel
theorem dX3_lines_69 : decode cX3_lines 69 = .ok (.ireturn, 1) := by decide +kernel
set_option maxRecDepth 20000 in
theorem ggX3_freePort_X3_checkPanel : GoodIn wsX3_freePort wsX3_checkPanel := goodIn_ca (goodIn_r _ [7, 8, 9, 10, 11, 12, 6, 13, 31, 32, 33, 34, 35, 36, 37, 38, 39, 40, 41, 42, 43, 44, 45, 46, 47, 48, 49] (by decide +kernel) (by decide +kernel)) (goodIn_sub (fun _ h => List.mem_cons_of_mem _ (List.mem_append_right _ h)) (by decide +kernel))
set_option maxRecDepth 20000 in
theorem gX3_freePort_X3_checkPanel : GoodIn wsX3_freePort (wsV RX3 213 RX3 yX3_checkPanel wsX3_checkPanel) := goodIn_app (goodIn_of _ (by decide +kernel)) ggX3_freePort_X3_checkPanel
set_option maxRecDepth 20000 in
theorem ggX3_freePort_X2_at : GoodIn wsX3_freePort wsX2_at := goodIn_r _ [18, 19, 20, 50, 51] (by decide +kernel) (by decide +kernel)
set_option maxRecDepth 20000 in
theorem gX3_freePort_X2_at : GoodIn wsX3_freePort (wsV RX3 107 RX2 yX2_at wsX2_at) := goodIn_app (goodIn_of _ (by decide +kernel)) ggX3_freePort_X2_at
set_option maxRecDepth 20000 in
theorem ggX3_freePort_X3_hasCable : GoodIn wsX3_freePort wsX3_hasCable := goodIn_r _ [24, 25, 14, 15, 16, 17, 18, 19, 20, 31, 32, 33, 34, 35, 36, 37, 38, 39, 40, 41, 42, 43, 44, 45, 46, 47, 48, 49, 50, 51] (by decide +kernel) (by decide +kernel)
set_option maxRecDepth 20000 in
theorem gX3_freePort_X3_hasCable : GoodIn wsX3_freePort (wsV RX3 148 RX3 yX3_hasCable wsX3_hasCable) := goodIn_app (goodIn_of _ (by decide +kernel)) ggX3_freePort_X3_hasCable
set_option maxRecDepth 20000 in
theorem ggX3_freePort_X3_hasStrand : GoodIn wsX3_freePort wsX3_hasStrand := goodIn_r _ [29, 30, 14, 15, 16, 17, 18, 19, 20, 31, 32, 33, 34, 35, 36, 37, 38, 39, 40, 41, 42, 43, 44, 45, 46, 47, 48, 49, 50, 51] (by decide +kernel) (by decide +kernel)
set_option maxRecDepth 20000 in
theorem gX3_freePort_X3_hasStrand : GoodIn wsX3_freePort (wsV RX3 216 RX3 yX3_hasStrand wsX3_hasStrand) := goodIn_app (goodIn_of _ (by decide +kernel)) ggX3_freePort_X3_hasStrand
theorem dX3_freePort_0 : decode cX3_freePort 0 = .ok (.aload_n 0, 1) := by decide +kernel
theorem dX3_freePort_1 : decode cX3_freePort 1 = .ok (.iload_n 1, 1) := by decide +kernel
theorem dX3_freePort_2 : decode cX3_freePort 2 = .ok (.invokevirtual 213, 3) := by decide +kernel
theorem dX3_freePort_5 : decode cX3_freePort 5 = .ok (.aload_n 0, 1) := by decide +kernel
theorem dX3_freePort_6 : decode cX3_freePort 6 = .ok (.getfield 18, 3) := by decide +kernel
theorem dX3_freePort_9 : decode cX3_freePort 9 = .ok (.iload_n 1, 1) := by decide +kernel
theorem dX3_freePort_10 : decode cX3_freePort 10 = .ok (.invokevirtual 107, 3) := by decide +kernel
theorem dX3_freePort_13 : decode cX3_freePort 13 = .ok (.istore_n 2, 1) := by decide +kernel
theorem dX3_freePort_14 : decode cX3_freePort 14 = .ok (.aload_n 0, 1) := by decide +kernel
theorem dX3_freePort_15 : decode cX3_freePort 15 = .ok (.getfield 21, 3) := by decide +kernel
theorem dX3_freePort_18 : decode cX3_freePort 18 = .ok (.iload_n 1, 1) := by decide +kernel
theorem dX3_freePort_19 : decode cX3_freePort 19 = .ok (.invokevirtual 107, 3) := by decide +kernel
theorem dX3_freePort_22 : decode cX3_freePort 22 = .ok (.istore_n 3, 1) := by decide +kernel
theorem dX3_freePort_23 : decode cX3_freePort 23 = .ok (.iconst 0, 1) := by decide +kernel
theorem dX3_freePort_24 : decode cX3_freePort 24 = .ok (.istore 4, 2) := by decide +kernel
theorem dX3_freePort_26 : decode cX3_freePort 26 = .ok (.iload 4, 2) := by decide +kernel
theorem dX3_freePort_28 : decode cX3_freePort 28 = .ok (.iload_n 3, 1) := by decide +kernel
theorem dX3_freePort_29 : decode cX3_freePort 29 = .ok (.if_icmp .ge 36, 3) := by decide +kernel
theorem dX3_freePort_32 : decode cX3_freePort 32 = .ok (.aload_n 0, 1) := by decide +kernel
theorem dX3_freePort_33 : decode cX3_freePort 33 = .ok (.iload_n 2, 1) := by decide +kernel
theorem dX3_freePort_34 : decode cX3_freePort 34 = .ok (.iload 4, 2) := by decide +kernel
theorem dX3_freePort_36 : decode cX3_freePort 36 = .ok (.iadd, 1) := by decide +kernel
theorem dX3_freePort_37 : decode cX3_freePort 37 = .ok (.invokevirtual 148, 3) := by decide +kernel
theorem dX3_freePort_40 : decode cX3_freePort 40 = .ok (.ifCond .ne 19, 3) := by decide +kernel
theorem dX3_freePort_43 : decode cX3_freePort 43 = .ok (.aload_n 0, 1) := by decide +kernel
theorem dX3_freePort_44 : decode cX3_freePort 44 = .ok (.iload_n 2, 1) := by decide +kernel
theorem dX3_freePort_45 : decode cX3_freePort 45 = .ok (.iload 4, 2) := by decide +kernel
theorem dX3_freePort_47 : decode cX3_freePort 47 = .ok (.iadd, 1) := by decide +kernel
theorem dX3_freePort_48 : decode cX3_freePort 48 = .ok (.invokevirtual 216, 3) := by decide +kernel
theorem dX3_freePort_51 : decode cX3_freePort 51 = .ok (.ifCond .ne 8, 3) := by decide +kernel
theorem dX3_freePort_54 : decode cX3_freePort 54 = .ok (.iload_n 2, 1) := by decide +kernel
theorem dX3_freePort_55 : decode cX3_freePort 55 = .ok (.iload 4, 2) := by decide +kernel
theorem dX3_freePort_57 : decode cX3_freePort 57 = .ok (.iadd, 1) := by decide +kernel
theorem dX3_freePort_58 : decode cX3_freePort 58 = .ok (.ireturn, 1) := by decide +kernel
theorem dX3_freePort_59 : decode cX3_freePort 59 = .ok (.iinc 4 1, 3) := by decide +kernel
theorem dX3_freePort_62 : decode cX3_freePort 62 = .ok (.goto (-36), 3) := by decide +kernel
theorem dX3_freePort_65 : decode cX3_freePort 65 = .ok (.iconst (-1), 1) := by decide +kernel
theorem dX3_freePort_66 : decode cX3_freePort 66 = .ok (.ireturn, 1) := by decide +kernel
set_option maxRecDepth 20000 in
theorem ggX3_used_X3_checkTrunk : GoodIn wsX3_used wsX3_checkTrunk := goodIn_ca (goodIn_r _ [8, 9, 10, 11, 12, 13, 7, 14, 27, 28, 29, 30, 31, 32, 33, 34, 35, 36, 37, 38, 39, 40, 41, 42, 43, 44, 45] (by decide +kernel) (by decide +kernel)) (goodIn_sub (fun _ h => List.mem_cons_of_mem _ (List.mem_append_right _ h)) (by decide +kernel))
set_option maxRecDepth 20000 in
theorem gX3_used_X3_checkTrunk : GoodIn wsX3_used (wsV RX3 130 RX3 yX3_checkTrunk wsX3_checkTrunk) := goodIn_app (goodIn_of _ (by decide +kernel)) ggX3_used_X3_checkTrunk
set_option maxRecDepth 20000 in
theorem ggX3_used_X2_at : GoodIn wsX3_used wsX2_at := goodIn_r _ [19, 20, 21, 46, 47] (by decide +kernel) (by decide +kernel)
set_option maxRecDepth 20000 in
theorem gX3_used_X2_at : GoodIn wsX3_used (wsV RX3 107 RX2 yX2_at wsX2_at) := goodIn_app (goodIn_of _ (by decide +kernel)) ggX3_used_X2_at
set_option maxRecDepth 20000 in
theorem ggX3_used_X3_hasCable : GoodIn wsX3_used wsX3_hasCable := goodIn_r _ [25, 26, 15, 16, 17, 18, 19, 20, 21, 27, 28, 29, 30, 31, 32, 33, 34, 35, 36, 37, 38, 39, 40, 41, 42, 43, 44, 45, 46, 47] (by decide +kernel) (by decide +kernel)
set_option maxRecDepth 20000 in
theorem gX3_used_X3_hasCable : GoodIn wsX3_used (wsV RX3 148 RX3 yX3_hasCable wsX3_hasCable) := goodIn_app (goodIn_of _ (by decide +kernel)) ggX3_used_X3_hasCable
theorem dX3_used_0 : decode cX3_used 0 = .ok (.aload_n 0, 1) := by decide +kernel
theorem dX3_used_1 : decode cX3_used 1 = .ok (.iload_n 1, 1) := by decide +kernel
theorem dX3_used_2 : decode cX3_used 2 = .ok (.invokevirtual 130, 3) := by decide +kernel
theorem dX3_used_5 : decode cX3_used 5 = .ok (.aload_n 0, 1) := by decide +kernel
theorem dX3_used_6 : decode cX3_used 6 = .ok (.getfield 48, 3) := by decide +kernel
theorem dX3_used_9 : decode cX3_used 9 = .ok (.iload_n 1, 1) := by decide +kernel
theorem dX3_used_10 : decode cX3_used 10 = .ok (.invokevirtual 107, 3) := by decide +kernel
theorem dX3_used_13 : decode cX3_used 13 = .ok (.istore_n 2, 1) := by decide +kernel
theorem dX3_used_14 : decode cX3_used 14 = .ok (.aload_n 0, 1) := by decide +kernel
theorem dX3_used_15 : decode cX3_used 15 = .ok (.getfield 51, 3) := by decide +kernel
theorem dX3_used_18 : decode cX3_used 18 = .ok (.iload_n 1, 1) := by decide +kernel
theorem dX3_used_19 : decode cX3_used 19 = .ok (.invokevirtual 107, 3) := by decide +kernel
theorem dX3_used_22 : decode cX3_used 22 = .ok (.istore_n 3, 1) := by decide +kernel
theorem dX3_used_23 : decode cX3_used 23 = .ok (.iconst 0, 1) := by decide +kernel
theorem dX3_used_24 : decode cX3_used 24 = .ok (.istore 4, 2) := by decide +kernel
theorem dX3_used_26 : decode cX3_used 26 = .ok (.iconst 0, 1) := by decide +kernel
theorem dX3_used_27 : decode cX3_used 27 = .ok (.istore 5, 2) := by decide +kernel
theorem dX3_used_29 : decode cX3_used 29 = .ok (.iload 5, 2) := by decide +kernel
theorem dX3_used_31 : decode cX3_used 31 = .ok (.iload_n 3, 1) := by decide +kernel
theorem dX3_used_32 : decode cX3_used 32 = .ok (.if_icmp .ge 41, 3) := by decide +kernel
theorem dX3_used_35 : decode cX3_used 35 = .ok (.aload_n 0, 1) := by decide +kernel
theorem dX3_used_36 : decode cX3_used 36 = .ok (.iload_n 2, 1) := by decide +kernel
theorem dX3_used_37 : decode cX3_used 37 = .ok (.iload 5, 2) := by decide +kernel
theorem dX3_used_39 : decode cX3_used 39 = .ok (.iadd, 1) := by decide +kernel
theorem dX3_used_40 : decode cX3_used 40 = .ok (.invokevirtual 148, 3) := by decide +kernel
theorem dX3_used_43 : decode cX3_used 43 = .ok (.ifCond .eq 24, 3) := by decide +kernel
theorem dX3_used_46 : decode cX3_used 46 = .ok (.aload_n 0, 1) := by decide +kernel
theorem dX3_used_47 : decode cX3_used 47 = .ok (.aload_n 0, 1) := by decide +kernel
theorem dX3_used_48 : decode cX3_used 48 = .ok (.getfield 33, 3) := by decide +kernel
theorem dX3_used_51 : decode cX3_used 51 = .ok (.iload_n 2, 1) := by decide +kernel
theorem dX3_used_52 : decode cX3_used 52 = .ok (.iload 5, 2) := by decide +kernel
theorem dX3_used_54 : decode cX3_used 54 = .ok (.iadd, 1) := by decide +kernel
theorem dX3_used_55 : decode cX3_used 55 = .ok (.invokevirtual 107, 3) := by decide +kernel
theorem dX3_used_58 : decode cX3_used 58 = .ok (.invokevirtual 148, 3) := by decide +kernel
theorem dX3_used_61 : decode cX3_used 61 = .ok (.ifCond .eq 6, 3) := by decide +kernel
theorem dX3_used_64 : decode cX3_used 64 = .ok (.iinc 4 1, 3) := by decide +kernel
theorem dX3_used_67 : decode cX3_used 67 = .ok (.iinc 5 1, 3) := by decide +kernel
theorem dX3_used_70 : decode cX3_used 70 = .ok (.goto (-41), 3) := by decide +kernel
theorem dX3_used_73 : decode cX3_used 73 = .ok (.iload 4, 2) := by decide +kernel
theorem dX3_used_75 : decode cX3_used 75 = .ok (.ireturn, 1) := by decide +kernel
set_option maxRecDepth 20000 in
theorem ggX3_canCarryOut_X3_planIsPossible : GoodIn wsX3_canCarryOut wsX3_planIsPossible := goodIn_r _ [5, 6, 7, 8, 9, 10, 11, 12, 13, 14, 15, 16, 17, 18, 19, 20, 21, 22, 23, 24, 25, 26, 27, 4, 28, 29, 30, 31, 32, 33, 34, 35, 36, 37, 38, 39, 40, 41, 42, 43, 44, 45, 46, 47, 48, 49, 50, 51, 52, 53, 54, 55, 56, 57, 58, 59, 60, 61, 62, 63, 64, 65, 66, 67, 68, 69, 70, 71, 72, 73, 74, 75] (by decide +kernel) (by decide +kernel)
set_option maxRecDepth 20000 in
theorem gX3_canCarryOut_X3_planIsPossible : GoodIn wsX3_canCarryOut (wsV RX3 179 RX3 yX3_planIsPossible wsX3_planIsPossible) := goodIn_app (goodIn_of _ (by decide +kernel)) ggX3_canCarryOut_X3_planIsPossible
theorem dX3_canCarryOut_0 : decode cX3_canCarryOut 0 = .ok (.aload_n 0, 1) := by decide +kernel
theorem dX3_canCarryOut_1 : decode cX3_canCarryOut 1 = .ok (.invokevirtual 179, 3) := by decide +kernel
theorem dX3_canCarryOut_4 : decode cX3_canCarryOut 4 = .ok (.ireturn, 1) := by decide +kernel
set_option maxRecDepth 20000 in
theorem ggX3_cableLength_X3_isLowerEnd : GoodIn wsX3_cableLength wsX3_isLowerEnd := goodIn_r _ [7, 2, 8, 9, 10, 11, 12, 13, 14, 25, 26, 27, 28, 29, 30, 31, 32, 33, 34, 35, 36, 37, 38, 39, 40, 41, 42, 43, 44, 45] (by decide +kernel) (by decide +kernel)
set_option maxRecDepth 20000 in
theorem gX3_cableLength_X3_isLowerEnd : GoodIn wsX3_cableLength (wsV RX3 191 RX3 yX3_isLowerEnd wsX3_isLowerEnd) := goodIn_app (goodIn_of _ (by decide +kernel)) ggX3_cableLength_X3_isLowerEnd
set_option maxRecDepth 20000 in
theorem ggX3_cableLength_X2_at : GoodIn wsX3_cableLength wsX2_at := goodIn_r _ [12, 13, 14, 44, 45] (by decide +kernel) (by decide +kernel)
set_option maxRecDepth 20000 in
theorem gX3_cableLength_X2_at : GoodIn wsX3_cableLength (wsV RX3 107 RX2 yX2_at wsX2_at) := goodIn_app (goodIn_of _ (by decide +kernel)) ggX3_cableLength_X2_at
set_option maxRecDepth 20000 in
theorem ggX3_cableLength_X3_lengthBetween : GoodIn wsX3_cableLength wsX3_lengthBetween := goodIn_r _ [18, 19, 20, 21, 22, 23, 24, 8, 9, 10, 11, 12, 13, 14, 25, 26, 27, 28, 29, 30, 31, 32, 33, 34, 35, 36, 37, 38, 39, 40, 41, 42, 43, 44, 45] (by decide +kernel) (by decide +kernel)
set_option maxRecDepth 20000 in
theorem gX3_cableLength_X3_lengthBetween : GoodIn wsX3_cableLength (wsV RX3 156 RX3 yX3_lengthBetween wsX3_lengthBetween) := goodIn_app (goodIn_of _ (by decide +kernel)) ggX3_cableLength_X3_lengthBetween
theorem dX3_cableLength_0 : decode cX3_cableLength 0 = .ok (.iconst 0, 1) := by decide +kernel
theorem dX3_cableLength_1 : decode cX3_cableLength 1 = .ok (.istore_n 1, 1) := by decide +kernel
theorem dX3_cableLength_2 : decode cX3_cableLength 2 = .ok (.iconst 0, 1) := by decide +kernel
theorem dX3_cableLength_3 : decode cX3_cableLength 3 = .ok (.istore_n 2, 1) := by decide +kernel
theorem dX3_cableLength_4 : decode cX3_cableLength 4 = .ok (.iload_n 2, 1) := by decide +kernel
theorem dX3_cableLength_5 : decode cX3_cableLength 5 = .ok (.aload_n 0, 1) := by decide +kernel
theorem dX3_cableLength_6 : decode cX3_cableLength 6 = .ok (.getfield 77, 3) := by decide +kernel
theorem dX3_cableLength_9 : decode cX3_cableLength 9 = .ok (.if_icmp .ge 33, 3) := by decide +kernel
theorem dX3_cableLength_12 : decode cX3_cableLength 12 = .ok (.aload_n 0, 1) := by decide +kernel
theorem dX3_cableLength_13 : decode cX3_cableLength 13 = .ok (.iload_n 2, 1) := by decide +kernel
theorem dX3_cableLength_14 : decode cX3_cableLength 14 = .ok (.invokevirtual 191, 3) := by decide +kernel
theorem dX3_cableLength_17 : decode cX3_cableLength 17 = .ok (.ifCond .eq 19, 3) := by decide +kernel
theorem dX3_cableLength_20 : decode cX3_cableLength 20 = .ok (.iload_n 1, 1) := by decide +kernel
theorem dX3_cableLength_21 : decode cX3_cableLength 21 = .ok (.aload_n 0, 1) := by decide +kernel
theorem dX3_cableLength_22 : decode cX3_cableLength 22 = .ok (.iload_n 2, 1) := by decide +kernel
theorem dX3_cableLength_23 : decode cX3_cableLength 23 = .ok (.aload_n 0, 1) := by decide +kernel
theorem dX3_cableLength_24 : decode cX3_cableLength 24 = .ok (.getfield 27, 3) := by decide +kernel
theorem dX3_cableLength_27 : decode cX3_cableLength 27 = .ok (.iload_n 2, 1) := by decide +kernel
theorem dX3_cableLength_28 : decode cX3_cableLength 28 = .ok (.invokevirtual 107, 3) := by decide +kernel
theorem dX3_cableLength_31 : decode cX3_cableLength 31 = .ok (.invokevirtual 156, 3) := by decide +kernel
theorem dX3_cableLength_34 : decode cX3_cableLength 34 = .ok (.iadd, 1) := by decide +kernel
theorem dX3_cableLength_35 : decode cX3_cableLength 35 = .ok (.istore_n 1, 1) := by decide +kernel
theorem dX3_cableLength_36 : decode cX3_cableLength 36 = .ok (.iinc 2 1, 3) := by decide +kernel
theorem dX3_cableLength_39 : decode cX3_cableLength 39 = .ok (.goto (-35), 3) := by decide +kernel
theorem dX3_cableLength_42 : decode cX3_cableLength 42 = .ok (.iload_n 1, 1) := by decide +kernel
theorem dX3_cableLength_43 : decode cX3_cableLength 43 = .ok (.ireturn, 1) := by decide +kernel
theorem dX3_isWithin_0 : decode cX3_isWithin 0 = .ok (.iload_n 0, 1) := by decide +kernel
theorem dX3_isWithin_1 : decode cX3_isWithin 1 = .ok (.iload_n 1, 1) := by decide +kernel
theorem dX3_isWithin_2 : decode cX3_isWithin 2 = .ok (.if_icmp .lt 12, 3) := by decide +kernel
theorem dX3_isWithin_5 : decode cX3_isWithin 5 = .ok (.iload_n 0, 1) := by decide +kernel
theorem dX3_isWithin_6 : decode cX3_isWithin 6 = .ok (.iload_n 2, 1) := by decide +kernel
theorem dX3_isWithin_7 : decode cX3_isWithin 7 = .ok (.if_icmp .gt 7, 3) := by decide +kernel
theorem dX3_isWithin_10 : decode cX3_isWithin 10 = .ok (.iconst 1, 1) := by decide +kernel
theorem dX3_isWithin_11 : decode cX3_isWithin 11 = .ok (.goto 4, 3) := by decide +kernel
theorem dX3_isWithin_14 : decode cX3_isWithin 14 = .ok (.iconst 0, 1) := by decide +kernel
theorem dX3_isWithin_15 : decode cX3_isWithin 15 = .ok (.ireturn, 1) := by decide +kernel
set_option maxRecDepth 20000 in
theorem ggX3_checkPort_X3_isWithin : GoodIn wsX3_checkPort wsX3_isWithin := goodIn_r _ [7] (by decide +kernel) (by decide +kernel)
set_option maxRecDepth 20000 in
theorem gX3_checkPort_X3_isWithin : GoodIn wsX3_checkPort (va_wsS RX3 83 yX3_isWithin wsX3_isWithin) := goodIn_app (goodIn_of _ (by decide +kernel)) ggX3_checkPort_X3_isWithin
theorem dX3_checkPort_0 : decode cX3_checkPort 0 = .ok (.iload_n 1, 1) := by decide +kernel
theorem dX3_checkPort_1 : decode cX3_checkPort 1 = .ok (.iconst 0, 1) := by decide +kernel
theorem dX3_checkPort_2 : decode cX3_checkPort 2 = .ok (.aload_n 0, 1) := by decide +kernel
theorem dX3_checkPort_3 : decode cX3_checkPort 3 = .ok (.getfield 77, 3) := by decide +kernel
theorem dX3_checkPort_6 : decode cX3_checkPort 6 = .ok (.iconst 1, 1) := by decide +kernel
theorem dX3_checkPort_7 : decode cX3_checkPort 7 = .ok (.isub, 1) := by decide +kernel
theorem dX3_checkPort_8 : decode cX3_checkPort 8 = .ok (.invokestatic 83, 3) := by decide +kernel
theorem dX3_checkPort_11 : decode cX3_checkPort 11 = .ok (.ifCond .ne 13, 3) := by decide +kernel
theorem dX3_checkPort_14 : decode cX3_checkPort 14 = .ok (.new 133, 3) := by decide +kernel
theorem dX3_checkPort_17 : decode cX3_checkPort 17 = .ok (.dup, 1) := by decide +kernel
theorem dX3_checkPort_18 : decode cX3_checkPort 18 = .ok (.ldc 222, 2) := by decide +kernel
theorem dX3_checkPort_20 : decode cX3_checkPort 20 = .ok (.invokespecial 137, 3) := by decide +kernel
theorem dX3_checkPort_23 : decode cX3_checkPort 23 = .ok (.athrow, 1) := by decide +kernel
theorem dX3_checkPort_24 : decode cX3_checkPort 24 = .ok (.return_, 1) := by decide +kernel
set_option maxRecDepth 20000 in
theorem ggX3_checkPanel_X3_isWithin : GoodIn wsX3_checkPanel wsX3_isWithin := goodIn_r _ [7] (by decide +kernel) (by decide +kernel)
set_option maxRecDepth 20000 in
theorem gX3_checkPanel_X3_isWithin : GoodIn wsX3_checkPanel (va_wsS RX3 83 yX3_isWithin wsX3_isWithin) := goodIn_app (goodIn_of _ (by decide +kernel)) ggX3_checkPanel_X3_isWithin
theorem dX3_checkPanel_0 : decode cX3_checkPanel 0 = .ok (.iload_n 1, 1) := by decide +kernel
theorem dX3_checkPanel_1 : decode cX3_checkPanel 1 = .ok (.iconst 0, 1) := by decide +kernel
theorem dX3_checkPanel_2 : decode cX3_checkPanel 2 = .ok (.aload_n 0, 1) := by decide +kernel
theorem dX3_checkPanel_3 : decode cX3_checkPanel 3 = .ok (.getfield 73, 3) := by decide +kernel
theorem dX3_checkPanel_6 : decode cX3_checkPanel 6 = .ok (.iconst 1, 1) := by decide +kernel
theorem dX3_checkPanel_7 : decode cX3_checkPanel 7 = .ok (.isub, 1) := by decide +kernel
theorem dX3_checkPanel_8 : decode cX3_checkPanel 8 = .ok (.invokestatic 83, 3) := by decide +kernel
theorem dX3_checkPanel_11 : decode cX3_checkPanel 11 = .ok (.ifCond .ne 13, 3) := by decide +kernel
theorem dX3_checkPanel_14 : decode cX3_checkPanel 14 = .ok (.new 133, 3) := by decide +kernel
theorem dX3_checkPanel_17 : decode cX3_checkPanel 17 = .ok (.dup, 1) := by decide +kernel
theorem dX3_checkPanel_18 : decode cX3_checkPanel 18 = .ok (.ldc 224, 2) := by decide +kernel
theorem dX3_checkPanel_20 : decode cX3_checkPanel 20 = .ok (.invokespecial 137, 3) := by decide +kernel
theorem dX3_checkPanel_23 : decode cX3_checkPanel 23 = .ok (.athrow, 1) := by decide +kernel
theorem dX3_checkPanel_24 : decode cX3_checkPanel 24 = .ok (.return_, 1) := by decide +kernel
set_option maxRecDepth 20000 in
theorem ggX3_checkTrunk_X3_isWithin : GoodIn wsX3_checkTrunk wsX3_isWithin := goodIn_r _ [7] (by decide +kernel) (by decide +kernel)
set_option maxRecDepth 20000 in
theorem gX3_checkTrunk_X3_isWithin : GoodIn wsX3_checkTrunk (va_wsS RX3 83 yX3_isWithin wsX3_isWithin) := goodIn_app (goodIn_of _ (by decide +kernel)) ggX3_checkTrunk_X3_isWithin
theorem dX3_checkTrunk_0 : decode cX3_checkTrunk 0 = .ok (.iload_n 1, 1) := by decide +kernel
theorem dX3_checkTrunk_1 : decode cX3_checkTrunk 1 = .ok (.iconst 0, 1) := by decide +kernel
theorem dX3_checkTrunk_2 : decode cX3_checkTrunk 2 = .ok (.aload_n 0, 1) := by decide +kernel
theorem dX3_checkTrunk_3 : decode cX3_checkTrunk 3 = .ok (.getfield 80, 3) := by decide +kernel
theorem dX3_checkTrunk_6 : decode cX3_checkTrunk 6 = .ok (.iconst 1, 1) := by decide +kernel
theorem dX3_checkTrunk_7 : decode cX3_checkTrunk 7 = .ok (.isub, 1) := by decide +kernel
theorem dX3_checkTrunk_8 : decode cX3_checkTrunk 8 = .ok (.invokestatic 83, 3) := by decide +kernel
theorem dX3_checkTrunk_11 : decode cX3_checkTrunk 11 = .ok (.ifCond .ne 13, 3) := by decide +kernel
theorem dX3_checkTrunk_14 : decode cX3_checkTrunk 14 = .ok (.new 133, 3) := by decide +kernel
theorem dX3_checkTrunk_17 : decode cX3_checkTrunk 17 = .ok (.dup, 1) := by decide +kernel
theorem dX3_checkTrunk_18 : decode cX3_checkTrunk 18 = .ok (.ldc 226, 2) := by decide +kernel
theorem dX3_checkTrunk_20 : decode cX3_checkTrunk 20 = .ok (.invokespecial 137, 3) := by decide +kernel
theorem dX3_checkTrunk_23 : decode cX3_checkTrunk 23 = .ok (.athrow, 1) := by decide +kernel
theorem dX3_checkTrunk_24 : decode cX3_checkTrunk 24 = .ok (.return_, 1) := by decide +kernel
set_option maxRecDepth 20000 in
theorem ggX3_portsFrom_X2_at : GoodIn wsX3_portsFrom wsX2_at := goodIn_r _ [8, 9, 10, 30, 31] (by decide +kernel) (by decide +kernel)
set_option maxRecDepth 20000 in
theorem gX3_portsFrom_X2_at : GoodIn wsX3_portsFrom (wsV RX3 107 RX2 yX2_at wsX2_at) := goodIn_app (goodIn_of _ (by decide +kernel)) ggX3_portsFrom_X2_at
theorem dX3_portsFrom_0 : decode cX3_portsFrom 0 = .ok (.aload_n 0, 1) := by decide +kernel
theorem dX3_portsFrom_1 : decode cX3_portsFrom 1 = .ok (.getfield 24, 3) := by decide +kernel
theorem dX3_portsFrom_4 : decode cX3_portsFrom 4 = .ok (.iload_n 1, 1) := by decide +kernel
theorem dX3_portsFrom_5 : decode cX3_portsFrom 5 = .ok (.invokevirtual 107, 3) := by decide +kernel
theorem dX3_portsFrom_8 : decode cX3_portsFrom 8 = .ok (.istore_n 2, 1) := by decide +kernel
theorem dX3_portsFrom_9 : decode cX3_portsFrom 9 = .ok (.aload_n 0, 1) := by decide +kernel
theorem dX3_portsFrom_10 : decode cX3_portsFrom 10 = .ok (.getfield 18, 3) := by decide +kernel
theorem dX3_portsFrom_13 : decode cX3_portsFrom 13 = .ok (.iload_n 2, 1) := by decide +kernel
theorem dX3_portsFrom_14 : decode cX3_portsFrom 14 = .ok (.invokevirtual 107, 3) := by decide +kernel
theorem dX3_portsFrom_17 : decode cX3_portsFrom 17 = .ok (.aload_n 0, 1) := by decide +kernel
theorem dX3_portsFrom_18 : decode cX3_portsFrom 18 = .ok (.getfield 21, 3) := by decide +kernel
theorem dX3_portsFrom_21 : decode cX3_portsFrom 21 = .ok (.iload_n 2, 1) := by decide +kernel
theorem dX3_portsFrom_22 : decode cX3_portsFrom 22 = .ok (.invokevirtual 107, 3) := by decide +kernel
theorem dX3_portsFrom_25 : decode cX3_portsFrom 25 = .ok (.iadd, 1) := by decide +kernel
theorem dX3_portsFrom_26 : decode cX3_portsFrom 26 = .ok (.iload_n 1, 1) := by decide +kernel
theorem dX3_portsFrom_27 : decode cX3_portsFrom 27 = .ok (.isub, 1) := by decide +kernel
theorem dX3_portsFrom_28 : decode cX3_portsFrom 28 = .ok (.ireturn, 1) := by decide +kernel
set_option maxRecDepth 20000 in
theorem ggX3_hasStrand_X2_at : GoodIn wsX3_hasStrand wsX2_at := goodIn_r _ [6, 7, 8, 28, 29] (by decide +kernel) (by decide +kernel)
set_option maxRecDepth 20000 in
theorem gX3_hasStrand_X2_at : GoodIn wsX3_hasStrand (wsV RX3 107 RX2 yX2_at wsX2_at) := goodIn_app (goodIn_of _ (by decide +kernel)) ggX3_hasStrand_X2_at
theorem dX3_hasStrand_0 : decode cX3_hasStrand 0 = .ok (.aload_n 0, 1) := by decide +kernel
theorem dX3_hasStrand_1 : decode cX3_hasStrand 1 = .ok (.getfield 33, 3) := by decide +kernel
theorem dX3_hasStrand_4 : decode cX3_hasStrand 4 = .ok (.iload_n 1, 1) := by decide +kernel
theorem dX3_hasStrand_5 : decode cX3_hasStrand 5 = .ok (.invokevirtual 107, 3) := by decide +kernel
theorem dX3_hasStrand_8 : decode cX3_hasStrand 8 = .ok (.iconst (-1), 1) := by decide +kernel
theorem dX3_hasStrand_9 : decode cX3_hasStrand 9 = .ok (.if_icmp .eq 7, 3) := by decide +kernel
theorem dX3_hasStrand_12 : decode cX3_hasStrand 12 = .ok (.iconst 1, 1) := by decide +kernel
theorem dX3_hasStrand_13 : decode cX3_hasStrand 13 = .ok (.goto 4, 3) := by decide +kernel
theorem dX3_hasStrand_16 : decode cX3_hasStrand 16 = .ok (.iconst 0, 1) := by decide +kernel
theorem dX3_hasStrand_17 : decode cX3_hasStrand 17 = .ok (.ireturn, 1) := by decide +kernel
set_option maxRecDepth 20000 in
theorem ggX3_anyStrand_X3_hasStrand : GoodIn wsX3_anyStrand wsX3_hasStrand := goodIn_r _ [5, 6, 7, 8, 9, 10, 11, 12, 13, 14, 15, 16, 17, 18, 19, 20, 21, 22, 23, 24, 25, 26, 27, 28, 29, 30, 31, 32, 33, 34] (by decide +kernel) (by decide +kernel)
set_option maxRecDepth 20000 in
theorem gX3_anyStrand_X3_hasStrand : GoodIn wsX3_anyStrand (wsV RX3 216 RX3 yX3_hasStrand wsX3_hasStrand) := goodIn_app (goodIn_of _ (by decide +kernel)) ggX3_anyStrand_X3_hasStrand
theorem dX3_anyStrand_0 : decode cX3_anyStrand 0 = .ok (.iconst 0, 1) := by decide +kernel
theorem dX3_anyStrand_1 : decode cX3_anyStrand 1 = .ok (.istore_n 3, 1) := by decide +kernel
theorem dX3_anyStrand_2 : decode cX3_anyStrand 2 = .ok (.iload_n 3, 1) := by decide +kernel
theorem dX3_anyStrand_3 : decode cX3_anyStrand 3 = .ok (.iload_n 2, 1) := by decide +kernel
theorem dX3_anyStrand_4 : decode cX3_anyStrand 4 = .ok (.if_icmp .ge 21, 3) := by decide +kernel
theorem dX3_anyStrand_7 : decode cX3_anyStrand 7 = .ok (.aload_n 0, 1) := by decide +kernel
theorem dX3_anyStrand_8 : decode cX3_anyStrand 8 = .ok (.iload_n 1, 1) := by decide +kernel
theorem dX3_anyStrand_9 : decode cX3_anyStrand 9 = .ok (.iload_n 3, 1) := by decide +kernel
theorem dX3_anyStrand_10 : decode cX3_anyStrand 10 = .ok (.iadd, 1) := by decide +kernel
theorem dX3_anyStrand_11 : decode cX3_anyStrand 11 = .ok (.invokevirtual 216, 3) := by decide +kernel
theorem dX3_anyStrand_14 : decode cX3_anyStrand 14 = .ok (.ifCond .eq 5, 3) := by decide +kernel
theorem dX3_anyStrand_17 : decode cX3_anyStrand 17 = .ok (.iconst 1, 1) := by decide +kernel
theorem dX3_anyStrand_18 : decode cX3_anyStrand 18 = .ok (.ireturn, 1) := by decide +kernel
theorem dX3_anyStrand_19 : decode cX3_anyStrand 19 = .ok (.iinc 3 1, 3) := by decide +kernel
theorem dX3_anyStrand_22 : decode cX3_anyStrand 22 = .ok (.goto (-20), 3) := by decide +kernel
theorem dX3_anyStrand_25 : decode cX3_anyStrand 25 = .ok (.iconst 0, 1) := by decide +kernel
theorem dX3_anyStrand_26 : decode cX3_anyStrand 26 = .ok (.ireturn, 1) := by decide +kernel
set_option maxRecDepth 20000 in
theorem ggX3_joinByStrand_X2_put : GoodIn wsX3_joinByStrand wsX2_put := goodIn_r _ [7, 8, 28, 29] (by decide +kernel) (by decide +kernel)
set_option maxRecDepth 20000 in
theorem gX3_joinByStrand_X2_put : GoodIn wsX3_joinByStrand (wsV RX3 99 RX2 yX2_put wsX2_put) := goodIn_app (goodIn_of _ (by decide +kernel)) ggX3_joinByStrand_X2_put
theorem dX3_joinByStrand_0 : decode cX3_joinByStrand 0 = .ok (.aload_n 0, 1) := by decide +kernel
theorem dX3_joinByStrand_1 : decode cX3_joinByStrand 1 = .ok (.getfield 33, 3) := by decide +kernel
theorem dX3_joinByStrand_4 : decode cX3_joinByStrand 4 = .ok (.iload_n 1, 1) := by decide +kernel
theorem dX3_joinByStrand_5 : decode cX3_joinByStrand 5 = .ok (.iload_n 2, 1) := by decide +kernel
theorem dX3_joinByStrand_6 : decode cX3_joinByStrand 6 = .ok (.invokevirtual 99, 3) := by decide +kernel
theorem dX3_joinByStrand_9 : decode cX3_joinByStrand 9 = .ok (.aload_n 0, 1) := by decide +kernel
theorem dX3_joinByStrand_10 : decode cX3_joinByStrand 10 = .ok (.getfield 33, 3) := by decide +kernel
theorem dX3_joinByStrand_13 : decode cX3_joinByStrand 13 = .ok (.iload_n 2, 1) := by decide +kernel
theorem dX3_joinByStrand_14 : decode cX3_joinByStrand 14 = .ok (.iload_n 1, 1) := by decide +kernel
theorem dX3_joinByStrand_15 : decode cX3_joinByStrand 15 = .ok (.invokevirtual 99, 3) := by decide +kernel
theorem dX3_joinByStrand_18 : decode cX3_joinByStrand 18 = .ok (.aload_n 0, 1) := by decide +kernel
theorem dX3_joinByStrand_19 : decode cX3_joinByStrand 19 = .ok (.getfield 36, 3) := by decide +kernel
theorem dX3_joinByStrand_22 : decode cX3_joinByStrand 22 = .ok (.iload_n 1, 1) := by decide +kernel
theorem dX3_joinByStrand_23 : decode cX3_joinByStrand 23 = .ok (.iload_n 3, 1) := by decide +kernel
theorem dX3_joinByStrand_24 : decode cX3_joinByStrand 24 = .ok (.invokevirtual 99, 3) := by decide +kernel
theorem dX3_joinByStrand_27 : decode cX3_joinByStrand 27 = .ok (.aload_n 0, 1) := by decide +kernel
theorem dX3_joinByStrand_28 : decode cX3_joinByStrand 28 = .ok (.getfield 36, 3) := by decide +kernel
theorem dX3_joinByStrand_31 : decode cX3_joinByStrand 31 = .ok (.iload_n 2, 1) := by decide +kernel
theorem dX3_joinByStrand_32 : decode cX3_joinByStrand 32 = .ok (.iload_n 3, 1) := by decide +kernel
theorem dX3_joinByStrand_33 : decode cX3_joinByStrand 33 = .ok (.invokevirtual 99, 3) := by decide +kernel
theorem dX3_joinByStrand_36 : decode cX3_joinByStrand 36 = .ok (.return_, 1) := by decide +kernel
set_option maxRecDepth 20000 in
theorem ggX3_openStrandFrom_X0_has : GoodIn wsX3_openStrandFrom wsX0_has := goodIn_r _ [7, 8, 35] (by decide +kernel) (by decide +kernel)
set_option maxRecDepth 20000 in
theorem gX3_openStrandFrom_X0_has : GoodIn wsX3_openStrandFrom (wsV RX3 138 RX0 yX0_has wsX0_has) := goodIn_app (goodIn_of _ (by decide +kernel)) ggX3_openStrandFrom_X0_has
set_option maxRecDepth 20000 in
theorem ggX3_openStrandFrom_X2_at : GoodIn wsX3_openStrandFrom wsX2_at := goodIn_r _ [13, 14, 15, 36, 37] (by decide +kernel) (by decide +kernel)
set_option maxRecDepth 20000 in
theorem gX3_openStrandFrom_X2_at : GoodIn wsX3_openStrandFrom (wsV RX3 107 RX2 yX2_at wsX2_at) := goodIn_app (goodIn_of _ (by decide +kernel)) ggX3_openStrandFrom_X2_at
theorem dX3_openStrandFrom_0 : decode cX3_openStrandFrom 0 = .ok (.aload_n 0, 1) := by decide +kernel
theorem dX3_openStrandFrom_1 : decode cX3_openStrandFrom 1 = .ok (.getfield 44, 3) := by decide +kernel
theorem dX3_openStrandFrom_4 : decode cX3_openStrandFrom 4 = .ok (.iload_n 1, 1) := by decide +kernel
theorem dX3_openStrandFrom_5 : decode cX3_openStrandFrom 5 = .ok (.invokevirtual 138, 3) := by decide +kernel
theorem dX3_openStrandFrom_8 : decode cX3_openStrandFrom 8 = .ok (.ifCond .eq 7, 3) := by decide +kernel
theorem dX3_openStrandFrom_11 : decode cX3_openStrandFrom 11 = .ok (.iconst (-1), 1) := by decide +kernel
theorem dX3_openStrandFrom_12 : decode cX3_openStrandFrom 12 = .ok (.goto 11, 3) := by decide +kernel
theorem dX3_openStrandFrom_15 : decode cX3_openStrandFrom 15 = .ok (.aload_n 0, 1) := by decide +kernel
theorem dX3_openStrandFrom_16 : decode cX3_openStrandFrom 16 = .ok (.getfield 33, 3) := by decide +kernel
theorem dX3_openStrandFrom_19 : decode cX3_openStrandFrom 19 = .ok (.iload_n 1, 1) := by decide +kernel
theorem dX3_openStrandFrom_20 : decode cX3_openStrandFrom 20 = .ok (.invokevirtual 107, 3) := by decide +kernel
theorem dX3_openStrandFrom_23 : decode cX3_openStrandFrom 23 = .ok (.ireturn, 1) := by decide +kernel
set_option maxRecDepth 20000 in
theorem ggX3_hasCable_X2_at : GoodIn wsX3_hasCable wsX2_at := goodIn_r _ [6, 7, 8, 28, 29] (by decide +kernel) (by decide +kernel)
set_option maxRecDepth 20000 in
theorem gX3_hasCable_X2_at : GoodIn wsX3_hasCable (wsV RX3 107 RX2 yX2_at wsX2_at) := goodIn_app (goodIn_of _ (by decide +kernel)) ggX3_hasCable_X2_at
theorem dX3_hasCable_0 : decode cX3_hasCable 0 = .ok (.aload_n 0, 1) := by decide +kernel
theorem dX3_hasCable_1 : decode cX3_hasCable 1 = .ok (.getfield 27, 3) := by decide +kernel
theorem dX3_hasCable_4 : decode cX3_hasCable 4 = .ok (.iload_n 1, 1) := by decide +kernel
theorem dX3_hasCable_5 : decode cX3_hasCable 5 = .ok (.invokevirtual 107, 3) := by decide +kernel
theorem dX3_hasCable_8 : decode cX3_hasCable 8 = .ok (.iconst (-1), 1) := by decide +kernel
theorem dX3_hasCable_9 : decode cX3_hasCable 9 = .ok (.if_icmp .eq 7, 3) := by decide +kernel
theorem dX3_hasCable_12 : decode cX3_hasCable 12 = .ok (.iconst 1, 1) := by decide +kernel
theorem dX3_hasCable_13 : decode cX3_hasCable 13 = .ok (.goto 4, 3) := by decide +kernel
theorem dX3_hasCable_16 : decode cX3_hasCable 16 = .ok (.iconst 0, 1) := by decide +kernel
theorem dX3_hasCable_17 : decode cX3_hasCable 17 = .ok (.ireturn, 1) := by decide +kernel
set_option maxRecDepth 20000 in
theorem ggX3_isLowerEnd_X2_at : GoodIn wsX3_isLowerEnd wsX2_at := goodIn_r _ [6, 7, 8, 28, 29] (by decide +kernel) (by decide +kernel)
set_option maxRecDepth 20000 in
theorem gX3_isLowerEnd_X2_at : GoodIn wsX3_isLowerEnd (wsV RX3 107 RX2 yX2_at wsX2_at) := goodIn_app (goodIn_of _ (by decide +kernel)) ggX3_isLowerEnd_X2_at
theorem dX3_isLowerEnd_0 : decode cX3_isLowerEnd 0 = .ok (.aload_n 0, 1) := by decide +kernel
theorem dX3_isLowerEnd_1 : decode cX3_isLowerEnd 1 = .ok (.getfield 27, 3) := by decide +kernel
theorem dX3_isLowerEnd_4 : decode cX3_isLowerEnd 4 = .ok (.iload_n 1, 1) := by decide +kernel
theorem dX3_isLowerEnd_5 : decode cX3_isLowerEnd 5 = .ok (.invokevirtual 107, 3) := by decide +kernel
theorem dX3_isLowerEnd_8 : decode cX3_isLowerEnd 8 = .ok (.iload_n 1, 1) := by decide +kernel
theorem dX3_isLowerEnd_9 : decode cX3_isLowerEnd 9 = .ok (.if_icmp .le 7, 3) := by decide +kernel
theorem dX3_isLowerEnd_12 : decode cX3_isLowerEnd 12 = .ok (.iconst 1, 1) := by decide +kernel
theorem dX3_isLowerEnd_13 : decode cX3_isLowerEnd 13 = .ok (.goto 4, 3) := by decide +kernel
theorem dX3_isLowerEnd_16 : decode cX3_isLowerEnd 16 = .ok (.iconst 0, 1) := by decide +kernel
theorem dX3_isLowerEnd_17 : decode cX3_isLowerEnd 17 = .ok (.ireturn, 1) := by decide +kernel
set_option maxRecDepth 20000 in
theorem ggX3_joinByCable_X2_put : GoodIn wsX3_joinByCable wsX2_put := goodIn_r _ [7, 8, 28, 29] (by decide +kernel) (by decide +kernel)
set_option maxRecDepth 20000 in
theorem gX3_joinByCable_X2_put : GoodIn wsX3_joinByCable (wsV RX3 99 RX2 yX2_put wsX2_put) := goodIn_app (goodIn_of _ (by decide +kernel)) ggX3_joinByCable_X2_put
theorem dX3_joinByCable_0 : decode cX3_joinByCable 0 = .ok (.aload_n 0, 1) := by decide +kernel
theorem dX3_joinByCable_1 : decode cX3_joinByCable 1 = .ok (.getfield 27, 3) := by decide +kernel
theorem dX3_joinByCable_4 : decode cX3_joinByCable 4 = .ok (.iload_n 1, 1) := by decide +kernel
theorem dX3_joinByCable_5 : decode cX3_joinByCable 5 = .ok (.iload_n 2, 1) := by decide +kernel
theorem dX3_joinByCable_6 : decode cX3_joinByCable 6 = .ok (.invokevirtual 99, 3) := by decide +kernel
theorem dX3_joinByCable_9 : decode cX3_joinByCable 9 = .ok (.aload_n 0, 1) := by decide +kernel
theorem dX3_joinByCable_10 : decode cX3_joinByCable 10 = .ok (.getfield 27, 3) := by decide +kernel
theorem dX3_joinByCable_13 : decode cX3_joinByCable 13 = .ok (.iload_n 2, 1) := by decide +kernel
theorem dX3_joinByCable_14 : decode cX3_joinByCable 14 = .ok (.iload_n 1, 1) := by decide +kernel
theorem dX3_joinByCable_15 : decode cX3_joinByCable 15 = .ok (.invokevirtual 99, 3) := by decide +kernel
theorem dX3_joinByCable_18 : decode cX3_joinByCable 18 = .ok (.aload_n 0, 1) := by decide +kernel
theorem dX3_joinByCable_19 : decode cX3_joinByCable 19 = .ok (.getfield 30, 3) := by decide +kernel
theorem dX3_joinByCable_22 : decode cX3_joinByCable 22 = .ok (.iload_n 1, 1) := by decide +kernel
theorem dX3_joinByCable_23 : decode cX3_joinByCable 23 = .ok (.iload_n 3, 1) := by decide +kernel
theorem dX3_joinByCable_24 : decode cX3_joinByCable 24 = .ok (.invokevirtual 99, 3) := by decide +kernel
theorem dX3_joinByCable_27 : decode cX3_joinByCable 27 = .ok (.aload_n 0, 1) := by decide +kernel
theorem dX3_joinByCable_28 : decode cX3_joinByCable 28 = .ok (.getfield 30, 3) := by decide +kernel
theorem dX3_joinByCable_31 : decode cX3_joinByCable 31 = .ok (.iload_n 2, 1) := by decide +kernel
theorem dX3_joinByCable_32 : decode cX3_joinByCable 32 = .ok (.iload_n 3, 1) := by decide +kernel
theorem dX3_joinByCable_33 : decode cX3_joinByCable 33 = .ok (.invokevirtual 99, 3) := by decide +kernel
theorem dX3_joinByCable_36 : decode cX3_joinByCable 36 = .ok (.return_, 1) := by decide +kernel
set_option maxRecDepth 20000 in
theorem ggX3_clearCable_X2_put : GoodIn wsX3_clearCable wsX2_put := goodIn_r _ [7, 8, 28, 29] (by decide +kernel) (by decide +kernel)
set_option maxRecDepth 20000 in
theorem gX3_clearCable_X2_put : GoodIn wsX3_clearCable (wsV RX3 99 RX2 yX2_put wsX2_put) := goodIn_app (goodIn_of _ (by decide +kernel)) ggX3_clearCable_X2_put
theorem dX3_clearCable_0 : decode cX3_clearCable 0 = .ok (.aload_n 0, 1) := by decide +kernel
theorem dX3_clearCable_1 : decode cX3_clearCable 1 = .ok (.getfield 27, 3) := by decide +kernel
theorem dX3_clearCable_4 : decode cX3_clearCable 4 = .ok (.iload_n 1, 1) := by decide +kernel
theorem dX3_clearCable_5 : decode cX3_clearCable 5 = .ok (.iconst (-1), 1) := by decide +kernel
theorem dX3_clearCable_6 : decode cX3_clearCable 6 = .ok (.invokevirtual 99, 3) := by decide +kernel
theorem dX3_clearCable_9 : decode cX3_clearCable 9 = .ok (.aload_n 0, 1) := by decide +kernel
theorem dX3_clearCable_10 : decode cX3_clearCable 10 = .ok (.getfield 30, 3) := by decide +kernel
theorem dX3_clearCable_13 : decode cX3_clearCable 13 = .ok (.iload_n 1, 1) := by decide +kernel
theorem dX3_clearCable_14 : decode cX3_clearCable 14 = .ok (.iconst 0, 1) := by decide +kernel
theorem dX3_clearCable_15 : decode cX3_clearCable 15 = .ok (.invokevirtual 99, 3) := by decide +kernel
theorem dX3_clearCable_18 : decode cX3_clearCable 18 = .ok (.return_, 1) := by decide +kernel
set_option maxRecDepth 20000 in
theorem ggX3_lengthBetween_X2_at : GoodIn wsX3_lengthBetween wsX2_at := goodIn_r _ [11, 12, 13, 33, 34] (by decide +kernel) (by decide +kernel)
set_option maxRecDepth 20000 in
theorem gX3_lengthBetween_X2_at : GoodIn wsX3_lengthBetween (wsV RX3 107 RX2 yX2_at wsX2_at) := goodIn_app (goodIn_of _ (by decide +kernel)) ggX3_lengthBetween_X2_at
theorem dX3_lengthBetween_0 : decode cX3_lengthBetween 0 = .ok (.aload_n 0, 1) := by decide +kernel
theorem dX3_lengthBetween_1 : decode cX3_lengthBetween 1 = .ok (.getfield 24, 3) := by decide +kernel
theorem dX3_lengthBetween_4 : decode cX3_lengthBetween 4 = .ok (.iload_n 1, 1) := by decide +kernel
theorem dX3_lengthBetween_5 : decode cX3_lengthBetween 5 = .ok (.invokevirtual 107, 3) := by decide +kernel
theorem dX3_lengthBetween_8 : decode cX3_lengthBetween 8 = .ok (.istore_n 3, 1) := by decide +kernel
theorem dX3_lengthBetween_9 : decode cX3_lengthBetween 9 = .ok (.aload_n 0, 1) := by decide +kernel
theorem dX3_lengthBetween_10 : decode cX3_lengthBetween 10 = .ok (.getfield 24, 3) := by decide +kernel
theorem dX3_lengthBetween_13 : decode cX3_lengthBetween 13 = .ok (.iload_n 2, 1) := by decide +kernel
theorem dX3_lengthBetween_14 : decode cX3_lengthBetween 14 = .ok (.invokevirtual 107, 3) := by decide +kernel
theorem dX3_lengthBetween_17 : decode cX3_lengthBetween 17 = .ok (.istore 4, 2) := by decide +kernel
theorem dX3_lengthBetween_19 : decode cX3_lengthBetween 19 = .ok (.iload_n 3, 1) := by decide +kernel
theorem dX3_lengthBetween_20 : decode cX3_lengthBetween 20 = .ok (.iload 4, 2) := by decide +kernel
theorem dX3_lengthBetween_22 : decode cX3_lengthBetween 22 = .ok (.if_icmp .ne 5, 3) := by decide +kernel
theorem dX3_lengthBetween_25 : decode cX3_lengthBetween 25 = .ok (.iconst 1, 1) := by decide +kernel
theorem dX3_lengthBetween_26 : decode cX3_lengthBetween 26 = .ok (.ireturn, 1) := by decide +kernel
theorem dX3_lengthBetween_27 : decode cX3_lengthBetween 27 = .ok (.aload_n 0, 1) := by decide +kernel
theorem dX3_lengthBetween_28 : decode cX3_lengthBetween 28 = .ok (.getfield 14, 3) := by decide +kernel
theorem dX3_lengthBetween_31 : decode cX3_lengthBetween 31 = .ok (.iload_n 3, 1) := by decide +kernel
theorem dX3_lengthBetween_32 : decode cX3_lengthBetween 32 = .ok (.invokevirtual 107, 3) := by decide +kernel
theorem dX3_lengthBetween_35 : decode cX3_lengthBetween 35 = .ok (.aload_n 0, 1) := by decide +kernel
theorem dX3_lengthBetween_36 : decode cX3_lengthBetween 36 = .ok (.getfield 14, 3) := by decide +kernel
theorem dX3_lengthBetween_39 : decode cX3_lengthBetween 39 = .ok (.iload 4, 2) := by decide +kernel
theorem dX3_lengthBetween_41 : decode cX3_lengthBetween 41 = .ok (.invokevirtual 107, 3) := by decide +kernel
theorem dX3_lengthBetween_44 : decode cX3_lengthBetween 44 = .ok (.isub, 1) := by decide +kernel
theorem dX3_lengthBetween_45 : decode cX3_lengthBetween 45 = .ok (.invokestatic 228, 3) := by decide +kernel
theorem dX3_lengthBetween_48 : decode cX3_lengthBetween 48 = .ok (.istore 5, 2) := by decide +kernel
theorem dX3_lengthBetween_50 : decode cX3_lengthBetween 50 = .ok (.iload 5, 2) := by decide +kernel
theorem dX3_lengthBetween_52 : decode cX3_lengthBetween 52 = .ok (.ifCond .ne 7, 3) := by decide +kernel
theorem dX3_lengthBetween_55 : decode cX3_lengthBetween 55 = .ok (.iconst 2, 1) := by decide +kernel
theorem dX3_lengthBetween_56 : decode cX3_lengthBetween 56 = .ok (.goto 9, 3) := by decide +kernel
theorem dX3_lengthBetween_59 : decode cX3_lengthBetween 59 = .ok (.iconst 3, 1) := by decide +kernel
theorem dX3_lengthBetween_60 : decode cX3_lengthBetween 60 = .ok (.iconst 2, 1) := by decide +kernel
theorem dX3_lengthBetween_61 : decode cX3_lengthBetween 61 = .ok (.iload 5, 2) := by decide +kernel
theorem dX3_lengthBetween_63 : decode cX3_lengthBetween 63 = .ok (.imul, 1) := by decide +kernel
theorem dX3_lengthBetween_64 : decode cX3_lengthBetween 64 = .ok (.iadd, 1) := by decide +kernel
theorem dX3_lengthBetween_65 : decode cX3_lengthBetween 65 = .ok (.ireturn, 1) := by decide +kernel
set_option maxRecDepth 20000 in
theorem ggX3_planIsPossible_X1_size : GoodIn wsX3_planIsPossible wsX1_size := goodIn_r _ [6, 7, 65, 66, 67, 68, 69] (by decide +kernel) (by decide +kernel)
set_option maxRecDepth 20000 in
theorem gX3_planIsPossible_X1_size : GoodIn wsX3_planIsPossible (wsV RX3 167 RX1 yX1_size wsX1_size) := goodIn_app (goodIn_of _ (by decide +kernel)) ggX3_planIsPossible_X1_size
set_option maxRecDepth 20000 in
theorem ggX3_planIsPossible_X1_from : GoodIn wsX3_planIsPossible wsX1_from := goodIn_r _ [11, 12, 13, 14, 15, 16, 17, 18, 19, 65, 66, 67, 68, 69, 70, 71] (by decide +kernel) (by decide +kernel)
set_option maxRecDepth 20000 in
theorem gX3_planIsPossible_X1_from : GoodIn wsX3_planIsPossible (wsV RX3 233 RX1 yX1_from wsX1_from) := goodIn_app (goodIn_of _ (by decide +kernel)) ggX3_planIsPossible_X1_from
set_option maxRecDepth 20000 in
theorem ggX3_planIsPossible_X3_hasCable : GoodIn wsX3_planIsPossible wsX3_hasCable := goodIn_r _ [24, 25, 26, 14, 15, 16, 17, 18, 19, 46, 47, 48, 49, 50, 51, 52, 53, 54, 55, 56, 57, 58, 59, 60, 61, 62, 63, 64, 70, 71] (by decide +kernel) (by decide +kernel)
set_option maxRecDepth 20000 in
theorem gX3_planIsPossible_X3_hasCable : GoodIn wsX3_planIsPossible (wsV RX3 148 RX3 yX3_hasCable wsX3_hasCable) := goodIn_app (goodIn_of _ (by decide +kernel)) ggX3_planIsPossible_X3_hasCable
set_option maxRecDepth 20000 in
theorem ggX3_planIsPossible_X1_repeatsEarlier : GoodIn wsX3_planIsPossible wsX1_repeatsEarlier := goodIn_r _ [30, 31, 9, 10, 5, 11, 12, 13, 14, 15, 16, 17, 18, 19, 32, 33, 34, 35, 36, 65, 66, 67, 68, 69, 70, 71] (by decide +kernel) (by decide +kernel)
set_option maxRecDepth 20000 in
theorem gX3_planIsPossible_X1_repeatsEarlier : GoodIn wsX3_planIsPossible (wsV RX3 236 RX1 yX1_repeatsEarlier wsX1_repeatsEarlier) := goodIn_app (goodIn_of _ (by decide +kernel)) ggX3_planIsPossible_X1_repeatsEarlier
set_option maxRecDepth 20000 in
theorem ggX3_planIsPossible_X1_to : GoodIn wsX3_planIsPossible wsX1_to := goodIn_r _ [35, 36, 13, 14, 15, 16, 17, 18, 19, 65, 66, 67, 68, 69, 70, 71] (by decide +kernel) (by decide +kernel)
set_option maxRecDepth 20000 in
theorem gX3_planIsPossible_X1_to : GoodIn wsX3_planIsPossible (wsV RX3 239 RX1 yX1_to wsX1_to) := goodIn_app (goodIn_of _ (by decide +kernel)) ggX3_planIsPossible_X1_to
set_option maxRecDepth 20000 in
theorem ggX3_planIsPossible_X3_staysTaken : GoodIn wsX3_planIsPossible wsX3_staysTaken := goodIn_r _ [41, 1, 20, 21, 22, 23, 24, 25, 26, 14, 15, 16, 17, 18, 19, 42, 43, 44, 5, 45, 7, 31, 9, 10, 11, 12, 13, 46, 47, 48, 49, 50, 51, 52, 53, 54, 55, 56, 57, 58, 59, 60, 61, 62, 63, 64, 70, 71, 65, 66, 67, 68, 69] (by decide +kernel) (by decide +kernel)
set_option maxRecDepth 20000 in
theorem gX3_planIsPossible_X3_staysTaken : GoodIn wsX3_planIsPossible (wsV RX3 242 RX3 yX3_staysTaken wsX3_staysTaken) := goodIn_app (goodIn_of _ (by decide +kernel)) ggX3_planIsPossible_X3_staysTaken
theorem dX3_planIsPossible_0 : decode cX3_planIsPossible 0 = .ok (.aload_n 0, 1) := by decide +kernel
theorem dX3_planIsPossible_1 : decode cX3_planIsPossible 1 = .ok (.getfield 60, 3) := by decide +kernel
theorem dX3_planIsPossible_4 : decode cX3_planIsPossible 4 = .ok (.invokevirtual 167, 3) := by decide +kernel
theorem dX3_planIsPossible_7 : decode cX3_planIsPossible 7 = .ok (.istore_n 1, 1) := by decide +kernel
theorem dX3_planIsPossible_8 : decode cX3_planIsPossible 8 = .ok (.iconst 0, 1) := by decide +kernel
theorem dX3_planIsPossible_9 : decode cX3_planIsPossible 9 = .ok (.istore_n 2, 1) := by decide +kernel
theorem dX3_planIsPossible_10 : decode cX3_planIsPossible 10 = .ok (.iload_n 2, 1) := by decide +kernel
theorem dX3_planIsPossible_11 : decode cX3_planIsPossible 11 = .ok (.iload_n 1, 1) := by decide +kernel
theorem dX3_planIsPossible_12 : decode cX3_planIsPossible 12 = .ok (.if_icmp .ge 52, 3) := by decide +kernel
theorem dX3_planIsPossible_15 : decode cX3_planIsPossible 15 = .ok (.aload_n 0, 1) := by decide +kernel
theorem dX3_planIsPossible_16 : decode cX3_planIsPossible 16 = .ok (.aload_n 0, 1) := by decide +kernel
theorem dX3_planIsPossible_17 : decode cX3_planIsPossible 17 = .ok (.getfield 60, 3) := by decide +kernel
theorem dX3_planIsPossible_20 : decode cX3_planIsPossible 20 = .ok (.iload_n 2, 1) := by decide +kernel
theorem dX3_planIsPossible_21 : decode cX3_planIsPossible 21 = .ok (.invokevirtual 233, 3) := by decide +kernel
theorem dX3_planIsPossible_24 : decode cX3_planIsPossible 24 = .ok (.invokevirtual 148, 3) := by decide +kernel
theorem dX3_planIsPossible_27 : decode cX3_planIsPossible 27 = .ok (.ifCond .eq 29, 3) := by decide +kernel
theorem dX3_planIsPossible_30 : decode cX3_planIsPossible 30 = .ok (.aload_n 0, 1) := by decide +kernel
theorem dX3_planIsPossible_31 : decode cX3_planIsPossible 31 = .ok (.getfield 60, 3) := by decide +kernel
theorem dX3_planIsPossible_34 : decode cX3_planIsPossible 34 = .ok (.iload_n 2, 1) := by decide +kernel
theorem dX3_planIsPossible_35 : decode cX3_planIsPossible 35 = .ok (.invokevirtual 236, 3) := by decide +kernel
