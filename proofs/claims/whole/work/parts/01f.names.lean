theorem dX4_addMove_70 : decode cX4_addMove 70 = .ok (.iconst 1, 1) := by decide +kernel
theorem dX4_addMove_71 : decode cX4_addMove 71 = .ok (.iadd, 1) := by decide +kernel
theorem dX4_addMove_72 : decode cX4_addMove 72 = .ok (.putfield 112, 3) := by decide +kernel
theorem dX4_addMove_75 : decode cX4_addMove 75 = .ok (.aload_n 0, 1) := by decide +kernel
theorem dX4_addMove_76 : decode cX4_addMove 76 = .ok (.getfield 112, 3) := by decide +kernel
theorem dX4_addMove_79 : decode cX4_addMove 79 = .ok (.ireturn, 1) := by decide +kernel
theorem dX4_dropPlan_0 : decode cX4_dropPlan 0 = .ok (.aload_n 0, 1) := by decide +kernel
theorem dX4_dropPlan_1 : decode cX4_dropPlan 1 = .ok (.iconst 0, 1) := by decide +kernel
theorem dX4_dropPlan_2 : decode cX4_dropPlan 2 = .ok (.putfield 62, 3) := by decide +kernel
theorem dX4_dropPlan_5 : decode cX4_dropPlan 5 = .ok (.aload_n 0, 1) := by decide +kernel
theorem dX4_dropPlan_6 : decode cX4_dropPlan 6 = .ok (.getfield 112, 3) := by decide +kernel
theorem dX4_dropPlan_9 : decode cX4_dropPlan 9 = .ok (.istore_n 1, 1) := by decide +kernel
theorem dX4_dropPlan_10 : decode cX4_dropPlan 10 = .ok (.aload_n 0, 1) := by decide +kernel
theorem dX4_dropPlan_11 : decode cX4_dropPlan 11 = .ok (.iconst 0, 1) := by decide +kernel
theorem dX4_dropPlan_12 : decode cX4_dropPlan 12 = .ok (.putfield 112, 3) := by decide +kernel
theorem dX4_dropPlan_15 : decode cX4_dropPlan 15 = .ok (.iload_n 1, 1) := by decide +kernel
theorem dX4_dropPlan_16 : decode cX4_dropPlan 16 = .ok (.ireturn, 1) := by decide +kernel
theorem dX4_moved_0 : decode cX4_moved 0 = .ok (.iconst 0, 1) := by decide +kernel
theorem dX4_moved_1 : decode cX4_moved 1 = .ok (.istore_n 2, 1) := by decide +kernel
theorem dX4_moved_2 : decode cX4_moved 2 = .ok (.iload_n 2, 1) := by decide +kernel
theorem dX4_moved_3 : decode cX4_moved 3 = .ok (.aload_n 0, 1) := by decide +kernel
theorem dX4_moved_4 : decode cX4_moved 4 = .ok (.getfield 112, 3) := by decide +kernel
theorem dX4_moved_7 : decode cX4_moved 7 = .ok (.if_icmp .ge 26, 3) := by decide +kernel
theorem dX4_moved_10 : decode cX4_moved 10 = .ok (.aload_n 0, 1) := by decide +kernel
theorem dX4_moved_11 : decode cX4_moved 11 = .ok (.getfield 44, 3) := by decide +kernel
theorem dX4_moved_14 : decode cX4_moved 14 = .ok (.iload_n 2, 1) := by decide +kernel
theorem dX4_moved_15 : decode cX4_moved 15 = .ok (.iaload, 1) := by decide +kernel
theorem dX4_moved_16 : decode cX4_moved 16 = .ok (.iload_n 1, 1) := by decide +kernel
theorem dX4_moved_17 : decode cX4_moved 17 = .ok (.if_icmp .ne 10, 3) := by decide +kernel
theorem dX4_moved_20 : decode cX4_moved 20 = .ok (.aload_n 0, 1) := by decide +kernel
theorem dX4_moved_21 : decode cX4_moved 21 = .ok (.getfield 47, 3) := by decide +kernel
theorem dX4_moved_24 : decode cX4_moved 24 = .ok (.iload_n 2, 1) := by decide +kernel
theorem dX4_moved_25 : decode cX4_moved 25 = .ok (.iaload, 1) := by decide +kernel
theorem dX4_moved_26 : decode cX4_moved 26 = .ok (.ireturn, 1) := by decide +kernel
theorem dX4_moved_27 : decode cX4_moved 27 = .ok (.iinc 2 1, 3) := by decide +kernel
theorem dX4_moved_30 : decode cX4_moved 30 = .ok (.goto (-28), 3) := by decide +kernel
theorem dX4_moved_33 : decode cX4_moved 33 = .ok (.iload_n 1, 1) := by decide +kernel
theorem dX4_moved_34 : decode cX4_moved 34 = .ok (.ireturn, 1) := by decide +kernel
theorem dX4_areUnlike_0 : decode cX4_areUnlike 0 = .ok (.iconst 0, 1) := by decide +kernel
theorem dX4_areUnlike_1 : decode cX4_areUnlike 1 = .ok (.istore_n 2, 1) := by decide +kernel
theorem dX4_areUnlike_2 : decode cX4_areUnlike 2 = .ok (.iload_n 2, 1) := by decide +kernel
theorem dX4_areUnlike_3 : decode cX4_areUnlike 3 = .ok (.aload_n 0, 1) := by decide +kernel
theorem dX4_areUnlike_4 : decode cX4_areUnlike 4 = .ok (.getfield 112, 3) := by decide +kernel
theorem dX4_areUnlike_7 : decode cX4_areUnlike 7 = .ok (.if_icmp .ge 33, 3) := by decide +kernel
theorem dX4_areUnlike_10 : decode cX4_areUnlike 10 = .ok (.iconst 0, 1) := by decide +kernel
theorem dX4_areUnlike_11 : decode cX4_areUnlike 11 = .ok (.istore_n 3, 1) := by decide +kernel
theorem dX4_areUnlike_12 : decode cX4_areUnlike 12 = .ok (.iload_n 3, 1) := by decide +kernel
theorem dX4_areUnlike_13 : decode cX4_areUnlike 13 = .ok (.iload_n 2, 1) := by decide +kernel
theorem dX4_areUnlike_14 : decode cX4_areUnlike 14 = .ok (.if_icmp .ge 20, 3) := by decide +kernel
theorem dX4_areUnlike_17 : decode cX4_areUnlike 17 = .ok (.aload_n 1, 1) := by decide +kernel
theorem dX4_areUnlike_18 : decode cX4_areUnlike 18 = .ok (.iload_n 2, 1) := by decide +kernel
theorem dX4_areUnlike_19 : decode cX4_areUnlike 19 = .ok (.iaload, 1) := by decide +kernel
theorem dX4_areUnlike_20 : decode cX4_areUnlike 20 = .ok (.aload_n 1, 1) := by decide +kernel
theorem dX4_areUnlike_21 : decode cX4_areUnlike 21 = .ok (.iload_n 3, 1) := by decide +kernel
theorem dX4_areUnlike_22 : decode cX4_areUnlike 22 = .ok (.iaload, 1) := by decide +kernel
theorem dX4_areUnlike_23 : decode cX4_areUnlike 23 = .ok (.if_icmp .ne 5, 3) := by decide +kernel
theorem dX4_areUnlike_26 : decode cX4_areUnlike 26 = .ok (.iconst 0, 1) := by decide +kernel
theorem dX4_areUnlike_27 : decode cX4_areUnlike 27 = .ok (.ireturn, 1) := by decide +kernel
theorem dX4_areUnlike_28 : decode cX4_areUnlike 28 = .ok (.iinc 3 1, 3) := by decide +kernel
theorem dX4_areUnlike_31 : decode cX4_areUnlike 31 = .ok (.goto (-19), 3) := by decide +kernel
theorem dX4_areUnlike_34 : decode cX4_areUnlike 34 = .ok (.iinc 2 1, 3) := by decide +kernel
theorem dX4_areUnlike_37 : decode cX4_areUnlike 37 = .ok (.goto (-35), 3) := by decide +kernel
theorem dX4_areUnlike_40 : decode cX4_areUnlike 40 = .ok (.iconst 1, 1) := by decide +kernel
theorem dX4_areUnlike_41 : decode cX4_areUnlike 41 = .ok (.ireturn, 1) := by decide +kernel
set_option maxRecDepth 20000 in
theorem ggX4_lays_X4_areUnlike : GoodIn wsX4_lays wsX4_areUnlike := goodIn_r _ [13, 3, 18, 19, 20, 21, 22, 23, 24, 25, 26, 27, 28, 29, 30, 31, 32, 33, 34, 35, 36, 37, 38, 39, 40, 41] (by decide +kernel) (by decide +kernel)
set_option maxRecDepth 20000 in
theorem gX4_lays_X4_areUnlike : GoodIn wsX4_lays (wsV RX4 115 RX4 yX4_areUnlike wsX4_areUnlike) := goodIn_app (goodIn_of _ (by decide +kernel)) ggX4_lays_X4_areUnlike
set_option maxRecDepth 20000 in
theorem ggX4_lays_X4_moved : GoodIn wsX4_lays wsX4_moved := goodIn_r _ [17, 3, 1, 2, 18, 19, 20, 21, 22, 23, 24, 25, 26, 27, 28, 29, 30, 31, 32, 33, 34, 35, 36, 37, 38, 39, 40, 41] (by decide +kernel) (by decide +kernel)
set_option maxRecDepth 20000 in
theorem gX4_lays_X4_moved : GoodIn wsX4_lays (wsV RX4 119 RX4 yX4_moved wsX4_moved) := goodIn_app (goodIn_of _ (by decide +kernel)) ggX4_lays_X4_moved
theorem dX4_lays_0 : decode cX4_lays 0 = .ok (.aload_n 0, 1) := by decide +kernel
theorem dX4_lays_1 : decode cX4_lays 1 = .ok (.aload_n 0, 1) := by decide +kernel
theorem dX4_lays_2 : decode cX4_lays 2 = .ok (.getfield 44, 3) := by decide +kernel
theorem dX4_lays_5 : decode cX4_lays 5 = .ok (.invokevirtual 115, 3) := by decide +kernel
theorem dX4_lays_8 : decode cX4_lays 8 = .ok (.ifCond .eq 18, 3) := by decide +kernel
theorem dX4_lays_11 : decode cX4_lays 11 = .ok (.aload_n 0, 1) := by decide +kernel
theorem dX4_lays_12 : decode cX4_lays 12 = .ok (.aload_n 0, 1) := by decide +kernel
theorem dX4_lays_13 : decode cX4_lays 13 = .ok (.getfield 47, 3) := by decide +kernel
theorem dX4_lays_16 : decode cX4_lays 16 = .ok (.invokevirtual 115, 3) := by decide +kernel
theorem dX4_lays_19 : decode cX4_lays 19 = .ok (.ifCond .eq 7, 3) := by decide +kernel
theorem dX4_lays_22 : decode cX4_lays 22 = .ok (.iconst 1, 1) := by decide +kernel
theorem dX4_lays_23 : decode cX4_lays 23 = .ok (.goto 4, 3) := by decide +kernel
theorem dX4_lays_26 : decode cX4_lays 26 = .ok (.iconst 0, 1) := by decide +kernel
theorem dX4_lays_27 : decode cX4_lays 27 = .ok (.istore_n 1, 1) := by decide +kernel
theorem dX4_lays_28 : decode cX4_lays 28 = .ok (.iconst 0, 1) := by decide +kernel
theorem dX4_lays_29 : decode cX4_lays 29 = .ok (.istore_n 2, 1) := by decide +kernel
theorem dX4_lays_30 : decode cX4_lays 30 = .ok (.iload_n 2, 1) := by decide +kernel
theorem dX4_lays_31 : decode cX4_lays 31 = .ok (.aload_n 0, 1) := by decide +kernel
theorem dX4_lays_32 : decode cX4_lays 32 = .ok (.getfield 112, 3) := by decide +kernel
theorem dX4_lays_35 : decode cX4_lays 35 = .ok (.if_icmp .ge 34, 3) := by decide +kernel
theorem dX4_lays_38 : decode cX4_lays 38 = .ok (.iload_n 1, 1) := by decide +kernel
theorem dX4_lays_39 : decode cX4_lays 39 = .ok (.ifCond .eq 22, 3) := by decide +kernel
theorem dX4_lays_42 : decode cX4_lays 42 = .ok (.aload_n 0, 1) := by decide +kernel
theorem dX4_lays_43 : decode cX4_lays 43 = .ok (.getfield 16, 3) := by decide +kernel
theorem dX4_lays_46 : decode cX4_lays 46 = .ok (.aload_n 0, 1) := by decide +kernel
theorem dX4_lays_47 : decode cX4_lays 47 = .ok (.getfield 44, 3) := by decide +kernel
theorem dX4_lays_50 : decode cX4_lays 50 = .ok (.iload_n 2, 1) := by decide +kernel
theorem dX4_lays_51 : decode cX4_lays 51 = .ok (.iaload, 1) := by decide +kernel
theorem dX4_lays_52 : decode cX4_lays 52 = .ok (.iaload, 1) := by decide +kernel
theorem dX4_lays_53 : decode cX4_lays 53 = .ok (.iconst (-1), 1) := by decide +kernel
theorem dX4_lays_54 : decode cX4_lays 54 = .ok (.if_icmp .eq 7, 3) := by decide +kernel
theorem dX4_lays_57 : decode cX4_lays 57 = .ok (.iconst 1, 1) := by decide +kernel
theorem dX4_lays_58 : decode cX4_lays 58 = .ok (.goto 4, 3) := by decide +kernel
theorem dX4_lays_61 : decode cX4_lays 61 = .ok (.iconst 0, 1) := by decide +kernel
theorem dX4_lays_62 : decode cX4_lays 62 = .ok (.istore_n 1, 1) := by decide +kernel
theorem dX4_lays_63 : decode cX4_lays 63 = .ok (.iinc 2 1, 3) := by decide +kernel
theorem dX4_lays_66 : decode cX4_lays 66 = .ok (.goto (-36), 3) := by decide +kernel
theorem dX4_lays_69 : decode cX4_lays 69 = .ok (.iconst 0, 1) := by decide +kernel
theorem dX4_lays_70 : decode cX4_lays 70 = .ok (.istore_n 2, 1) := by decide +kernel
theorem dX4_lays_71 : decode cX4_lays 71 = .ok (.iload_n 2, 1) := by decide +kernel
theorem dX4_lays_72 : decode cX4_lays 72 = .ok (.aload_n 0, 1) := by decide +kernel
theorem dX4_lays_73 : decode cX4_lays 73 = .ok (.getfield 66, 3) := by decide +kernel
theorem dX4_lays_76 : decode cX4_lays 76 = .ok (.if_icmp .ge 23, 3) := by decide +kernel
theorem dX4_lays_79 : decode cX4_lays 79 = .ok (.aload_n 0, 1) := by decide +kernel
theorem dX4_lays_80 : decode cX4_lays 80 = .ok (.getfield 50, 3) := by decide +kernel
theorem dX4_lays_83 : decode cX4_lays 83 = .ok (.iload_n 2, 1) := by decide +kernel
theorem dX4_lays_84 : decode cX4_lays 84 = .ok (.iconst (-1), 1) := by decide +kernel
theorem dX4_lays_85 : decode cX4_lays 85 = .ok (.iastore, 1) := by decide +kernel
theorem dX4_lays_86 : decode cX4_lays 86 = .ok (.aload_n 0, 1) := by decide +kernel
theorem dX4_lays_87 : decode cX4_lays 87 = .ok (.getfield 53, 3) := by decide +kernel
theorem dX4_lays_90 : decode cX4_lays 90 = .ok (.iload_n 2, 1) := by decide +kernel
theorem dX4_lays_91 : decode cX4_lays 91 = .ok (.iconst 0, 1) := by decide +kernel
theorem dX4_lays_92 : decode cX4_lays 92 = .ok (.iastore, 1) := by decide +kernel
theorem dX4_lays_93 : decode cX4_lays 93 = .ok (.iinc 2 1, 3) := by decide +kernel
theorem dX4_lays_96 : decode cX4_lays 96 = .ok (.goto (-25), 3) := by decide +kernel
theorem dX4_lays_99 : decode cX4_lays 99 = .ok (.iconst 0, 1) := by decide +kernel
theorem dX4_lays_100 : decode cX4_lays 100 = .ok (.istore_n 2, 1) := by decide +kernel
theorem dX4_lays_101 : decode cX4_lays 101 = .ok (.iload_n 2, 1) := by decide +kernel
theorem dX4_lays_102 : decode cX4_lays 102 = .ok (.aload_n 0, 1) := by decide +kernel
theorem dX4_lays_103 : decode cX4_lays 103 = .ok (.getfield 66, 3) := by decide +kernel
theorem dX4_lays_106 : decode cX4_lays 106 = .ok (.if_icmp .ge 87, 3) := by decide +kernel
theorem dX4_lays_109 : decode cX4_lays 109 = .ok (.iload_n 1, 1) := by decide +kernel
theorem dX4_lays_110 : decode cX4_lays 110 = .ok (.ifCond .eq 83, 3) := by decide +kernel
theorem dX4_lays_113 : decode cX4_lays 113 = .ok (.aload_n 0, 1) := by decide +kernel
theorem dX4_lays_114 : decode cX4_lays 114 = .ok (.getfield 16, 3) := by decide +kernel
theorem dX4_lays_117 : decode cX4_lays 117 = .ok (.iload_n 2, 1) := by decide +kernel
theorem dX4_lays_118 : decode cX4_lays 118 = .ok (.iaload, 1) := by decide +kernel
theorem dX4_lays_119 : decode cX4_lays 119 = .ok (.iconst (-1), 1) := by decide +kernel
theorem dX4_lays_120 : decode cX4_lays 120 = .ok (.if_icmp .eq 67, 3) := by decide +kernel
theorem dX4_lays_123 : decode cX4_lays 123 = .ok (.aload_n 0, 1) := by decide +kernel
theorem dX4_lays_124 : decode cX4_lays 124 = .ok (.iload_n 2, 1) := by decide +kernel
theorem dX4_lays_125 : decode cX4_lays 125 = .ok (.invokevirtual 119, 3) := by decide +kernel
theorem dX4_lays_128 : decode cX4_lays 128 = .ok (.istore_n 3, 1) := by decide +kernel
theorem dX4_lays_129 : decode cX4_lays 129 = .ok (.aload_n 0, 1) := by decide +kernel
theorem dX4_lays_130 : decode cX4_lays 130 = .ok (.getfield 50, 3) := by decide +kernel
theorem dX4_lays_133 : decode cX4_lays 133 = .ok (.iload_n 3, 1) := by decide +kernel
theorem dX4_lays_134 : decode cX4_lays 134 = .ok (.iaload, 1) := by decide +kernel
theorem dX4_lays_135 : decode cX4_lays 135 = .ok (.iconst (-1), 1) := by decide +kernel
theorem dX4_lays_136 : decode cX4_lays 136 = .ok (.if_icmp .ne 21, 3) := by decide +kernel
theorem dX4_lays_139 : decode cX4_lays 139 = .ok (.iload_n 3, 1) := by decide +kernel
theorem dX4_lays_140 : decode cX4_lays 140 = .ok (.aload_n 0, 1) := by decide +kernel
theorem dX4_lays_141 : decode cX4_lays 141 = .ok (.aload_n 0, 1) := by decide +kernel
theorem dX4_lays_142 : decode cX4_lays 142 = .ok (.getfield 16, 3) := by decide +kernel
theorem dX4_lays_145 : decode cX4_lays 145 = .ok (.iload_n 2, 1) := by decide +kernel
theorem dX4_lays_146 : decode cX4_lays 146 = .ok (.iaload, 1) := by decide +kernel
theorem dX4_lays_147 : decode cX4_lays 147 = .ok (.invokevirtual 119, 3) := by decide +kernel
theorem dX4_lays_150 : decode cX4_lays 150 = .ok (.if_icmp .eq 7, 3) := by decide +kernel
theorem dX4_lays_153 : decode cX4_lays 153 = .ok (.iconst 1, 1) := by decide +kernel
theorem dX4_lays_154 : decode cX4_lays 154 = .ok (.goto 4, 3) := by decide +kernel
theorem dX4_lays_157 : decode cX4_lays 157 = .ok (.iconst 0, 1) := by decide +kernel
theorem dX4_lays_158 : decode cX4_lays 158 = .ok (.istore_n 1, 1) := by decide +kernel
theorem dX4_lays_159 : decode cX4_lays 159 = .ok (.aload_n 0, 1) := by decide +kernel
theorem dX4_lays_160 : decode cX4_lays 160 = .ok (.getfield 50, 3) := by decide +kernel
theorem dX4_lays_163 : decode cX4_lays 163 = .ok (.iload_n 3, 1) := by decide +kernel
theorem dX4_lays_164 : decode cX4_lays 164 = .ok (.aload_n 0, 1) := by decide +kernel
theorem dX4_lays_165 : decode cX4_lays 165 = .ok (.aload_n 0, 1) := by decide +kernel
theorem dX4_lays_166 : decode cX4_lays 166 = .ok (.getfield 16, 3) := by decide +kernel
theorem dX4_lays_169 : decode cX4_lays 169 = .ok (.iload_n 2, 1) := by decide +kernel
theorem dX4_lays_170 : decode cX4_lays 170 = .ok (.iaload, 1) := by decide +kernel
theorem dX4_lays_171 : decode cX4_lays 171 = .ok (.invokevirtual 119, 3) := by decide +kernel
theorem dX4_lays_174 : decode cX4_lays 174 = .ok (.iastore, 1) := by decide +kernel
theorem dX4_lays_175 : decode cX4_lays 175 = .ok (.aload_n 0, 1) := by decide +kernel
theorem dX4_lays_176 : decode cX4_lays 176 = .ok (.getfield 53, 3) := by decide +kernel
theorem dX4_lays_179 : decode cX4_lays 179 = .ok (.iload_n 3, 1) := by decide +kernel
theorem dX4_lays_180 : decode cX4_lays 180 = .ok (.aload_n 0, 1) := by decide +kernel
theorem dX4_lays_181 : decode cX4_lays 181 = .ok (.getfield 19, 3) := by decide +kernel
theorem dX4_lays_184 : decode cX4_lays 184 = .ok (.iload_n 2, 1) := by decide +kernel
theorem dX4_lays_185 : decode cX4_lays 185 = .ok (.iaload, 1) := by decide +kernel
theorem dX4_lays_186 : decode cX4_lays 186 = .ok (.iastore, 1) := by decide +kernel
theorem dX4_lays_187 : decode cX4_lays 187 = .ok (.iinc 2 1, 3) := by decide +kernel
theorem dX4_lays_190 : decode cX4_lays 190 = .ok (.goto (-89), 3) := by decide +kernel
theorem dX4_lays_193 : decode cX4_lays 193 = .ok (.iload_n 1, 1) := by decide +kernel
theorem dX4_lays_194 : decode cX4_lays 194 = .ok (.ireturn, 1) := by decide +kernel
set_option maxRecDepth 20000 in
theorem ggX4_carryOut_X4_lays : GoodIn wsX4_carryOut wsX4_lays := goodIn_r _ [11, 12, 13, 6, 2, 1, 3, 5, 4, 14, 15, 16, 10, 17, 18, 19, 20, 21, 27, 28, 29, 30, 31, 32, 33, 34, 35, 36, 37, 38, 39, 40, 41, 42, 43, 44, 45, 46, 47, 48, 49, 50] (by decide +kernel) (by decide +kernel)
set_option maxRecDepth 20000 in
theorem gX4_carryOut_X4_lays : GoodIn wsX4_carryOut (wsV RX4 122 RX4 yX4_lays wsX4_lays) := goodIn_app (goodIn_of _ (by decide +kernel)) ggX4_carryOut_X4_lays
set_option maxRecDepth 20000 in
theorem ggX4_carryOut_X4_holds : GoodIn wsX4_carryOut wsX4_holds := goodIn_r _ [25, 26, 27, 28, 29, 30, 31, 32, 33, 34, 35, 36, 37, 38, 39, 40, 41, 42, 43, 44, 45, 46, 47, 48, 49, 50] (by decide +kernel) (by decide +kernel)
set_option maxRecDepth 20000 in
theorem gX4_carryOut_X4_holds : GoodIn wsX4_carryOut (wsV RX4 80 RX4 yX4_holds wsX4_holds) := goodIn_app (goodIn_of _ (by decide +kernel)) ggX4_carryOut_X4_holds
theorem dX4_carryOut_0 : decode cX4_carryOut 0 = .ok (.aload_n 0, 1) := by decide +kernel
theorem dX4_carryOut_1 : decode cX4_carryOut 1 = .ok (.aload_n 0, 1) := by decide +kernel
theorem dX4_carryOut_2 : decode cX4_carryOut 2 = .ok (.invokevirtual 122, 3) := by decide +kernel
theorem dX4_carryOut_5 : decode cX4_carryOut 5 = .ok (.ifCond .eq 7, 3) := by decide +kernel
theorem dX4_carryOut_8 : decode cX4_carryOut 8 = .ok (.iconst 0, 1) := by decide +kernel
theorem dX4_carryOut_9 : decode cX4_carryOut 9 = .ok (.goto 4, 3) := by decide +kernel
theorem dX4_carryOut_12 : decode cX4_carryOut 12 = .ok (.iconst 1, 1) := by decide +kernel
theorem dX4_carryOut_13 : decode cX4_carryOut 13 = .ok (.invokevirtual 80, 3) := by decide +kernel
theorem dX4_carryOut_16 : decode cX4_carryOut 16 = .ok (.ifCond .ne 5, 3) := by decide +kernel
theorem dX4_carryOut_19 : decode cX4_carryOut 19 = .ok (.iconst 0, 1) := by decide +kernel
theorem dX4_carryOut_20 : decode cX4_carryOut 20 = .ok (.ireturn, 1) := by decide +kernel
theorem dX4_carryOut_21 : decode cX4_carryOut 21 = .ok (.iconst 0, 1) := by decide +kernel
theorem dX4_carryOut_22 : decode cX4_carryOut 22 = .ok (.istore_n 1, 1) := by decide +kernel
theorem dX4_carryOut_23 : decode cX4_carryOut 23 = .ok (.iload_n 1, 1) := by decide +kernel
theorem dX4_carryOut_24 : decode cX4_carryOut 24 = .ok (.aload_n 0, 1) := by decide +kernel
theorem dX4_carryOut_25 : decode cX4_carryOut 25 = .ok (.getfield 66, 3) := by decide +kernel
theorem dX4_carryOut_28 : decode cX4_carryOut 28 = .ok (.if_icmp .ge 33, 3) := by decide +kernel
theorem dX4_carryOut_31 : decode cX4_carryOut 31 = .ok (.aload_n 0, 1) := by decide +kernel
theorem dX4_carryOut_32 : decode cX4_carryOut 32 = .ok (.getfield 16, 3) := by decide +kernel
theorem dX4_carryOut_35 : decode cX4_carryOut 35 = .ok (.iload_n 1, 1) := by decide +kernel
theorem dX4_carryOut_36 : decode cX4_carryOut 36 = .ok (.aload_n 0, 1) := by decide +kernel
theorem dX4_carryOut_37 : decode cX4_carryOut 37 = .ok (.getfield 50, 3) := by decide +kernel
theorem dX4_carryOut_40 : decode cX4_carryOut 40 = .ok (.iload_n 1, 1) := by decide +kernel
theorem dX4_carryOut_41 : decode cX4_carryOut 41 = .ok (.iaload, 1) := by decide +kernel
theorem dX4_carryOut_42 : decode cX4_carryOut 42 = .ok (.iastore, 1) := by decide +kernel
theorem dX4_carryOut_43 : decode cX4_carryOut 43 = .ok (.aload_n 0, 1) := by decide +kernel
theorem dX4_carryOut_44 : decode cX4_carryOut 44 = .ok (.getfield 19, 3) := by decide +kernel
theorem dX4_carryOut_47 : decode cX4_carryOut 47 = .ok (.iload_n 1, 1) := by decide +kernel
theorem dX4_carryOut_48 : decode cX4_carryOut 48 = .ok (.aload_n 0, 1) := by decide +kernel
theorem dX4_carryOut_49 : decode cX4_carryOut 49 = .ok (.getfield 53, 3) := by decide +kernel
theorem dX4_carryOut_52 : decode cX4_carryOut 52 = .ok (.iload_n 1, 1) := by decide +kernel
theorem dX4_carryOut_53 : decode cX4_carryOut 53 = .ok (.iaload, 1) := by decide +kernel
theorem dX4_carryOut_54 : decode cX4_carryOut 54 = .ok (.iastore, 1) := by decide +kernel
theorem dX4_carryOut_55 : decode cX4_carryOut 55 = .ok (.iinc 1 1, 3) := by decide +kernel
theorem dX4_carryOut_58 : decode cX4_carryOut 58 = .ok (.goto (-35), 3) := by decide +kernel
theorem dX4_carryOut_61 : decode cX4_carryOut 61 = .ok (.aload_n 0, 1) := by decide +kernel
theorem dX4_carryOut_62 : decode cX4_carryOut 62 = .ok (.getfield 112, 3) := by decide +kernel
theorem dX4_carryOut_65 : decode cX4_carryOut 65 = .ok (.istore_n 1, 1) := by decide +kernel
theorem dX4_carryOut_66 : decode cX4_carryOut 66 = .ok (.aload_n 0, 1) := by decide +kernel
theorem dX4_carryOut_67 : decode cX4_carryOut 67 = .ok (.iconst 0, 1) := by decide +kernel
theorem dX4_carryOut_68 : decode cX4_carryOut 68 = .ok (.putfield 112, 3) := by decide +kernel
theorem dX4_carryOut_71 : decode cX4_carryOut 71 = .ok (.iload_n 1, 1) := by decide +kernel
theorem dX4_carryOut_72 : decode cX4_carryOut 72 = .ok (.ireturn, 1) := by decide +kernel
theorem dX4_ports_0 : decode cX4_ports 0 = .ok (.aload_n 0, 1) := by decide +kernel
theorem dX4_ports_1 : decode cX4_ports 1 = .ok (.iconst 0, 1) := by decide +kernel
theorem dX4_ports_2 : decode cX4_ports 2 = .ok (.putfield 62, 3) := by decide +kernel
theorem dX4_ports_5 : decode cX4_ports 5 = .ok (.aload_n 0, 1) := by decide +kernel
theorem dX4_ports_6 : decode cX4_ports 6 = .ok (.getfield 66, 3) := by decide +kernel
theorem dX4_ports_9 : decode cX4_ports 9 = .ok (.ireturn, 1) := by decide +kernel
theorem dX4_trunks_0 : decode cX4_trunks 0 = .ok (.aload_n 0, 1) := by decide +kernel
theorem dX4_trunks_1 : decode cX4_trunks 1 = .ok (.iconst 0, 1) := by decide +kernel
theorem dX4_trunks_2 : decode cX4_trunks 2 = .ok (.putfield 62, 3) := by decide +kernel
theorem dX4_trunks_5 : decode cX4_trunks 5 = .ok (.aload_n 0, 1) := by decide +kernel
theorem dX4_trunks_6 : decode cX4_trunks 6 = .ok (.getfield 94, 3) := by decide +kernel
theorem dX4_trunks_9 : decode cX4_trunks 9 = .ok (.ireturn, 1) := by decide +kernel
theorem dX4_cables_0 : decode cX4_cables 0 = .ok (.aload_n 0, 1) := by decide +kernel
theorem dX4_cables_1 : decode cX4_cables 1 = .ok (.iconst 0, 1) := by decide +kernel
theorem dX4_cables_2 : decode cX4_cables 2 = .ok (.putfield 62, 3) := by decide +kernel
theorem dX4_cables_5 : decode cX4_cables 5 = .ok (.iconst 0, 1) := by decide +kernel
theorem dX4_cables_6 : decode cX4_cables 6 = .ok (.istore_n 1, 1) := by decide +kernel
theorem dX4_cables_7 : decode cX4_cables 7 = .ok (.iconst 0, 1) := by decide +kernel
theorem dX4_cables_8 : decode cX4_cables 8 = .ok (.istore_n 2, 1) := by decide +kernel
theorem dX4_cables_9 : decode cX4_cables 9 = .ok (.iload_n 2, 1) := by decide +kernel
theorem dX4_cables_10 : decode cX4_cables 10 = .ok (.aload_n 0, 1) := by decide +kernel
theorem dX4_cables_11 : decode cX4_cables 11 = .ok (.getfield 66, 3) := by decide +kernel
theorem dX4_cables_14 : decode cX4_cables 14 = .ok (.if_icmp .ge 27, 3) := by decide +kernel
theorem dX4_cables_17 : decode cX4_cables 17 = .ok (.iload_n 1, 1) := by decide +kernel
theorem dX4_cables_18 : decode cX4_cables 18 = .ok (.aload_n 0, 1) := by decide +kernel
theorem dX4_cables_19 : decode cX4_cables 19 = .ok (.getfield 16, 3) := by decide +kernel
theorem dX4_cables_22 : decode cX4_cables 22 = .ok (.iload_n 2, 1) := by decide +kernel
theorem dX4_cables_23 : decode cX4_cables 23 = .ok (.iaload, 1) := by decide +kernel
theorem dX4_cables_24 : decode cX4_cables 24 = .ok (.iconst (-1), 1) := by decide +kernel
theorem dX4_cables_25 : decode cX4_cables 25 = .ok (.if_icmp .ne 7, 3) := by decide +kernel
theorem dX4_cables_28 : decode cX4_cables 28 = .ok (.iconst 0, 1) := by decide +kernel
theorem dX4_cables_29 : decode cX4_cables 29 = .ok (.goto 4, 3) := by decide +kernel
theorem dX4_cables_32 : decode cX4_cables 32 = .ok (.iconst 1, 1) := by decide +kernel
theorem dX4_cables_33 : decode cX4_cables 33 = .ok (.iadd, 1) := by decide +kernel
theorem dX4_cables_34 : decode cX4_cables 34 = .ok (.istore_n 1, 1) := by decide +kernel
theorem dX4_cables_35 : decode cX4_cables 35 = .ok (.iinc 2 1, 3) := by decide +kernel
theorem dX4_cables_38 : decode cX4_cables 38 = .ok (.goto (-29), 3) := by decide +kernel
theorem dX4_cables_41 : decode cX4_cables 41 = .ok (.iload_n 1, 1) := by decide +kernel
theorem dX4_cables_42 : decode cX4_cables 42 = .ok (.iconst 2, 1) := by decide +kernel
theorem dX4_cables_43 : decode cX4_cables 43 = .ok (.idiv, 1) := by decide +kernel
theorem dX4_cables_44 : decode cX4_cables 44 = .ok (.ireturn, 1) := by decide +kernel
set_option maxRecDepth 20000 in
theorem ggX4_panelOf_X4_isPort : GoodIn wsX4_panelOf wsX4_isPort := goodIn_r _ [5, 6, 7, 8, 4, 9, 20, 21, 22, 23, 24, 25, 26, 27, 28, 29, 30, 31, 32, 33, 34, 35, 36, 37, 38, 39, 40, 41, 42, 43] (by decide +kernel) (by decide +kernel)
set_option maxRecDepth 20000 in
theorem gX4_panelOf_X4_isPort : GoodIn wsX4_panelOf (wsV RX4 73 RX4 yX4_isPort wsX4_isPort) := goodIn_app (goodIn_of _ (by decide +kernel)) ggX4_panelOf_X4_isPort
set_option maxRecDepth 20000 in
theorem ggX4_panelOf_X4_holds : GoodIn wsX4_panelOf wsX4_holds := goodIn_r _ [13, 14, 20, 21, 22, 23, 24, 25, 26, 27, 28, 29, 30, 31, 32, 33, 34, 35, 36, 37, 38, 39, 40, 41, 42, 43] (by decide +kernel) (by decide +kernel)
set_option maxRecDepth 20000 in
theorem gX4_panelOf_X4_holds : GoodIn wsX4_panelOf (wsV RX4 80 RX4 yX4_holds wsX4_holds) := goodIn_app (goodIn_of _ (by decide +kernel)) ggX4_panelOf_X4_holds
set_option maxRecDepth 20000 in
theorem ggX4_panelOf_X4_panel : GoodIn wsX4_panelOf wsX4_panel := goodIn_r _ [18, 19, 20, 21, 22, 23, 24, 25, 26, 27, 28, 29, 30, 31, 32, 33, 34, 35, 36, 37, 38, 39, 40, 41, 42, 43] (by decide +kernel) (by decide +kernel)
set_option maxRecDepth 20000 in
theorem gX4_panelOf_X4_panel : GoodIn wsX4_panelOf (wsV RX4 83 RX4 yX4_panel wsX4_panel) := goodIn_app (goodIn_of _ (by decide +kernel)) ggX4_panelOf_X4_panel
theorem dX4_panelOf_0 : decode cX4_panelOf 0 = .ok (.aload_n 0, 1) := by decide +kernel
theorem dX4_panelOf_1 : decode cX4_panelOf 1 = .ok (.aload_n 0, 1) := by decide +kernel
theorem dX4_panelOf_2 : decode cX4_panelOf 2 = .ok (.iload_n 1, 1) := by decide +kernel
theorem dX4_panelOf_3 : decode cX4_panelOf 3 = .ok (.invokevirtual 73, 3) := by decide +kernel
theorem dX4_panelOf_6 : decode cX4_panelOf 6 = .ok (.ifCond .eq 7, 3) := by decide +kernel
theorem dX4_panelOf_9 : decode cX4_panelOf 9 = .ok (.iconst 0, 1) := by decide +kernel
theorem dX4_panelOf_10 : decode cX4_panelOf 10 = .ok (.goto 4, 3) := by decide +kernel
theorem dX4_panelOf_13 : decode cX4_panelOf 13 = .ok (.iconst 1, 1) := by decide +kernel
theorem dX4_panelOf_14 : decode cX4_panelOf 14 = .ok (.invokevirtual 80, 3) := by decide +kernel
theorem dX4_panelOf_17 : decode cX4_panelOf 17 = .ok (.ifCond .eq 11, 3) := by decide +kernel
theorem dX4_panelOf_20 : decode cX4_panelOf 20 = .ok (.aload_n 0, 1) := by decide +kernel
theorem dX4_panelOf_21 : decode cX4_panelOf 21 = .ok (.iload_n 1, 1) := by decide +kernel
theorem dX4_panelOf_22 : decode cX4_panelOf 22 = .ok (.invokevirtual 83, 3) := by decide +kernel
theorem dX4_panelOf_25 : decode cX4_panelOf 25 = .ok (.goto 4, 3) := by decide +kernel
theorem dX4_panelOf_28 : decode cX4_panelOf 28 = .ok (.iconst 0, 1) := by decide +kernel
theorem dX4_panelOf_29 : decode cX4_panelOf 29 = .ok (.ireturn, 1) := by decide +kernel
set_option maxRecDepth 20000 in
theorem ggX4_byCable_X4_isPort : GoodIn wsX4_byCable wsX4_isPort := goodIn_r _ [6, 7, 8, 9, 5, 10, 16, 17, 18, 19, 20, 21, 22, 23, 24, 25, 26, 27, 28, 29, 30, 31, 32, 33, 34, 35, 36, 37, 38, 39] (by decide +kernel) (by decide +kernel)
set_option maxRecDepth 20000 in
theorem gX4_byCable_X4_isPort : GoodIn wsX4_byCable (wsV RX4 73 RX4 yX4_isPort wsX4_isPort) := goodIn_app (goodIn_of _ (by decide +kernel)) ggX4_byCable_X4_isPort
set_option maxRecDepth 20000 in
theorem ggX4_byCable_X4_holds : GoodIn wsX4_byCable wsX4_holds := goodIn_r _ [14, 15, 16, 17, 18, 19, 20, 21, 22, 23, 24, 25, 26, 27, 28, 29, 30, 31, 32, 33, 34, 35, 36, 37, 38, 39] (by decide +kernel) (by decide +kernel)
set_option maxRecDepth 20000 in
theorem gX4_byCable_X4_holds : GoodIn wsX4_byCable (wsV RX4 80 RX4 yX4_holds wsX4_holds) := goodIn_app (goodIn_of _ (by decide +kernel)) ggX4_byCable_X4_holds
theorem dX4_byCable_0 : decode cX4_byCable 0 = .ok (.aload_n 0, 1) := by decide +kernel
theorem dX4_byCable_1 : decode cX4_byCable 1 = .ok (.aload_n 0, 1) := by decide +kernel
theorem dX4_byCable_2 : decode cX4_byCable 2 = .ok (.iload_n 1, 1) := by decide +kernel
theorem dX4_byCable_3 : decode cX4_byCable 3 = .ok (.invokevirtual 73, 3) := by decide +kernel
theorem dX4_byCable_6 : decode cX4_byCable 6 = .ok (.ifCond .eq 7, 3) := by decide +kernel
theorem dX4_byCable_9 : decode cX4_byCable 9 = .ok (.iconst 0, 1) := by decide +kernel
theorem dX4_byCable_10 : decode cX4_byCable 10 = .ok (.goto 4, 3) := by decide +kernel
theorem dX4_byCable_13 : decode cX4_byCable 13 = .ok (.iconst 1, 1) := by decide +kernel
theorem dX4_byCable_14 : decode cX4_byCable 14 = .ok (.invokevirtual 80, 3) := by decide +kernel
theorem dX4_byCable_17 : decode cX4_byCable 17 = .ok (.ifCond .eq 12, 3) := by decide +kernel
theorem dX4_byCable_20 : decode cX4_byCable 20 = .ok (.aload_n 0, 1) := by decide +kernel
theorem dX4_byCable_21 : decode cX4_byCable 21 = .ok (.getfield 16, 3) := by decide +kernel
theorem dX4_byCable_24 : decode cX4_byCable 24 = .ok (.iload_n 1, 1) := by decide +kernel
theorem dX4_byCable_25 : decode cX4_byCable 25 = .ok (.iaload, 1) := by decide +kernel
theorem dX4_byCable_26 : decode cX4_byCable 26 = .ok (.goto 4, 3) := by decide +kernel
theorem dX4_byCable_29 : decode cX4_byCable 29 = .ok (.iconst 0, 1) := by decide +kernel
theorem dX4_byCable_30 : decode cX4_byCable 30 = .ok (.ireturn, 1) := by decide +kernel
set_option maxRecDepth 20000 in
theorem ggX4_byStrand_X4_isPort : GoodIn wsX4_byStrand wsX4_isPort := goodIn_r _ [6, 7, 8, 9, 5, 10, 16, 17, 18, 19, 20, 21, 22, 23, 24, 25, 26, 27, 28, 29, 30, 31, 32, 33, 34, 35, 36, 37, 38, 39] (by decide +kernel) (by decide +kernel)
set_option maxRecDepth 20000 in
theorem gX4_byStrand_X4_isPort : GoodIn wsX4_byStrand (wsV RX4 73 RX4 yX4_isPort wsX4_isPort) := goodIn_app (goodIn_of _ (by decide +kernel)) ggX4_byStrand_X4_isPort
set_option maxRecDepth 20000 in
theorem ggX4_byStrand_X4_holds : GoodIn wsX4_byStrand wsX4_holds := goodIn_r _ [14, 15, 16, 17, 18, 19, 20, 21, 22, 23, 24, 25, 26, 27, 28, 29, 30, 31, 32, 33, 34, 35, 36, 37, 38, 39] (by decide +kernel) (by decide +kernel)
set_option maxRecDepth 20000 in
theorem gX4_byStrand_X4_holds : GoodIn wsX4_byStrand (wsV RX4 80 RX4 yX4_holds wsX4_holds) := goodIn_app (goodIn_of _ (by decide +kernel)) ggX4_byStrand_X4_holds
theorem dX4_byStrand_0 : decode cX4_byStrand 0 = .ok (.aload_n 0, 1) := by decide +kernel
theorem dX4_byStrand_1 : decode cX4_byStrand 1 = .ok (.aload_n 0, 1) := by decide +kernel
theorem dX4_byStrand_2 : decode cX4_byStrand 2 = .ok (.iload_n 1, 1) := by decide +kernel
theorem dX4_byStrand_3 : decode cX4_byStrand 3 = .ok (.invokevirtual 73, 3) := by decide +kernel
theorem dX4_byStrand_6 : decode cX4_byStrand 6 = .ok (.ifCond .eq 7, 3) := by decide +kernel
theorem dX4_byStrand_9 : decode cX4_byStrand 9 = .ok (.iconst 0, 1) := by decide +kernel
theorem dX4_byStrand_10 : decode cX4_byStrand 10 = .ok (.goto 4, 3) := by decide +kernel
theorem dX4_byStrand_13 : decode cX4_byStrand 13 = .ok (.iconst 1, 1) := by decide +kernel
theorem dX4_byStrand_14 : decode cX4_byStrand 14 = .ok (.invokevirtual 80, 3) := by decide +kernel
theorem dX4_byStrand_17 : decode cX4_byStrand 17 = .ok (.ifCond .eq 12, 3) := by decide +kernel
theorem dX4_byStrand_20 : decode cX4_byStrand 20 = .ok (.aload_n 0, 1) := by decide +kernel
theorem dX4_byStrand_21 : decode cX4_byStrand 21 = .ok (.getfield 22, 3) := by decide +kernel
theorem dX4_byStrand_24 : decode cX4_byStrand 24 = .ok (.iload_n 1, 1) := by decide +kernel
theorem dX4_byStrand_25 : decode cX4_byStrand 25 = .ok (.iaload, 1) := by decide +kernel
theorem dX4_byStrand_26 : decode cX4_byStrand 26 = .ok (.goto 4, 3) := by decide +kernel
theorem dX4_byStrand_29 : decode cX4_byStrand 29 = .ok (.iconst 0, 1) := by decide +kernel
theorem dX4_byStrand_30 : decode cX4_byStrand 30 = .ok (.ireturn, 1) := by decide +kernel
set_option maxRecDepth 20000 in
theorem ggX4_colour_X4_isPort : GoodIn wsX4_colour wsX4_isPort := goodIn_r _ [7, 8, 9, 10, 6, 11, 17, 18, 19, 20, 21, 22, 23, 24, 25, 26, 27, 28, 29, 30, 31, 32, 33, 34, 35, 36, 37, 38, 39, 40] (by decide +kernel) (by decide +kernel)
set_option maxRecDepth 20000 in
theorem gX4_colour_X4_isPort : GoodIn wsX4_colour (wsV RX4 73 RX4 yX4_isPort wsX4_isPort) := goodIn_app (goodIn_of _ (by decide +kernel)) ggX4_colour_X4_isPort
set_option maxRecDepth 20000 in
theorem ggX4_colour_X4_holds : GoodIn wsX4_colour wsX4_holds := goodIn_r _ [15, 16, 17, 18, 19, 20, 21, 22, 23, 24, 25, 26, 27, 28, 29, 30, 31, 32, 33, 34, 35, 36, 37, 38, 39, 40] (by decide +kernel) (by decide +kernel)
set_option maxRecDepth 20000 in
theorem gX4_colour_X4_holds : GoodIn wsX4_colour (wsV RX4 80 RX4 yX4_holds wsX4_holds) := goodIn_app (goodIn_of _ (by decide +kernel)) ggX4_colour_X4_holds
theorem dX4_colour_0 : decode cX4_colour 0 = .ok (.aload_n 0, 1) := by decide +kernel
theorem dX4_colour_1 : decode cX4_colour 1 = .ok (.aload_n 0, 1) := by decide +kernel
theorem dX4_colour_2 : decode cX4_colour 2 = .ok (.iload_n 1, 1) := by decide +kernel
theorem dX4_colour_3 : decode cX4_colour 3 = .ok (.invokevirtual 73, 3) := by decide +kernel
theorem dX4_colour_6 : decode cX4_colour 6 = .ok (.ifCond .eq 7, 3) := by decide +kernel
theorem dX4_colour_9 : decode cX4_colour 9 = .ok (.iconst 0, 1) := by decide +kernel
theorem dX4_colour_10 : decode cX4_colour 10 = .ok (.goto 4, 3) := by decide +kernel
theorem dX4_colour_13 : decode cX4_colour 13 = .ok (.iconst 1, 1) := by decide +kernel
theorem dX4_colour_14 : decode cX4_colour 14 = .ok (.invokevirtual 80, 3) := by decide +kernel
theorem dX4_colour_17 : decode cX4_colour 17 = .ok (.ifCond .eq 22, 3) := by decide +kernel
theorem dX4_colour_20 : decode cX4_colour 20 = .ok (.aload_n 0, 1) := by decide +kernel
theorem dX4_colour_21 : decode cX4_colour 21 = .ok (.getfield 16, 3) := by decide +kernel
theorem dX4_colour_24 : decode cX4_colour 24 = .ok (.iload_n 1, 1) := by decide +kernel
theorem dX4_colour_25 : decode cX4_colour 25 = .ok (.iaload, 1) := by decide +kernel
theorem dX4_colour_26 : decode cX4_colour 26 = .ok (.iconst (-1), 1) := by decide +kernel
theorem dX4_colour_27 : decode cX4_colour 27 = .ok (.if_icmp .eq 12, 3) := by decide +kernel
theorem dX4_colour_30 : decode cX4_colour 30 = .ok (.aload_n 0, 1) := by decide +kernel
theorem dX4_colour_31 : decode cX4_colour 31 = .ok (.getfield 19, 3) := by decide +kernel
theorem dX4_colour_34 : decode cX4_colour 34 = .ok (.iload_n 1, 1) := by decide +kernel
theorem dX4_colour_35 : decode cX4_colour 35 = .ok (.iaload, 1) := by decide +kernel
theorem dX4_colour_36 : decode cX4_colour 36 = .ok (.goto 4, 3) := by decide +kernel
theorem dX4_colour_39 : decode cX4_colour 39 = .ok (.iconst 0, 1) := by decide +kernel
theorem dX4_colour_40 : decode cX4_colour 40 = .ok (.ireturn, 1) := by decide +kernel
theorem dX4_next_0 : decode cX4_next 0 = .ok (.iload_n 2, 1) := by decide +kernel
theorem dX4_next_1 : decode cX4_next 1 = .ok (.ifCond .eq 12, 3) := by decide +kernel
theorem dX4_next_4 : decode cX4_next 4 = .ok (.aload_n 0, 1) := by decide +kernel
theorem dX4_next_5 : decode cX4_next 5 = .ok (.getfield 16, 3) := by decide +kernel
theorem dX4_next_8 : decode cX4_next 8 = .ok (.iload_n 1, 1) := by decide +kernel
theorem dX4_next_9 : decode cX4_next 9 = .ok (.iaload, 1) := by decide +kernel
theorem dX4_next_10 : decode cX4_next 10 = .ok (.goto 22, 3) := by decide +kernel
theorem dX4_next_13 : decode cX4_next 13 = .ok (.aload_n 0, 1) := by decide +kernel
theorem dX4_next_14 : decode cX4_next 14 = .ok (.getfield 28, 3) := by decide +kernel
theorem dX4_next_17 : decode cX4_next 17 = .ok (.iload_n 1, 1) := by decide +kernel
theorem dX4_next_18 : decode cX4_next 18 = .ok (.baload, 1) := by decide +kernel
theorem dX4_next_19 : decode cX4_next 19 = .ok (.ifCond .eq 7, 3) := by decide +kernel
theorem dX4_next_22 : decode cX4_next 22 = .ok (.iconst (-1), 1) := by decide +kernel
theorem dX4_next_23 : decode cX4_next 23 = .ok (.goto 9, 3) := by decide +kernel
theorem dX4_next_26 : decode cX4_next 26 = .ok (.aload_n 0, 1) := by decide +kernel
theorem dX4_next_27 : decode cX4_next 27 = .ok (.getfield 22, 3) := by decide +kernel
theorem dX4_next_30 : decode cX4_next 30 = .ok (.iload_n 1, 1) := by decide +kernel
theorem dX4_next_31 : decode cX4_next 31 = .ok (.iaload, 1) := by decide +kernel
theorem dX4_next_32 : decode cX4_next 32 = .ok (.ireturn, 1) := by decide +kernel
set_option maxRecDepth 20000 in
theorem ggX4_goes_X4_next : GoodIn wsX4_goes wsX4_next := goodIn_r _ [10, 11, 12, 13, 24, 25, 26, 27, 28, 29, 30, 31, 32, 33, 34, 35, 36, 37, 38, 39, 40, 41, 42, 43, 44, 45, 46, 47] (by decide +kernel) (by decide +kernel)
set_option maxRecDepth 20000 in
theorem gX4_goes_X4_next : GoodIn wsX4_goes (wsV RX4 132 RX4 yX4_next wsX4_next) := goodIn_app (goodIn_of _ (by decide +kernel)) ggX4_goes_X4_next
set_option maxRecDepth 20000 in
theorem ggX4_goes_X4_length : GoodIn wsX4_goes wsX4_length := goodIn_r _ [17, 18, 19, 20, 21, 9, 22, 23, 24, 25, 26, 27, 28, 29, 30, 31, 32, 33, 34, 35, 36, 37, 38, 39, 40, 41, 42, 43, 44, 45, 46, 47] (by decide +kernel) (by decide +kernel)
set_option maxRecDepth 20000 in
theorem gX4_goes_X4_length : GoodIn wsX4_goes (wsV RX4 108 RX4 yX4_length wsX4_length) := goodIn_app (goodIn_of _ (by decide +kernel)) ggX4_goes_X4_length
theorem dX4_goes_0 : decode cX4_goes 0 = .ok (.iload_n 1, 1) := by decide +kernel
theorem dX4_goes_1 : decode cX4_goes 1 = .ok (.istore_n 3, 1) := by decide +kernel
theorem dX4_goes_2 : decode cX4_goes 2 = .ok (.iload_n 2, 1) := by decide +kernel
theorem dX4_goes_3 : decode cX4_goes 3 = .ok (.istore 4, 2) := by decide +kernel
theorem dX4_goes_5 : decode cX4_goes 5 = .ok (.aload_n 0, 1) := by decide +kernel
theorem dX4_goes_6 : decode cX4_goes 6 = .ok (.iconst 0, 1) := by decide +kernel
theorem dX4_goes_7 : decode cX4_goes 7 = .ok (.putfield 126, 3) := by decide +kernel
theorem dX4_goes_10 : decode cX4_goes 10 = .ok (.aload_n 0, 1) := by decide +kernel
theorem dX4_goes_11 : decode cX4_goes 11 = .ok (.iconst 0, 1) := by decide +kernel
theorem dX4_goes_12 : decode cX4_goes 12 = .ok (.putfield 129, 3) := by decide +kernel
theorem dX4_goes_15 : decode cX4_goes 15 = .ok (.aload_n 0, 1) := by decide +kernel
theorem dX4_goes_16 : decode cX4_goes 16 = .ok (.iload_n 3, 1) := by decide +kernel
theorem dX4_goes_17 : decode cX4_goes 17 = .ok (.iload 4, 2) := by decide +kernel
theorem dX4_goes_19 : decode cX4_goes 19 = .ok (.invokevirtual 132, 3) := by decide +kernel
theorem dX4_goes_22 : decode cX4_goes 22 = .ok (.iconst (-1), 1) := by decide +kernel
theorem dX4_goes_23 : decode cX4_goes 23 = .ok (.if_icmp .eq 98, 3) := by decide +kernel
theorem dX4_goes_26 : decode cX4_goes 26 = .ok (.aload_n 0, 1) := by decide +kernel
theorem dX4_goes_27 : decode cX4_goes 27 = .ok (.getfield 126, 3) := by decide +kernel
theorem dX4_goes_30 : decode cX4_goes 30 = .ok (.ifCond .eq 8, 3) := by decide +kernel
theorem dX4_goes_33 : decode cX4_goes 33 = .ok (.iload_n 3, 1) := by decide +kernel
theorem dX4_goes_34 : decode cX4_goes 34 = .ok (.iload_n 1, 1) := by decide +kernel
theorem dX4_goes_35 : decode cX4_goes 35 = .ok (.if_icmp .eq 86, 3) := by decide +kernel
theorem dX4_goes_38 : decode cX4_goes 38 = .ok (.aload_n 0, 1) := by decide +kernel
theorem dX4_goes_39 : decode cX4_goes 39 = .ok (.iload_n 3, 1) := by decide +kernel
theorem dX4_goes_40 : decode cX4_goes 40 = .ok (.iload 4, 2) := by decide +kernel
theorem dX4_goes_42 : decode cX4_goes 42 = .ok (.invokevirtual 132, 3) := by decide +kernel
theorem dX4_goes_45 : decode cX4_goes 45 = .ok (.istore 5, 2) := by decide +kernel
theorem dX4_goes_47 : decode cX4_goes 47 = .ok (.aload_n 0, 1) := by decide +kernel
theorem dX4_goes_48 : decode cX4_goes 48 = .ok (.dup, 1) := by decide +kernel
theorem dX4_goes_49 : decode cX4_goes 49 = .ok (.getfield 129, 3) := by decide +kernel
theorem dX4_goes_52 : decode cX4_goes 52 = .ok (.iload 4, 2) := by decide +kernel
theorem dX4_goes_54 : decode cX4_goes 54 = .ok (.ifCond .eq 13, 3) := by decide +kernel
theorem dX4_goes_57 : decode cX4_goes 57 = .ok (.aload_n 0, 1) := by decide +kernel
theorem dX4_goes_58 : decode cX4_goes 58 = .ok (.iload_n 3, 1) := by decide +kernel
theorem dX4_goes_59 : decode cX4_goes 59 = .ok (.iload 5, 2) := by decide +kernel
theorem dX4_goes_61 : decode cX4_goes 61 = .ok (.invokevirtual 108, 3) := by decide +kernel
theorem dX4_goes_64 : decode cX4_goes 64 = .ok (.goto 14, 3) := by decide +kernel
theorem dX4_goes_67 : decode cX4_goes 67 = .ok (.aload_n 0, 1) := by decide +kernel
theorem dX4_goes_68 : decode cX4_goes 68 = .ok (.getfield 41, 3) := by decide +kernel
theorem dX4_goes_71 : decode cX4_goes 71 = .ok (.aload_n 0, 1) := by decide +kernel
theorem dX4_goes_72 : decode cX4_goes 72 = .ok (.getfield 25, 3) := by decide +kernel
theorem dX4_goes_75 : decode cX4_goes 75 = .ok (.iload_n 3, 1) := by decide +kernel
theorem dX4_goes_76 : decode cX4_goes 76 = .ok (.iaload, 1) := by decide +kernel
theorem dX4_goes_77 : decode cX4_goes 77 = .ok (.iaload, 1) := by decide +kernel
theorem dX4_goes_78 : decode cX4_goes 78 = .ok (.iadd, 1) := by decide +kernel
theorem dX4_goes_79 : decode cX4_goes 79 = .ok (.putfield 129, 3) := by decide +kernel
theorem dX4_goes_82 : decode cX4_goes 82 = .ok (.aload_n 0, 1) := by decide +kernel
theorem dX4_goes_83 : decode cX4_goes 83 = .ok (.getfield 56, 3) := by decide +kernel
theorem dX4_goes_86 : decode cX4_goes 86 = .ok (.aload_n 0, 1) := by decide +kernel
theorem dX4_goes_87 : decode cX4_goes 87 = .ok (.getfield 126, 3) := by decide +kernel
theorem dX4_goes_90 : decode cX4_goes 90 = .ok (.iload 5, 2) := by decide +kernel
theorem dX4_goes_92 : decode cX4_goes 92 = .ok (.iastore, 1) := by decide +kernel
theorem dX4_goes_93 : decode cX4_goes 93 = .ok (.aload_n 0, 1) := by decide +kernel
theorem dX4_goes_94 : decode cX4_goes 94 = .ok (.dup, 1) := by decide +kernel
theorem dX4_goes_95 : decode cX4_goes 95 = .ok (.getfield 126, 3) := by decide +kernel
theorem dX4_goes_98 : decode cX4_goes 98 = .ok (.iconst 1, 1) := by decide +kernel
theorem dX4_goes_99 : decode cX4_goes 99 = .ok (.iadd, 1) := by decide +kernel
theorem dX4_goes_100 : decode cX4_goes 100 = .ok (.putfield 126, 3) := by decide +kernel
theorem dX4_goes_103 : decode cX4_goes 103 = .ok (.iload 5, 2) := by decide +kernel
theorem dX4_goes_105 : decode cX4_goes 105 = .ok (.istore_n 3, 1) := by decide +kernel
theorem dX4_goes_106 : decode cX4_goes 106 = .ok (.iload 4, 2) := by decide +kernel
theorem dX4_goes_108 : decode cX4_goes 108 = .ok (.ifCond .ne 7, 3) := by decide +kernel
theorem dX4_goes_111 : decode cX4_goes 111 = .ok (.iconst 1, 1) := by decide +kernel
theorem dX4_goes_112 : decode cX4_goes 112 = .ok (.goto 4, 3) := by decide +kernel
theorem dX4_goes_115 : decode cX4_goes 115 = .ok (.iconst 0, 1) := by decide +kernel
theorem dX4_goes_116 : decode cX4_goes 116 = .ok (.istore 4, 2) := by decide +kernel
theorem dX4_goes_118 : decode cX4_goes 118 = .ok (.goto (-103), 3) := by decide +kernel
theorem dX4_goes_121 : decode cX4_goes 121 = .ok (.iload_n 3, 1) := by decide +kernel
theorem dX4_goes_122 : decode cX4_goes 122 = .ok (.ireturn, 1) := by decide +kernel
set_option maxRecDepth 20000 in
theorem ggX4_end_X4_isPort : GoodIn wsX4_end wsX4_isPort := goodIn_r _ [5, 6, 7, 8, 4, 9, 41, 42, 43, 44, 45, 46, 47, 48, 49, 50, 51, 52, 53, 54, 55, 56, 57, 58, 59, 60, 61, 62, 63, 64] (by decide +kernel) (by decide +kernel)
set_option maxRecDepth 20000 in
theorem gX4_end_X4_isPort : GoodIn wsX4_end (wsV RX4 73 RX4 yX4_isPort wsX4_isPort) := goodIn_app (goodIn_of _ (by decide +kernel)) ggX4_end_X4_isPort
set_option maxRecDepth 20000 in
theorem ggX4_end_X4_holds : GoodIn wsX4_end wsX4_holds := goodIn_r _ [13, 14, 41, 42, 43, 44, 45, 46, 47, 48, 49, 50, 51, 52, 53, 54, 55, 56, 57, 58, 59, 60, 61, 62, 63, 64] (by decide +kernel) (by decide +kernel)
set_option maxRecDepth 20000 in
theorem gX4_end_X4_holds : GoodIn wsX4_end (wsV RX4 80 RX4 yX4_holds wsX4_holds) := goodIn_app (goodIn_of _ (by decide +kernel)) ggX4_end_X4_holds
set_option maxRecDepth 20000 in
theorem ggX4_end_X4_goes : GoodIn wsX4_end wsX4_goes := goodIn_r _ [18, 19, 20, 21, 22, 23, 24, 25, 26, 4, 27, 28, 29, 30, 31, 32, 33, 34, 35, 36, 37, 38, 39, 40, 41, 42, 43, 44, 45, 46, 47, 48, 49, 50, 51, 52, 53, 54, 55, 56, 57, 58, 59, 60, 61, 62, 63, 64] (by decide +kernel) (by decide +kernel)
set_option maxRecDepth 20000 in
theorem gX4_end_X4_goes : GoodIn wsX4_end (wsV RX4 136 RX4 yX4_goes wsX4_goes) := goodIn_app (goodIn_of _ (by decide +kernel)) ggX4_end_X4_goes
theorem dX4_end_0 : decode cX4_end 0 = .ok (.aload_n 0, 1) := by decide +kernel
theorem dX4_end_1 : decode cX4_end 1 = .ok (.aload_n 0, 1) := by decide +kernel
theorem dX4_end_2 : decode cX4_end 2 = .ok (.iload_n 1, 1) := by decide +kernel
theorem dX4_end_3 : decode cX4_end 3 = .ok (.invokevirtual 73, 3) := by decide +kernel
theorem dX4_end_6 : decode cX4_end 6 = .ok (.ifCond .eq 7, 3) := by decide +kernel
theorem dX4_end_9 : decode cX4_end 9 = .ok (.iconst 0, 1) := by decide +kernel
theorem dX4_end_10 : decode cX4_end 10 = .ok (.goto 4, 3) := by decide +kernel
theorem dX4_end_13 : decode cX4_end 13 = .ok (.iconst 1, 1) := by decide +kernel
theorem dX4_end_14 : decode cX4_end 14 = .ok (.invokevirtual 80, 3) := by decide +kernel
theorem dX4_end_17 : decode cX4_end 17 = .ok (.ifCond .eq 12, 3) := by decide +kernel
theorem dX4_end_20 : decode cX4_end 20 = .ok (.aload_n 0, 1) := by decide +kernel
theorem dX4_end_21 : decode cX4_end 21 = .ok (.iload_n 1, 1) := by decide +kernel
theorem dX4_end_22 : decode cX4_end 22 = .ok (.iload_n 2, 1) := by decide +kernel
theorem dX4_end_23 : decode cX4_end 23 = .ok (.invokevirtual 136, 3) := by decide +kernel
theorem dX4_end_26 : decode cX4_end 26 = .ok (.goto 4, 3) := by decide +kernel
theorem dX4_end_29 : decode cX4_end 29 = .ok (.iconst 0, 1) := by decide +kernel
theorem dX4_end_30 : decode cX4_end 30 = .ok (.ireturn, 1) := by decide +kernel
set_option maxRecDepth 20000 in
theorem ggX4_hops_X4_isPort : GoodIn wsX4_hops wsX4_isPort := goodIn_r _ [6, 7, 8, 9, 5, 10, 41, 42, 43, 44, 45, 46, 47, 48, 49, 50, 51, 52, 53, 54, 55, 56, 57, 58, 59, 60, 61, 62, 63, 64] (by decide +kernel) (by decide +kernel)
set_option maxRecDepth 20000 in
theorem gX4_hops_X4_isPort : GoodIn wsX4_hops (wsV RX4 73 RX4 yX4_isPort wsX4_isPort) := goodIn_app (goodIn_of _ (by decide +kernel)) ggX4_hops_X4_isPort
set_option maxRecDepth 20000 in
theorem ggX4_hops_X4_holds : GoodIn wsX4_hops wsX4_holds := goodIn_r _ [14, 15, 41, 42, 43, 44, 45, 46, 47, 48, 49, 50, 51, 52, 53, 54, 55, 56, 57, 58, 59, 60, 61, 62, 63, 64] (by decide +kernel) (by decide +kernel)
set_option maxRecDepth 20000 in
theorem gX4_hops_X4_holds : GoodIn wsX4_hops (wsV RX4 80 RX4 yX4_holds wsX4_holds) := goodIn_app (goodIn_of _ (by decide +kernel)) ggX4_hops_X4_holds
set_option maxRecDepth 20000 in
theorem ggX4_hops_X4_goes : GoodIn wsX4_hops wsX4_goes := goodIn_r _ [19, 1, 20, 21, 22, 23, 24, 25, 26, 5, 27, 28, 29, 30, 31, 32, 33, 34, 35, 36, 37, 38, 39, 40, 41, 42, 43, 44, 45, 46, 47, 48, 49, 50, 51, 52, 53, 54, 55, 56, 57, 58, 59, 60, 61, 62, 63, 64] (by decide +kernel) (by decide +kernel)
set_option maxRecDepth 20000 in
theorem gX4_hops_X4_goes : GoodIn wsX4_hops (wsV RX4 136 RX4 yX4_goes wsX4_goes) := goodIn_app (goodIn_of _ (by decide +kernel)) ggX4_hops_X4_goes
theorem dX4_hops_0 : decode cX4_hops 0 = .ok (.aload_n 0, 1) := by decide +kernel
theorem dX4_hops_1 : decode cX4_hops 1 = .ok (.aload_n 0, 1) := by decide +kernel
theorem dX4_hops_2 : decode cX4_hops 2 = .ok (.iload_n 1, 1) := by decide +kernel
theorem dX4_hops_3 : decode cX4_hops 3 = .ok (.invokevirtual 73, 3) := by decide +kernel
theorem dX4_hops_6 : decode cX4_hops 6 = .ok (.ifCond .eq 7, 3) := by decide +kernel
theorem dX4_hops_9 : decode cX4_hops 9 = .ok (.iconst 0, 1) := by decide +kernel
theorem dX4_hops_10 : decode cX4_hops 10 = .ok (.goto 4, 3) := by decide +kernel
theorem dX4_hops_13 : decode cX4_hops 13 = .ok (.iconst 1, 1) := by decide +kernel
theorem dX4_hops_14 : decode cX4_hops 14 = .ok (.invokevirtual 80, 3) := by decide +kernel
theorem dX4_hops_17 : decode cX4_hops 17 = .ok (.ifCond .ne 5, 3) := by decide +kernel
theorem dX4_hops_20 : decode cX4_hops 20 = .ok (.iconst 0, 1) := by decide +kernel
theorem dX4_hops_21 : decode cX4_hops 21 = .ok (.ireturn, 1) := by decide +kernel
theorem dX4_hops_22 : decode cX4_hops 22 = .ok (.aload_n 0, 1) := by decide +kernel
theorem dX4_hops_23 : decode cX4_hops 23 = .ok (.iload_n 1, 1) := by decide +kernel
theorem dX4_hops_24 : decode cX4_hops 24 = .ok (.iload_n 2, 1) := by decide +kernel
theorem dX4_hops_25 : decode cX4_hops 25 = .ok (.invokevirtual 136, 3) := by decide +kernel
theorem dX4_hops_28 : decode cX4_hops 28 = .ok (.pop, 1) := by decide +kernel
theorem dX4_hops_29 : decode cX4_hops 29 = .ok (.aload_n 0, 1) := by decide +kernel
theorem dX4_hops_30 : decode cX4_hops 30 = .ok (.getfield 126, 3) := by decide +kernel
theorem dX4_hops_33 : decode cX4_hops 33 = .ok (.ireturn, 1) := by decide +kernel
set_option maxRecDepth 20000 in
theorem ggX4_hopTo_X4_isPort : GoodIn wsX4_hopTo wsX4_isPort := goodIn_r _ [7, 8, 9, 10, 6, 11, 41, 42, 43, 44, 45, 46, 47, 48, 49, 50, 51, 52, 53, 54, 55, 56, 57, 58, 59, 60, 61, 62, 63, 64] (by decide +kernel) (by decide +kernel)
set_option maxRecDepth 20000 in
theorem gX4_hopTo_X4_isPort : GoodIn wsX4_hopTo (wsV RX4 73 RX4 yX4_isPort wsX4_isPort) := goodIn_app (goodIn_of _ (by decide +kernel)) ggX4_hopTo_X4_isPort
set_option maxRecDepth 20000 in
theorem ggX4_hopTo_X4_goes : GoodIn wsX4_hopTo wsX4_goes := goodIn_r _ [15, 1, 16, 17, 18, 2, 19, 20, 21, 6, 22, 23, 24, 25, 26, 27, 28, 29, 30, 31, 32, 33, 34, 35, 41, 42, 43, 44, 45, 46, 47, 48, 49, 50, 51, 52, 53, 54, 55, 56, 57, 58, 59, 60, 61, 62, 63, 64] (by decide +kernel) (by decide +kernel)
set_option maxRecDepth 20000 in
theorem gX4_hopTo_X4_goes : GoodIn wsX4_hopTo (wsV RX4 136 RX4 yX4_goes wsX4_goes) := goodIn_app (goodIn_of _ (by decide +kernel)) ggX4_hopTo_X4_goes
set_option maxRecDepth 20000 in
theorem ggX4_hopTo_X4_in : GoodIn wsX4_hopTo wsX4_in := goodIn_r _ [11] (by decide +kernel) (by decide +kernel)
set_option maxRecDepth 20000 in
theorem gX4_hopTo_X4_in : GoodIn wsX4_hopTo (va_wsS RX4 69 yX4_in wsX4_in) := goodIn_app (goodIn_of _ (by decide +kernel)) ggX4_hopTo_X4_in
set_option maxRecDepth 20000 in
theorem ggX4_hopTo_X4_holds : GoodIn wsX4_hopTo wsX4_holds := goodIn_r _ [39, 40, 41, 42, 43, 44, 45, 46, 47, 48, 49, 50, 51, 52, 53, 54, 55, 56, 57, 58, 59, 60, 61, 62, 63, 64] (by decide +kernel) (by decide +kernel)
set_option maxRecDepth 20000 in
theorem gX4_hopTo_X4_holds : GoodIn wsX4_hopTo (wsV RX4 80 RX4 yX4_holds wsX4_holds) := goodIn_app (goodIn_of _ (by decide +kernel)) ggX4_hopTo_X4_holds
theorem dX4_hopTo_0 : decode cX4_hopTo 0 = .ok (.aload_n 0, 1) := by decide +kernel
theorem dX4_hopTo_1 : decode cX4_hopTo 1 = .ok (.iload_n 1, 1) := by decide +kernel
theorem dX4_hopTo_2 : decode cX4_hopTo 2 = .ok (.invokevirtual 73, 3) := by decide +kernel
theorem dX4_hopTo_5 : decode cX4_hopTo 5 = .ok (.ifCond .eq 12, 3) := by decide +kernel
theorem dX4_hopTo_8 : decode cX4_hopTo 8 = .ok (.aload_n 0, 1) := by decide +kernel
theorem dX4_hopTo_9 : decode cX4_hopTo 9 = .ok (.iload_n 1, 1) := by decide +kernel
theorem dX4_hopTo_10 : decode cX4_hopTo 10 = .ok (.iload_n 2, 1) := by decide +kernel
theorem dX4_hopTo_11 : decode cX4_hopTo 11 = .ok (.invokevirtual 136, 3) := by decide +kernel
theorem dX4_hopTo_14 : decode cX4_hopTo 14 = .ok (.goto 4, 3) := by decide +kernel
theorem dX4_hopTo_17 : decode cX4_hopTo 17 = .ok (.iconst (-1), 1) := by decide +kernel
theorem dX4_hopTo_18 : decode cX4_hopTo 18 = .ok (.istore 4, 2) := by decide +kernel
theorem dX4_hopTo_20 : decode cX4_hopTo 20 = .ok (.aload_n 0, 1) := by decide +kernel
theorem dX4_hopTo_21 : decode cX4_hopTo 21 = .ok (.iload 4, 2) := by decide +kernel
theorem dX4_hopTo_23 : decode cX4_hopTo 23 = .ok (.iconst (-1), 1) := by decide +kernel
theorem dX4_hopTo_24 : decode cX4_hopTo 24 = .ok (.if_icmp .eq 21, 3) := by decide +kernel
theorem dX4_hopTo_27 : decode cX4_hopTo 27 = .ok (.iload_n 3, 1) := by decide +kernel
theorem dX4_hopTo_28 : decode cX4_hopTo 28 = .ok (.iconst 0, 1) := by decide +kernel
theorem dX4_hopTo_29 : decode cX4_hopTo 29 = .ok (.aload_n 0, 1) := by decide +kernel
theorem dX4_hopTo_30 : decode cX4_hopTo 30 = .ok (.getfield 126, 3) := by decide +kernel
theorem dX4_hopTo_33 : decode cX4_hopTo 33 = .ok (.iconst 1, 1) := by decide +kernel
theorem dX4_hopTo_34 : decode cX4_hopTo 34 = .ok (.isub, 1) := by decide +kernel
theorem dX4_hopTo_35 : decode cX4_hopTo 35 = .ok (.invokestatic 69, 3) := by decide +kernel
theorem dX4_hopTo_38 : decode cX4_hopTo 38 = .ok (.ifCond .eq 7, 3) := by decide +kernel
theorem dX4_hopTo_41 : decode cX4_hopTo 41 = .ok (.iconst 0, 1) := by decide +kernel
theorem dX4_hopTo_42 : decode cX4_hopTo 42 = .ok (.goto 4, 3) := by decide +kernel
theorem dX4_hopTo_45 : decode cX4_hopTo 45 = .ok (.iconst 1, 1) := by decide +kernel
theorem dX4_hopTo_46 : decode cX4_hopTo 46 = .ok (.invokevirtual 80, 3) := by decide +kernel
theorem dX4_hopTo_49 : decode cX4_hopTo 49 = .ok (.ifCond .eq 12, 3) := by decide +kernel
theorem dX4_hopTo_52 : decode cX4_hopTo 52 = .ok (.aload_n 0, 1) := by decide +kernel
theorem dX4_hopTo_53 : decode cX4_hopTo 53 = .ok (.getfield 56, 3) := by decide +kernel
theorem dX4_hopTo_56 : decode cX4_hopTo 56 = .ok (.iload_n 3, 1) := by decide +kernel
theorem dX4_hopTo_57 : decode cX4_hopTo 57 = .ok (.iaload, 1) := by decide +kernel
theorem dX4_hopTo_58 : decode cX4_hopTo 58 = .ok (.goto 4, 3) := by decide +kernel
theorem dX4_hopTo_61 : decode cX4_hopTo 61 = .ok (.iconst 0, 1) := by decide +kernel
theorem dX4_hopTo_62 : decode cX4_hopTo 62 = .ok (.ireturn, 1) := by decide +kernel
set_option maxRecDepth 20000 in
theorem ggX4_lengthOf_X4_isPort : GoodIn wsX4_lengthOf wsX4_isPort := goodIn_r _ [6, 7, 8, 9, 5, 10, 41, 42, 43, 44, 45, 46, 47, 48, 49, 50, 51, 52, 53, 54, 55, 56, 57, 58, 59, 60, 61, 62, 63, 64] (by decide +kernel) (by decide +kernel)
set_option maxRecDepth 20000 in
theorem gX4_lengthOf_X4_isPort : GoodIn wsX4_lengthOf (wsV RX4 73 RX4 yX4_isPort wsX4_isPort) := goodIn_app (goodIn_of _ (by decide +kernel)) ggX4_lengthOf_X4_isPort
set_option maxRecDepth 20000 in
theorem ggX4_lengthOf_X4_holds : GoodIn wsX4_lengthOf wsX4_holds := goodIn_r _ [14, 15, 41, 42, 43, 44, 45, 46, 47, 48, 49, 50, 51, 52, 53, 54, 55, 56, 57, 58, 59, 60, 61, 62, 63, 64] (by decide +kernel) (by decide +kernel)
set_option maxRecDepth 20000 in
theorem gX4_lengthOf_X4_holds : GoodIn wsX4_lengthOf (wsV RX4 80 RX4 yX4_holds wsX4_holds) := goodIn_app (goodIn_of _ (by decide +kernel)) ggX4_lengthOf_X4_holds
set_option maxRecDepth 20000 in
theorem ggX4_lengthOf_X4_goes : GoodIn wsX4_lengthOf wsX4_goes := goodIn_r _ [19, 20, 1, 21, 22, 23, 24, 25, 26, 5, 27, 28, 29, 30, 31, 32, 33, 34, 35, 36, 37, 38, 39, 40, 41, 42, 43, 44, 45, 46, 47, 48, 49, 50, 51, 52, 53, 54, 55, 56, 57, 58, 59, 60, 61, 62, 63, 64] (by decide +kernel) (by decide +kernel)
set_option maxRecDepth 20000 in
theorem gX4_lengthOf_X4_goes : GoodIn wsX4_lengthOf (wsV RX4 136 RX4 yX4_goes wsX4_goes) := goodIn_app (goodIn_of _ (by decide +kernel)) ggX4_lengthOf_X4_goes
theorem dX4_lengthOf_0 : decode cX4_lengthOf 0 = .ok (.aload_n 0, 1) := by decide +kernel
theorem dX4_lengthOf_1 : decode cX4_lengthOf 1 = .ok (.aload_n 0, 1) := by decide +kernel
theorem dX4_lengthOf_2 : decode cX4_lengthOf 2 = .ok (.iload_n 1, 1) := by decide +kernel
theorem dX4_lengthOf_3 : decode cX4_lengthOf 3 = .ok (.invokevirtual 73, 3) := by decide +kernel
theorem dX4_lengthOf_6 : decode cX4_lengthOf 6 = .ok (.ifCond .eq 7, 3) := by decide +kernel
theorem dX4_lengthOf_9 : decode cX4_lengthOf 9 = .ok (.iconst 0, 1) := by decide +kernel
theorem dX4_lengthOf_10 : decode cX4_lengthOf 10 = .ok (.goto 4, 3) := by decide +kernel
theorem dX4_lengthOf_13 : decode cX4_lengthOf 13 = .ok (.iconst 1, 1) := by decide +kernel
theorem dX4_lengthOf_14 : decode cX4_lengthOf 14 = .ok (.invokevirtual 80, 3) := by decide +kernel
theorem dX4_lengthOf_17 : decode cX4_lengthOf 17 = .ok (.ifCond .ne 5, 3) := by decide +kernel
theorem dX4_lengthOf_20 : decode cX4_lengthOf 20 = .ok (.iconst 0, 1) := by decide +kernel
theorem dX4_lengthOf_21 : decode cX4_lengthOf 21 = .ok (.ireturn, 1) := by decide +kernel
theorem dX4_lengthOf_22 : decode cX4_lengthOf 22 = .ok (.aload_n 0, 1) := by decide +kernel
theorem dX4_lengthOf_23 : decode cX4_lengthOf 23 = .ok (.iload_n 1, 1) := by decide +kernel
theorem dX4_lengthOf_24 : decode cX4_lengthOf 24 = .ok (.iload_n 2, 1) := by decide +kernel
theorem dX4_lengthOf_25 : decode cX4_lengthOf 25 = .ok (.invokevirtual 136, 3) := by decide +kernel
theorem dX4_lengthOf_28 : decode cX4_lengthOf 28 = .ok (.pop, 1) := by decide +kernel
theorem dX4_lengthOf_29 : decode cX4_lengthOf 29 = .ok (.aload_n 0, 1) := by decide +kernel
theorem dX4_lengthOf_30 : decode cX4_lengthOf 30 = .ok (.getfield 129, 3) := by decide +kernel
theorem dX4_lengthOf_33 : decode cX4_lengthOf 33 = .ok (.ireturn, 1) := by decide +kernel
set_option maxRecDepth 20000 in
theorem ggX4_isRing_X4_isPort : GoodIn wsX4_isRing wsX4_isPort := goodIn_r _ [6, 7, 8, 9, 5, 10, 41, 42, 43, 44, 45, 46, 47, 48, 49, 50, 51, 52, 53, 54, 55, 56, 57, 58, 59, 60, 61, 62, 63, 64] (by decide +kernel) (by decide +kernel)
set_option maxRecDepth 20000 in
theorem gX4_isRing_X4_isPort : GoodIn wsX4_isRing (wsV RX4 73 RX4 yX4_isPort wsX4_isPort) := goodIn_app (goodIn_of _ (by decide +kernel)) ggX4_isRing_X4_isPort
set_option maxRecDepth 20000 in
theorem ggX4_isRing_X4_holds : GoodIn wsX4_isRing wsX4_holds := goodIn_r _ [14, 15, 41, 42, 43, 44, 45, 46, 47, 48, 49, 50, 51, 52, 53, 54, 55, 56, 57, 58, 59, 60, 61, 62, 63, 64] (by decide +kernel) (by decide +kernel)
set_option maxRecDepth 20000 in
theorem gX4_isRing_X4_holds : GoodIn wsX4_isRing (wsV RX4 80 RX4 yX4_holds wsX4_holds) := goodIn_app (goodIn_of _ (by decide +kernel)) ggX4_isRing_X4_holds
set_option maxRecDepth 20000 in
theorem ggX4_isRing_X4_goes : GoodIn wsX4_isRing wsX4_goes := goodIn_r _ [19, 1, 20, 21, 22, 23, 24, 25, 26, 5, 27, 28, 29, 30, 31, 32, 33, 34, 35, 36, 37, 38, 39, 40, 41, 42, 43, 44, 45, 46, 47, 48, 49, 50, 51, 52, 53, 54, 55, 56, 57, 58, 59, 60, 61, 62, 63, 64] (by decide +kernel) (by decide +kernel)
set_option maxRecDepth 20000 in
theorem gX4_isRing_X4_goes : GoodIn wsX4_isRing (wsV RX4 136 RX4 yX4_goes wsX4_goes) := goodIn_app (goodIn_of _ (by decide +kernel)) ggX4_isRing_X4_goes
theorem dX4_isRing_0 : decode cX4_isRing 0 = .ok (.aload_n 0, 1) := by decide +kernel
theorem dX4_isRing_1 : decode cX4_isRing 1 = .ok (.aload_n 0, 1) := by decide +kernel
theorem dX4_isRing_2 : decode cX4_isRing 2 = .ok (.iload_n 1, 1) := by decide +kernel
theorem dX4_isRing_3 : decode cX4_isRing 3 = .ok (.invokevirtual 73, 3) := by decide +kernel
theorem dX4_isRing_6 : decode cX4_isRing 6 = .ok (.ifCond .eq 7, 3) := by decide +kernel
theorem dX4_isRing_9 : decode cX4_isRing 9 = .ok (.iconst 0, 1) := by decide +kernel
theorem dX4_isRing_10 : decode cX4_isRing 10 = .ok (.goto 4, 3) := by decide +kernel
theorem dX4_isRing_13 : decode cX4_isRing 13 = .ok (.iconst 1, 1) := by decide +kernel
theorem dX4_isRing_14 : decode cX4_isRing 14 = .ok (.invokevirtual 80, 3) := by decide +kernel
theorem dX4_isRing_17 : decode cX4_isRing 17 = .ok (.ifCond .eq 24, 3) := by decide +kernel
theorem dX4_isRing_20 : decode cX4_isRing 20 = .ok (.aload_n 0, 1) := by decide +kernel
theorem dX4_isRing_21 : decode cX4_isRing 21 = .ok (.iload_n 1, 1) := by decide +kernel
theorem dX4_isRing_22 : decode cX4_isRing 22 = .ok (.iconst 1, 1) := by decide +kernel
theorem dX4_isRing_23 : decode cX4_isRing 23 = .ok (.invokevirtual 136, 3) := by decide +kernel
theorem dX4_isRing_26 : decode cX4_isRing 26 = .ok (.iload_n 1, 1) := by decide +kernel
theorem dX4_isRing_27 : decode cX4_isRing 27 = .ok (.if_icmp .ne 14, 3) := by decide +kernel
theorem dX4_isRing_30 : decode cX4_isRing 30 = .ok (.aload_n 0, 1) := by decide +kernel
theorem dX4_isRing_31 : decode cX4_isRing 31 = .ok (.getfield 126, 3) := by decide +kernel
theorem dX4_isRing_34 : decode cX4_isRing 34 = .ok (.ifCond .le 7, 3) := by decide +kernel
theorem dX4_isRing_37 : decode cX4_isRing 37 = .ok (.iconst 1, 1) := by decide +kernel
theorem dX4_isRing_38 : decode cX4_isRing 38 = .ok (.goto 4, 3) := by decide +kernel
theorem dX4_isRing_41 : decode cX4_isRing 41 = .ok (.iconst 0, 1) := by decide +kernel
theorem dX4_isRing_42 : decode cX4_isRing 42 = .ok (.ireturn, 1) := by decide +kernel
set_option maxRecDepth 20000 in
theorem ggX4_isMet_X4_goes : GoodIn wsX4_isMet wsX4_goes := goodIn_r _ [7, 1, 8, 9, 10, 2, 11, 12, 13, 6, 14, 15, 16, 17, 18, 19, 20, 21, 22, 23, 24, 25, 26, 27, 28, 29, 30, 31, 32, 33, 34, 35, 36, 37, 38, 39, 40, 41, 42, 43, 44, 45, 46, 47, 48, 49, 50, 51] (by decide +kernel) (by decide +kernel)
set_option maxRecDepth 20000 in
theorem gX4_isMet_X4_goes : GoodIn wsX4_isMet (wsV RX4 136 RX4 yX4_goes wsX4_goes) := goodIn_app (goodIn_of _ (by decide +kernel)) ggX4_isMet_X4_goes
theorem dX4_isMet_0 : decode cX4_isMet 0 = .ok (.aload_n 0, 1) := by decide +kernel
theorem dX4_isMet_1 : decode cX4_isMet 1 = .ok (.iload_n 2, 1) := by decide +kernel
theorem dX4_isMet_2 : decode cX4_isMet 2 = .ok (.iload_n 3, 1) := by decide +kernel
theorem dX4_isMet_3 : decode cX4_isMet 3 = .ok (.invokevirtual 136, 3) := by decide +kernel
theorem dX4_isMet_6 : decode cX4_isMet 6 = .ok (.pop, 1) := by decide +kernel
theorem dX4_isMet_7 : decode cX4_isMet 7 = .ok (.iconst 0, 1) := by decide +kernel
theorem dX4_isMet_8 : decode cX4_isMet 8 = .ok (.istore 4, 2) := by decide +kernel
theorem dX4_isMet_10 : decode cX4_isMet 10 = .ok (.iload 4, 2) := by decide +kernel
theorem dX4_isMet_12 : decode cX4_isMet 12 = .ok (.aload_n 0, 1) := by decide +kernel
theorem dX4_isMet_13 : decode cX4_isMet 13 = .ok (.getfield 126, 3) := by decide +kernel
theorem dX4_isMet_16 : decode cX4_isMet 16 = .ok (.if_icmp .ge 22, 3) := by decide +kernel
theorem dX4_isMet_19 : decode cX4_isMet 19 = .ok (.aload_n 0, 1) := by decide +kernel
theorem dX4_isMet_20 : decode cX4_isMet 20 = .ok (.getfield 56, 3) := by decide +kernel
theorem dX4_isMet_23 : decode cX4_isMet 23 = .ok (.iload 4, 2) := by decide +kernel
theorem dX4_isMet_25 : decode cX4_isMet 25 = .ok (.iaload, 1) := by decide +kernel
theorem dX4_isMet_26 : decode cX4_isMet 26 = .ok (.iload_n 1, 1) := by decide +kernel
theorem dX4_isMet_27 : decode cX4_isMet 27 = .ok (.if_icmp .ne 5, 3) := by decide +kernel
theorem dX4_isMet_30 : decode cX4_isMet 30 = .ok (.iconst 1, 1) := by decide +kernel
theorem dX4_isMet_31 : decode cX4_isMet 31 = .ok (.ireturn, 1) := by decide +kernel
theorem dX4_isMet_32 : decode cX4_isMet 32 = .ok (.iinc 4 1, 3) := by decide +kernel
theorem dX4_isMet_35 : decode cX4_isMet 35 = .ok (.goto (-25), 3) := by decide +kernel
theorem dX4_isMet_38 : decode cX4_isMet 38 = .ok (.iload_n 1, 1) := by decide +kernel
theorem dX4_isMet_39 : decode cX4_isMet 39 = .ok (.iload_n 2, 1) := by decide +kernel
theorem dX4_isMet_40 : decode cX4_isMet 40 = .ok (.if_icmp .ne 7, 3) := by decide +kernel
theorem dX4_isMet_43 : decode cX4_isMet 43 = .ok (.iconst 1, 1) := by decide +kernel
theorem dX4_isMet_44 : decode cX4_isMet 44 = .ok (.goto 4, 3) := by decide +kernel
theorem dX4_isMet_47 : decode cX4_isMet 47 = .ok (.iconst 0, 1) := by decide +kernel
theorem dX4_isMet_48 : decode cX4_isMet 48 = .ok (.ireturn, 1) := by decide +kernel
set_option maxRecDepth 20000 in
theorem ggX4_isOnLine_X4_isMet : GoodIn wsX4_isOnLine wsX4_isMet := goodIn_r _ [5, 6, 7, 8, 9, 10, 4, 11, 12, 13, 14, 15, 16, 17, 18, 19, 20, 21, 22, 23, 24, 25, 26, 27, 28, 29, 30, 31, 32, 33, 34, 35, 36, 37, 38, 39, 40, 41, 42, 43, 44, 45, 46, 47, 48, 49, 50, 51, 52, 53, 54, 55] (by decide +kernel) (by decide +kernel)
set_option maxRecDepth 20000 in
theorem gX4_isOnLine_X4_isMet : GoodIn wsX4_isOnLine (wsV RX4 139 RX4 yX4_isMet wsX4_isMet) := goodIn_app (goodIn_of _ (by decide +kernel)) ggX4_isOnLine_X4_isMet
theorem dX4_isOnLine_0 : decode cX4_isOnLine 0 = .ok (.aload_n 0, 1) := by decide +kernel
theorem dX4_isOnLine_1 : decode cX4_isOnLine 1 = .ok (.iload_n 1, 1) := by decide +kernel
theorem dX4_isOnLine_2 : decode cX4_isOnLine 2 = .ok (.iload_n 2, 1) := by decide +kernel
theorem dX4_isOnLine_3 : decode cX4_isOnLine 3 = .ok (.iconst 1, 1) := by decide +kernel
theorem dX4_isOnLine_4 : decode cX4_isOnLine 4 = .ok (.invokevirtual 139, 3) := by decide +kernel
theorem dX4_isOnLine_7 : decode cX4_isOnLine 7 = .ok (.ifCond .ne 13, 3) := by decide +kernel
theorem dX4_isOnLine_10 : decode cX4_isOnLine 10 = .ok (.aload_n 0, 1) := by decide +kernel
theorem dX4_isOnLine_11 : decode cX4_isOnLine 11 = .ok (.iload_n 1, 1) := by decide +kernel
theorem dX4_isOnLine_12 : decode cX4_isOnLine 12 = .ok (.iload_n 2, 1) := by decide +kernel
theorem dX4_isOnLine_13 : decode cX4_isOnLine 13 = .ok (.iconst 0, 1) := by decide +kernel
theorem dX4_isOnLine_14 : decode cX4_isOnLine 14 = .ok (.invokevirtual 139, 3) := by decide +kernel
theorem dX4_isOnLine_17 : decode cX4_isOnLine 17 = .ok (.ifCond .eq 7, 3) := by decide +kernel
theorem dX4_isOnLine_20 : decode cX4_isOnLine 20 = .ok (.iconst 1, 1) := by decide +kernel
theorem dX4_isOnLine_21 : decode cX4_isOnLine 21 = .ok (.goto 4, 3) := by decide +kernel
theorem dX4_isOnLine_24 : decode cX4_isOnLine 24 = .ok (.iconst 0, 1) := by decide +kernel
theorem dX4_isOnLine_25 : decode cX4_isOnLine 25 = .ok (.ireturn, 1) := by decide +kernel
set_option maxRecDepth 20000 in
theorem ggX4_areJoined_X4_arePorts : GoodIn wsX4_areJoined wsX4_arePorts := goodIn_r _ [5, 6, 7, 8, 4, 9, 10, 11, 12, 13, 53, 54, 55, 56, 57, 58, 59, 60, 61, 62, 63, 64, 65, 66, 67, 68, 69, 70, 71, 72, 73, 74, 75, 76] (by decide +kernel) (by decide +kernel)
set_option maxRecDepth 20000 in
theorem gX4_areJoined_X4_arePorts : GoodIn wsX4_areJoined (wsV RX4 87 RX4 yX4_arePorts wsX4_arePorts) := goodIn_app (goodIn_of _ (by decide +kernel)) ggX4_areJoined_X4_arePorts
set_option maxRecDepth 20000 in
theorem ggX4_areJoined_X4_holds : GoodIn wsX4_areJoined wsX4_holds := goodIn_r _ [17, 18, 53, 54, 55, 56, 57, 58, 59, 60, 61, 62, 63, 64, 65, 66, 67, 68, 69, 70, 71, 72, 73, 74, 75, 76] (by decide +kernel) (by decide +kernel)
set_option maxRecDepth 20000 in
theorem gX4_areJoined_X4_holds : GoodIn wsX4_areJoined (wsV RX4 80 RX4 yX4_holds wsX4_holds) := goodIn_app (goodIn_of _ (by decide +kernel)) ggX4_areJoined_X4_holds
set_option maxRecDepth 20000 in
theorem ggX4_areJoined_X4_isOnLine : GoodIn wsX4_areJoined wsX4_isOnLine := goodIn_r _ [22, 23, 24, 25, 4, 26, 27, 28, 29, 30, 31, 32, 33, 34, 35, 36, 37, 38, 39, 40, 41, 42, 43, 44, 45, 46, 47, 48, 49, 50, 51, 52, 53, 54, 55, 56, 57, 58, 59, 60, 61, 62, 63, 64, 65, 66, 67, 68, 69, 70, 71, 72, 73, 74, 75, 76] (by decide +kernel) (by decide +kernel)
set_option maxRecDepth 20000 in
theorem gX4_areJoined_X4_isOnLine : GoodIn wsX4_areJoined (wsV RX4 143 RX4 yX4_isOnLine wsX4_isOnLine) := goodIn_app (goodIn_of _ (by decide +kernel)) ggX4_areJoined_X4_isOnLine
theorem dX4_areJoined_0 : decode cX4_areJoined 0 = .ok (.aload_n 0, 1) := by decide +kernel
theorem dX4_areJoined_1 : decode cX4_areJoined 1 = .ok (.aload_n 0, 1) := by decide +kernel
theorem dX4_areJoined_2 : decode cX4_areJoined 2 = .ok (.iload_n 1, 1) := by decide +kernel
theorem dX4_areJoined_3 : decode cX4_areJoined 3 = .ok (.iload_n 2, 1) := by decide +kernel
theorem dX4_areJoined_4 : decode cX4_areJoined 4 = .ok (.invokevirtual 87, 3) := by decide +kernel
theorem dX4_areJoined_7 : decode cX4_areJoined 7 = .ok (.ifCond .eq 7, 3) := by decide +kernel
theorem dX4_areJoined_10 : decode cX4_areJoined 10 = .ok (.iconst 0, 1) := by decide +kernel
theorem dX4_areJoined_11 : decode cX4_areJoined 11 = .ok (.goto 4, 3) := by decide +kernel
theorem dX4_areJoined_14 : decode cX4_areJoined 14 = .ok (.iconst 1, 1) := by decide +kernel
theorem dX4_areJoined_15 : decode cX4_areJoined 15 = .ok (.invokevirtual 80, 3) := by decide +kernel
theorem dX4_areJoined_18 : decode cX4_areJoined 18 = .ok (.ifCond .eq 16, 3) := by decide +kernel
theorem dX4_areJoined_21 : decode cX4_areJoined 21 = .ok (.aload_n 0, 1) := by decide +kernel
theorem dX4_areJoined_22 : decode cX4_areJoined 22 = .ok (.iload_n 2, 1) := by decide +kernel
theorem dX4_areJoined_23 : decode cX4_areJoined 23 = .ok (.iload_n 1, 1) := by decide +kernel
theorem dX4_areJoined_24 : decode cX4_areJoined 24 = .ok (.invokevirtual 143, 3) := by decide +kernel
theorem dX4_areJoined_27 : decode cX4_areJoined 27 = .ok (.ifCond .eq 7, 3) := by decide +kernel
theorem dX4_areJoined_30 : decode cX4_areJoined 30 = .ok (.iconst 1, 1) := by decide +kernel
theorem dX4_areJoined_31 : decode cX4_areJoined 31 = .ok (.goto 4, 3) := by decide +kernel
theorem dX4_areJoined_34 : decode cX4_areJoined 34 = .ok (.iconst 0, 1) := by decide +kernel
theorem dX4_areJoined_35 : decode cX4_areJoined 35 = .ok (.ireturn, 1) := by decide +kernel
set_option maxRecDepth 20000 in
theorem ggX4_searches_X4_next : GoodIn wsX4_searches wsX4_next := goodIn_r _ [7, 8, 9, 10, 11, 12, 13, 14, 15, 16, 17, 18, 19, 20, 21, 22, 23, 24, 25, 26, 27, 28, 29, 30, 31, 32, 33, 34] (by decide +kernel) (by decide +kernel)
set_option maxRecDepth 20000 in
theorem gX4_searches_X4_next : GoodIn wsX4_searches (wsV RX4 132 RX4 yX4_next wsX4_next) := goodIn_app (goodIn_of _ (by decide +kernel)) ggX4_searches_X4_next
theorem dX4_searches_0 : decode cX4_searches 0 = .ok (.iconst 0, 1) := by decide +kernel
theorem dX4_searches_1 : decode cX4_searches 1 = .ok (.istore_n 1, 1) := by decide +kernel
theorem dX4_searches_2 : decode cX4_searches 2 = .ok (.iload_n 1, 1) := by decide +kernel
theorem dX4_searches_3 : decode cX4_searches 3 = .ok (.aload_n 0, 1) := by decide +kernel
theorem dX4_searches_4 : decode cX4_searches 4 = .ok (.getfield 66, 3) := by decide +kernel
theorem dX4_searches_7 : decode cX4_searches 7 = .ok (.if_icmp .ge 16, 3) := by decide +kernel
theorem dX4_searches_10 : decode cX4_searches 10 = .ok (.aload_n 0, 1) := by decide +kernel
theorem dX4_searches_11 : decode cX4_searches 11 = .ok (.getfield 59, 3) := by decide +kernel
theorem dX4_searches_14 : decode cX4_searches 14 = .ok (.iload_n 1, 1) := by decide +kernel
theorem dX4_searches_15 : decode cX4_searches 15 = .ok (.iload_n 1, 1) := by decide +kernel
theorem dX4_searches_16 : decode cX4_searches 16 = .ok (.iastore, 1) := by decide +kernel
theorem dX4_searches_17 : decode cX4_searches 17 = .ok (.iinc 1 1, 3) := by decide +kernel
theorem dX4_searches_20 : decode cX4_searches 20 = .ok (.goto (-18), 3) := by decide +kernel
theorem dX4_searches_23 : decode cX4_searches 23 = .ok (.iconst 1, 1) := by decide +kernel
theorem dX4_searches_24 : decode cX4_searches 24 = .ok (.istore_n 1, 1) := by decide +kernel
theorem dX4_searches_25 : decode cX4_searches 25 = .ok (.iload_n 1, 1) := by decide +kernel
theorem dX4_searches_26 : decode cX4_searches 26 = .ok (.ifCond .eq 85, 3) := by decide +kernel
theorem dX4_searches_29 : decode cX4_searches 29 = .ok (.iconst 0, 1) := by decide +kernel
theorem dX4_searches_30 : decode cX4_searches 30 = .ok (.istore_n 1, 1) := by decide +kernel
theorem dX4_searches_31 : decode cX4_searches 31 = .ok (.iconst 0, 1) := by decide +kernel
theorem dX4_searches_32 : decode cX4_searches 32 = .ok (.istore_n 2, 1) := by decide +kernel
theorem dX4_searches_33 : decode cX4_searches 33 = .ok (.iload_n 2, 1) := by decide +kernel
theorem dX4_searches_34 : decode cX4_searches 34 = .ok (.iconst 2, 1) := by decide +kernel
theorem dX4_searches_35 : decode cX4_searches 35 = .ok (.aload_n 0, 1) := by decide +kernel
theorem dX4_searches_36 : decode cX4_searches 36 = .ok (.getfield 66, 3) := by decide +kernel
theorem dX4_searches_39 : decode cX4_searches 39 = .ok (.imul, 1) := by decide +kernel
theorem dX4_searches_40 : decode cX4_searches 40 = .ok (.if_icmp .ge 68, 3) := by decide +kernel
theorem dX4_searches_43 : decode cX4_searches 43 = .ok (.iload_n 2, 1) := by decide +kernel
theorem dX4_searches_44 : decode cX4_searches 44 = .ok (.iconst 2, 1) := by decide +kernel
theorem dX4_searches_45 : decode cX4_searches 45 = .ok (.idiv, 1) := by decide +kernel
theorem dX4_searches_46 : decode cX4_searches 46 = .ok (.istore_n 3, 1) := by decide +kernel
theorem dX4_searches_47 : decode cX4_searches 47 = .ok (.aload_n 0, 1) := by decide +kernel
theorem dX4_searches_48 : decode cX4_searches 48 = .ok (.iload_n 3, 1) := by decide +kernel
theorem dX4_searches_49 : decode cX4_searches 49 = .ok (.iload_n 2, 1) := by decide +kernel
theorem dX4_searches_50 : decode cX4_searches 50 = .ok (.iconst 2, 1) := by decide +kernel
theorem dX4_searches_51 : decode cX4_searches 51 = .ok (.irem, 1) := by decide +kernel
theorem dX4_searches_52 : decode cX4_searches 52 = .ok (.ifCond .ne 7, 3) := by decide +kernel
theorem dX4_searches_55 : decode cX4_searches 55 = .ok (.iconst 1, 1) := by decide +kernel
theorem dX4_searches_56 : decode cX4_searches 56 = .ok (.goto 4, 3) := by decide +kernel
theorem dX4_searches_59 : decode cX4_searches 59 = .ok (.iconst 0, 1) := by decide +kernel
theorem dX4_searches_60 : decode cX4_searches 60 = .ok (.invokevirtual 132, 3) := by decide +kernel
theorem dX4_searches_63 : decode cX4_searches 63 = .ok (.istore 4, 2) := by decide +kernel
theorem dX4_searches_65 : decode cX4_searches 65 = .ok (.iload 4, 2) := by decide +kernel
theorem dX4_searches_67 : decode cX4_searches 67 = .ok (.iconst (-1), 1) := by decide +kernel
theorem dX4_searches_68 : decode cX4_searches 68 = .ok (.if_icmp .eq 34, 3) := by decide +kernel
theorem dX4_searches_71 : decode cX4_searches 71 = .ok (.aload_n 0, 1) := by decide +kernel
theorem dX4_searches_72 : decode cX4_searches 72 = .ok (.getfield 59, 3) := by decide +kernel
theorem dX4_searches_75 : decode cX4_searches 75 = .ok (.iload 4, 2) := by decide +kernel
theorem dX4_searches_77 : decode cX4_searches 77 = .ok (.iaload, 1) := by decide +kernel
theorem dX4_searches_78 : decode cX4_searches 78 = .ok (.aload_n 0, 1) := by decide +kernel
theorem dX4_searches_79 : decode cX4_searches 79 = .ok (.getfield 59, 3) := by decide +kernel
theorem dX4_searches_82 : decode cX4_searches 82 = .ok (.iload_n 3, 1) := by decide +kernel
theorem dX4_searches_83 : decode cX4_searches 83 = .ok (.iaload, 1) := by decide +kernel
theorem dX4_searches_84 : decode cX4_searches 84 = .ok (.if_icmp .ge 18, 3) := by decide +kernel
theorem dX4_searches_87 : decode cX4_searches 87 = .ok (.aload_n 0, 1) := by decide +kernel
theorem dX4_searches_88 : decode cX4_searches 88 = .ok (.getfield 59, 3) := by decide +kernel
theorem dX4_searches_91 : decode cX4_searches 91 = .ok (.iload_n 3, 1) := by decide +kernel
theorem dX4_searches_92 : decode cX4_searches 92 = .ok (.aload_n 0, 1) := by decide +kernel
theorem dX4_searches_93 : decode cX4_searches 93 = .ok (.getfield 59, 3) := by decide +kernel
theorem dX4_searches_96 : decode cX4_searches 96 = .ok (.iload 4, 2) := by decide +kernel
theorem dX4_searches_98 : decode cX4_searches 98 = .ok (.iaload, 1) := by decide +kernel
theorem dX4_searches_99 : decode cX4_searches 99 = .ok (.iastore, 1) := by decide +kernel
theorem dX4_searches_100 : decode cX4_searches 100 = .ok (.iconst 1, 1) := by decide +kernel
theorem dX4_searches_101 : decode cX4_searches 101 = .ok (.istore_n 1, 1) := by decide +kernel
theorem dX4_searches_102 : decode cX4_searches 102 = .ok (.iinc 2 1, 3) := by decide +kernel
theorem dX4_searches_105 : decode cX4_searches 105 = .ok (.goto (-72), 3) := by decide +kernel
theorem dX4_searches_108 : decode cX4_searches 108 = .ok (.goto (-83), 3) := by decide +kernel
theorem dX4_searches_111 : decode cX4_searches 111 = .ok (.return_, 1) := by decide +kernel
set_option maxRecDepth 20000 in
theorem ggX4_areJoinedBySearch_X4_arePorts : GoodIn wsX4_areJoinedBySearch wsX4_arePorts := goodIn_r _ [6, 7, 8, 9, 5, 10, 11, 12, 13, 14, 31, 32, 33, 34, 35, 36, 37, 38, 39, 40, 41, 42, 43, 44, 45, 46, 47, 48, 49, 50, 51, 52, 53, 54] (by decide +kernel) (by decide +kernel)
set_option maxRecDepth 20000 in
theorem gX4_areJoinedBySearch_X4_arePorts : GoodIn wsX4_areJoinedBySearch (wsV RX4 87 RX4 yX4_arePorts wsX4_arePorts) := goodIn_app (goodIn_of _ (by decide +kernel)) ggX4_areJoinedBySearch_X4_arePorts
set_option maxRecDepth 20000 in
theorem ggX4_areJoinedBySearch_X4_holds : GoodIn wsX4_areJoinedBySearch wsX4_holds := goodIn_r _ [18, 19, 31, 32, 33, 34, 35, 36, 37, 38, 39, 40, 41, 42, 43, 44, 45, 46, 47, 48, 49, 50, 51, 52, 53, 54] (by decide +kernel) (by decide +kernel)
set_option maxRecDepth 20000 in
theorem gX4_areJoinedBySearch_X4_holds : GoodIn wsX4_areJoinedBySearch (wsV RX4 80 RX4 yX4_holds wsX4_holds) := goodIn_app (goodIn_of _ (by decide +kernel)) ggX4_areJoinedBySearch_X4_holds
set_option maxRecDepth 20000 in
theorem ggX4_areJoinedBySearch_X4_searches : GoodIn wsX4_areJoinedBySearch wsX4_searches := goodIn_r _ [23, 11, 1, 24, 25, 26, 5, 27, 28, 29, 30, 31, 32, 33, 34, 35, 36, 37, 38, 39, 40, 41, 42, 43, 44, 45, 46, 47, 48, 49, 50, 51, 52, 53, 54] (by decide +kernel) (by decide +kernel)
set_option maxRecDepth 20000 in
theorem gX4_areJoinedBySearch_X4_searches : GoodIn wsX4_areJoinedBySearch (wsV RX4 146 RX4 yX4_searches wsX4_searches) := goodIn_app (goodIn_of _ (by decide +kernel)) ggX4_areJoinedBySearch_X4_searches
theorem dX4_areJoinedBySearch_0 : decode cX4_areJoinedBySearch 0 = .ok (.aload_n 0, 1) := by decide +kernel
theorem dX4_areJoinedBySearch_1 : decode cX4_areJoinedBySearch 1 = .ok (.aload_n 0, 1) := by decide +kernel
theorem dX4_areJoinedBySearch_2 : decode cX4_areJoinedBySearch 2 = .ok (.iload_n 1, 1) := by decide +kernel
theorem dX4_areJoinedBySearch_3 : decode cX4_areJoinedBySearch 3 = .ok (.iload_n 2, 1) := by decide +kernel
theorem dX4_areJoinedBySearch_4 : decode cX4_areJoinedBySearch 4 = .ok (.invokevirtual 87, 3) := by decide +kernel
theorem dX4_areJoinedBySearch_7 : decode cX4_areJoinedBySearch 7 = .ok (.ifCond .eq 7, 3) := by decide +kernel
theorem dX4_areJoinedBySearch_10 : decode cX4_areJoinedBySearch 10 = .ok (.iconst 0, 1) := by decide +kernel
theorem dX4_areJoinedBySearch_11 : decode cX4_areJoinedBySearch 11 = .ok (.goto 4, 3) := by decide +kernel
theorem dX4_areJoinedBySearch_14 : decode cX4_areJoinedBySearch 14 = .ok (.iconst 1, 1) := by decide +kernel
theorem dX4_areJoinedBySearch_15 : decode cX4_areJoinedBySearch 15 = .ok (.invokevirtual 80, 3) := by decide +kernel
theorem dX4_areJoinedBySearch_18 : decode cX4_areJoinedBySearch 18 = .ok (.ifCond .ne 5, 3) := by decide +kernel
theorem dX4_areJoinedBySearch_21 : decode cX4_areJoinedBySearch 21 = .ok (.iconst 0, 1) := by decide +kernel
theorem dX4_areJoinedBySearch_22 : decode cX4_areJoinedBySearch 22 = .ok (.ireturn, 1) := by decide +kernel
theorem dX4_areJoinedBySearch_23 : decode cX4_areJoinedBySearch 23 = .ok (.aload_n 0, 1) := by decide +kernel
theorem dX4_areJoinedBySearch_24 : decode cX4_areJoinedBySearch 24 = .ok (.invokevirtual 146, 3) := by decide +kernel
theorem dX4_areJoinedBySearch_27 : decode cX4_areJoinedBySearch 27 = .ok (.aload_n 0, 1) := by decide +kernel
theorem dX4_areJoinedBySearch_28 : decode cX4_areJoinedBySearch 28 = .ok (.getfield 59, 3) := by decide +kernel
theorem dX4_areJoinedBySearch_31 : decode cX4_areJoinedBySearch 31 = .ok (.iload_n 1, 1) := by decide +kernel
theorem dX4_areJoinedBySearch_32 : decode cX4_areJoinedBySearch 32 = .ok (.iaload, 1) := by decide +kernel
theorem dX4_areJoinedBySearch_33 : decode cX4_areJoinedBySearch 33 = .ok (.aload_n 0, 1) := by decide +kernel
theorem dX4_areJoinedBySearch_34 : decode cX4_areJoinedBySearch 34 = .ok (.getfield 59, 3) := by decide +kernel
theorem dX4_areJoinedBySearch_37 : decode cX4_areJoinedBySearch 37 = .ok (.iload_n 2, 1) := by decide +kernel
theorem dX4_areJoinedBySearch_38 : decode cX4_areJoinedBySearch 38 = .ok (.iaload, 1) := by decide +kernel
theorem dX4_areJoinedBySearch_39 : decode cX4_areJoinedBySearch 39 = .ok (.if_icmp .ne 7, 3) := by decide +kernel
theorem dX4_areJoinedBySearch_42 : decode cX4_areJoinedBySearch 42 = .ok (.iconst 1, 1) := by decide +kernel
theorem dX4_areJoinedBySearch_43 : decode cX4_areJoinedBySearch 43 = .ok (.goto 4, 3) := by decide +kernel
theorem dX4_areJoinedBySearch_46 : decode cX4_areJoinedBySearch 46 = .ok (.iconst 0, 1) := by decide +kernel
theorem dX4_areJoinedBySearch_47 : decode cX4_areJoinedBySearch 47 = .ok (.ireturn, 1) := by decide +kernel
set_option maxRecDepth 20000 in
theorem ggX4_lines_X4_searches : GoodIn wsX4_lines wsX4_searches := goodIn_r _ [8, 2, 3, 9, 10, 11, 7, 12, 13, 14, 15, 16, 17, 18, 19, 20, 21, 22, 23, 24, 25, 26, 27, 28, 29, 30, 31, 32, 33, 34, 35, 36, 37, 38, 39] (by decide +kernel) (by decide +kernel)
set_option maxRecDepth 20000 in
theorem gX4_lines_X4_searches : GoodIn wsX4_lines (wsV RX4 146 RX4 yX4_searches wsX4_searches) := goodIn_app (goodIn_of _ (by decide +kernel)) ggX4_lines_X4_searches
theorem dX4_lines_0 : decode cX4_lines 0 = .ok (.aload_n 0, 1) := by decide +kernel
theorem dX4_lines_1 : decode cX4_lines 1 = .ok (.iconst 0, 1) := by decide +kernel
theorem dX4_lines_2 : decode cX4_lines 2 = .ok (.putfield 62, 3) := by decide +kernel
theorem dX4_lines_5 : decode cX4_lines 5 = .ok (.aload_n 0, 1) := by decide +kernel
theorem dX4_lines_6 : decode cX4_lines 6 = .ok (.invokevirtual 146, 3) := by decide +kernel
theorem dX4_lines_9 : decode cX4_lines 9 = .ok (.iconst 0, 1) := by decide +kernel
theorem dX4_lines_10 : decode cX4_lines 10 = .ok (.istore_n 1, 1) := by decide +kernel
theorem dX4_lines_11 : decode cX4_lines 11 = .ok (.iconst 0, 1) := by decide +kernel
theorem dX4_lines_12 : decode cX4_lines 12 = .ok (.istore_n 2, 1) := by decide +kernel
theorem dX4_lines_13 : decode cX4_lines 13 = .ok (.iload_n 2, 1) := by decide +kernel
theorem dX4_lines_14 : decode cX4_lines 14 = .ok (.aload_n 0, 1) := by decide +kernel
theorem dX4_lines_15 : decode cX4_lines 15 = .ok (.getfield 66, 3) := by decide +kernel
theorem dX4_lines_18 : decode cX4_lines 18 = .ok (.if_icmp .ge 27, 3) := by decide +kernel
theorem dX4_lines_21 : decode cX4_lines 21 = .ok (.iload_n 1, 1) := by decide +kernel
theorem dX4_lines_22 : decode cX4_lines 22 = .ok (.aload_n 0, 1) := by decide +kernel
theorem dX4_lines_23 : decode cX4_lines 23 = .ok (.getfield 59, 3) := by decide +kernel
theorem dX4_lines_26 : decode cX4_lines 26 = .ok (.iload_n 2, 1) := by decide +kernel
theorem dX4_lines_27 : decode cX4_lines 27 = .ok (.iaload, 1) := by decide +kernel
theorem dX4_lines_28 : decode cX4_lines 28 = .ok (.iload_n 2, 1) := by decide +kernel
theorem dX4_lines_29 : decode cX4_lines 29 = .ok (.if_icmp .ne 7, 3) := by decide +kernel
theorem dX4_lines_32 : decode cX4_lines 32 = .ok (.iconst 1, 1) := by decide +kernel
theorem dX4_lines_33 : decode cX4_lines 33 = .ok (.goto 4, 3) := by decide +kernel
theorem dX4_lines_36 : decode cX4_lines 36 = .ok (.iconst 0, 1) := by decide +kernel
theorem dX4_lines_37 : decode cX4_lines 37 = .ok (.iadd, 1) := by decide +kernel
theorem dX4_lines_38 : decode cX4_lines 38 = .ok (.istore_n 1, 1) := by decide +kernel
theorem dX4_lines_39 : decode cX4_lines 39 = .ok (.iinc 2 1, 3) := by decide +kernel
theorem dX4_lines_42 : decode cX4_lines 42 = .ok (.goto (-29), 3) := by decide +kernel
theorem dX4_lines_45 : decode cX4_lines 45 = .ok (.iload_n 1, 1) := by decide +kernel
theorem dX4_lines_46 : decode cX4_lines 46 = .ok (.ireturn, 1) := by decide +kernel
set_option maxRecDepth 20000 in
theorem ggX4_isPanel_X4_in : GoodIn wsX4_isPanel wsX4_in := goodIn_r _ [5] (by decide +kernel) (by decide +kernel)
set_option maxRecDepth 20000 in
theorem gX4_isPanel_X4_in : GoodIn wsX4_isPanel (va_wsS RX4 69 yX4_in wsX4_in) := goodIn_app (goodIn_of _ (by decide +kernel)) ggX4_isPanel_X4_in
theorem dX4_isPanel_0 : decode cX4_isPanel 0 = .ok (.iload_n 1, 1) := by decide +kernel
theorem dX4_isPanel_1 : decode cX4_isPanel 1 = .ok (.iconst 0, 1) := by decide +kernel
theorem dX4_isPanel_2 : decode cX4_isPanel 2 = .ok (.aload_n 0, 1) := by decide +kernel
theorem dX4_isPanel_3 : decode cX4_isPanel 3 = .ok (.getfield 77, 3) := by decide +kernel
theorem dX4_isPanel_6 : decode cX4_isPanel 6 = .ok (.iconst 1, 1) := by decide +kernel
theorem dX4_isPanel_7 : decode cX4_isPanel 7 = .ok (.isub, 1) := by decide +kernel
