theorem dX0_init_0 : decode cX0_init 0 = .ok (.aload_n 0, 1) := by decide +kernel
theorem dX0_init_1 : decode cX0_init 1 = .ok (.invokespecial 1, 3) := by decide +kernel
theorem dX0_init_4 : decode cX0_init 4 = .ok (.aload_n 0, 1) := by decide +kernel
theorem dX0_init_5 : decode cX0_init 5 = .ok (.iload_n 1, 1) := by decide +kernel
theorem dX0_init_6 : decode cX0_init 6 = .ok (.iconst 0, 1) := by decide +kernel
theorem dX0_init_7 : decode cX0_init 7 = .ok (.invokestatic 7, 3) := by decide +kernel
theorem dX0_init_10 : decode cX0_init 10 = .ok (.newarray .boolean, 2) := by decide +kernel
theorem dX0_init_12 : decode cX0_init 12 = .ok (.putfield 13, 3) := by decide +kernel
theorem dX0_init_15 : decode cX0_init 15 = .ok (.return_, 1) := by decide +kernel
theorem dX0_has_0 : decode cX0_has 0 = .ok (.iload_n 1, 1) := by decide +kernel
theorem dX0_has_1 : decode cX0_has 1 = .ok (.ifCond .lt 25, 3) := by decide +kernel
theorem dX0_has_4 : decode cX0_has 4 = .ok (.iload_n 1, 1) := by decide +kernel
theorem dX0_has_5 : decode cX0_has 5 = .ok (.aload_n 0, 1) := by decide +kernel
theorem dX0_has_6 : decode cX0_has 6 = .ok (.getfield 13, 3) := by decide +kernel
theorem dX0_has_9 : decode cX0_has 9 = .ok (.arraylength, 1) := by decide +kernel
theorem dX0_has_10 : decode cX0_has 10 = .ok (.if_icmp .ge 16, 3) := by decide +kernel
theorem dX0_has_13 : decode cX0_has 13 = .ok (.aload_n 0, 1) := by decide +kernel
theorem dX0_has_14 : decode cX0_has 14 = .ok (.getfield 13, 3) := by decide +kernel
theorem dX0_has_17 : decode cX0_has 17 = .ok (.iload_n 1, 1) := by decide +kernel
theorem dX0_has_18 : decode cX0_has 18 = .ok (.baload, 1) := by decide +kernel
theorem dX0_has_19 : decode cX0_has 19 = .ok (.ifCond .eq 7, 3) := by decide +kernel
theorem dX0_has_22 : decode cX0_has 22 = .ok (.iconst 1, 1) := by decide +kernel
theorem dX0_has_23 : decode cX0_has 23 = .ok (.goto 4, 3) := by decide +kernel
theorem dX0_has_26 : decode cX0_has 26 = .ok (.iconst 0, 1) := by decide +kernel
theorem dX0_has_27 : decode cX0_has 27 = .ok (.ireturn, 1) := by decide +kernel
theorem dX0_set_0 : decode cX0_set 0 = .ok (.iload_n 1, 1) := by decide +kernel
theorem dX0_set_1 : decode cX0_set 1 = .ok (.ifCond .lt 19, 3) := by decide +kernel
theorem dX0_set_4 : decode cX0_set 4 = .ok (.iload_n 1, 1) := by decide +kernel
theorem dX0_set_5 : decode cX0_set 5 = .ok (.aload_n 0, 1) := by decide +kernel
theorem dX0_set_6 : decode cX0_set 6 = .ok (.getfield 13, 3) := by decide +kernel
theorem dX0_set_9 : decode cX0_set 9 = .ok (.arraylength, 1) := by decide +kernel
theorem dX0_set_10 : decode cX0_set 10 = .ok (.if_icmp .ge 10, 3) := by decide +kernel
theorem dX0_set_13 : decode cX0_set 13 = .ok (.aload_n 0, 1) := by decide +kernel
theorem dX0_set_14 : decode cX0_set 14 = .ok (.getfield 13, 3) := by decide +kernel
theorem dX0_set_17 : decode cX0_set 17 = .ok (.iload_n 1, 1) := by decide +kernel
theorem dX0_set_18 : decode cX0_set 18 = .ok (.iload_n 2, 1) := by decide +kernel
theorem dX0_set_19 : decode cX0_set 19 = .ok (.bastore, 1) := by decide +kernel
theorem dX0_set_20 : decode cX0_set 20 = .ok (.return_, 1) := by decide +kernel
theorem dX0_clear_0 : decode cX0_clear 0 = .ok (.iconst 0, 1) := by decide +kernel
theorem dX0_clear_1 : decode cX0_clear 1 = .ok (.istore_n 1, 1) := by decide +kernel
theorem dX0_clear_2 : decode cX0_clear 2 = .ok (.iload_n 1, 1) := by decide +kernel
theorem dX0_clear_3 : decode cX0_clear 3 = .ok (.aload_n 0, 1) := by decide +kernel
theorem dX0_clear_4 : decode cX0_clear 4 = .ok (.getfield 13, 3) := by decide +kernel
theorem dX0_clear_7 : decode cX0_clear 7 = .ok (.arraylength, 1) := by decide +kernel
theorem dX0_clear_8 : decode cX0_clear 8 = .ok (.if_icmp .ge 16, 3) := by decide +kernel
theorem dX0_clear_11 : decode cX0_clear 11 = .ok (.aload_n 0, 1) := by decide +kernel
theorem dX0_clear_12 : decode cX0_clear 12 = .ok (.getfield 13, 3) := by decide +kernel
theorem dX0_clear_15 : decode cX0_clear 15 = .ok (.iload_n 1, 1) := by decide +kernel
theorem dX0_clear_16 : decode cX0_clear 16 = .ok (.iconst 0, 1) := by decide +kernel
theorem dX0_clear_17 : decode cX0_clear 17 = .ok (.bastore, 1) := by decide +kernel
theorem dX0_clear_18 : decode cX0_clear 18 = .ok (.iinc 1 1, 3) := by decide +kernel
theorem dX0_clear_21 : decode cX0_clear 21 = .ok (.goto (-19), 3) := by decide +kernel
theorem dX0_clear_24 : decode cX0_clear 24 = .ok (.return_, 1) := by decide +kernel
set_option maxRecDepth 20000 in
theorem ggX1_init_X2_init : GoodIn wsX1_init wsX2_init := goodIn_r _ [13, 14, 2, 3, 15, 16, 17, 18, 19, 20, 21, 22, 23] (by decide +kernel) (by decide +kernel)
set_option maxRecDepth 20000 in
theorem gX1_init_X2_init : GoodIn wsX1_init (wsX2_init) := ggX1_init_X2_init
theorem dX1_init_0 : decode cX1_init 0 = .ok (.aload_n 0, 1) := by decide +kernel
theorem dX1_init_1 : decode cX1_init 1 = .ok (.invokespecial 3, 3) := by decide +kernel
theorem dX1_init_4 : decode cX1_init 4 = .ok (.aload_n 0, 1) := by decide +kernel
theorem dX1_init_5 : decode cX1_init 5 = .ok (.new 9, 3) := by decide +kernel
theorem dX1_init_8 : decode cX1_init 8 = .ok (.dup, 1) := by decide +kernel
theorem dX1_init_9 : decode cX1_init 9 = .ok (.bipush 12, 2) := by decide +kernel
theorem dX1_init_11 : decode cX1_init 11 = .ok (.iconst (-1), 1) := by decide +kernel
theorem dX1_init_12 : decode cX1_init 12 = .ok (.invokespecial 11, 3) := by decide +kernel
theorem dX1_init_15 : decode cX1_init 15 = .ok (.putfield 14, 3) := by decide +kernel
theorem dX1_init_18 : decode cX1_init 18 = .ok (.aload_n 0, 1) := by decide +kernel
theorem dX1_init_19 : decode cX1_init 19 = .ok (.new 9, 3) := by decide +kernel
theorem dX1_init_22 : decode cX1_init 22 = .ok (.dup, 1) := by decide +kernel
theorem dX1_init_23 : decode cX1_init 23 = .ok (.bipush 12, 2) := by decide +kernel
theorem dX1_init_25 : decode cX1_init 25 = .ok (.iconst (-1), 1) := by decide +kernel
theorem dX1_init_26 : decode cX1_init 26 = .ok (.invokespecial 11, 3) := by decide +kernel
theorem dX1_init_29 : decode cX1_init 29 = .ok (.putfield 20, 3) := by decide +kernel
theorem dX1_init_32 : decode cX1_init 32 = .ok (.aload_n 0, 1) := by decide +kernel
theorem dX1_init_33 : decode cX1_init 33 = .ok (.new 9, 3) := by decide +kernel
theorem dX1_init_36 : decode cX1_init 36 = .ok (.dup, 1) := by decide +kernel
theorem dX1_init_37 : decode cX1_init 37 = .ok (.bipush 12, 2) := by decide +kernel
theorem dX1_init_39 : decode cX1_init 39 = .ok (.iconst (-1), 1) := by decide +kernel
theorem dX1_init_40 : decode cX1_init 40 = .ok (.invokespecial 11, 3) := by decide +kernel
theorem dX1_init_43 : decode cX1_init 43 = .ok (.putfield 23, 3) := by decide +kernel
theorem dX1_init_46 : decode cX1_init 46 = .ok (.aload_n 0, 1) := by decide +kernel
theorem dX1_init_47 : decode cX1_init 47 = .ok (.new 9, 3) := by decide +kernel
theorem dX1_init_50 : decode cX1_init 50 = .ok (.dup, 1) := by decide +kernel
theorem dX1_init_51 : decode cX1_init 51 = .ok (.bipush 12, 2) := by decide +kernel
theorem dX1_init_53 : decode cX1_init 53 = .ok (.iconst 0, 1) := by decide +kernel
theorem dX1_init_54 : decode cX1_init 54 = .ok (.invokespecial 11, 3) := by decide +kernel
theorem dX1_init_57 : decode cX1_init 57 = .ok (.putfield 26, 3) := by decide +kernel
theorem dX1_init_60 : decode cX1_init 60 = .ok (.return_, 1) := by decide +kernel
theorem dX1_size_0 : decode cX1_size 0 = .ok (.aload_n 0, 1) := by decide +kernel
theorem dX1_size_1 : decode cX1_size 1 = .ok (.getfield 29, 3) := by decide +kernel
theorem dX1_size_4 : decode cX1_size 4 = .ok (.ireturn, 1) := by decide +kernel
set_option maxRecDepth 20000 in
theorem ggX1_from_X2_at : GoodIn wsX1_from wsX2_at := goodIn_r _ [6, 7, 8, 14, 15] (by decide +kernel) (by decide +kernel)
set_option maxRecDepth 20000 in
theorem gX1_from_X2_at : GoodIn wsX1_from (wsV RX1 33 RX2 yX2_at wsX2_at) := goodIn_app (goodIn_of _ (by decide +kernel)) ggX1_from_X2_at
theorem dX1_from_0 : decode cX1_from 0 = .ok (.aload_n 0, 1) := by decide +kernel
theorem dX1_from_1 : decode cX1_from 1 = .ok (.getfield 14, 3) := by decide +kernel
theorem dX1_from_4 : decode cX1_from 4 = .ok (.iload_n 1, 1) := by decide +kernel
theorem dX1_from_5 : decode cX1_from 5 = .ok (.invokevirtual 33, 3) := by decide +kernel
theorem dX1_from_8 : decode cX1_from 8 = .ok (.ireturn, 1) := by decide +kernel
set_option maxRecDepth 20000 in
theorem ggX1_to_X2_at : GoodIn wsX1_to wsX2_at := goodIn_r _ [6, 7, 8, 14, 15] (by decide +kernel) (by decide +kernel)
set_option maxRecDepth 20000 in
theorem gX1_to_X2_at : GoodIn wsX1_to (wsV RX1 33 RX2 yX2_at wsX2_at) := goodIn_app (goodIn_of _ (by decide +kernel)) ggX1_to_X2_at
theorem dX1_to_0 : decode cX1_to 0 = .ok (.aload_n 0, 1) := by decide +kernel
theorem dX1_to_1 : decode cX1_to 1 = .ok (.getfield 20, 3) := by decide +kernel
theorem dX1_to_4 : decode cX1_to 4 = .ok (.iload_n 1, 1) := by decide +kernel
theorem dX1_to_5 : decode cX1_to 5 = .ok (.invokevirtual 33, 3) := by decide +kernel
theorem dX1_to_8 : decode cX1_to 8 = .ok (.ireturn, 1) := by decide +kernel
set_option maxRecDepth 20000 in
theorem ggX1_add_X2_put : GoodIn wsX1_add wsX2_put := goodIn_r _ [8, 9, 15, 16] (by decide +kernel) (by decide +kernel)
set_option maxRecDepth 20000 in
theorem gX1_add_X2_put : GoodIn wsX1_add (wsV RX1 37 RX2 yX2_put wsX2_put) := goodIn_app (goodIn_of _ (by decide +kernel)) ggX1_add_X2_put
theorem dX1_add_0 : decode cX1_add 0 = .ok (.aload_n 0, 1) := by decide +kernel
theorem dX1_add_1 : decode cX1_add 1 = .ok (.getfield 29, 3) := by decide +kernel
theorem dX1_add_4 : decode cX1_add 4 = .ok (.bipush 12, 2) := by decide +kernel
theorem dX1_add_6 : decode cX1_add 6 = .ok (.if_icmp .ge 37, 3) := by decide +kernel
theorem dX1_add_9 : decode cX1_add 9 = .ok (.aload_n 0, 1) := by decide +kernel
theorem dX1_add_10 : decode cX1_add 10 = .ok (.getfield 14, 3) := by decide +kernel
theorem dX1_add_13 : decode cX1_add 13 = .ok (.aload_n 0, 1) := by decide +kernel
theorem dX1_add_14 : decode cX1_add 14 = .ok (.getfield 29, 3) := by decide +kernel
theorem dX1_add_17 : decode cX1_add 17 = .ok (.iload_n 1, 1) := by decide +kernel
theorem dX1_add_18 : decode cX1_add 18 = .ok (.invokevirtual 37, 3) := by decide +kernel
theorem dX1_add_21 : decode cX1_add 21 = .ok (.aload_n 0, 1) := by decide +kernel
theorem dX1_add_22 : decode cX1_add 22 = .ok (.getfield 20, 3) := by decide +kernel
theorem dX1_add_25 : decode cX1_add 25 = .ok (.aload_n 0, 1) := by decide +kernel
theorem dX1_add_26 : decode cX1_add 26 = .ok (.getfield 29, 3) := by decide +kernel
theorem dX1_add_29 : decode cX1_add 29 = .ok (.iload_n 2, 1) := by decide +kernel
theorem dX1_add_30 : decode cX1_add 30 = .ok (.invokevirtual 37, 3) := by decide +kernel
theorem dX1_add_33 : decode cX1_add 33 = .ok (.aload_n 0, 1) := by decide +kernel
theorem dX1_add_34 : decode cX1_add 34 = .ok (.dup, 1) := by decide +kernel
theorem dX1_add_35 : decode cX1_add 35 = .ok (.getfield 29, 3) := by decide +kernel
theorem dX1_add_38 : decode cX1_add 38 = .ok (.iconst 1, 1) := by decide +kernel
theorem dX1_add_39 : decode cX1_add 39 = .ok (.iadd, 1) := by decide +kernel
theorem dX1_add_40 : decode cX1_add 40 = .ok (.putfield 29, 3) := by decide +kernel
theorem dX1_add_43 : decode cX1_add 43 = .ok (.return_, 1) := by decide +kernel
theorem dX1_clear_0 : decode cX1_clear 0 = .ok (.aload_n 0, 1) := by decide +kernel
theorem dX1_clear_1 : decode cX1_clear 1 = .ok (.iconst 0, 1) := by decide +kernel
theorem dX1_clear_2 : decode cX1_clear 2 = .ok (.putfield 29, 3) := by decide +kernel
theorem dX1_clear_5 : decode cX1_clear 5 = .ok (.return_, 1) := by decide +kernel
set_option maxRecDepth 20000 in
theorem ggX1_repeatsEarlier_X1_from : GoodIn wsX1_repeatsEarlier wsX1_from := goodIn_r _ [5, 6, 7, 8, 9, 10, 11, 12, 13, 19, 20, 21, 22, 23, 24, 25] (by decide +kernel) (by decide +kernel)
set_option maxRecDepth 20000 in
theorem gX1_repeatsEarlier_X1_from : GoodIn wsX1_repeatsEarlier (wsV RX1 40 RX1 yX1_from wsX1_from) := goodIn_app (goodIn_of _ (by decide +kernel)) ggX1_repeatsEarlier_X1_from
set_option maxRecDepth 20000 in
theorem ggX1_repeatsEarlier_X1_to : GoodIn wsX1_repeatsEarlier wsX1_to := goodIn_r _ [17, 18, 7, 8, 9, 10, 11, 12, 13, 19, 20, 21, 22, 23, 24, 25] (by decide +kernel) (by decide +kernel)
set_option maxRecDepth 20000 in
theorem gX1_repeatsEarlier_X1_to : GoodIn wsX1_repeatsEarlier (wsV RX1 43 RX1 yX1_to wsX1_to) := goodIn_app (goodIn_of _ (by decide +kernel)) ggX1_repeatsEarlier_X1_to
theorem dX1_repeatsEarlier_0 : decode cX1_repeatsEarlier 0 = .ok (.iconst 0, 1) := by decide +kernel
theorem dX1_repeatsEarlier_1 : decode cX1_repeatsEarlier 1 = .ok (.istore_n 2, 1) := by decide +kernel
theorem dX1_repeatsEarlier_2 : decode cX1_repeatsEarlier 2 = .ok (.iload_n 2, 1) := by decide +kernel
theorem dX1_repeatsEarlier_3 : decode cX1_repeatsEarlier 3 = .ok (.iload_n 1, 1) := by decide +kernel
theorem dX1_repeatsEarlier_4 : decode cX1_repeatsEarlier 4 = .ok (.if_icmp .ge 37, 3) := by decide +kernel
theorem dX1_repeatsEarlier_7 : decode cX1_repeatsEarlier 7 = .ok (.aload_n 0, 1) := by decide +kernel
theorem dX1_repeatsEarlier_8 : decode cX1_repeatsEarlier 8 = .ok (.iload_n 2, 1) := by decide +kernel
theorem dX1_repeatsEarlier_9 : decode cX1_repeatsEarlier 9 = .ok (.invokevirtual 40, 3) := by decide +kernel
theorem dX1_repeatsEarlier_12 : decode cX1_repeatsEarlier 12 = .ok (.aload_n 0, 1) := by decide +kernel
theorem dX1_repeatsEarlier_13 : decode cX1_repeatsEarlier 13 = .ok (.iload_n 1, 1) := by decide +kernel
theorem dX1_repeatsEarlier_14 : decode cX1_repeatsEarlier 14 = .ok (.invokevirtual 40, 3) := by decide +kernel
theorem dX1_repeatsEarlier_17 : decode cX1_repeatsEarlier 17 = .ok (.if_icmp .eq 16, 3) := by decide +kernel
theorem dX1_repeatsEarlier_20 : decode cX1_repeatsEarlier 20 = .ok (.aload_n 0, 1) := by decide +kernel
theorem dX1_repeatsEarlier_21 : decode cX1_repeatsEarlier 21 = .ok (.iload_n 2, 1) := by decide +kernel
theorem dX1_repeatsEarlier_22 : decode cX1_repeatsEarlier 22 = .ok (.invokevirtual 43, 3) := by decide +kernel
theorem dX1_repeatsEarlier_25 : decode cX1_repeatsEarlier 25 = .ok (.aload_n 0, 1) := by decide +kernel
theorem dX1_repeatsEarlier_26 : decode cX1_repeatsEarlier 26 = .ok (.iload_n 1, 1) := by decide +kernel
theorem dX1_repeatsEarlier_27 : decode cX1_repeatsEarlier 27 = .ok (.invokevirtual 43, 3) := by decide +kernel
theorem dX1_repeatsEarlier_30 : decode cX1_repeatsEarlier 30 = .ok (.if_icmp .ne 5, 3) := by decide +kernel
theorem dX1_repeatsEarlier_33 : decode cX1_repeatsEarlier 33 = .ok (.iconst 1, 1) := by decide +kernel
theorem dX1_repeatsEarlier_34 : decode cX1_repeatsEarlier 34 = .ok (.ireturn, 1) := by decide +kernel
theorem dX1_repeatsEarlier_35 : decode cX1_repeatsEarlier 35 = .ok (.iinc 2 1, 3) := by decide +kernel
theorem dX1_repeatsEarlier_38 : decode cX1_repeatsEarlier 38 = .ok (.goto (-36), 3) := by decide +kernel
theorem dX1_repeatsEarlier_41 : decode cX1_repeatsEarlier 41 = .ok (.iconst 0, 1) := by decide +kernel
theorem dX1_repeatsEarlier_42 : decode cX1_repeatsEarlier 42 = .ok (.ireturn, 1) := by decide +kernel
set_option maxRecDepth 20000 in
theorem ggX1_pulls_X1_from : GoodIn wsX1_pulls wsX1_from := goodIn_r _ [6, 7, 8, 9, 10, 11, 12, 13, 14, 15, 16, 17, 18, 19, 20, 21] (by decide +kernel) (by decide +kernel)
set_option maxRecDepth 20000 in
theorem gX1_pulls_X1_from : GoodIn wsX1_pulls (wsV RX1 40 RX1 yX1_from wsX1_from) := goodIn_app (goodIn_of _ (by decide +kernel)) ggX1_pulls_X1_from
theorem dX1_pulls_0 : decode cX1_pulls 0 = .ok (.iconst 0, 1) := by decide +kernel
theorem dX1_pulls_1 : decode cX1_pulls 1 = .ok (.istore_n 2, 1) := by decide +kernel
theorem dX1_pulls_2 : decode cX1_pulls 2 = .ok (.iload_n 2, 1) := by decide +kernel
theorem dX1_pulls_3 : decode cX1_pulls 3 = .ok (.aload_n 0, 1) := by decide +kernel
theorem dX1_pulls_4 : decode cX1_pulls 4 = .ok (.getfield 29, 3) := by decide +kernel
theorem dX1_pulls_7 : decode cX1_pulls 7 = .ok (.if_icmp .ge 20, 3) := by decide +kernel
theorem dX1_pulls_10 : decode cX1_pulls 10 = .ok (.aload_n 0, 1) := by decide +kernel
theorem dX1_pulls_11 : decode cX1_pulls 11 = .ok (.iload_n 2, 1) := by decide +kernel
theorem dX1_pulls_12 : decode cX1_pulls 12 = .ok (.invokevirtual 40, 3) := by decide +kernel
theorem dX1_pulls_15 : decode cX1_pulls 15 = .ok (.iload_n 1, 1) := by decide +kernel
theorem dX1_pulls_16 : decode cX1_pulls 16 = .ok (.if_icmp .ne 5, 3) := by decide +kernel
theorem dX1_pulls_19 : decode cX1_pulls 19 = .ok (.iconst 1, 1) := by decide +kernel
theorem dX1_pulls_20 : decode cX1_pulls 20 = .ok (.ireturn, 1) := by decide +kernel
theorem dX1_pulls_21 : decode cX1_pulls 21 = .ok (.iinc 2 1, 3) := by decide +kernel
theorem dX1_pulls_24 : decode cX1_pulls 24 = .ok (.goto (-22), 3) := by decide +kernel
theorem dX1_pulls_27 : decode cX1_pulls 27 = .ok (.iconst 0, 1) := by decide +kernel
theorem dX1_pulls_28 : decode cX1_pulls 28 = .ok (.ireturn, 1) := by decide +kernel
set_option maxRecDepth 20000 in
theorem ggX1_placeAfterwards_X1_from : GoodIn wsX1_placeAfterwards wsX1_from := goodIn_r _ [6, 7, 8, 9, 10, 11, 12, 13, 14, 20, 21, 22, 23, 24, 25, 26] (by decide +kernel) (by decide +kernel)
set_option maxRecDepth 20000 in
theorem gX1_placeAfterwards_X1_from : GoodIn wsX1_placeAfterwards (wsV RX1 40 RX1 yX1_from wsX1_from) := goodIn_app (goodIn_of _ (by decide +kernel)) ggX1_placeAfterwards_X1_from
set_option maxRecDepth 20000 in
theorem ggX1_placeAfterwards_X1_to : GoodIn wsX1_placeAfterwards wsX1_to := goodIn_r _ [18, 19, 8, 9, 10, 11, 12, 13, 14, 20, 21, 22, 23, 24, 25, 26] (by decide +kernel) (by decide +kernel)
set_option maxRecDepth 20000 in
theorem gX1_placeAfterwards_X1_to : GoodIn wsX1_placeAfterwards (wsV RX1 43 RX1 yX1_to wsX1_to) := goodIn_app (goodIn_of _ (by decide +kernel)) ggX1_placeAfterwards_X1_to
theorem dX1_placeAfterwards_0 : decode cX1_placeAfterwards 0 = .ok (.iconst 0, 1) := by decide +kernel
theorem dX1_placeAfterwards_1 : decode cX1_placeAfterwards 1 = .ok (.istore_n 2, 1) := by decide +kernel
theorem dX1_placeAfterwards_2 : decode cX1_placeAfterwards 2 = .ok (.iload_n 2, 1) := by decide +kernel
theorem dX1_placeAfterwards_3 : decode cX1_placeAfterwards 3 = .ok (.aload_n 0, 1) := by decide +kernel
theorem dX1_placeAfterwards_4 : decode cX1_placeAfterwards 4 = .ok (.getfield 29, 3) := by decide +kernel
theorem dX1_placeAfterwards_7 : decode cX1_placeAfterwards 7 = .ok (.if_icmp .ge 24, 3) := by decide +kernel
theorem dX1_placeAfterwards_10 : decode cX1_placeAfterwards 10 = .ok (.aload_n 0, 1) := by decide +kernel
theorem dX1_placeAfterwards_11 : decode cX1_placeAfterwards 11 = .ok (.iload_n 2, 1) := by decide +kernel
theorem dX1_placeAfterwards_12 : decode cX1_placeAfterwards 12 = .ok (.invokevirtual 40, 3) := by decide +kernel
theorem dX1_placeAfterwards_15 : decode cX1_placeAfterwards 15 = .ok (.iload_n 1, 1) := by decide +kernel
theorem dX1_placeAfterwards_16 : decode cX1_placeAfterwards 16 = .ok (.if_icmp .ne 9, 3) := by decide +kernel
theorem dX1_placeAfterwards_19 : decode cX1_placeAfterwards 19 = .ok (.aload_n 0, 1) := by decide +kernel
theorem dX1_placeAfterwards_20 : decode cX1_placeAfterwards 20 = .ok (.iload_n 2, 1) := by decide +kernel
theorem dX1_placeAfterwards_21 : decode cX1_placeAfterwards 21 = .ok (.invokevirtual 43, 3) := by decide +kernel
theorem dX1_placeAfterwards_24 : decode cX1_placeAfterwards 24 = .ok (.ireturn, 1) := by decide +kernel
theorem dX1_placeAfterwards_25 : decode cX1_placeAfterwards 25 = .ok (.iinc 2 1, 3) := by decide +kernel
theorem dX1_placeAfterwards_28 : decode cX1_placeAfterwards 28 = .ok (.goto (-26), 3) := by decide +kernel
theorem dX1_placeAfterwards_31 : decode cX1_placeAfterwards 31 = .ok (.iload_n 1, 1) := by decide +kernel
theorem dX1_placeAfterwards_32 : decode cX1_placeAfterwards 32 = .ok (.ireturn, 1) := by decide +kernel
set_option maxRecDepth 20000 in
theorem ggX1_keepCable_X2_put : GoodIn wsX1_keepCable wsX2_put := goodIn_r _ [7, 8, 14, 15] (by decide +kernel) (by decide +kernel)
set_option maxRecDepth 20000 in
theorem gX1_keepCable_X2_put : GoodIn wsX1_keepCable (wsV RX1 37 RX2 yX2_put wsX2_put) := goodIn_app (goodIn_of _ (by decide +kernel)) ggX1_keepCable_X2_put
theorem dX1_keepCable_0 : decode cX1_keepCable 0 = .ok (.aload_n 0, 1) := by decide +kernel
theorem dX1_keepCable_1 : decode cX1_keepCable 1 = .ok (.getfield 23, 3) := by decide +kernel
theorem dX1_keepCable_4 : decode cX1_keepCable 4 = .ok (.iload_n 1, 1) := by decide +kernel
theorem dX1_keepCable_5 : decode cX1_keepCable 5 = .ok (.iload_n 2, 1) := by decide +kernel
theorem dX1_keepCable_6 : decode cX1_keepCable 6 = .ok (.invokevirtual 37, 3) := by decide +kernel
theorem dX1_keepCable_9 : decode cX1_keepCable 9 = .ok (.aload_n 0, 1) := by decide +kernel
theorem dX1_keepCable_10 : decode cX1_keepCable 10 = .ok (.getfield 26, 3) := by decide +kernel
theorem dX1_keepCable_13 : decode cX1_keepCable 13 = .ok (.iload_n 1, 1) := by decide +kernel
theorem dX1_keepCable_14 : decode cX1_keepCable 14 = .ok (.iload_n 3, 1) := by decide +kernel
theorem dX1_keepCable_15 : decode cX1_keepCable 15 = .ok (.invokevirtual 37, 3) := by decide +kernel
theorem dX1_keepCable_18 : decode cX1_keepCable 18 = .ok (.return_, 1) := by decide +kernel
set_option maxRecDepth 20000 in
theorem ggX1_keptOther_X2_at : GoodIn wsX1_keptOther wsX2_at := goodIn_r _ [6, 7, 8, 14, 15] (by decide +kernel) (by decide +kernel)
set_option maxRecDepth 20000 in
theorem gX1_keptOther_X2_at : GoodIn wsX1_keptOther (wsV RX1 33 RX2 yX2_at wsX2_at) := goodIn_app (goodIn_of _ (by decide +kernel)) ggX1_keptOther_X2_at
theorem dX1_keptOther_0 : decode cX1_keptOther 0 = .ok (.aload_n 0, 1) := by decide +kernel
theorem dX1_keptOther_1 : decode cX1_keptOther 1 = .ok (.getfield 23, 3) := by decide +kernel
theorem dX1_keptOther_4 : decode cX1_keptOther 4 = .ok (.iload_n 1, 1) := by decide +kernel
theorem dX1_keptOther_5 : decode cX1_keptOther 5 = .ok (.invokevirtual 33, 3) := by decide +kernel
theorem dX1_keptOther_8 : decode cX1_keptOther 8 = .ok (.ireturn, 1) := by decide +kernel
set_option maxRecDepth 20000 in
theorem ggX1_keptColour_X2_at : GoodIn wsX1_keptColour wsX2_at := goodIn_r _ [6, 7, 8, 14, 15] (by decide +kernel) (by decide +kernel)
set_option maxRecDepth 20000 in
theorem gX1_keptColour_X2_at : GoodIn wsX1_keptColour (wsV RX1 33 RX2 yX2_at wsX2_at) := goodIn_app (goodIn_of _ (by decide +kernel)) ggX1_keptColour_X2_at
theorem dX1_keptColour_0 : decode cX1_keptColour 0 = .ok (.aload_n 0, 1) := by decide +kernel
theorem dX1_keptColour_1 : decode cX1_keptColour 1 = .ok (.getfield 26, 3) := by decide +kernel
theorem dX1_keptColour_4 : decode cX1_keptColour 4 = .ok (.iload_n 1, 1) := by decide +kernel
theorem dX1_keptColour_5 : decode cX1_keptColour 5 = .ok (.invokevirtual 33, 3) := by decide +kernel
theorem dX1_keptColour_8 : decode cX1_keptColour 8 = .ok (.ireturn, 1) := by decide +kernel
theorem dX2_init_0 : decode cX2_init 0 = .ok (.aload_n 0, 1) := by decide +kernel
theorem dX2_init_1 : decode cX2_init 1 = .ok (.invokespecial 1, 3) := by decide +kernel
theorem dX2_init_4 : decode cX2_init 4 = .ok (.aload_n 0, 1) := by decide +kernel
theorem dX2_init_5 : decode cX2_init 5 = .ok (.iload_n 1, 1) := by decide +kernel
theorem dX2_init_6 : decode cX2_init 6 = .ok (.iconst 0, 1) := by decide +kernel
theorem dX2_init_7 : decode cX2_init 7 = .ok (.invokestatic 7, 3) := by decide +kernel
theorem dX2_init_10 : decode cX2_init 10 = .ok (.newarray .int, 2) := by decide +kernel
theorem dX2_init_12 : decode cX2_init 12 = .ok (.putfield 13, 3) := by decide +kernel
theorem dX2_init_15 : decode cX2_init 15 = .ok (.aload_n 0, 1) := by decide +kernel
theorem dX2_init_16 : decode cX2_init 16 = .ok (.iload_n 2, 1) := by decide +kernel
theorem dX2_init_17 : decode cX2_init 17 = .ok (.putfield 19, 3) := by decide +kernel
theorem dX2_init_20 : decode cX2_init 20 = .ok (.iconst 0, 1) := by decide +kernel
theorem dX2_init_21 : decode cX2_init 21 = .ok (.istore_n 3, 1) := by decide +kernel
theorem dX2_init_22 : decode cX2_init 22 = .ok (.iload_n 3, 1) := by decide +kernel
theorem dX2_init_23 : decode cX2_init 23 = .ok (.aload_n 0, 1) := by decide +kernel
theorem dX2_init_24 : decode cX2_init 24 = .ok (.getfield 13, 3) := by decide +kernel
theorem dX2_init_27 : decode cX2_init 27 = .ok (.arraylength, 1) := by decide +kernel
theorem dX2_init_28 : decode cX2_init 28 = .ok (.if_icmp .ge 16, 3) := by decide +kernel
theorem dX2_init_31 : decode cX2_init 31 = .ok (.aload_n 0, 1) := by decide +kernel
theorem dX2_init_32 : decode cX2_init 32 = .ok (.getfield 13, 3) := by decide +kernel
theorem dX2_init_35 : decode cX2_init 35 = .ok (.iload_n 3, 1) := by decide +kernel
theorem dX2_init_36 : decode cX2_init 36 = .ok (.iload_n 2, 1) := by decide +kernel
theorem dX2_init_37 : decode cX2_init 37 = .ok (.iastore, 1) := by decide +kernel
theorem dX2_init_38 : decode cX2_init 38 = .ok (.iinc 3 1, 3) := by decide +kernel
theorem dX2_init_41 : decode cX2_init 41 = .ok (.goto (-19), 3) := by decide +kernel
theorem dX2_init_44 : decode cX2_init 44 = .ok (.return_, 1) := by decide +kernel
theorem dX2_at_0 : decode cX2_at 0 = .ok (.iload_n 1, 1) := by decide +kernel
theorem dX2_at_1 : decode cX2_at 1 = .ok (.ifCond .lt 21, 3) := by decide +kernel
theorem dX2_at_4 : decode cX2_at 4 = .ok (.iload_n 1, 1) := by decide +kernel
theorem dX2_at_5 : decode cX2_at 5 = .ok (.aload_n 0, 1) := by decide +kernel
theorem dX2_at_6 : decode cX2_at 6 = .ok (.getfield 13, 3) := by decide +kernel
theorem dX2_at_9 : decode cX2_at 9 = .ok (.arraylength, 1) := by decide +kernel
theorem dX2_at_10 : decode cX2_at 10 = .ok (.if_icmp .ge 12, 3) := by decide +kernel
theorem dX2_at_13 : decode cX2_at 13 = .ok (.aload_n 0, 1) := by decide +kernel
theorem dX2_at_14 : decode cX2_at 14 = .ok (.getfield 13, 3) := by decide +kernel
theorem dX2_at_17 : decode cX2_at 17 = .ok (.iload_n 1, 1) := by decide +kernel
theorem dX2_at_18 : decode cX2_at 18 = .ok (.iaload, 1) := by decide +kernel
theorem dX2_at_19 : decode cX2_at 19 = .ok (.goto 7, 3) := by decide +kernel
theorem dX2_at_22 : decode cX2_at 22 = .ok (.aload_n 0, 1) := by decide +kernel
theorem dX2_at_23 : decode cX2_at 23 = .ok (.getfield 19, 3) := by decide +kernel
theorem dX2_at_26 : decode cX2_at 26 = .ok (.ireturn, 1) := by decide +kernel
theorem dX2_put_0 : decode cX2_put 0 = .ok (.iload_n 1, 1) := by decide +kernel
theorem dX2_put_1 : decode cX2_put 1 = .ok (.ifCond .lt 19, 3) := by decide +kernel
theorem dX2_put_4 : decode cX2_put 4 = .ok (.iload_n 1, 1) := by decide +kernel
theorem dX2_put_5 : decode cX2_put 5 = .ok (.aload_n 0, 1) := by decide +kernel
theorem dX2_put_6 : decode cX2_put 6 = .ok (.getfield 13, 3) := by decide +kernel
theorem dX2_put_9 : decode cX2_put 9 = .ok (.arraylength, 1) := by decide +kernel
theorem dX2_put_10 : decode cX2_put 10 = .ok (.if_icmp .ge 10, 3) := by decide +kernel
theorem dX2_put_13 : decode cX2_put 13 = .ok (.aload_n 0, 1) := by decide +kernel
theorem dX2_put_14 : decode cX2_put 14 = .ok (.getfield 13, 3) := by decide +kernel
theorem dX2_put_17 : decode cX2_put 17 = .ok (.iload_n 1, 1) := by decide +kernel
theorem dX2_put_18 : decode cX2_put 18 = .ok (.iload_n 2, 1) := by decide +kernel
theorem dX2_put_19 : decode cX2_put 19 = .ok (.iastore, 1) := by decide +kernel
theorem dX2_put_20 : decode cX2_put 20 = .ok (.return_, 1) := by decide +kernel
set_option maxRecDepth 20000 in
theorem ggX3_init_X2_init : GoodIn wsX3_init wsX2_init := goodIn_r _ [34, 35, 2, 3, 36, 37, 38, 39, 40, 41, 42, 59, 60] (by decide +kernel) (by decide +kernel)
set_option maxRecDepth 20000 in
theorem gX3_init_X2_init : GoodIn wsX3_init (wsX2_init) := ggX3_init_X2_init
set_option maxRecDepth 20000 in
theorem ggX3_init_X0_init : GoodIn wsX3_init wsX0_init := goodIn_r _ [45, 46, 2, 3, 47, 37, 38, 39, 48, 49, 80] (by decide +kernel) (by decide +kernel)
set_option maxRecDepth 20000 in
theorem gX3_init_X0_init : GoodIn wsX3_init (wsX0_init) := ggX3_init_X0_init
set_option maxRecDepth 20000 in
theorem ggX3_init_X1_init : GoodIn wsX3_init wsX1_init := goodIn_r _ [51, 52, 2, 3, 53, 5, 6, 54, 55, 56, 57, 58, 33, 34, 35, 36, 37, 38, 39, 40, 41, 42, 59, 60, 81, 82, 83, 84, 85] (by decide +kernel) (by decide +kernel)
set_option maxRecDepth 20000 in
theorem gX3_init_X1_init_n59 : GoodIn wsX3_init (wsX1_init) := ggX3_init_X1_init
theorem dX3_init_0 : decode cX3_init 0 = .ok (.aload_n 0, 1) := by decide +kernel
theorem dX3_init_1 : decode cX3_init 1 = .ok (.invokespecial 1, 3) := by decide +kernel
theorem dX3_init_4 : decode cX3_init 4 = .ok (.aload_n 0, 1) := by decide +kernel
theorem dX3_init_5 : decode cX3_init 5 = .ok (.new 7, 3) := by decide +kernel
theorem dX3_init_8 : decode cX3_init 8 = .ok (.dup, 1) := by decide +kernel
theorem dX3_init_9 : decode cX3_init 9 = .ok (.bipush 12, 2) := by decide +kernel
theorem dX3_init_11 : decode cX3_init 11 = .ok (.iconst (-1), 1) := by decide +kernel
theorem dX3_init_12 : decode cX3_init 12 = .ok (.invokespecial 11, 3) := by decide +kernel
theorem dX3_init_15 : decode cX3_init 15 = .ok (.putfield 14, 3) := by decide +kernel
theorem dX3_init_18 : decode cX3_init 18 = .ok (.aload_n 0, 1) := by decide +kernel
theorem dX3_init_19 : decode cX3_init 19 = .ok (.new 7, 3) := by decide +kernel
theorem dX3_init_22 : decode cX3_init 22 = .ok (.dup, 1) := by decide +kernel
theorem dX3_init_23 : decode cX3_init 23 = .ok (.bipush 12, 2) := by decide +kernel
theorem dX3_init_25 : decode cX3_init 25 = .ok (.iconst (-1), 1) := by decide +kernel
theorem dX3_init_26 : decode cX3_init 26 = .ok (.invokespecial 11, 3) := by decide +kernel
theorem dX3_init_29 : decode cX3_init 29 = .ok (.putfield 18, 3) := by decide +kernel
theorem dX3_init_32 : decode cX3_init 32 = .ok (.aload_n 0, 1) := by decide +kernel
theorem dX3_init_33 : decode cX3_init 33 = .ok (.new 7, 3) := by decide +kernel
theorem dX3_init_36 : decode cX3_init 36 = .ok (.dup, 1) := by decide +kernel
theorem dX3_init_37 : decode cX3_init 37 = .ok (.bipush 12, 2) := by decide +kernel
theorem dX3_init_39 : decode cX3_init 39 = .ok (.iconst 0, 1) := by decide +kernel
theorem dX3_init_40 : decode cX3_init 40 = .ok (.invokespecial 11, 3) := by decide +kernel
theorem dX3_init_43 : decode cX3_init 43 = .ok (.putfield 21, 3) := by decide +kernel
theorem dX3_init_46 : decode cX3_init 46 = .ok (.aload_n 0, 1) := by decide +kernel
theorem dX3_init_47 : decode cX3_init 47 = .ok (.new 7, 3) := by decide +kernel
theorem dX3_init_50 : decode cX3_init 50 = .ok (.dup, 1) := by decide +kernel
theorem dX3_init_51 : decode cX3_init 51 = .ok (.sipush 144, 3) := by decide +kernel
theorem dX3_init_54 : decode cX3_init 54 = .ok (.iconst (-1), 1) := by decide +kernel
theorem dX3_init_55 : decode cX3_init 55 = .ok (.invokespecial 11, 3) := by decide +kernel
theorem dX3_init_58 : decode cX3_init 58 = .ok (.putfield 24, 3) := by decide +kernel
theorem dX3_init_61 : decode cX3_init 61 = .ok (.aload_n 0, 1) := by decide +kernel
theorem dX3_init_62 : decode cX3_init 62 = .ok (.new 7, 3) := by decide +kernel
theorem dX3_init_65 : decode cX3_init 65 = .ok (.dup, 1) := by decide +kernel
theorem dX3_init_66 : decode cX3_init 66 = .ok (.sipush 144, 3) := by decide +kernel
theorem dX3_init_69 : decode cX3_init 69 = .ok (.iconst (-1), 1) := by decide +kernel
theorem dX3_init_70 : decode cX3_init 70 = .ok (.invokespecial 11, 3) := by decide +kernel
theorem dX3_init_73 : decode cX3_init 73 = .ok (.putfield 27, 3) := by decide +kernel
theorem dX3_init_76 : decode cX3_init 76 = .ok (.aload_n 0, 1) := by decide +kernel
theorem dX3_init_77 : decode cX3_init 77 = .ok (.new 7, 3) := by decide +kernel
theorem dX3_init_80 : decode cX3_init 80 = .ok (.dup, 1) := by decide +kernel
theorem dX3_init_81 : decode cX3_init 81 = .ok (.sipush 144, 3) := by decide +kernel
theorem dX3_init_84 : decode cX3_init 84 = .ok (.iconst 0, 1) := by decide +kernel
theorem dX3_init_85 : decode cX3_init 85 = .ok (.invokespecial 11, 3) := by decide +kernel
theorem dX3_init_88 : decode cX3_init 88 = .ok (.putfield 30, 3) := by decide +kernel
theorem dX3_init_91 : decode cX3_init 91 = .ok (.aload_n 0, 1) := by decide +kernel
theorem dX3_init_92 : decode cX3_init 92 = .ok (.new 7, 3) := by decide +kernel
theorem dX3_init_95 : decode cX3_init 95 = .ok (.dup, 1) := by decide +kernel
theorem dX3_init_96 : decode cX3_init 96 = .ok (.sipush 144, 3) := by decide +kernel
theorem dX3_init_99 : decode cX3_init 99 = .ok (.iconst (-1), 1) := by decide +kernel
theorem dX3_init_100 : decode cX3_init 100 = .ok (.invokespecial 11, 3) := by decide +kernel
theorem dX3_init_103 : decode cX3_init 103 = .ok (.putfield 33, 3) := by decide +kernel
theorem dX3_init_106 : decode cX3_init 106 = .ok (.aload_n 0, 1) := by decide +kernel
theorem dX3_init_107 : decode cX3_init 107 = .ok (.new 7, 3) := by decide +kernel
theorem dX3_init_110 : decode cX3_init 110 = .ok (.dup, 1) := by decide +kernel
theorem dX3_init_111 : decode cX3_init 111 = .ok (.sipush 144, 3) := by decide +kernel
theorem dX3_init_114 : decode cX3_init 114 = .ok (.iconst (-1), 1) := by decide +kernel
theorem dX3_init_115 : decode cX3_init 115 = .ok (.invokespecial 11, 3) := by decide +kernel
theorem dX3_init_118 : decode cX3_init 118 = .ok (.putfield 36, 3) := by decide +kernel
theorem dX3_init_121 : decode cX3_init 121 = .ok (.aload_n 0, 1) := by decide +kernel
theorem dX3_init_122 : decode cX3_init 122 = .ok (.new 39, 3) := by decide +kernel
theorem dX3_init_125 : decode cX3_init 125 = .ok (.dup, 1) := by decide +kernel
theorem dX3_init_126 : decode cX3_init 126 = .ok (.sipush 144, 3) := by decide +kernel
theorem dX3_init_129 : decode cX3_init 129 = .ok (.invokespecial 41, 3) := by decide +kernel
theorem dX3_init_132 : decode cX3_init 132 = .ok (.putfield 44, 3) := by decide +kernel
theorem dX3_init_135 : decode cX3_init 135 = .ok (.aload_n 0, 1) := by decide +kernel
theorem dX3_init_136 : decode cX3_init 136 = .ok (.new 7, 3) := by decide +kernel
theorem dX3_init_139 : decode cX3_init 139 = .ok (.dup, 1) := by decide +kernel
theorem dX3_init_140 : decode cX3_init 140 = .ok (.bipush 10, 2) := by decide +kernel
theorem dX3_init_142 : decode cX3_init 142 = .ok (.iconst (-1), 1) := by decide +kernel
theorem dX3_init_143 : decode cX3_init 143 = .ok (.invokespecial 11, 3) := by decide +kernel
theorem dX3_init_146 : decode cX3_init 146 = .ok (.putfield 48, 3) := by decide +kernel
theorem dX3_init_149 : decode cX3_init 149 = .ok (.aload_n 0, 1) := by decide +kernel
theorem dX3_init_150 : decode cX3_init 150 = .ok (.new 7, 3) := by decide +kernel
theorem dX3_init_153 : decode cX3_init 153 = .ok (.dup, 1) := by decide +kernel
theorem dX3_init_154 : decode cX3_init 154 = .ok (.bipush 10, 2) := by decide +kernel
theorem dX3_init_156 : decode cX3_init 156 = .ok (.iconst 0, 1) := by decide +kernel
theorem dX3_init_157 : decode cX3_init 157 = .ok (.invokespecial 11, 3) := by decide +kernel
theorem dX3_init_160 : decode cX3_init 160 = .ok (.putfield 51, 3) := by decide +kernel
theorem dX3_init_163 : decode cX3_init 163 = .ok (.aload_n 0, 1) := by decide +kernel
theorem dX3_init_164 : decode cX3_init 164 = .ok (.new 7, 3) := by decide +kernel
theorem dX3_init_167 : decode cX3_init 167 = .ok (.dup, 1) := by decide +kernel
theorem dX3_init_168 : decode cX3_init 168 = .ok (.bipush 10, 2) := by decide +kernel
theorem dX3_init_170 : decode cX3_init 170 = .ok (.iconst 0, 1) := by decide +kernel
theorem dX3_init_171 : decode cX3_init 171 = .ok (.invokespecial 11, 3) := by decide +kernel
theorem dX3_init_174 : decode cX3_init 174 = .ok (.putfield 54, 3) := by decide +kernel
theorem dX3_init_177 : decode cX3_init 177 = .ok (.aload_n 0, 1) := by decide +kernel
theorem dX3_init_178 : decode cX3_init 178 = .ok (.new 57, 3) := by decide +kernel
theorem dX3_init_181 : decode cX3_init 181 = .ok (.dup, 1) := by decide +kernel
theorem dX3_init_182 : decode cX3_init 182 = .ok (.invokespecial 59, 3) := by decide +kernel
theorem dX3_init_185 : decode cX3_init 185 = .ok (.putfield 60, 3) := by decide +kernel
theorem dX3_init_188 : decode cX3_init 188 = .ok (.aload_n 0, 1) := by decide +kernel
theorem dX3_init_189 : decode cX3_init 189 = .ok (.new 7, 3) := by decide +kernel
theorem dX3_init_192 : decode cX3_init 192 = .ok (.dup, 1) := by decide +kernel
theorem dX3_init_193 : decode cX3_init 193 = .ok (.sipush 144, 3) := by decide +kernel
theorem dX3_init_196 : decode cX3_init 196 = .ok (.iconst (-1), 1) := by decide +kernel
theorem dX3_init_197 : decode cX3_init 197 = .ok (.invokespecial 11, 3) := by decide +kernel
theorem dX3_init_200 : decode cX3_init 200 = .ok (.putfield 64, 3) := by decide +kernel
theorem dX3_init_203 : decode cX3_init 203 = .ok (.aload_n 0, 1) := by decide +kernel
theorem dX3_init_204 : decode cX3_init 204 = .ok (.new 7, 3) := by decide +kernel
theorem dX3_init_207 : decode cX3_init 207 = .ok (.dup, 1) := by decide +kernel
theorem dX3_init_208 : decode cX3_init 208 = .ok (.sipush 144, 3) := by decide +kernel
theorem dX3_init_211 : decode cX3_init 211 = .ok (.iconst (-1), 1) := by decide +kernel
theorem dX3_init_212 : decode cX3_init 212 = .ok (.invokespecial 11, 3) := by decide +kernel
theorem dX3_init_215 : decode cX3_init 215 = .ok (.putfield 67, 3) := by decide +kernel
theorem dX3_init_218 : decode cX3_init 218 = .ok (.aload_n 0, 1) := by decide +kernel
theorem dX3_init_219 : decode cX3_init 219 = .ok (.new 39, 3) := by decide +kernel
theorem dX3_init_222 : decode cX3_init 222 = .ok (.dup, 1) := by decide +kernel
theorem dX3_init_223 : decode cX3_init 223 = .ok (.sipush 144, 3) := by decide +kernel
theorem dX3_init_226 : decode cX3_init 226 = .ok (.invokespecial 41, 3) := by decide +kernel
theorem dX3_init_229 : decode cX3_init 229 = .ok (.putfield 70, 3) := by decide +kernel
theorem dX3_init_232 : decode cX3_init 232 = .ok (.aload_n 0, 1) := by decide +kernel
theorem dX3_init_233 : decode cX3_init 233 = .ok (.iconst 0, 1) := by decide +kernel
theorem dX3_init_234 : decode cX3_init 234 = .ok (.putfield 73, 3) := by decide +kernel
theorem dX3_init_237 : decode cX3_init 237 = .ok (.aload_n 0, 1) := by decide +kernel
theorem dX3_init_238 : decode cX3_init 238 = .ok (.iconst 0, 1) := by decide +kernel
theorem dX3_init_239 : decode cX3_init 239 = .ok (.putfield 77, 3) := by decide +kernel
theorem dX3_init_242 : decode cX3_init 242 = .ok (.aload_n 0, 1) := by decide +kernel
theorem dX3_init_243 : decode cX3_init 243 = .ok (.iconst 0, 1) := by decide +kernel
theorem dX3_init_244 : decode cX3_init 244 = .ok (.putfield 80, 3) := by decide +kernel
theorem dX3_init_247 : decode cX3_init 247 = .ok (.return_, 1) := by decide +kernel
set_option maxRecDepth 20000 in
theorem ggX3_addPanel_X3_isWithin : GoodIn wsX3_addPanel wsX3_isWithin := goodIn_r _ [14] (by decide +kernel) (by decide +kernel)
set_option maxRecDepth 20000 in
theorem gX3_addPanel_X3_isWithin : GoodIn wsX3_addPanel (va_wsS RX3 83 yX3_isWithin wsX3_isWithin) := goodIn_app (goodIn_of _ (by decide +kernel)) ggX3_addPanel_X3_isWithin
set_option maxRecDepth 20000 in
theorem ggX3_addPanel_X2_put : GoodIn wsX3_addPanel wsX2_put := goodIn_r _ [19, 20, 40, 41] (by decide +kernel) (by decide +kernel)
set_option maxRecDepth 20000 in
theorem gX3_addPanel_X2_put : GoodIn wsX3_addPanel (wsV RX3 99 RX2 yX2_put wsX2_put) := goodIn_app (goodIn_of _ (by decide +kernel)) ggX3_addPanel_X2_put
theorem dX3_addPanel_0 : decode cX3_addPanel 0 = .ok (.iload_n 1, 1) := by decide +kernel
theorem dX3_addPanel_1 : decode cX3_addPanel 1 = .ok (.iconst 0, 1) := by decide +kernel
theorem dX3_addPanel_2 : decode cX3_addPanel 2 = .ok (.bipush 9, 2) := by decide +kernel
theorem dX3_addPanel_4 : decode cX3_addPanel 4 = .ok (.invokestatic 83, 3) := by decide +kernel
theorem dX3_addPanel_7 : decode cX3_addPanel 7 = .ok (.ifCond .eq 13, 3) := by decide +kernel
theorem dX3_addPanel_10 : decode cX3_addPanel 10 = .ok (.iload_n 2, 1) := by decide +kernel
theorem dX3_addPanel_11 : decode cX3_addPanel 11 = .ok (.iconst 1, 1) := by decide +kernel
theorem dX3_addPanel_12 : decode cX3_addPanel 12 = .ok (.bipush 12, 2) := by decide +kernel
theorem dX3_addPanel_14 : decode cX3_addPanel 14 = .ok (.invokestatic 83, 3) := by decide +kernel
theorem dX3_addPanel_17 : decode cX3_addPanel 17 = .ok (.ifCond .ne 13, 3) := by decide +kernel
theorem dX3_addPanel_20 : decode cX3_addPanel 20 = .ok (.new 87, 3) := by decide +kernel
theorem dX3_addPanel_23 : decode cX3_addPanel 23 = .ok (.dup, 1) := by decide +kernel
theorem dX3_addPanel_24 : decode cX3_addPanel 24 = .ok (.ldc 89, 2) := by decide +kernel
theorem dX3_addPanel_26 : decode cX3_addPanel 26 = .ok (.invokespecial 91, 3) := by decide +kernel
theorem dX3_addPanel_29 : decode cX3_addPanel 29 = .ok (.athrow, 1) := by decide +kernel
theorem dX3_addPanel_30 : decode cX3_addPanel 30 = .ok (.aload_n 0, 1) := by decide +kernel
theorem dX3_addPanel_31 : decode cX3_addPanel 31 = .ok (.getfield 73, 3) := by decide +kernel
theorem dX3_addPanel_34 : decode cX3_addPanel 34 = .ok (.bipush 12, 2) := by decide +kernel
theorem dX3_addPanel_36 : decode cX3_addPanel 36 = .ok (.if_icmp .lt 13, 3) := by decide +kernel
theorem dX3_addPanel_39 : decode cX3_addPanel 39 = .ok (.new 94, 3) := by decide +kernel
theorem dX3_addPanel_42 : decode cX3_addPanel 42 = .ok (.dup, 1) := by decide +kernel
theorem dX3_addPanel_43 : decode cX3_addPanel 43 = .ok (.ldc 96, 2) := by decide +kernel
theorem dX3_addPanel_45 : decode cX3_addPanel 45 = .ok (.invokespecial 98, 3) := by decide +kernel
theorem dX3_addPanel_48 : decode cX3_addPanel 48 = .ok (.athrow, 1) := by decide +kernel
theorem dX3_addPanel_49 : decode cX3_addPanel 49 = .ok (.aload_n 0, 1) := by decide +kernel
theorem dX3_addPanel_50 : decode cX3_addPanel 50 = .ok (.getfield 77, 3) := by decide +kernel
theorem dX3_addPanel_53 : decode cX3_addPanel 53 = .ok (.istore_n 3, 1) := by decide +kernel
theorem dX3_addPanel_54 : decode cX3_addPanel 54 = .ok (.aload_n 0, 1) := by decide +kernel
theorem dX3_addPanel_55 : decode cX3_addPanel 55 = .ok (.getfield 14, 3) := by decide +kernel
theorem dX3_addPanel_58 : decode cX3_addPanel 58 = .ok (.aload_n 0, 1) := by decide +kernel
theorem dX3_addPanel_59 : decode cX3_addPanel 59 = .ok (.getfield 73, 3) := by decide +kernel
theorem dX3_addPanel_62 : decode cX3_addPanel 62 = .ok (.iload_n 1, 1) := by decide +kernel
theorem dX3_addPanel_63 : decode cX3_addPanel 63 = .ok (.invokevirtual 99, 3) := by decide +kernel
theorem dX3_addPanel_66 : decode cX3_addPanel 66 = .ok (.aload_n 0, 1) := by decide +kernel
theorem dX3_addPanel_67 : decode cX3_addPanel 67 = .ok (.getfield 18, 3) := by decide +kernel
theorem dX3_addPanel_70 : decode cX3_addPanel 70 = .ok (.aload_n 0, 1) := by decide +kernel
theorem dX3_addPanel_71 : decode cX3_addPanel 71 = .ok (.getfield 73, 3) := by decide +kernel
theorem dX3_addPanel_74 : decode cX3_addPanel 74 = .ok (.iload_n 3, 1) := by decide +kernel
theorem dX3_addPanel_75 : decode cX3_addPanel 75 = .ok (.invokevirtual 99, 3) := by decide +kernel
theorem dX3_addPanel_78 : decode cX3_addPanel 78 = .ok (.aload_n 0, 1) := by decide +kernel
theorem dX3_addPanel_79 : decode cX3_addPanel 79 = .ok (.getfield 21, 3) := by decide +kernel
theorem dX3_addPanel_82 : decode cX3_addPanel 82 = .ok (.aload_n 0, 1) := by decide +kernel
theorem dX3_addPanel_83 : decode cX3_addPanel 83 = .ok (.getfield 73, 3) := by decide +kernel
theorem dX3_addPanel_86 : decode cX3_addPanel 86 = .ok (.iload_n 2, 1) := by decide +kernel
theorem dX3_addPanel_87 : decode cX3_addPanel 87 = .ok (.invokevirtual 99, 3) := by decide +kernel
theorem dX3_addPanel_90 : decode cX3_addPanel 90 = .ok (.iconst 0, 1) := by decide +kernel
theorem dX3_addPanel_91 : decode cX3_addPanel 91 = .ok (.istore 4, 2) := by decide +kernel
theorem dX3_addPanel_93 : decode cX3_addPanel 93 = .ok (.iload 4, 2) := by decide +kernel
theorem dX3_addPanel_95 : decode cX3_addPanel 95 = .ok (.iload_n 2, 1) := by decide +kernel
theorem dX3_addPanel_96 : decode cX3_addPanel 96 = .ok (.if_icmp .ge 24, 3) := by decide +kernel
theorem dX3_addPanel_99 : decode cX3_addPanel 99 = .ok (.aload_n 0, 1) := by decide +kernel
theorem dX3_addPanel_100 : decode cX3_addPanel 100 = .ok (.getfield 24, 3) := by decide +kernel
theorem dX3_addPanel_103 : decode cX3_addPanel 103 = .ok (.iload_n 3, 1) := by decide +kernel
theorem dX3_addPanel_104 : decode cX3_addPanel 104 = .ok (.iload 4, 2) := by decide +kernel
theorem dX3_addPanel_106 : decode cX3_addPanel 106 = .ok (.iadd, 1) := by decide +kernel
theorem dX3_addPanel_107 : decode cX3_addPanel 107 = .ok (.aload_n 0, 1) := by decide +kernel
theorem dX3_addPanel_108 : decode cX3_addPanel 108 = .ok (.getfield 73, 3) := by decide +kernel
theorem dX3_addPanel_111 : decode cX3_addPanel 111 = .ok (.invokevirtual 99, 3) := by decide +kernel
theorem dX3_addPanel_114 : decode cX3_addPanel 114 = .ok (.iinc 4 1, 3) := by decide +kernel
theorem dX3_addPanel_117 : decode cX3_addPanel 117 = .ok (.goto (-24), 3) := by decide +kernel
theorem dX3_addPanel_120 : decode cX3_addPanel 120 = .ok (.aload_n 0, 1) := by decide +kernel
theorem dX3_addPanel_121 : decode cX3_addPanel 121 = .ok (.dup, 1) := by decide +kernel
theorem dX3_addPanel_122 : decode cX3_addPanel 122 = .ok (.getfield 73, 3) := by decide +kernel
theorem dX3_addPanel_125 : decode cX3_addPanel 125 = .ok (.iconst 1, 1) := by decide +kernel
theorem dX3_addPanel_126 : decode cX3_addPanel 126 = .ok (.iadd, 1) := by decide +kernel
theorem dX3_addPanel_127 : decode cX3_addPanel 127 = .ok (.putfield 73, 3) := by decide +kernel
theorem dX3_addPanel_130 : decode cX3_addPanel 130 = .ok (.aload_n 0, 1) := by decide +kernel
theorem dX3_addPanel_131 : decode cX3_addPanel 131 = .ok (.dup, 1) := by decide +kernel
theorem dX3_addPanel_132 : decode cX3_addPanel 132 = .ok (.getfield 77, 3) := by decide +kernel
theorem dX3_addPanel_135 : decode cX3_addPanel 135 = .ok (.iload_n 2, 1) := by decide +kernel
theorem dX3_addPanel_136 : decode cX3_addPanel 136 = .ok (.iadd, 1) := by decide +kernel
theorem dX3_addPanel_137 : decode cX3_addPanel 137 = .ok (.putfield 77, 3) := by decide +kernel
theorem dX3_addPanel_140 : decode cX3_addPanel 140 = .ok (.iload_n 3, 1) := by decide +kernel
theorem dX3_addPanel_141 : decode cX3_addPanel 141 = .ok (.ireturn, 1) := by decide +kernel
set_option maxRecDepth 20000 in
theorem ggX3_addTrunk_X3_checkPort : GoodIn wsX3_addTrunk wsX3_checkPort := goodIn_ca (goodIn_r _ [14, 15, 16, 17, 18, 19, 13, 20, 52, 53, 54, 55, 56, 57, 58, 59, 60, 61, 62, 63, 64, 65, 66, 67, 68, 69, 70] (by decide +kernel) (by decide +kernel)) (goodIn_sub (fun _ h => List.mem_cons_of_mem _ (List.mem_append_right _ h)) (by decide +kernel))
set_option maxRecDepth 20000 in
theorem gX3_addTrunk_X3_checkPort : GoodIn wsX3_addTrunk (wsV RX3 102 RX3 yX3_checkPort wsX3_checkPort) := goodIn_app (goodIn_of _ (by decide +kernel)) ggX3_addTrunk_X3_checkPort
set_option maxRecDepth 20000 in
theorem ggX3_addTrunk_X3_isWithin : GoodIn wsX3_addTrunk wsX3_isWithin := goodIn_r _ [20] (by decide +kernel) (by decide +kernel)
set_option maxRecDepth 20000 in
theorem gX3_addTrunk_X3_isWithin : GoodIn wsX3_addTrunk (va_wsS RX3 83 yX3_isWithin wsX3_isWithin) := goodIn_app (goodIn_of _ (by decide +kernel)) ggX3_addTrunk_X3_isWithin
set_option maxRecDepth 20000 in
theorem ggX3_addTrunk_X2_at : GoodIn wsX3_addTrunk wsX2_at := goodIn_r _ [25, 26, 27, 71, 72] (by decide +kernel) (by decide +kernel)
set_option maxRecDepth 20000 in
theorem gX3_addTrunk_X2_at : GoodIn wsX3_addTrunk (wsV RX3 107 RX2 yX2_at wsX2_at) := goodIn_app (goodIn_of _ (by decide +kernel)) ggX3_addTrunk_X2_at
set_option maxRecDepth 20000 in
theorem ggX3_addTrunk_X3_portsFrom : GoodIn wsX3_addTrunk wsX3_portsFrom := goodIn_r _ [31, 5, 32, 33, 21, 22, 23, 24, 25, 26, 27, 52, 53, 54, 55, 56, 57, 58, 59, 60, 61, 62, 63, 64, 65, 66, 67, 68, 69, 70, 71, 72] (by decide +kernel) (by decide +kernel)
set_option maxRecDepth 20000 in
theorem gX3_addTrunk_X3_portsFrom : GoodIn wsX3_addTrunk (wsV RX3 113 RX3 yX3_portsFrom wsX3_portsFrom) := goodIn_app (goodIn_of _ (by decide +kernel)) ggX3_addTrunk_X3_portsFrom
set_option maxRecDepth 20000 in
theorem ggX3_addTrunk_X3_anyStrand : GoodIn wsX3_addTrunk wsX3_anyStrand := goodIn_r _ [37, 38, 39, 40, 13, 41, 42, 21, 22, 23, 24, 25, 26, 27, 52, 53, 54, 55, 56, 57, 58, 59, 60, 61, 62, 63, 64, 65, 66, 67, 68, 69, 70, 71, 72] (by decide +kernel) (by decide +kernel)
set_option maxRecDepth 20000 in
theorem gX3_addTrunk_X3_anyStrand : GoodIn wsX3_addTrunk (wsV RX3 120 RX3 yX3_anyStrand wsX3_anyStrand) := goodIn_app (goodIn_of _ (by decide +kernel)) ggX3_addTrunk_X3_anyStrand
set_option maxRecDepth 20000 in
theorem ggX3_addTrunk_X2_put : GoodIn wsX3_addTrunk wsX2_put := goodIn_r _ [46, 26, 71, 72] (by decide +kernel) (by decide +kernel)
set_option maxRecDepth 20000 in
theorem gX3_addTrunk_X2_put : GoodIn wsX3_addTrunk (wsV RX3 99 RX2 yX2_put wsX2_put) := goodIn_app (goodIn_of _ (by decide +kernel)) ggX3_addTrunk_X2_put
set_option maxRecDepth 20000 in
theorem ggX3_addTrunk_X3_joinByStrand : GoodIn wsX3_addTrunk wsX3_joinByStrand := goodIn_r _ [50, 42, 51, 43, 44, 45, 24, 46, 26, 52, 53, 54, 55, 56, 57, 58, 59, 60, 61, 62, 63, 64, 65, 66, 67, 68, 69, 70, 71, 72] (by decide +kernel) (by decide +kernel)
set_option maxRecDepth 20000 in
theorem gX3_addTrunk_X3_joinByStrand : GoodIn wsX3_addTrunk (wsV RX3 126 RX3 yX3_joinByStrand wsX3_joinByStrand) := goodIn_app (goodIn_of _ (by decide +kernel)) ggX3_addTrunk_X3_joinByStrand
theorem dX3_addTrunk_0 : decode cX3_addTrunk 0 = .ok (.aload_n 0, 1) := by decide +kernel
theorem dX3_addTrunk_1 : decode cX3_addTrunk 1 = .ok (.iload_n 1, 1) := by decide +kernel
theorem dX3_addTrunk_2 : decode cX3_addTrunk 2 = .ok (.invokevirtual 102, 3) := by decide +kernel
theorem dX3_addTrunk_5 : decode cX3_addTrunk 5 = .ok (.aload_n 0, 1) := by decide +kernel
theorem dX3_addTrunk_6 : decode cX3_addTrunk 6 = .ok (.iload_n 2, 1) := by decide +kernel
theorem dX3_addTrunk_7 : decode cX3_addTrunk 7 = .ok (.invokevirtual 102, 3) := by decide +kernel
theorem dX3_addTrunk_10 : decode cX3_addTrunk 10 = .ok (.iload_n 3, 1) := by decide +kernel
theorem dX3_addTrunk_11 : decode cX3_addTrunk 11 = .ok (.iconst 1, 1) := by decide +kernel
theorem dX3_addTrunk_12 : decode cX3_addTrunk 12 = .ok (.bipush 12, 2) := by decide +kernel
theorem dX3_addTrunk_14 : decode cX3_addTrunk 14 = .ok (.invokestatic 83, 3) := by decide +kernel
theorem dX3_addTrunk_17 : decode cX3_addTrunk 17 = .ok (.ifCond .eq 15, 3) := by decide +kernel
theorem dX3_addTrunk_20 : decode cX3_addTrunk 20 = .ok (.iload 4, 2) := by decide +kernel
theorem dX3_addTrunk_22 : decode cX3_addTrunk 22 = .ok (.iconst 1, 1) := by decide +kernel
theorem dX3_addTrunk_23 : decode cX3_addTrunk 23 = .ok (.sipush 500, 3) := by decide +kernel
theorem dX3_addTrunk_26 : decode cX3_addTrunk 26 = .ok (.invokestatic 83, 3) := by decide +kernel
theorem dX3_addTrunk_29 : decode cX3_addTrunk 29 = .ok (.ifCond .ne 13, 3) := by decide +kernel
theorem dX3_addTrunk_32 : decode cX3_addTrunk 32 = .ok (.new 87, 3) := by decide +kernel
theorem dX3_addTrunk_35 : decode cX3_addTrunk 35 = .ok (.dup, 1) := by decide +kernel
theorem dX3_addTrunk_36 : decode cX3_addTrunk 36 = .ok (.ldc 105, 2) := by decide +kernel
theorem dX3_addTrunk_38 : decode cX3_addTrunk 38 = .ok (.invokespecial 91, 3) := by decide +kernel
theorem dX3_addTrunk_41 : decode cX3_addTrunk 41 = .ok (.athrow, 1) := by decide +kernel
theorem dX3_addTrunk_42 : decode cX3_addTrunk 42 = .ok (.aload_n 0, 1) := by decide +kernel
theorem dX3_addTrunk_43 : decode cX3_addTrunk 43 = .ok (.getfield 24, 3) := by decide +kernel
theorem dX3_addTrunk_46 : decode cX3_addTrunk 46 = .ok (.iload_n 1, 1) := by decide +kernel
theorem dX3_addTrunk_47 : decode cX3_addTrunk 47 = .ok (.invokevirtual 107, 3) := by decide +kernel
theorem dX3_addTrunk_50 : decode cX3_addTrunk 50 = .ok (.aload_n 0, 1) := by decide +kernel
theorem dX3_addTrunk_51 : decode cX3_addTrunk 51 = .ok (.getfield 24, 3) := by decide +kernel
theorem dX3_addTrunk_54 : decode cX3_addTrunk 54 = .ok (.iload_n 2, 1) := by decide +kernel
theorem dX3_addTrunk_55 : decode cX3_addTrunk 55 = .ok (.invokevirtual 107, 3) := by decide +kernel
theorem dX3_addTrunk_58 : decode cX3_addTrunk 58 = .ok (.if_icmp .ne 13, 3) := by decide +kernel
theorem dX3_addTrunk_61 : decode cX3_addTrunk 61 = .ok (.new 87, 3) := by decide +kernel
theorem dX3_addTrunk_64 : decode cX3_addTrunk 64 = .ok (.dup, 1) := by decide +kernel
theorem dX3_addTrunk_65 : decode cX3_addTrunk 65 = .ok (.ldc 111, 2) := by decide +kernel
theorem dX3_addTrunk_67 : decode cX3_addTrunk 67 = .ok (.invokespecial 91, 3) := by decide +kernel
theorem dX3_addTrunk_70 : decode cX3_addTrunk 70 = .ok (.athrow, 1) := by decide +kernel
theorem dX3_addTrunk_71 : decode cX3_addTrunk 71 = .ok (.aload_n 0, 1) := by decide +kernel
theorem dX3_addTrunk_72 : decode cX3_addTrunk 72 = .ok (.iload_n 1, 1) := by decide +kernel
theorem dX3_addTrunk_73 : decode cX3_addTrunk 73 = .ok (.invokevirtual 113, 3) := by decide +kernel
theorem dX3_addTrunk_76 : decode cX3_addTrunk 76 = .ok (.iload_n 3, 1) := by decide +kernel
theorem dX3_addTrunk_77 : decode cX3_addTrunk 77 = .ok (.if_icmp .lt 12, 3) := by decide +kernel
theorem dX3_addTrunk_80 : decode cX3_addTrunk 80 = .ok (.aload_n 0, 1) := by decide +kernel
theorem dX3_addTrunk_81 : decode cX3_addTrunk 81 = .ok (.iload_n 2, 1) := by decide +kernel
theorem dX3_addTrunk_82 : decode cX3_addTrunk 82 = .ok (.invokevirtual 113, 3) := by decide +kernel
theorem dX3_addTrunk_85 : decode cX3_addTrunk 85 = .ok (.iload_n 3, 1) := by decide +kernel
theorem dX3_addTrunk_86 : decode cX3_addTrunk 86 = .ok (.if_icmp .ge 13, 3) := by decide +kernel
theorem dX3_addTrunk_89 : decode cX3_addTrunk 89 = .ok (.new 87, 3) := by decide +kernel
theorem dX3_addTrunk_92 : decode cX3_addTrunk 92 = .ok (.dup, 1) := by decide +kernel
theorem dX3_addTrunk_93 : decode cX3_addTrunk 93 = .ok (.ldc 116, 2) := by decide +kernel
theorem dX3_addTrunk_95 : decode cX3_addTrunk 95 = .ok (.invokespecial 91, 3) := by decide +kernel
theorem dX3_addTrunk_98 : decode cX3_addTrunk 98 = .ok (.athrow, 1) := by decide +kernel
theorem dX3_addTrunk_99 : decode cX3_addTrunk 99 = .ok (.aload_n 0, 1) := by decide +kernel
theorem dX3_addTrunk_100 : decode cX3_addTrunk 100 = .ok (.getfield 80, 3) := by decide +kernel
theorem dX3_addTrunk_103 : decode cX3_addTrunk 103 = .ok (.bipush 10, 2) := by decide +kernel
theorem dX3_addTrunk_105 : decode cX3_addTrunk 105 = .ok (.if_icmp .lt 13, 3) := by decide +kernel
theorem dX3_addTrunk_108 : decode cX3_addTrunk 108 = .ok (.new 94, 3) := by decide +kernel
theorem dX3_addTrunk_111 : decode cX3_addTrunk 111 = .ok (.dup, 1) := by decide +kernel
theorem dX3_addTrunk_112 : decode cX3_addTrunk 112 = .ok (.ldc 118, 2) := by decide +kernel
theorem dX3_addTrunk_114 : decode cX3_addTrunk 114 = .ok (.invokespecial 98, 3) := by decide +kernel
theorem dX3_addTrunk_117 : decode cX3_addTrunk 117 = .ok (.athrow, 1) := by decide +kernel
theorem dX3_addTrunk_118 : decode cX3_addTrunk 118 = .ok (.aload_n 0, 1) := by decide +kernel
theorem dX3_addTrunk_119 : decode cX3_addTrunk 119 = .ok (.iload_n 1, 1) := by decide +kernel
theorem dX3_addTrunk_120 : decode cX3_addTrunk 120 = .ok (.iload_n 3, 1) := by decide +kernel
theorem dX3_addTrunk_121 : decode cX3_addTrunk 121 = .ok (.invokevirtual 120, 3) := by decide +kernel
theorem dX3_addTrunk_124 : decode cX3_addTrunk 124 = .ok (.ifCond .ne 12, 3) := by decide +kernel
theorem dX3_addTrunk_127 : decode cX3_addTrunk 127 = .ok (.aload_n 0, 1) := by decide +kernel
theorem dX3_addTrunk_128 : decode cX3_addTrunk 128 = .ok (.iload_n 2, 1) := by decide +kernel
theorem dX3_addTrunk_129 : decode cX3_addTrunk 129 = .ok (.iload_n 3, 1) := by decide +kernel
theorem dX3_addTrunk_130 : decode cX3_addTrunk 130 = .ok (.invokevirtual 120, 3) := by decide +kernel
theorem dX3_addTrunk_133 : decode cX3_addTrunk 133 = .ok (.ifCond .eq 13, 3) := by decide +kernel
theorem dX3_addTrunk_136 : decode cX3_addTrunk 136 = .ok (.new 94, 3) := by decide +kernel
theorem dX3_addTrunk_139 : decode cX3_addTrunk 139 = .ok (.dup, 1) := by decide +kernel
theorem dX3_addTrunk_140 : decode cX3_addTrunk 140 = .ok (.ldc 124, 2) := by decide +kernel
theorem dX3_addTrunk_142 : decode cX3_addTrunk 142 = .ok (.invokespecial 98, 3) := by decide +kernel
theorem dX3_addTrunk_145 : decode cX3_addTrunk 145 = .ok (.athrow, 1) := by decide +kernel
theorem dX3_addTrunk_146 : decode cX3_addTrunk 146 = .ok (.aload_n 0, 1) := by decide +kernel
theorem dX3_addTrunk_147 : decode cX3_addTrunk 147 = .ok (.getfield 80, 3) := by decide +kernel
theorem dX3_addTrunk_150 : decode cX3_addTrunk 150 = .ok (.istore 5, 2) := by decide +kernel
theorem dX3_addTrunk_152 : decode cX3_addTrunk 152 = .ok (.aload_n 0, 1) := by decide +kernel
theorem dX3_addTrunk_153 : decode cX3_addTrunk 153 = .ok (.getfield 48, 3) := by decide +kernel
theorem dX3_addTrunk_156 : decode cX3_addTrunk 156 = .ok (.iload 5, 2) := by decide +kernel
theorem dX3_addTrunk_158 : decode cX3_addTrunk 158 = .ok (.iload_n 1, 1) := by decide +kernel
theorem dX3_addTrunk_159 : decode cX3_addTrunk 159 = .ok (.invokevirtual 99, 3) := by decide +kernel
theorem dX3_addTrunk_162 : decode cX3_addTrunk 162 = .ok (.aload_n 0, 1) := by decide +kernel
theorem dX3_addTrunk_163 : decode cX3_addTrunk 163 = .ok (.getfield 51, 3) := by decide +kernel
theorem dX3_addTrunk_166 : decode cX3_addTrunk 166 = .ok (.iload 5, 2) := by decide +kernel
theorem dX3_addTrunk_168 : decode cX3_addTrunk 168 = .ok (.iload_n 3, 1) := by decide +kernel
theorem dX3_addTrunk_169 : decode cX3_addTrunk 169 = .ok (.invokevirtual 99, 3) := by decide +kernel
theorem dX3_addTrunk_172 : decode cX3_addTrunk 172 = .ok (.aload_n 0, 1) := by decide +kernel
theorem dX3_addTrunk_173 : decode cX3_addTrunk 173 = .ok (.getfield 54, 3) := by decide +kernel
theorem dX3_addTrunk_176 : decode cX3_addTrunk 176 = .ok (.iload 5, 2) := by decide +kernel
theorem dX3_addTrunk_178 : decode cX3_addTrunk 178 = .ok (.iload 4, 2) := by decide +kernel
theorem dX3_addTrunk_180 : decode cX3_addTrunk 180 = .ok (.invokevirtual 99, 3) := by decide +kernel
theorem dX3_addTrunk_183 : decode cX3_addTrunk 183 = .ok (.iconst 0, 1) := by decide +kernel
theorem dX3_addTrunk_184 : decode cX3_addTrunk 184 = .ok (.istore 6, 2) := by decide +kernel
theorem dX3_addTrunk_186 : decode cX3_addTrunk 186 = .ok (.iload 6, 2) := by decide +kernel
theorem dX3_addTrunk_188 : decode cX3_addTrunk 188 = .ok (.iload_n 3, 1) := by decide +kernel
theorem dX3_addTrunk_189 : decode cX3_addTrunk 189 = .ok (.if_icmp .ge 23, 3) := by decide +kernel
theorem dX3_addTrunk_192 : decode cX3_addTrunk 192 = .ok (.aload_n 0, 1) := by decide +kernel
theorem dX3_addTrunk_193 : decode cX3_addTrunk 193 = .ok (.iload_n 1, 1) := by decide +kernel
theorem dX3_addTrunk_194 : decode cX3_addTrunk 194 = .ok (.iload 6, 2) := by decide +kernel
theorem dX3_addTrunk_196 : decode cX3_addTrunk 196 = .ok (.iadd, 1) := by decide +kernel
theorem dX3_addTrunk_197 : decode cX3_addTrunk 197 = .ok (.iload_n 2, 1) := by decide +kernel
theorem dX3_addTrunk_198 : decode cX3_addTrunk 198 = .ok (.iload 6, 2) := by decide +kernel
theorem dX3_addTrunk_200 : decode cX3_addTrunk 200 = .ok (.iadd, 1) := by decide +kernel
theorem dX3_addTrunk_201 : decode cX3_addTrunk 201 = .ok (.iload 5, 2) := by decide +kernel
theorem dX3_addTrunk_203 : decode cX3_addTrunk 203 = .ok (.invokevirtual 126, 3) := by decide +kernel
theorem dX3_addTrunk_206 : decode cX3_addTrunk 206 = .ok (.iinc 6 1, 3) := by decide +kernel
theorem dX3_addTrunk_209 : decode cX3_addTrunk 209 = .ok (.goto (-23), 3) := by decide +kernel
theorem dX3_addTrunk_212 : decode cX3_addTrunk 212 = .ok (.aload_n 0, 1) := by decide +kernel
theorem dX3_addTrunk_213 : decode cX3_addTrunk 213 = .ok (.dup, 1) := by decide +kernel
theorem dX3_addTrunk_214 : decode cX3_addTrunk 214 = .ok (.getfield 80, 3) := by decide +kernel
theorem dX3_addTrunk_217 : decode cX3_addTrunk 217 = .ok (.iconst 1, 1) := by decide +kernel
theorem dX3_addTrunk_218 : decode cX3_addTrunk 218 = .ok (.iadd, 1) := by decide +kernel
theorem dX3_addTrunk_219 : decode cX3_addTrunk 219 = .ok (.putfield 80, 3) := by decide +kernel
theorem dX3_addTrunk_222 : decode cX3_addTrunk 222 = .ok (.iload 5, 2) := by decide +kernel
theorem dX3_addTrunk_224 : decode cX3_addTrunk 224 = .ok (.ireturn, 1) := by decide +kernel
set_option maxRecDepth 20000 in
theorem ggX3_setBroken_X3_checkTrunk : GoodIn wsX3_setBroken wsX3_checkTrunk := goodIn_ca (goodIn_r _ [11, 1, 2, 12, 13, 14, 10, 15, 33, 34, 35, 36, 37, 38, 39, 40, 41, 42, 43, 44, 45, 46, 47, 48, 49, 50, 51] (by decide +kernel) (by decide +kernel)) (goodIn_sub (fun _ h => List.mem_cons_of_mem _ (List.mem_append_right _ h)) (by decide +kernel))
set_option maxRecDepth 20000 in
theorem gX3_setBroken_X3_checkTrunk : GoodIn wsX3_setBroken (wsV RX3 130 RX3 yX3_checkTrunk wsX3_checkTrunk) := goodIn_app (goodIn_of _ (by decide +kernel)) ggX3_setBroken_X3_checkTrunk
set_option maxRecDepth 20000 in
theorem ggX3_setBroken_X2_at : GoodIn wsX3_setBroken wsX2_at := goodIn_r _ [20, 21, 22, 52, 53] (by decide +kernel) (by decide +kernel)
set_option maxRecDepth 20000 in
theorem gX3_setBroken_X2_at : GoodIn wsX3_setBroken (wsV RX3 107 RX2 yX2_at wsX2_at) := goodIn_app (goodIn_of _ (by decide +kernel)) ggX3_setBroken_X2_at
set_option maxRecDepth 20000 in
theorem ggX3_setBroken_X3_isWithin : GoodIn wsX3_setBroken wsX3_isWithin := goodIn_r _ [15] (by decide +kernel) (by decide +kernel)
set_option maxRecDepth 20000 in
theorem gX3_setBroken_X3_isWithin : GoodIn wsX3_setBroken (va_wsS RX3 83 yX3_isWithin wsX3_isWithin) := goodIn_app (goodIn_of _ (by decide +kernel)) ggX3_setBroken_X3_isWithin
set_option maxRecDepth 20000 in
theorem ggX3_setBroken_X0_has : GoodIn wsX3_setBroken wsX0_has := goodIn_r _ [27, 28, 54] (by decide +kernel) (by decide +kernel)
set_option maxRecDepth 20000 in
theorem gX3_setBroken_X0_has : GoodIn wsX3_setBroken (wsV RX3 138 RX0 yX0_has wsX0_has) := goodIn_app (goodIn_of _ (by decide +kernel)) ggX3_setBroken_X0_has
set_option maxRecDepth 20000 in
theorem ggX3_setBroken_X0_set : GoodIn wsX3_setBroken wsX0_set := goodIn_r _ [32, 28, 54] (by decide +kernel) (by decide +kernel)
set_option maxRecDepth 20000 in
theorem gX3_setBroken_X0_set : GoodIn wsX3_setBroken (wsV RX3 142 RX0 yX0_set wsX0_set) := goodIn_app (goodIn_of _ (by decide +kernel)) ggX3_setBroken_X0_set
theorem dX3_setBroken_0 : decode cX3_setBroken 0 = .ok (.aload_n 0, 1) := by decide +kernel
theorem dX3_setBroken_1 : decode cX3_setBroken 1 = .ok (.iload_n 1, 1) := by decide +kernel
theorem dX3_setBroken_2 : decode cX3_setBroken 2 = .ok (.invokevirtual 130, 3) := by decide +kernel
theorem dX3_setBroken_5 : decode cX3_setBroken 5 = .ok (.iload_n 2, 1) := by decide +kernel
theorem dX3_setBroken_6 : decode cX3_setBroken 6 = .ok (.iconst 0, 1) := by decide +kernel
theorem dX3_setBroken_7 : decode cX3_setBroken 7 = .ok (.aload_n 0, 1) := by decide +kernel
theorem dX3_setBroken_8 : decode cX3_setBroken 8 = .ok (.getfield 51, 3) := by decide +kernel
theorem dX3_setBroken_11 : decode cX3_setBroken 11 = .ok (.iload_n 1, 1) := by decide +kernel
theorem dX3_setBroken_12 : decode cX3_setBroken 12 = .ok (.invokevirtual 107, 3) := by decide +kernel
theorem dX3_setBroken_15 : decode cX3_setBroken 15 = .ok (.iconst 1, 1) := by decide +kernel
theorem dX3_setBroken_16 : decode cX3_setBroken 16 = .ok (.isub, 1) := by decide +kernel
theorem dX3_setBroken_17 : decode cX3_setBroken 17 = .ok (.invokestatic 83, 3) := by decide +kernel
theorem dX3_setBroken_20 : decode cX3_setBroken 20 = .ok (.ifCond .ne 13, 3) := by decide +kernel
theorem dX3_setBroken_23 : decode cX3_setBroken 23 = .ok (.new 133, 3) := by decide +kernel
theorem dX3_setBroken_26 : decode cX3_setBroken 26 = .ok (.dup, 1) := by decide +kernel
theorem dX3_setBroken_27 : decode cX3_setBroken 27 = .ok (.ldc 135, 2) := by decide +kernel
theorem dX3_setBroken_29 : decode cX3_setBroken 29 = .ok (.invokespecial 137, 3) := by decide +kernel
theorem dX3_setBroken_32 : decode cX3_setBroken 32 = .ok (.athrow, 1) := by decide +kernel
theorem dX3_setBroken_33 : decode cX3_setBroken 33 = .ok (.aload_n 0, 1) := by decide +kernel
theorem dX3_setBroken_34 : decode cX3_setBroken 34 = .ok (.getfield 48, 3) := by decide +kernel
theorem dX3_setBroken_37 : decode cX3_setBroken 37 = .ok (.iload_n 1, 1) := by decide +kernel
theorem dX3_setBroken_38 : decode cX3_setBroken 38 = .ok (.invokevirtual 107, 3) := by decide +kernel
theorem dX3_setBroken_41 : decode cX3_setBroken 41 = .ok (.iload_n 2, 1) := by decide +kernel
theorem dX3_setBroken_42 : decode cX3_setBroken 42 = .ok (.iadd, 1) := by decide +kernel
theorem dX3_setBroken_43 : decode cX3_setBroken 43 = .ok (.istore 4, 2) := by decide +kernel
theorem dX3_setBroken_45 : decode cX3_setBroken 45 = .ok (.aload_n 0, 1) := by decide +kernel
theorem dX3_setBroken_46 : decode cX3_setBroken 46 = .ok (.getfield 44, 3) := by decide +kernel
theorem dX3_setBroken_49 : decode cX3_setBroken 49 = .ok (.iload 4, 2) := by decide +kernel
theorem dX3_setBroken_51 : decode cX3_setBroken 51 = .ok (.invokevirtual 138, 3) := by decide +kernel
theorem dX3_setBroken_54 : decode cX3_setBroken 54 = .ok (.istore 5, 2) := by decide +kernel
theorem dX3_setBroken_56 : decode cX3_setBroken 56 = .ok (.aload_n 0, 1) := by decide +kernel
theorem dX3_setBroken_57 : decode cX3_setBroken 57 = .ok (.getfield 44, 3) := by decide +kernel
theorem dX3_setBroken_60 : decode cX3_setBroken 60 = .ok (.iload 4, 2) := by decide +kernel
theorem dX3_setBroken_62 : decode cX3_setBroken 62 = .ok (.iload_n 3, 1) := by decide +kernel
theorem dX3_setBroken_63 : decode cX3_setBroken 63 = .ok (.invokevirtual 142, 3) := by decide +kernel
theorem dX3_setBroken_66 : decode cX3_setBroken 66 = .ok (.aload_n 0, 1) := by decide +kernel
theorem dX3_setBroken_67 : decode cX3_setBroken 67 = .ok (.getfield 44, 3) := by decide +kernel
theorem dX3_setBroken_70 : decode cX3_setBroken 70 = .ok (.aload_n 0, 1) := by decide +kernel
theorem dX3_setBroken_71 : decode cX3_setBroken 71 = .ok (.getfield 33, 3) := by decide +kernel
theorem dX3_setBroken_74 : decode cX3_setBroken 74 = .ok (.iload 4, 2) := by decide +kernel
theorem dX3_setBroken_76 : decode cX3_setBroken 76 = .ok (.invokevirtual 107, 3) := by decide +kernel
theorem dX3_setBroken_79 : decode cX3_setBroken 79 = .ok (.iload_n 3, 1) := by decide +kernel
theorem dX3_setBroken_80 : decode cX3_setBroken 80 = .ok (.invokevirtual 142, 3) := by decide +kernel
theorem dX3_setBroken_83 : decode cX3_setBroken 83 = .ok (.iload 5, 2) := by decide +kernel
theorem dX3_setBroken_85 : decode cX3_setBroken 85 = .ok (.ireturn, 1) := by decide +kernel
set_option maxRecDepth 20000 in
theorem ggX3_plug_X3_checkPort : GoodIn wsX3_plug wsX3_checkPort := goodIn_ca (goodIn_r _ [9, 10, 11, 12, 13, 14, 8, 15, 47, 48, 49, 50, 51, 52, 53, 54, 55, 56, 57, 58, 59, 60, 61, 62, 63, 64, 65] (by decide +kernel) (by decide +kernel)) (goodIn_sub (fun _ h => List.mem_cons_of_mem _ (List.mem_append_right _ h)) (by decide +kernel))
set_option maxRecDepth 20000 in
theorem gX3_plug_X3_checkPort : GoodIn wsX3_plug (wsV RX3 102 RX3 yX3_checkPort wsX3_checkPort) := goodIn_app (goodIn_of _ (by decide +kernel)) ggX3_plug_X3_checkPort
set_option maxRecDepth 20000 in
theorem ggX3_plug_X3_isWithin : GoodIn wsX3_plug wsX3_isWithin := goodIn_r _ [15] (by decide +kernel) (by decide +kernel)
set_option maxRecDepth 20000 in
theorem gX3_plug_X3_isWithin : GoodIn wsX3_plug (va_wsS RX3 83 yX3_isWithin wsX3_isWithin) := goodIn_app (goodIn_of _ (by decide +kernel)) ggX3_plug_X3_isWithin
set_option maxRecDepth 20000 in
theorem ggX3_plug_X3_hasCable : GoodIn wsX3_plug wsX3_hasCable := goodIn_r _ [19, 20, 21, 22, 23, 24, 25, 26, 27, 47, 48, 49, 50, 51, 52, 53, 54, 55, 56, 57, 58, 59, 60, 61, 62, 63, 64, 65, 66, 67] (by decide +kernel) (by decide +kernel)
set_option maxRecDepth 20000 in
theorem gX3_plug_X3_hasCable : GoodIn wsX3_plug (wsV RX3 148 RX3 yX3_hasCable wsX3_hasCable) := goodIn_app (goodIn_of _ (by decide +kernel)) ggX3_plug_X3_hasCable
set_option maxRecDepth 20000 in
theorem ggX3_plug_X3_joinByCable : GoodIn wsX3_plug wsX3_joinByCable := goodIn_r _ [31, 20, 32, 33, 34, 35, 24, 36, 26, 47, 48, 49, 50, 51, 52, 53, 54, 55, 56, 57, 58, 59, 60, 61, 62, 63, 64, 65, 66, 67] (by decide +kernel) (by decide +kernel)
set_option maxRecDepth 20000 in
theorem gX3_plug_X3_joinByCable : GoodIn wsX3_plug (wsV RX3 153 RX3 yX3_joinByCable wsX3_joinByCable) := goodIn_app (goodIn_of _ (by decide +kernel)) ggX3_plug_X3_joinByCable
set_option maxRecDepth 20000 in
theorem ggX3_plug_X3_lengthBetween : GoodIn wsX3_plug wsX3_lengthBetween := goodIn_r _ [40, 41, 42, 43, 44, 45, 46, 21, 22, 23, 24, 25, 26, 27, 47, 48, 49, 50, 51, 52, 53, 54, 55, 56, 57, 58, 59, 60, 61, 62, 63, 64, 65, 66, 67] (by decide +kernel) (by decide +kernel)
set_option maxRecDepth 20000 in
theorem gX3_plug_X3_lengthBetween : GoodIn wsX3_plug (wsV RX3 156 RX3 yX3_lengthBetween wsX3_lengthBetween) := goodIn_app (goodIn_of _ (by decide +kernel)) ggX3_plug_X3_lengthBetween
theorem dX3_plug_0 : decode cX3_plug 0 = .ok (.aload_n 0, 1) := by decide +kernel
theorem dX3_plug_1 : decode cX3_plug 1 = .ok (.iload_n 1, 1) := by decide +kernel
theorem dX3_plug_2 : decode cX3_plug 2 = .ok (.invokevirtual 102, 3) := by decide +kernel
theorem dX3_plug_5 : decode cX3_plug 5 = .ok (.aload_n 0, 1) := by decide +kernel
theorem dX3_plug_6 : decode cX3_plug 6 = .ok (.iload_n 2, 1) := by decide +kernel
theorem dX3_plug_7 : decode cX3_plug 7 = .ok (.invokevirtual 102, 3) := by decide +kernel
theorem dX3_plug_10 : decode cX3_plug 10 = .ok (.iload_n 3, 1) := by decide +kernel
theorem dX3_plug_11 : decode cX3_plug 11 = .ok (.iconst 1, 1) := by decide +kernel
theorem dX3_plug_12 : decode cX3_plug 12 = .ok (.bipush 9, 2) := by decide +kernel
theorem dX3_plug_14 : decode cX3_plug 14 = .ok (.invokestatic 83, 3) := by decide +kernel
theorem dX3_plug_17 : decode cX3_plug 17 = .ok (.ifCond .eq 8, 3) := by decide +kernel
theorem dX3_plug_20 : decode cX3_plug 20 = .ok (.iload_n 1, 1) := by decide +kernel
theorem dX3_plug_21 : decode cX3_plug 21 = .ok (.iload_n 2, 1) := by decide +kernel
theorem dX3_plug_22 : decode cX3_plug 22 = .ok (.if_icmp .ne 13, 3) := by decide +kernel
theorem dX3_plug_25 : decode cX3_plug 25 = .ok (.new 87, 3) := by decide +kernel
theorem dX3_plug_28 : decode cX3_plug 28 = .ok (.dup, 1) := by decide +kernel
theorem dX3_plug_29 : decode cX3_plug 29 = .ok (.ldc 146, 2) := by decide +kernel
theorem dX3_plug_31 : decode cX3_plug 31 = .ok (.invokespecial 91, 3) := by decide +kernel
theorem dX3_plug_34 : decode cX3_plug 34 = .ok (.athrow, 1) := by decide +kernel
theorem dX3_plug_35 : decode cX3_plug 35 = .ok (.aload_n 0, 1) := by decide +kernel
theorem dX3_plug_36 : decode cX3_plug 36 = .ok (.iload_n 1, 1) := by decide +kernel
theorem dX3_plug_37 : decode cX3_plug 37 = .ok (.invokevirtual 148, 3) := by decide +kernel
theorem dX3_plug_40 : decode cX3_plug 40 = .ok (.ifCond .ne 11, 3) := by decide +kernel
theorem dX3_plug_43 : decode cX3_plug 43 = .ok (.aload_n 0, 1) := by decide +kernel
theorem dX3_plug_44 : decode cX3_plug 44 = .ok (.iload_n 2, 1) := by decide +kernel
theorem dX3_plug_45 : decode cX3_plug 45 = .ok (.invokevirtual 148, 3) := by decide +kernel
theorem dX3_plug_48 : decode cX3_plug 48 = .ok (.ifCond .eq 13, 3) := by decide +kernel
theorem dX3_plug_51 : decode cX3_plug 51 = .ok (.new 94, 3) := by decide +kernel
theorem dX3_plug_54 : decode cX3_plug 54 = .ok (.dup, 1) := by decide +kernel
theorem dX3_plug_55 : decode cX3_plug 55 = .ok (.ldc 151, 2) := by decide +kernel
theorem dX3_plug_57 : decode cX3_plug 57 = .ok (.invokespecial 98, 3) := by decide +kernel
theorem dX3_plug_60 : decode cX3_plug 60 = .ok (.athrow, 1) := by decide +kernel
theorem dX3_plug_61 : decode cX3_plug 61 = .ok (.aload_n 0, 1) := by decide +kernel
theorem dX3_plug_62 : decode cX3_plug 62 = .ok (.iload_n 1, 1) := by decide +kernel
theorem dX3_plug_63 : decode cX3_plug 63 = .ok (.iload_n 2, 1) := by decide +kernel
theorem dX3_plug_64 : decode cX3_plug 64 = .ok (.iload_n 3, 1) := by decide +kernel
theorem dX3_plug_65 : decode cX3_plug 65 = .ok (.invokevirtual 153, 3) := by decide +kernel
theorem dX3_plug_68 : decode cX3_plug 68 = .ok (.aload_n 0, 1) := by decide +kernel
theorem dX3_plug_69 : decode cX3_plug 69 = .ok (.iload_n 1, 1) := by decide +kernel
theorem dX3_plug_70 : decode cX3_plug 70 = .ok (.iload_n 2, 1) := by decide +kernel
theorem dX3_plug_71 : decode cX3_plug 71 = .ok (.invokevirtual 156, 3) := by decide +kernel
theorem dX3_plug_74 : decode cX3_plug 74 = .ok (.ireturn, 1) := by decide +kernel
set_option maxRecDepth 20000 in
theorem ggX3_pull_X3_checkPort : GoodIn wsX3_pull wsX3_checkPort := goodIn_ca (goodIn_r _ [8, 9, 10, 11, 12, 13, 7, 14, 35, 36, 37, 38, 39, 40, 41, 42, 43, 44, 45, 46, 47, 48, 49, 50, 51, 52, 53] (by decide +kernel) (by decide +kernel)) (goodIn_sub (fun _ h => List.mem_cons_of_mem _ (List.mem_append_right _ h)) (by decide +kernel))
set_option maxRecDepth 20000 in
theorem gX3_pull_X3_checkPort : GoodIn wsX3_pull (wsV RX3 102 RX3 yX3_checkPort wsX3_checkPort) := goodIn_app (goodIn_of _ (by decide +kernel)) ggX3_pull_X3_checkPort
set_option maxRecDepth 20000 in
theorem ggX3_pull_X3_hasCable : GoodIn wsX3_pull wsX3_hasCable := goodIn_r _ [18, 3, 19, 20, 21, 22, 23, 24, 25, 35, 36, 37, 38, 39, 40, 41, 42, 43, 44, 45, 46, 47, 48, 49, 50, 51, 52, 53, 54, 55] (by decide +kernel) (by decide +kernel)
set_option maxRecDepth 20000 in
theorem gX3_pull_X3_hasCable : GoodIn wsX3_pull (wsV RX3 148 RX3 yX3_hasCable wsX3_hasCable) := goodIn_app (goodIn_of _ (by decide +kernel)) ggX3_pull_X3_hasCable
set_option maxRecDepth 20000 in
theorem ggX3_pull_X2_at : GoodIn wsX3_pull wsX2_at := goodIn_r _ [23, 24, 25, 54, 55] (by decide +kernel) (by decide +kernel)
set_option maxRecDepth 20000 in
theorem gX3_pull_X2_at : GoodIn wsX3_pull (wsV RX3 107 RX2 yX2_at wsX2_at) := goodIn_app (goodIn_of _ (by decide +kernel)) ggX3_pull_X2_at
set_option maxRecDepth 20000 in
theorem ggX3_pull_X3_clearCable : GoodIn wsX3_pull wsX3_clearCable := goodIn_r _ [29, 3, 30, 31, 32, 33, 22, 34, 24, 35, 36, 37, 38, 39, 40, 41, 42, 43, 44, 45, 46, 47, 48, 49, 50, 51, 52, 53, 54, 55] (by decide +kernel) (by decide +kernel)
set_option maxRecDepth 20000 in
theorem gX3_pull_X3_clearCable : GoodIn wsX3_pull (wsV RX3 162 RX3 yX3_clearCable wsX3_clearCable) := goodIn_app (goodIn_of _ (by decide +kernel)) ggX3_pull_X3_clearCable
theorem dX3_pull_0 : decode cX3_pull 0 = .ok (.aload_n 0, 1) := by decide +kernel
theorem dX3_pull_1 : decode cX3_pull 1 = .ok (.iload_n 1, 1) := by decide +kernel
theorem dX3_pull_2 : decode cX3_pull 2 = .ok (.invokevirtual 102, 3) := by decide +kernel
theorem dX3_pull_5 : decode cX3_pull 5 = .ok (.aload_n 0, 1) := by decide +kernel
theorem dX3_pull_6 : decode cX3_pull 6 = .ok (.iload_n 1, 1) := by decide +kernel
theorem dX3_pull_7 : decode cX3_pull 7 = .ok (.invokevirtual 148, 3) := by decide +kernel
theorem dX3_pull_10 : decode cX3_pull 10 = .ok (.ifCond .ne 13, 3) := by decide +kernel
theorem dX3_pull_13 : decode cX3_pull 13 = .ok (.new 94, 3) := by decide +kernel
theorem dX3_pull_16 : decode cX3_pull 16 = .ok (.dup, 1) := by decide +kernel
theorem dX3_pull_17 : decode cX3_pull 17 = .ok (.ldc 160, 2) := by decide +kernel
theorem dX3_pull_19 : decode cX3_pull 19 = .ok (.invokespecial 98, 3) := by decide +kernel
theorem dX3_pull_22 : decode cX3_pull 22 = .ok (.athrow, 1) := by decide +kernel
theorem dX3_pull_23 : decode cX3_pull 23 = .ok (.aload_n 0, 1) := by decide +kernel
theorem dX3_pull_24 : decode cX3_pull 24 = .ok (.getfield 27, 3) := by decide +kernel
theorem dX3_pull_27 : decode cX3_pull 27 = .ok (.iload_n 1, 1) := by decide +kernel
theorem dX3_pull_28 : decode cX3_pull 28 = .ok (.invokevirtual 107, 3) := by decide +kernel
theorem dX3_pull_31 : decode cX3_pull 31 = .ok (.istore_n 2, 1) := by decide +kernel
theorem dX3_pull_32 : decode cX3_pull 32 = .ok (.aload_n 0, 1) := by decide +kernel
theorem dX3_pull_33 : decode cX3_pull 33 = .ok (.iload_n 1, 1) := by decide +kernel
theorem dX3_pull_34 : decode cX3_pull 34 = .ok (.invokevirtual 162, 3) := by decide +kernel
theorem dX3_pull_37 : decode cX3_pull 37 = .ok (.aload_n 0, 1) := by decide +kernel
theorem dX3_pull_38 : decode cX3_pull 38 = .ok (.iload_n 2, 1) := by decide +kernel
theorem dX3_pull_39 : decode cX3_pull 39 = .ok (.invokevirtual 162, 3) := by decide +kernel
theorem dX3_pull_42 : decode cX3_pull 42 = .ok (.iload_n 2, 1) := by decide +kernel
theorem dX3_pull_43 : decode cX3_pull 43 = .ok (.ireturn, 1) := by decide +kernel
set_option maxRecDepth 20000 in
theorem ggX3_addMove_X3_checkPort : GoodIn wsX3_addMove wsX3_checkPort := goodIn_ca (goodIn_r _ [10, 11, 12, 13, 14, 15, 9, 16, 35, 36, 37, 38, 39, 40, 41, 42, 43, 44, 45, 46, 47, 48, 49, 50, 51, 52, 53] (by decide +kernel) (by decide +kernel)) (goodIn_sub (fun _ h => List.mem_cons_of_mem _ (List.mem_append_right _ h)) (by decide +kernel))
set_option maxRecDepth 20000 in
theorem gX3_addMove_X3_checkPort : GoodIn wsX3_addMove (wsV RX3 102 RX3 yX3_checkPort wsX3_checkPort) := goodIn_app (goodIn_of _ (by decide +kernel)) ggX3_addMove_X3_checkPort
set_option maxRecDepth 20000 in
theorem ggX3_addMove_X1_size : GoodIn wsX3_addMove wsX1_size := goodIn_r _ [21, 22, 54, 55, 56, 57, 58] (by decide +kernel) (by decide +kernel)
set_option maxRecDepth 20000 in
theorem gX3_addMove_X1_size : GoodIn wsX3_addMove (wsV RX3 167 RX1 yX1_size wsX1_size) := goodIn_app (goodIn_of _ (by decide +kernel)) ggX3_addMove_X1_size
set_option maxRecDepth 20000 in
theorem ggX3_addMove_X1_add : GoodIn wsX3_addMove wsX1_add := goodIn_r _ [26, 22, 27, 28, 29, 30, 31, 32, 33, 34, 54, 55, 56, 57, 58, 59, 60] (by decide +kernel) (by decide +kernel)
set_option maxRecDepth 20000 in
theorem gX3_addMove_X1_add : GoodIn wsX3_addMove (wsV RX3 173 RX1 yX1_add wsX1_add) := goodIn_app (goodIn_of _ (by decide +kernel)) ggX3_addMove_X1_add
theorem dX3_addMove_0 : decode cX3_addMove 0 = .ok (.aload_n 0, 1) := by decide +kernel
theorem dX3_addMove_1 : decode cX3_addMove 1 = .ok (.iload_n 1, 1) := by decide +kernel
theorem dX3_addMove_2 : decode cX3_addMove 2 = .ok (.invokevirtual 102, 3) := by decide +kernel
theorem dX3_addMove_5 : decode cX3_addMove 5 = .ok (.aload_n 0, 1) := by decide +kernel
theorem dX3_addMove_6 : decode cX3_addMove 6 = .ok (.iload_n 2, 1) := by decide +kernel
theorem dX3_addMove_7 : decode cX3_addMove 7 = .ok (.invokevirtual 102, 3) := by decide +kernel
theorem dX3_addMove_10 : decode cX3_addMove 10 = .ok (.iload_n 1, 1) := by decide +kernel
theorem dX3_addMove_11 : decode cX3_addMove 11 = .ok (.iload_n 2, 1) := by decide +kernel
theorem dX3_addMove_12 : decode cX3_addMove 12 = .ok (.if_icmp .ne 13, 3) := by decide +kernel
theorem dX3_addMove_15 : decode cX3_addMove 15 = .ok (.new 87, 3) := by decide +kernel
theorem dX3_addMove_18 : decode cX3_addMove 18 = .ok (.dup, 1) := by decide +kernel
theorem dX3_addMove_19 : decode cX3_addMove 19 = .ok (.ldc 165, 2) := by decide +kernel
theorem dX3_addMove_21 : decode cX3_addMove 21 = .ok (.invokespecial 91, 3) := by decide +kernel
theorem dX3_addMove_24 : decode cX3_addMove 24 = .ok (.athrow, 1) := by decide +kernel
theorem dX3_addMove_25 : decode cX3_addMove 25 = .ok (.aload_n 0, 1) := by decide +kernel
theorem dX3_addMove_26 : decode cX3_addMove 26 = .ok (.getfield 60, 3) := by decide +kernel
theorem dX3_addMove_29 : decode cX3_addMove 29 = .ok (.invokevirtual 167, 3) := by decide +kernel
theorem dX3_addMove_32 : decode cX3_addMove 32 = .ok (.bipush 12, 2) := by decide +kernel
theorem dX3_addMove_34 : decode cX3_addMove 34 = .ok (.if_icmp .lt 13, 3) := by decide +kernel
theorem dX3_addMove_37 : decode cX3_addMove 37 = .ok (.new 94, 3) := by decide +kernel
theorem dX3_addMove_40 : decode cX3_addMove 40 = .ok (.dup, 1) := by decide +kernel
theorem dX3_addMove_41 : decode cX3_addMove 41 = .ok (.ldc 171, 2) := by decide +kernel
theorem dX3_addMove_43 : decode cX3_addMove 43 = .ok (.invokespecial 98, 3) := by decide +kernel
theorem dX3_addMove_46 : decode cX3_addMove 46 = .ok (.athrow, 1) := by decide +kernel
theorem dX3_addMove_47 : decode cX3_addMove 47 = .ok (.aload_n 0, 1) := by decide +kernel
theorem dX3_addMove_48 : decode cX3_addMove 48 = .ok (.getfield 60, 3) := by decide +kernel
theorem dX3_addMove_51 : decode cX3_addMove 51 = .ok (.iload_n 1, 1) := by decide +kernel
theorem dX3_addMove_52 : decode cX3_addMove 52 = .ok (.iload_n 2, 1) := by decide +kernel
theorem dX3_addMove_53 : decode cX3_addMove 53 = .ok (.invokevirtual 173, 3) := by decide +kernel
theorem dX3_addMove_56 : decode cX3_addMove 56 = .ok (.aload_n 0, 1) := by decide +kernel
theorem dX3_addMove_57 : decode cX3_addMove 57 = .ok (.getfield 60, 3) := by decide +kernel
theorem dX3_addMove_60 : decode cX3_addMove 60 = .ok (.invokevirtual 167, 3) := by decide +kernel
theorem dX3_addMove_63 : decode cX3_addMove 63 = .ok (.ireturn, 1) := by decide +kernel
set_option maxRecDepth 20000 in
theorem ggX3_dropPlan_X1_size : GoodIn wsX3_dropPlan wsX1_size := goodIn_r _ [6, 7, 31, 32, 33, 34, 35] (by decide +kernel) (by decide +kernel)
set_option maxRecDepth 20000 in
theorem gX3_dropPlan_X1_size : GoodIn wsX3_dropPlan (wsV RX3 167 RX1 yX1_size wsX1_size) := goodIn_app (goodIn_of _ (by decide +kernel)) ggX3_dropPlan_X1_size
set_option maxRecDepth 20000 in
theorem ggX3_dropPlan_X1_clear : GoodIn wsX3_dropPlan wsX1_clear := goodIn_r _ [11, 7, 31, 32, 33, 34, 35] (by decide +kernel) (by decide +kernel)
set_option maxRecDepth 20000 in
theorem gX3_dropPlan_X1_clear : GoodIn wsX3_dropPlan (wsV RX3 176 RX1 yX1_clear wsX1_clear) := goodIn_app (goodIn_of _ (by decide +kernel)) ggX3_dropPlan_X1_clear
theorem dX3_dropPlan_0 : decode cX3_dropPlan 0 = .ok (.aload_n 0, 1) := by decide +kernel
theorem dX3_dropPlan_1 : decode cX3_dropPlan 1 = .ok (.getfield 60, 3) := by decide +kernel
theorem dX3_dropPlan_4 : decode cX3_dropPlan 4 = .ok (.invokevirtual 167, 3) := by decide +kernel
theorem dX3_dropPlan_7 : decode cX3_dropPlan 7 = .ok (.istore_n 1, 1) := by decide +kernel
theorem dX3_dropPlan_8 : decode cX3_dropPlan 8 = .ok (.aload_n 0, 1) := by decide +kernel
theorem dX3_dropPlan_9 : decode cX3_dropPlan 9 = .ok (.getfield 60, 3) := by decide +kernel
theorem dX3_dropPlan_12 : decode cX3_dropPlan 12 = .ok (.invokevirtual 176, 3) := by decide +kernel
theorem dX3_dropPlan_15 : decode cX3_dropPlan 15 = .ok (.iload_n 1, 1) := by decide +kernel
theorem dX3_dropPlan_16 : decode cX3_dropPlan 16 = .ok (.ireturn, 1) := by decide +kernel
set_option maxRecDepth 20000 in
theorem ggX3_carryOut_X3_planIsPossible : GoodIn wsX3_carryOut wsX3_planIsPossible := goodIn_r _ [8, 3, 9, 10, 11, 12, 13, 14, 15, 16, 17, 18, 19, 20, 21, 22, 23, 24, 25, 26, 27, 28, 29, 7, 30, 31, 32, 33, 34, 35, 36, 37, 38, 39, 40, 41, 42, 43, 44, 45, 46, 47, 48, 49, 50, 51, 96, 97, 98, 99, 100, 101, 102, 103, 104, 105, 106, 107, 108, 109, 110, 111, 112, 113, 114, 115, 116, 117, 118, 119, 120, 121] (by decide +kernel) (by decide +kernel)
set_option maxRecDepth 20000 in
theorem gX3_carryOut_X3_planIsPossible : GoodIn wsX3_carryOut (wsV RX3 179 RX3 yX3_planIsPossible wsX3_planIsPossible) := goodIn_app (goodIn_of _ (by decide +kernel)) ggX3_carryOut_X3_planIsPossible
