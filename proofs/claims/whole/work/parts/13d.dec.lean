theorem dX8_blurred_34 : decode cX8_blurred 34 = .ok (.aload_n 0, 1) := by decide +kernel
theorem dX8_blurred_35 : decode cX8_blurred 35 = .ok (.getfield 26, 3) := by decide +kernel
theorem dX8_blurred_38 : decode cX8_blurred 38 = .ok (.invokevirtual 236, 3) := by decide +kernel
theorem dX8_blurred_41 : decode cX8_blurred 41 = .ok (.iconst 1, 1) := by decide +kernel
theorem dX8_blurred_42 : decode cX8_blurred 42 = .ok (.aload_n 0, 1) := by decide +kernel
theorem dX8_blurred_43 : decode cX8_blurred 43 = .ok (.getfield 33, 3) := by decide +kernel
theorem dX8_blurred_46 : decode cX8_blurred 46 = .ok (.iload_n 2, 1) := by decide +kernel
theorem dX8_blurred_47 : decode cX8_blurred 47 = .ok (.iload_n 3, 1) := by decide +kernel
theorem dX8_blurred_48 : decode cX8_blurred 48 = .ok (.invokevirtual 168, 3) := by decide +kernel
theorem dX8_blurred_51 : decode cX8_blurred 51 = .ok (.ishl, 1) := by decide +kernel
theorem dX8_blurred_52 : decode cX8_blurred 52 = .ok (.if_icmp .eq 6, 3) := by decide +kernel
theorem dX8_blurred_55 : decode cX8_blurred 55 = .ok (.iinc 1 1, 3) := by decide +kernel
theorem dX8_blurred_58 : decode cX8_blurred 58 = .ok (.iinc 3 1, 3) := by decide +kernel
theorem dX8_blurred_61 : decode cX8_blurred 61 = .ok (.goto (-44), 3) := by decide +kernel
theorem dX8_blurred_64 : decode cX8_blurred 64 = .ok (.iinc 2 1, 3) := by decide +kernel
theorem dX8_blurred_67 : decode cX8_blurred 67 = .ok (.goto (-63), 3) := by decide +kernel
theorem dX8_blurred_70 : decode cX8_blurred 70 = .ok (.iload_n 1, 1) := by decide +kernel
theorem dX8_blurred_71 : decode cX8_blurred 71 = .ok (.ireturn, 1) := by decide +kernel
set_option maxRecDepth 20000 in
theorem ggX8_law_X1_size : GoodIn wsX8_law wsX1_size := goodIn_r _ [6, 7, 31, 32, 33, 34] (by decide +kernel) (by decide +kernel)
set_option maxRecDepth 20000 in
theorem gX8_law_X1_size : GoodIn wsX8_law (wsV RX8 246 RX1 yX1_size wsX1_size) := goodIn_app (goodIn_of _ (by decide +kernel)) ggX8_law_X1_size
set_option maxRecDepth 20000 in
theorem ggX8_law_X8_isDay : GoodIn wsX8_law wsX8_isDay := goodIn_r _ [11] (by decide +kernel) (by decide +kernel)
set_option maxRecDepth 20000 in
theorem gX8_law_X8_isDay : GoodIn wsX8_law (va_wsS RX8 249 yX8_isDay wsX8_isDay) := goodIn_app (goodIn_of _ (by decide +kernel)) ggX8_law_X8_isDay
set_option maxRecDepth 20000 in
theorem ggX8_law_X8_isColour : GoodIn wsX8_law wsX8_isColour := goodIn_r _ [14] (by decide +kernel) (by decide +kernel)
set_option maxRecDepth 20000 in
theorem gX8_law_X8_isColour : GoodIn wsX8_law (va_wsS RX8 109 yX8_isColour wsX8_isColour) := goodIn_app (goodIn_of _ (by decide +kernel)) ggX8_law_X8_isColour
set_option maxRecDepth 20000 in
theorem ggX8_law_X1_add : GoodIn wsX8_law wsX1_add := goodIn_r _ [18, 19, 7, 20, 21, 31, 32, 33, 34] (by decide +kernel) (by decide +kernel)
set_option maxRecDepth 20000 in
theorem gX8_law_X1_add : GoodIn wsX8_law (wsV RX8 252 RX1 yX1_add wsX1_add) := goodIn_app (goodIn_of _ (by decide +kernel)) ggX8_law_X1_add
theorem dX8_law_0 : decode cX8_law 0 = .ok (.aload_n 0, 1) := by decide +kernel
theorem dX8_law_1 : decode cX8_law 1 = .ok (.getfield 61, 3) := by decide +kernel
theorem dX8_law_4 : decode cX8_law 4 = .ok (.invokevirtual 246, 3) := by decide +kernel
theorem dX8_law_7 : decode cX8_law 7 = .ok (.bipush 60, 2) := by decide +kernel
theorem dX8_law_9 : decode cX8_law 9 = .ok (.if_icmp .ge 27, 3) := by decide +kernel
theorem dX8_law_12 : decode cX8_law 12 = .ok (.iload_n 1, 1) := by decide +kernel
theorem dX8_law_13 : decode cX8_law 13 = .ok (.invokestatic 249, 3) := by decide +kernel
theorem dX8_law_16 : decode cX8_law 16 = .ok (.ifCond .eq 20, 3) := by decide +kernel
theorem dX8_law_19 : decode cX8_law 19 = .ok (.iload_n 2, 1) := by decide +kernel
theorem dX8_law_20 : decode cX8_law 20 = .ok (.invokestatic 109, 3) := by decide +kernel
theorem dX8_law_23 : decode cX8_law 23 = .ok (.ifCond .eq 13, 3) := by decide +kernel
theorem dX8_law_26 : decode cX8_law 26 = .ok (.iload_n 3, 1) := by decide +kernel
theorem dX8_law_27 : decode cX8_law 27 = .ok (.ifCond .lt 9, 3) := by decide +kernel
theorem dX8_law_30 : decode cX8_law 30 = .ok (.iload_n 3, 1) := by decide +kernel
theorem dX8_law_31 : decode cX8_law 31 = .ok (.bipush 9, 2) := by decide +kernel
theorem dX8_law_33 : decode cX8_law 33 = .ok (.if_icmp .le 5, 3) := by decide +kernel
theorem dX8_law_36 : decode cX8_law 36 = .ok (.iconst (-1), 1) := by decide +kernel
theorem dX8_law_37 : decode cX8_law 37 = .ok (.ireturn, 1) := by decide +kernel
theorem dX8_law_38 : decode cX8_law 38 = .ok (.aload_n 0, 1) := by decide +kernel
theorem dX8_law_39 : decode cX8_law 39 = .ok (.getfield 61, 3) := by decide +kernel
theorem dX8_law_42 : decode cX8_law 42 = .ok (.iload_n 1, 1) := by decide +kernel
theorem dX8_law_43 : decode cX8_law 43 = .ok (.iload_n 2, 1) := by decide +kernel
theorem dX8_law_44 : decode cX8_law 44 = .ok (.iload_n 3, 1) := by decide +kernel
theorem dX8_law_45 : decode cX8_law 45 = .ok (.invokevirtual 252, 3) := by decide +kernel
theorem dX8_law_48 : decode cX8_law 48 = .ok (.aload_n 0, 1) := by decide +kernel
theorem dX8_law_49 : decode cX8_law 49 = .ok (.getfield 61, 3) := by decide +kernel
theorem dX8_law_52 : decode cX8_law 52 = .ok (.invokevirtual 246, 3) := by decide +kernel
theorem dX8_law_55 : decode cX8_law 55 = .ok (.ireturn, 1) := by decide +kernel
set_option maxRecDepth 20000 in
theorem ggX8_rank_X8_isDay : GoodIn wsX8_rank wsX8_isDay := goodIn_r _ [12] (by decide +kernel) (by decide +kernel)
set_option maxRecDepth 20000 in
theorem gX8_rank_X8_isDay : GoodIn wsX8_rank (va_wsS RX8 249 yX8_isDay wsX8_isDay) := goodIn_app (goodIn_of _ (by decide +kernel)) ggX8_rank_X8_isDay
set_option maxRecDepth 20000 in
theorem ggX8_rank_X0_coloursWorn : GoodIn wsX8_rank wsX0_coloursWorn := goodIn_r _ [17, 18, 19, 20, 39, 40, 41, 42, 43, 44, 45] (by decide +kernel) (by decide +kernel)
set_option maxRecDepth 20000 in
theorem gX8_rank_X0_coloursWorn : GoodIn wsX8_rank (wsV RX8 257 RX0 yX0_coloursWorn wsX0_coloursWorn) := goodIn_app (goodIn_of _ (by decide +kernel)) ggX8_rank_X0_coloursWorn
set_option maxRecDepth 20000 in
theorem ggX8_rank_X1_inForce : GoodIn wsX8_rank wsX1_inForce := goodIn_r _ [25, 26, 27, 28, 29, 46, 47, 48, 49] (by decide +kernel) (by decide +kernel)
set_option maxRecDepth 20000 in
theorem gX8_rank_X1_inForce : GoodIn wsX8_rank (wsV RX8 260 RX1 yX1_inForce wsX1_inForce) := goodIn_app (goodIn_of _ (by decide +kernel)) ggX8_rank_X1_inForce
theorem dX8_rank_0 : decode cX8_rank 0 = .ok (.iload_n 1, 1) := by decide +kernel
theorem dX8_rank_1 : decode cX8_rank 1 = .ok (.invokestatic 249, 3) := by decide +kernel
theorem dX8_rank_4 : decode cX8_rank 4 = .ok (.ifCond .ne 13, 3) := by decide +kernel
theorem dX8_rank_7 : decode cX8_rank 7 = .ok (.new 73, 3) := by decide +kernel
theorem dX8_rank_10 : decode cX8_rank 10 = .ok (.dup, 1) := by decide +kernel
theorem dX8_rank_11 : decode cX8_rank 11 = .ok (.ldc 255, 2) := by decide +kernel
theorem dX8_rank_13 : decode cX8_rank 13 = .ok (.invokespecial 77, 3) := by decide +kernel
theorem dX8_rank_16 : decode cX8_rank 16 = .ok (.athrow, 1) := by decide +kernel
theorem dX8_rank_17 : decode cX8_rank 17 = .ok (.aload_n 0, 1) := by decide +kernel
theorem dX8_rank_18 : decode cX8_rank 18 = .ok (.getfield 26, 3) := by decide +kernel
theorem dX8_rank_21 : decode cX8_rank 21 = .ok (.invokevirtual 257, 3) := by decide +kernel
theorem dX8_rank_24 : decode cX8_rank 24 = .ok (.istore_n 2, 1) := by decide +kernel
theorem dX8_rank_25 : decode cX8_rank 25 = .ok (.iconst 0, 1) := by decide +kernel
theorem dX8_rank_26 : decode cX8_rank 26 = .ok (.istore_n 3, 1) := by decide +kernel
theorem dX8_rank_27 : decode cX8_rank 27 = .ok (.iconst 0, 1) := by decide +kernel
theorem dX8_rank_28 : decode cX8_rank 28 = .ok (.istore 4, 2) := by decide +kernel
theorem dX8_rank_30 : decode cX8_rank 30 = .ok (.iload 4, 2) := by decide +kernel
theorem dX8_rank_32 : decode cX8_rank 32 = .ok (.bipush 16, 2) := by decide +kernel
theorem dX8_rank_34 : decode cX8_rank 34 = .ok (.if_icmp .ge 33, 3) := by decide +kernel
theorem dX8_rank_37 : decode cX8_rank 37 = .ok (.iload_n 2, 1) := by decide +kernel
theorem dX8_rank_38 : decode cX8_rank 38 = .ok (.iload 4, 2) := by decide +kernel
theorem dX8_rank_40 : decode cX8_rank 40 = .ok (.ishr, 1) := by decide +kernel
theorem dX8_rank_41 : decode cX8_rank 41 = .ok (.iconst 1, 1) := by decide +kernel
theorem dX8_rank_42 : decode cX8_rank 42 = .ok (.iand, 1) := by decide +kernel
theorem dX8_rank_43 : decode cX8_rank 43 = .ok (.ifCond .eq 18, 3) := by decide +kernel
theorem dX8_rank_46 : decode cX8_rank 46 = .ok (.iload_n 3, 1) := by decide +kernel
theorem dX8_rank_47 : decode cX8_rank 47 = .ok (.aload_n 0, 1) := by decide +kernel
theorem dX8_rank_48 : decode cX8_rank 48 = .ok (.getfield 61, 3) := by decide +kernel
theorem dX8_rank_51 : decode cX8_rank 51 = .ok (.iload_n 1, 1) := by decide +kernel
theorem dX8_rank_52 : decode cX8_rank 52 = .ok (.iload 4, 2) := by decide +kernel
theorem dX8_rank_54 : decode cX8_rank 54 = .ok (.invokevirtual 260, 3) := by decide +kernel
theorem dX8_rank_57 : decode cX8_rank 57 = .ok (.invokestatic 263, 3) := by decide +kernel
theorem dX8_rank_60 : decode cX8_rank 60 = .ok (.istore_n 3, 1) := by decide +kernel
theorem dX8_rank_61 : decode cX8_rank 61 = .ok (.iinc 4 1, 3) := by decide +kernel
theorem dX8_rank_64 : decode cX8_rank 64 = .ok (.goto (-34), 3) := by decide +kernel
theorem dX8_rank_67 : decode cX8_rank 67 = .ok (.iload_n 3, 1) := by decide +kernel
theorem dX8_rank_68 : decode cX8_rank 68 = .ok (.ireturn, 1) := by decide +kernel
set_option maxRecDepth 20000 in
theorem ggX8_count_X0_threadsIn : GoodIn wsX8_count wsX0_threadsIn := goodIn_r _ [11, 12, 44, 45, 46, 47, 48, 49, 50] (by decide +kernel) (by decide +kernel)
set_option maxRecDepth 20000 in
theorem gX8_count_X0_threadsIn : GoodIn wsX8_count (wsV RX8 268 RX0 yX0_threadsIn wsX0_threadsIn) := goodIn_app (goodIn_of _ (by decide +kernel)) ggX8_count_X0_threadsIn
set_option maxRecDepth 20000 in
theorem ggX8_count_X7_strengthOf : GoodIn wsX8_count wsX7_strengthOf := goodIn_r _ [17, 18, 51, 52] (by decide +kernel) (by decide +kernel)
set_option maxRecDepth 20000 in
theorem gX8_count_X7_strengthOf : GoodIn wsX8_count (wsV RX8 131 RX7 yX7_strengthOf wsX7_strengthOf) := goodIn_app (goodIn_of _ (by decide +kernel)) ggX8_count_X7_strengthOf
set_option maxRecDepth 20000 in
theorem ggX8_count_X0_threads : GoodIn wsX8_count wsX0_threads := goodIn_r _ [22, 23, 44, 45, 46, 47, 48, 49, 50] (by decide +kernel) (by decide +kernel)
set_option maxRecDepth 20000 in
theorem gX8_count_X0_threads : GoodIn wsX8_count (wsV RX8 240 RX0 yX0_threads wsX0_threads) := goodIn_app (goodIn_of _ (by decide +kernel)) ggX8_count_X0_threads
set_option maxRecDepth 20000 in
theorem ggX8_count_X0_places : GoodIn wsX8_count wsX0_places := goodIn_r _ [27, 28, 44, 45, 46, 47, 48, 49, 50] (by decide +kernel) (by decide +kernel)
set_option maxRecDepth 20000 in
theorem gX8_count_X0_places : GoodIn wsX8_count (wsV RX8 243 RX0 yX0_places wsX0_places) := goodIn_app (goodIn_of _ (by decide +kernel)) ggX8_count_X0_places
set_option maxRecDepth 20000 in
theorem ggX8_count_X1_size : GoodIn wsX8_count wsX1_size := goodIn_r _ [33, 34, 53, 54, 55, 56] (by decide +kernel) (by decide +kernel)
set_option maxRecDepth 20000 in
theorem gX8_count_X1_size : GoodIn wsX8_count (wsV RX8 246 RX1 yX1_size wsX1_size) := goodIn_app (goodIn_of _ (by decide +kernel)) ggX8_count_X1_size
theorem dX8_count_0 : decode cX8_count 0 = .ok (.iload_n 1, 1) := by decide +kernel
theorem dX8_count_1 : decode cX8_count 1 = .ok (.ifCond .lt 9, 3) := by decide +kernel
theorem dX8_count_4 : decode cX8_count 4 = .ok (.iload_n 1, 1) := by decide +kernel
theorem dX8_count_5 : decode cX8_count 5 = .ok (.bipush 16, 2) := by decide +kernel
theorem dX8_count_7 : decode cX8_count 7 = .ok (.if_icmp .lt 13, 3) := by decide +kernel
theorem dX8_count_10 : decode cX8_count 10 = .ok (.new 200, 3) := by decide +kernel
theorem dX8_count_13 : decode cX8_count 13 = .ok (.dup, 1) := by decide +kernel
theorem dX8_count_14 : decode cX8_count 14 = .ok (.ldc 202, 2) := by decide +kernel
theorem dX8_count_16 : decode cX8_count 16 = .ok (.invokespecial 204, 3) := by decide +kernel
theorem dX8_count_19 : decode cX8_count 19 = .ok (.athrow, 1) := by decide +kernel
theorem dX8_count_20 : decode cX8_count 20 = .ok (.iload_n 1, 1) := by decide +kernel
theorem dX8_count_21 : decode cX8_count 21 = .ok (.bipush 8, 2) := by decide +kernel
theorem dX8_count_23 : decode cX8_count 23 = .ok (.if_icmp .lt 15, 3) := by decide +kernel
theorem dX8_count_26 : decode cX8_count 26 = .ok (.aload_n 0, 1) := by decide +kernel
theorem dX8_count_27 : decode cX8_count 27 = .ok (.getfield 26, 3) := by decide +kernel
theorem dX8_count_30 : decode cX8_count 30 = .ok (.iload_n 1, 1) := by decide +kernel
theorem dX8_count_31 : decode cX8_count 31 = .ok (.bipush 8, 2) := by decide +kernel
theorem dX8_count_33 : decode cX8_count 33 = .ok (.isub, 1) := by decide +kernel
theorem dX8_count_34 : decode cX8_count 34 = .ok (.invokevirtual 268, 3) := by decide +kernel
theorem dX8_count_37 : decode cX8_count 37 = .ok (.ireturn, 1) := by decide +kernel
theorem dX8_count_38 : decode cX8_count 38 = .ok (.iload_n 1, 1) := by decide +kernel
theorem dX8_count_39 : decode cX8_count 39 = .ok (.iconst 4, 1) := by decide +kernel
theorem dX8_count_40 : decode cX8_count 40 = .ok (.if_icmp .lt 14, 3) := by decide +kernel
theorem dX8_count_43 : decode cX8_count 43 = .ok (.aload_n 0, 1) := by decide +kernel
theorem dX8_count_44 : decode cX8_count 44 = .ok (.getfield 19, 3) := by decide +kernel
theorem dX8_count_47 : decode cX8_count 47 = .ok (.iload_n 1, 1) := by decide +kernel
theorem dX8_count_48 : decode cX8_count 48 = .ok (.iconst 4, 1) := by decide +kernel
theorem dX8_count_49 : decode cX8_count 49 = .ok (.isub, 1) := by decide +kernel
theorem dX8_count_50 : decode cX8_count 50 = .ok (.invokevirtual 131, 3) := by decide +kernel
theorem dX8_count_53 : decode cX8_count 53 = .ok (.ireturn, 1) := by decide +kernel
theorem dX8_count_54 : decode cX8_count 54 = .ok (.iload_n 1, 1) := by decide +kernel
theorem dX8_count_55 : decode cX8_count 55 = .ok (.tableswitch 46 0 2 #[25, 33, 41], 25) := by decide +kernel
theorem dX8_count_80 : decode cX8_count 80 = .ok (.aload_n 0, 1) := by decide +kernel
theorem dX8_count_81 : decode cX8_count 81 = .ok (.getfield 26, 3) := by decide +kernel
theorem dX8_count_84 : decode cX8_count 84 = .ok (.invokevirtual 240, 3) := by decide +kernel
theorem dX8_count_87 : decode cX8_count 87 = .ok (.ireturn, 1) := by decide +kernel
theorem dX8_count_88 : decode cX8_count 88 = .ok (.aload_n 0, 1) := by decide +kernel
theorem dX8_count_89 : decode cX8_count 89 = .ok (.getfield 26, 3) := by decide +kernel
theorem dX8_count_92 : decode cX8_count 92 = .ok (.invokevirtual 243, 3) := by decide +kernel
theorem dX8_count_95 : decode cX8_count 95 = .ok (.ireturn, 1) := by decide +kernel
theorem dX8_count_96 : decode cX8_count 96 = .ok (.aload_n 0, 1) := by decide +kernel
theorem dX8_count_97 : decode cX8_count 97 = .ok (.getfield 65, 3) := by decide +kernel
theorem dX8_count_100 : decode cX8_count 100 = .ok (.ireturn, 1) := by decide +kernel
theorem dX8_count_101 : decode cX8_count 101 = .ok (.aload_n 0, 1) := by decide +kernel
theorem dX8_count_102 : decode cX8_count 102 = .ok (.getfield 61, 3) := by decide +kernel
theorem dX8_count_105 : decode cX8_count 105 = .ok (.invokevirtual 246, 3) := by decide +kernel
theorem dX8_count_108 : decode cX8_count 108 = .ok (.ireturn, 1) := by decide +kernel
set_option maxRecDepth 20000 in
theorem ggX8_needThread_X0_threads : GoodIn wsX8_needThread wsX0_threads := goodIn_r _ [8, 9, 19, 20, 21, 22, 23, 24, 25] (by decide +kernel) (by decide +kernel)
set_option maxRecDepth 20000 in
theorem gX8_needThread_X0_threads : GoodIn wsX8_needThread (wsV RX8 240 RX0 yX0_threads wsX0_threads) := goodIn_app (goodIn_of _ (by decide +kernel)) ggX8_needThread_X0_threads
theorem dX8_needThread_0 : decode cX8_needThread 0 = .ok (.iload_n 1, 1) := by decide +kernel
theorem dX8_needThread_1 : decode cX8_needThread 1 = .ok (.ifCond .lt 14, 3) := by decide +kernel
theorem dX8_needThread_4 : decode cX8_needThread 4 = .ok (.iload_n 1, 1) := by decide +kernel
theorem dX8_needThread_5 : decode cX8_needThread 5 = .ok (.aload_n 0, 1) := by decide +kernel
theorem dX8_needThread_6 : decode cX8_needThread 6 = .ok (.getfield 26, 3) := by decide +kernel
theorem dX8_needThread_9 : decode cX8_needThread 9 = .ok (.invokevirtual 240, 3) := by decide +kernel
theorem dX8_needThread_12 : decode cX8_needThread 12 = .ok (.if_icmp .lt 14, 3) := by decide +kernel
theorem dX8_needThread_15 : decode cX8_needThread 15 = .ok (.new 112, 3) := by decide +kernel
theorem dX8_needThread_18 : decode cX8_needThread 18 = .ok (.dup, 1) := by decide +kernel
theorem dX8_needThread_19 : decode cX8_needThread 19 = .ok (.ldc_w 271, 3) := by decide +kernel
theorem dX8_needThread_22 : decode cX8_needThread 22 = .ok (.invokespecial 116, 3) := by decide +kernel
theorem dX8_needThread_25 : decode cX8_needThread 25 = .ok (.athrow, 1) := by decide +kernel
theorem dX8_needThread_26 : decode cX8_needThread 26 = .ok (.return_, 1) := by decide +kernel
set_option maxRecDepth 20000 in
theorem ggX8_needPlace_X0_places : GoodIn wsX8_needPlace wsX0_places := goodIn_r _ [8, 9, 19, 20, 21, 22, 23, 24, 25] (by decide +kernel) (by decide +kernel)
set_option maxRecDepth 20000 in
theorem gX8_needPlace_X0_places : GoodIn wsX8_needPlace (wsV RX8 243 RX0 yX0_places wsX0_places) := goodIn_app (goodIn_of _ (by decide +kernel)) ggX8_needPlace_X0_places
theorem dX8_needPlace_0 : decode cX8_needPlace 0 = .ok (.iload_n 1, 1) := by decide +kernel
theorem dX8_needPlace_1 : decode cX8_needPlace 1 = .ok (.ifCond .lt 14, 3) := by decide +kernel
theorem dX8_needPlace_4 : decode cX8_needPlace 4 = .ok (.iload_n 1, 1) := by decide +kernel
theorem dX8_needPlace_5 : decode cX8_needPlace 5 = .ok (.aload_n 0, 1) := by decide +kernel
theorem dX8_needPlace_6 : decode cX8_needPlace 6 = .ok (.getfield 26, 3) := by decide +kernel
theorem dX8_needPlace_9 : decode cX8_needPlace 9 = .ok (.invokevirtual 243, 3) := by decide +kernel
theorem dX8_needPlace_12 : decode cX8_needPlace 12 = .ok (.if_icmp .lt 14, 3) := by decide +kernel
theorem dX8_needPlace_15 : decode cX8_needPlace 15 = .ok (.new 112, 3) := by decide +kernel
theorem dX8_needPlace_18 : decode cX8_needPlace 18 = .ok (.dup, 1) := by decide +kernel
theorem dX8_needPlace_19 : decode cX8_needPlace 19 = .ok (.ldc_w 273, 3) := by decide +kernel
theorem dX8_needPlace_22 : decode cX8_needPlace 22 = .ok (.invokespecial 116, 3) := by decide +kernel
theorem dX8_needPlace_25 : decode cX8_needPlace 25 = .ok (.athrow, 1) := by decide +kernel
theorem dX8_needPlace_26 : decode cX8_needPlace 26 = .ok (.return_, 1) := by decide +kernel
theorem dX8_needBundle_0 : decode cX8_needBundle 0 = .ok (.iload_n 0, 1) := by decide +kernel
theorem dX8_needBundle_1 : decode cX8_needBundle 1 = .ok (.ifCond .lt 9, 3) := by decide +kernel
theorem dX8_needBundle_4 : decode cX8_needBundle 4 = .ok (.iload_n 0, 1) := by decide +kernel
theorem dX8_needBundle_5 : decode cX8_needBundle 5 = .ok (.bipush 8, 2) := by decide +kernel
theorem dX8_needBundle_7 : decode cX8_needBundle 7 = .ok (.if_icmp .lt 14, 3) := by decide +kernel
theorem dX8_needBundle_10 : decode cX8_needBundle 10 = .ok (.new 112, 3) := by decide +kernel
theorem dX8_needBundle_13 : decode cX8_needBundle 13 = .ok (.dup, 1) := by decide +kernel
theorem dX8_needBundle_14 : decode cX8_needBundle 14 = .ok (.ldc_w 275, 3) := by decide +kernel
theorem dX8_needBundle_17 : decode cX8_needBundle 17 = .ok (.invokespecial 116, 3) := by decide +kernel
theorem dX8_needBundle_20 : decode cX8_needBundle 20 = .ok (.athrow, 1) := by decide +kernel
theorem dX8_needBundle_21 : decode cX8_needBundle 21 = .ok (.return_, 1) := by decide +kernel
theorem dX8_needDye_0 : decode cX8_needDye 0 = .ok (.iload_n 0, 1) := by decide +kernel
theorem dX8_needDye_1 : decode cX8_needDye 1 = .ok (.ifCond .lt 8, 3) := by decide +kernel
theorem dX8_needDye_4 : decode cX8_needDye 4 = .ok (.iload_n 0, 1) := by decide +kernel
theorem dX8_needDye_5 : decode cX8_needDye 5 = .ok (.iconst 4, 1) := by decide +kernel
theorem dX8_needDye_6 : decode cX8_needDye 6 = .ok (.if_icmp .lt 14, 3) := by decide +kernel
theorem dX8_needDye_9 : decode cX8_needDye 9 = .ok (.new 112, 3) := by decide +kernel
theorem dX8_needDye_12 : decode cX8_needDye 12 = .ok (.dup, 1) := by decide +kernel
theorem dX8_needDye_13 : decode cX8_needDye 13 = .ok (.ldc_w 277, 3) := by decide +kernel
theorem dX8_needDye_16 : decode cX8_needDye 16 = .ok (.invokespecial 116, 3) := by decide +kernel
theorem dX8_needDye_19 : decode cX8_needDye 19 = .ok (.athrow, 1) := by decide +kernel
theorem dX8_needDye_20 : decode cX8_needDye 20 = .ok (.return_, 1) := by decide +kernel
set_option maxRecDepth 20000 in
theorem ggX8_needRange_X8_needBundle : GoodIn wsX8_needRange wsX8_needBundle := goodIn_ca (goodIn_r _ [6, 7, 8] (by decide +kernel) (by decide +kernel)) (goodIn_sub (fun _ h => List.mem_cons_of_mem _ (List.mem_append_right _ h)) (by decide +kernel))
set_option maxRecDepth 20000 in
theorem gX8_needRange_X8_needBundle : GoodIn wsX8_needRange (va_wsS RX8 91 yX8_needBundle wsX8_needBundle) := goodIn_app (goodIn_of _ (by decide +kernel)) ggX8_needRange_X8_needBundle
set_option maxRecDepth 20000 in
theorem ggX8_needRange_X8_needPlace : GoodIn wsX8_needRange wsX8_needPlace := goodIn_ca (goodIn_r _ [12, 7, 8, 13, 14, 15, 16, 17, 18, 19, 20, 21, 22, 23, 24, 25, 26, 27, 28, 29, 30, 31, 32, 33, 34, 35] (by decide +kernel) (by decide +kernel)) (goodIn_sub (fun _ h => List.mem_cons_of_mem _ (List.mem_append_right _ h)) (by decide +kernel))
set_option maxRecDepth 20000 in
theorem gX8_needRange_X8_needPlace : GoodIn wsX8_needRange (wsV RX8 158 RX8 yX8_needPlace wsX8_needPlace) := goodIn_app (goodIn_of _ (by decide +kernel)) ggX8_needRange_X8_needPlace
theorem dX8_needRange_0 : decode cX8_needRange 0 = .ok (.iload_n 1, 1) := by decide +kernel
theorem dX8_needRange_1 : decode cX8_needRange 1 = .ok (.invokestatic 91, 3) := by decide +kernel
theorem dX8_needRange_4 : decode cX8_needRange 4 = .ok (.aload_n 0, 1) := by decide +kernel
theorem dX8_needRange_5 : decode cX8_needRange 5 = .ok (.iload_n 2, 1) := by decide +kernel
theorem dX8_needRange_6 : decode cX8_needRange 6 = .ok (.invokevirtual 158, 3) := by decide +kernel
theorem dX8_needRange_9 : decode cX8_needRange 9 = .ok (.aload_n 0, 1) := by decide +kernel
theorem dX8_needRange_10 : decode cX8_needRange 10 = .ok (.iload_n 3, 1) := by decide +kernel
theorem dX8_needRange_11 : decode cX8_needRange 11 = .ok (.invokevirtual 158, 3) := by decide +kernel
theorem dX8_needRange_14 : decode cX8_needRange 14 = .ok (.iload_n 2, 1) := by decide +kernel
theorem dX8_needRange_15 : decode cX8_needRange 15 = .ok (.iload_n 3, 1) := by decide +kernel
theorem dX8_needRange_16 : decode cX8_needRange 16 = .ok (.if_icmp .le 14, 3) := by decide +kernel
theorem dX8_needRange_19 : decode cX8_needRange 19 = .ok (.new 73, 3) := by decide +kernel
theorem dX8_needRange_22 : decode cX8_needRange 22 = .ok (.dup, 1) := by decide +kernel
theorem dX8_needRange_23 : decode cX8_needRange 23 = .ok (.ldc_w 279, 3) := by decide +kernel
theorem dX8_needRange_26 : decode cX8_needRange 26 = .ok (.invokespecial 77, 3) := by decide +kernel
theorem dX8_needRange_29 : decode cX8_needRange 29 = .ok (.athrow, 1) := by decide +kernel
theorem dX8_needRange_30 : decode cX8_needRange 30 = .ok (.return_, 1) := by decide +kernel
theorem dX8_isColour_0 : decode cX8_isColour 0 = .ok (.iload_n 0, 1) := by decide +kernel
theorem dX8_isColour_1 : decode cX8_isColour 1 = .ok (.ifCond .lt 13, 3) := by decide +kernel
theorem dX8_isColour_4 : decode cX8_isColour 4 = .ok (.iload_n 0, 1) := by decide +kernel
theorem dX8_isColour_5 : decode cX8_isColour 5 = .ok (.bipush 16, 2) := by decide +kernel
theorem dX8_isColour_7 : decode cX8_isColour 7 = .ok (.if_icmp .ge 7, 3) := by decide +kernel
theorem dX8_isColour_10 : decode cX8_isColour 10 = .ok (.iconst 1, 1) := by decide +kernel
theorem dX8_isColour_11 : decode cX8_isColour 11 = .ok (.goto 4, 3) := by decide +kernel
theorem dX8_isColour_14 : decode cX8_isColour 14 = .ok (.iconst 0, 1) := by decide +kernel
theorem dX8_isColour_15 : decode cX8_isColour 15 = .ok (.ireturn, 1) := by decide +kernel
theorem dX8_isDay_0 : decode cX8_isDay 0 = .ok (.iload_n 0, 1) := by decide +kernel
theorem dX8_isDay_1 : decode cX8_isDay 1 = .ok (.ifCond .lt 14, 3) := by decide +kernel
theorem dX8_isDay_4 : decode cX8_isDay 4 = .ok (.iload_n 0, 1) := by decide +kernel
theorem dX8_isDay_5 : decode cX8_isDay 5 = .ok (.sipush 9999, 3) := by decide +kernel
theorem dX8_isDay_8 : decode cX8_isDay 8 = .ok (.if_icmp .gt 7, 3) := by decide +kernel
theorem dX8_isDay_11 : decode cX8_isDay 11 = .ok (.iconst 1, 1) := by decide +kernel
theorem dX8_isDay_12 : decode cX8_isDay 12 = .ok (.goto 4, 3) := by decide +kernel
theorem dX8_isDay_15 : decode cX8_isDay 15 = .ok (.iconst 0, 1) := by decide +kernel
theorem dX8_isDay_16 : decode cX8_isDay 16 = .ok (.ireturn, 1) := by decide +kernel
set_option maxRecDepth 20000 in
theorem ggX8_isRow_X8_bathsOf : GoodIn wsX8_isRow wsX8_bathsOf := goodIn_r _ [4, 5, 6, 3, 7] (by decide +kernel) (by decide +kernel)
set_option maxRecDepth 20000 in
theorem gX8_isRow_X8_bathsOf : GoodIn wsX8_isRow (va_wsS RX8 211 yX8_bathsOf wsX8_bathsOf) := goodIn_app (goodIn_of _ (by decide +kernel)) ggX8_isRow_X8_bathsOf
set_option maxRecDepth 20000 in
theorem ggX8_isRow_X8_dyeOf : GoodIn wsX8_isRow wsX8_dyeOf := goodIn_r _ [7] (by decide +kernel) (by decide +kernel)
set_option maxRecDepth 20000 in
theorem gX8_isRow_X8_dyeOf : GoodIn wsX8_isRow (va_wsS RX8 224 yX8_dyeOf wsX8_dyeOf) := goodIn_app (goodIn_of _ (by decide +kernel)) ggX8_isRow_X8_dyeOf
theorem dX8_isRow_0 : decode cX8_isRow 0 = .ok (.iload_n 0, 1) := by decide +kernel
theorem dX8_isRow_1 : decode cX8_isRow 1 = .ok (.invokestatic 211, 3) := by decide +kernel
theorem dX8_isRow_4 : decode cX8_isRow 4 = .ok (.istore_n 1, 1) := by decide +kernel
theorem dX8_isRow_5 : decode cX8_isRow 5 = .ok (.iconst 0, 1) := by decide +kernel
theorem dX8_isRow_6 : decode cX8_isRow 6 = .ok (.istore_n 2, 1) := by decide +kernel
theorem dX8_isRow_7 : decode cX8_isRow 7 = .ok (.iload_n 2, 1) := by decide +kernel
theorem dX8_isRow_8 : decode cX8_isRow 8 = .ok (.iload_n 1, 1) := by decide +kernel
theorem dX8_isRow_9 : decode cX8_isRow 9 = .ok (.if_icmp .ge 26, 3) := by decide +kernel
theorem dX8_isRow_12 : decode cX8_isRow 12 = .ok (.iload_n 0, 1) := by decide +kernel
theorem dX8_isRow_13 : decode cX8_isRow 13 = .ok (.iload_n 2, 1) := by decide +kernel
theorem dX8_isRow_14 : decode cX8_isRow 14 = .ok (.invokestatic 224, 3) := by decide +kernel
theorem dX8_isRow_17 : decode cX8_isRow 17 = .ok (.istore_n 3, 1) := by decide +kernel
theorem dX8_isRow_18 : decode cX8_isRow 18 = .ok (.iload_n 3, 1) := by decide +kernel
theorem dX8_isRow_19 : decode cX8_isRow 19 = .ok (.ifCond .lt 8, 3) := by decide +kernel
theorem dX8_isRow_22 : decode cX8_isRow 22 = .ok (.iload_n 3, 1) := by decide +kernel
theorem dX8_isRow_23 : decode cX8_isRow 23 = .ok (.iconst 4, 1) := by decide +kernel
theorem dX8_isRow_24 : decode cX8_isRow 24 = .ok (.if_icmp .lt 5, 3) := by decide +kernel
theorem dX8_isRow_27 : decode cX8_isRow 27 = .ok (.iconst 0, 1) := by decide +kernel
theorem dX8_isRow_28 : decode cX8_isRow 28 = .ok (.ireturn, 1) := by decide +kernel
theorem dX8_isRow_29 : decode cX8_isRow 29 = .ok (.iinc 2 1, 3) := by decide +kernel
theorem dX8_isRow_32 : decode cX8_isRow 32 = .ok (.goto (-25), 3) := by decide +kernel
theorem dX8_isRow_35 : decode cX8_isRow 35 = .ok (.iload_n 0, 1) := by decide +kernel
theorem dX8_isRow_36 : decode cX8_isRow 36 = .ok (.iconst 3, 1) := by decide +kernel
theorem dX8_isRow_37 : decode cX8_isRow 37 = .ok (.iload_n 1, 1) := by decide +kernel
theorem dX8_isRow_38 : decode cX8_isRow 38 = .ok (.imul, 1) := by decide +kernel
theorem dX8_isRow_39 : decode cX8_isRow 39 = .ok (.ishr, 1) := by decide +kernel
theorem dX8_isRow_40 : decode cX8_isRow 40 = .ok (.ifCond .ne 7, 3) := by decide +kernel
theorem dX8_isRow_43 : decode cX8_isRow 43 = .ok (.iconst 1, 1) := by decide +kernel
theorem dX8_isRow_44 : decode cX8_isRow 44 = .ok (.goto 4, 3) := by decide +kernel
theorem dX8_isRow_47 : decode cX8_isRow 47 = .ok (.iconst 0, 1) := by decide +kernel
theorem dX8_isRow_48 : decode cX8_isRow 48 = .ok (.ireturn, 1) := by decide +kernel
set_option maxRecDepth 20000 in
theorem ggX8_bathsOf_X8_dyeOf : GoodIn wsX8_bathsOf wsX8_dyeOf := goodIn_r _ [4] (by decide +kernel) (by decide +kernel)
set_option maxRecDepth 20000 in
theorem gX8_bathsOf_X8_dyeOf : GoodIn wsX8_bathsOf (va_wsS RX8 224 yX8_dyeOf wsX8_dyeOf) := goodIn_app (goodIn_of _ (by decide +kernel)) ggX8_bathsOf_X8_dyeOf
theorem dX8_bathsOf_0 : decode cX8_bathsOf 0 = .ok (.iconst 0, 1) := by decide +kernel
theorem dX8_bathsOf_1 : decode cX8_bathsOf 1 = .ok (.istore_n 1, 1) := by decide +kernel
theorem dX8_bathsOf_2 : decode cX8_bathsOf 2 = .ok (.iload_n 1, 1) := by decide +kernel
theorem dX8_bathsOf_3 : decode cX8_bathsOf 3 = .ok (.iconst 4, 1) := by decide +kernel
theorem dX8_bathsOf_4 : decode cX8_bathsOf 4 = .ok (.if_icmp .ge 18, 3) := by decide +kernel
theorem dX8_bathsOf_7 : decode cX8_bathsOf 7 = .ok (.iload_n 0, 1) := by decide +kernel
theorem dX8_bathsOf_8 : decode cX8_bathsOf 8 = .ok (.iload_n 1, 1) := by decide +kernel
theorem dX8_bathsOf_9 : decode cX8_bathsOf 9 = .ok (.invokestatic 224, 3) := by decide +kernel
theorem dX8_bathsOf_12 : decode cX8_bathsOf 12 = .ok (.iconst (-1), 1) := by decide +kernel
theorem dX8_bathsOf_13 : decode cX8_bathsOf 13 = .ok (.if_icmp .eq 9, 3) := by decide +kernel
theorem dX8_bathsOf_16 : decode cX8_bathsOf 16 = .ok (.iinc 1 1, 3) := by decide +kernel
theorem dX8_bathsOf_19 : decode cX8_bathsOf 19 = .ok (.goto (-17), 3) := by decide +kernel
theorem dX8_bathsOf_22 : decode cX8_bathsOf 22 = .ok (.iload_n 1, 1) := by decide +kernel
theorem dX8_bathsOf_23 : decode cX8_bathsOf 23 = .ok (.ireturn, 1) := by decide +kernel
theorem dX8_dyeOf_0 : decode cX8_dyeOf 0 = .ok (.iload_n 0, 1) := by decide +kernel
theorem dX8_dyeOf_1 : decode cX8_dyeOf 1 = .ok (.iconst 3, 1) := by decide +kernel
theorem dX8_dyeOf_2 : decode cX8_dyeOf 2 = .ok (.iload_n 1, 1) := by decide +kernel
theorem dX8_dyeOf_3 : decode cX8_dyeOf 3 = .ok (.imul, 1) := by decide +kernel
theorem dX8_dyeOf_4 : decode cX8_dyeOf 4 = .ok (.ishr, 1) := by decide +kernel
theorem dX8_dyeOf_5 : decode cX8_dyeOf 5 = .ok (.bipush 7, 2) := by decide +kernel
theorem dX8_dyeOf_7 : decode cX8_dyeOf 7 = .ok (.iand, 1) := by decide +kernel
theorem dX8_dyeOf_8 : decode cX8_dyeOf 8 = .ok (.iconst 1, 1) := by decide +kernel
theorem dX8_dyeOf_9 : decode cX8_dyeOf 9 = .ok (.isub, 1) := by decide +kernel
theorem dX8_dyeOf_10 : decode cX8_dyeOf 10 = .ok (.ireturn, 1) := by decide +kernel
theorem dX9_init_0 : decode cX9_init 0 = .ok (.aload_n 0, 1) := by decide +kernel
theorem dX9_init_1 : decode cX9_init 1 = .ok (.invokespecial 1, 3) := by decide +kernel
theorem dX9_init_4 : decode cX9_init 4 = .ok (.aload_n 0, 1) := by decide +kernel
theorem dX9_init_5 : decode cX9_init 5 = .ok (.iconst 1, 1) := by decide +kernel
theorem dX9_init_6 : decode cX9_init 6 = .ok (.putfield 7, 3) := by decide +kernel
theorem dX9_init_9 : decode cX9_init 9 = .ok (.aload_n 0, 1) := by decide +kernel
theorem dX9_init_10 : decode cX9_init 10 = .ok (.iconst 1, 1) := by decide +kernel
theorem dX9_init_11 : decode cX9_init 11 = .ok (.putfield 13, 3) := by decide +kernel
theorem dX9_init_14 : decode cX9_init 14 = .ok (.aload_n 0, 1) := by decide +kernel
theorem dX9_init_15 : decode cX9_init 15 = .ok (.bipush 16, 2) := by decide +kernel
theorem dX9_init_17 : decode cX9_init 17 = .ok (.newarray .int, 2) := by decide +kernel
theorem dX9_init_19 : decode cX9_init 19 = .ok (.putfield 16, 3) := by decide +kernel
theorem dX9_init_22 : decode cX9_init 22 = .ok (.aload_n 0, 1) := by decide +kernel
theorem dX9_init_23 : decode cX9_init 23 = .ok (.sipush 192, 3) := by decide +kernel
theorem dX9_init_26 : decode cX9_init 26 = .ok (.newarray .int, 2) := by decide +kernel
theorem dX9_init_28 : decode cX9_init 28 = .ok (.putfield 20, 3) := by decide +kernel
theorem dX9_init_31 : decode cX9_init 31 = .ok (.aload_n 0, 1) := by decide +kernel
theorem dX9_init_32 : decode cX9_init 32 = .ok (.bipush 64, 2) := by decide +kernel
theorem dX9_init_34 : decode cX9_init 34 = .ok (.newarray .int, 2) := by decide +kernel
theorem dX9_init_36 : decode cX9_init 36 = .ok (.putfield 23, 3) := by decide +kernel
theorem dX9_init_39 : decode cX9_init 39 = .ok (.aload_n 0, 1) := by decide +kernel
theorem dX9_init_40 : decode cX9_init 40 = .ok (.iconst 4, 1) := by decide +kernel
theorem dX9_init_41 : decode cX9_init 41 = .ok (.newarray .int, 2) := by decide +kernel
theorem dX9_init_43 : decode cX9_init 43 = .ok (.putfield 26, 3) := by decide +kernel
theorem dX9_init_46 : decode cX9_init 46 = .ok (.aload_n 0, 1) := by decide +kernel
theorem dX9_init_47 : decode cX9_init 47 = .ok (.sipush 384, 3) := by decide +kernel
theorem dX9_init_50 : decode cX9_init 50 = .ok (.newarray .int, 2) := by decide +kernel
theorem dX9_init_52 : decode cX9_init 52 = .ok (.putfield 29, 3) := by decide +kernel
theorem dX9_init_55 : decode cX9_init 55 = .ok (.aload_n 0, 1) := by decide +kernel
theorem dX9_init_56 : decode cX9_init 56 = .ok (.bipush 16, 2) := by decide +kernel
theorem dX9_init_58 : decode cX9_init 58 = .ok (.newarray .int, 2) := by decide +kernel
theorem dX9_init_60 : decode cX9_init 60 = .ok (.putfield 32, 3) := by decide +kernel
theorem dX9_init_63 : decode cX9_init 63 = .ok (.aload_n 0, 1) := by decide +kernel
theorem dX9_init_64 : decode cX9_init 64 = .ok (.bipush 16, 2) := by decide +kernel
theorem dX9_init_66 : decode cX9_init 66 = .ok (.newarray .int, 2) := by decide +kernel
theorem dX9_init_68 : decode cX9_init 68 = .ok (.putfield 35, 3) := by decide +kernel
theorem dX9_init_71 : decode cX9_init 71 = .ok (.aload_n 0, 1) := by decide +kernel
theorem dX9_init_72 : decode cX9_init 72 = .ok (.bipush 8, 2) := by decide +kernel
theorem dX9_init_74 : decode cX9_init 74 = .ok (.newarray .boolean, 2) := by decide +kernel
theorem dX9_init_76 : decode cX9_init 76 = .ok (.putfield 38, 3) := by decide +kernel
theorem dX9_init_79 : decode cX9_init 79 = .ok (.aload_n 0, 1) := by decide +kernel
theorem dX9_init_80 : decode cX9_init 80 = .ok (.sipush 192, 3) := by decide +kernel
theorem dX9_init_83 : decode cX9_init 83 = .ok (.newarray .boolean, 2) := by decide +kernel
theorem dX9_init_85 : decode cX9_init 85 = .ok (.putfield 42, 3) := by decide +kernel
theorem dX9_init_88 : decode cX9_init 88 = .ok (.aload_n 0, 1) := by decide +kernel
theorem dX9_init_89 : decode cX9_init 89 = .ok (.bipush 60, 2) := by decide +kernel
theorem dX9_init_91 : decode cX9_init 91 = .ok (.newarray .int, 2) := by decide +kernel
theorem dX9_init_93 : decode cX9_init 93 = .ok (.putfield 45, 3) := by decide +kernel
theorem dX9_init_96 : decode cX9_init 96 = .ok (.aload_n 0, 1) := by decide +kernel
theorem dX9_init_97 : decode cX9_init 97 = .ok (.bipush 60, 2) := by decide +kernel
theorem dX9_init_99 : decode cX9_init 99 = .ok (.newarray .int, 2) := by decide +kernel
theorem dX9_init_101 : decode cX9_init 101 = .ok (.putfield 48, 3) := by decide +kernel
theorem dX9_init_104 : decode cX9_init 104 = .ok (.aload_n 0, 1) := by decide +kernel
theorem dX9_init_105 : decode cX9_init 105 = .ok (.bipush 60, 2) := by decide +kernel
theorem dX9_init_107 : decode cX9_init 107 = .ok (.newarray .int, 2) := by decide +kernel
theorem dX9_init_109 : decode cX9_init 109 = .ok (.putfield 51, 3) := by decide +kernel
theorem dX9_init_112 : decode cX9_init 112 = .ok (.aload_n 0, 1) := by decide +kernel
theorem dX9_init_113 : decode cX9_init 113 = .ok (.sipush 192, 3) := by decide +kernel
theorem dX9_init_116 : decode cX9_init 116 = .ok (.newarray .int, 2) := by decide +kernel
theorem dX9_init_118 : decode cX9_init 118 = .ok (.putfield 54, 3) := by decide +kernel
theorem dX9_init_121 : decode cX9_init 121 = .ok (.aload_n 0, 1) := by decide +kernel
theorem dX9_init_122 : decode cX9_init 122 = .ok (.sipush 192, 3) := by decide +kernel
theorem dX9_init_125 : decode cX9_init 125 = .ok (.newarray .int, 2) := by decide +kernel
theorem dX9_init_127 : decode cX9_init 127 = .ok (.putfield 57, 3) := by decide +kernel
theorem dX9_init_130 : decode cX9_init 130 = .ok (.aload_n 0, 1) := by decide +kernel
theorem dX9_init_131 : decode cX9_init 131 = .ok (.sipush 400, 3) := by decide +kernel
theorem dX9_init_134 : decode cX9_init 134 = .ok (.newarray .int, 2) := by decide +kernel
theorem dX9_init_136 : decode cX9_init 136 = .ok (.putfield 60, 3) := by decide +kernel
theorem dX9_init_139 : decode cX9_init 139 = .ok (.aload_n 0, 1) := by decide +kernel
theorem dX9_init_140 : decode cX9_init 140 = .ok (.iconst 4, 1) := by decide +kernel
theorem dX9_init_141 : decode cX9_init 141 = .ok (.newarray .int, 2) := by decide +kernel
theorem dX9_init_143 : decode cX9_init 143 = .ok (.putfield 63, 3) := by decide +kernel
theorem dX9_init_146 : decode cX9_init 146 = .ok (.iconst 0, 1) := by decide +kernel
theorem dX9_init_147 : decode cX9_init 147 = .ok (.istore_n 1, 1) := by decide +kernel
theorem dX9_init_148 : decode cX9_init 148 = .ok (.iload_n 1, 1) := by decide +kernel
theorem dX9_init_149 : decode cX9_init 149 = .ok (.bipush 16, 2) := by decide +kernel
theorem dX9_init_151 : decode cX9_init 151 = .ok (.if_icmp .ge 37, 3) := by decide +kernel
theorem dX9_init_154 : decode cX9_init 154 = .ok (.iconst 0, 1) := by decide +kernel
theorem dX9_init_155 : decode cX9_init 155 = .ok (.istore_n 2, 1) := by decide +kernel
theorem dX9_init_156 : decode cX9_init 156 = .ok (.iload_n 2, 1) := by decide +kernel
theorem dX9_init_157 : decode cX9_init 157 = .ok (.iconst 4, 1) := by decide +kernel
theorem dX9_init_158 : decode cX9_init 158 = .ok (.if_icmp .ge 24, 3) := by decide +kernel
theorem dX9_init_161 : decode cX9_init 161 = .ok (.aload_n 0, 1) := by decide +kernel
theorem dX9_init_162 : decode cX9_init 162 = .ok (.getfield 23, 3) := by decide +kernel
theorem dX9_init_165 : decode cX9_init 165 = .ok (.iconst 4, 1) := by decide +kernel
theorem dX9_init_166 : decode cX9_init 166 = .ok (.iload_n 1, 1) := by decide +kernel
theorem dX9_init_167 : decode cX9_init 167 = .ok (.imul, 1) := by decide +kernel
theorem dX9_init_168 : decode cX9_init 168 = .ok (.iload_n 2, 1) := by decide +kernel
theorem dX9_init_169 : decode cX9_init 169 = .ok (.iadd, 1) := by decide +kernel
theorem dX9_init_170 : decode cX9_init 170 = .ok (.iload_n 1, 1) := by decide +kernel
theorem dX9_init_171 : decode cX9_init 171 = .ok (.iconst 1, 1) := by decide +kernel
theorem dX9_init_172 : decode cX9_init 172 = .ok (.iload_n 2, 1) := by decide +kernel
theorem dX9_init_173 : decode cX9_init 173 = .ok (.ishl, 1) := by decide +kernel
theorem dX9_init_174 : decode cX9_init 174 = .ok (.ior, 1) := by decide +kernel
theorem dX9_init_175 : decode cX9_init 175 = .ok (.iastore, 1) := by decide +kernel
theorem dX9_init_176 : decode cX9_init 176 = .ok (.iinc 2 1, 3) := by decide +kernel
theorem dX9_init_179 : decode cX9_init 179 = .ok (.goto (-23), 3) := by decide +kernel
theorem dX9_init_182 : decode cX9_init 182 = .ok (.iinc 1 1, 3) := by decide +kernel
theorem dX9_init_185 : decode cX9_init 185 = .ok (.goto (-37), 3) := by decide +kernel
theorem dX9_init_188 : decode cX9_init 188 = .ok (.return_, 1) := by decide +kernel
theorem dX9_thrown_0 : decode cX9_thrown 0 = .ok (.aload_n 0, 1) := by decide +kernel
theorem dX9_thrown_1 : decode cX9_thrown 1 = .ok (.getfield 66, 3) := by decide +kernel
theorem dX9_thrown_4 : decode cX9_thrown 4 = .ok (.ireturn, 1) := by decide +kernel
theorem dX9_right_0 : decode cX9_right 0 = .ok (.aload_n 0, 1) := by decide +kernel
theorem dX9_right_1 : decode cX9_right 1 = .ok (.getfield 66, 3) := by decide +kernel
theorem dX9_right_4 : decode cX9_right 4 = .ok (.ifCond .ne 12, 3) := by decide +kernel
theorem dX9_right_7 : decode cX9_right 7 = .ok (.iload_n 1, 1) := by decide +kernel
theorem dX9_right_8 : decode cX9_right 8 = .ok (.ifCond .ne 8, 3) := by decide +kernel
theorem dX9_right_11 : decode cX9_right 11 = .ok (.aload_n 0, 1) := by decide +kernel
theorem dX9_right_12 : decode cX9_right 12 = .ok (.iload_n 2, 1) := by decide +kernel
theorem dX9_right_13 : decode cX9_right 13 = .ok (.putfield 66, 3) := by decide +kernel
theorem dX9_right_16 : decode cX9_right 16 = .ok (.aload_n 0, 1) := by decide +kernel
theorem dX9_right_17 : decode cX9_right 17 = .ok (.getfield 66, 3) := by decide +kernel
theorem dX9_right_20 : decode cX9_right 20 = .ok (.ifCond .ne 7, 3) := by decide +kernel
theorem dX9_right_23 : decode cX9_right 23 = .ok (.iconst 1, 1) := by decide +kernel
theorem dX9_right_24 : decode cX9_right 24 = .ok (.goto 4, 3) := by decide +kernel
theorem dX9_right_27 : decode cX9_right 27 = .ok (.iconst 0, 1) := by decide +kernel
theorem dX9_right_28 : decode cX9_right 28 = .ok (.ireturn, 1) := by decide +kernel
theorem dX9_undyed_0 : decode cX9_undyed 0 = .ok (.iconst 0, 1) := by decide +kernel
theorem dX9_undyed_1 : decode cX9_undyed 1 = .ok (.istore_n 1, 1) := by decide +kernel
theorem dX9_undyed_2 : decode cX9_undyed 2 = .ok (.iload_n 1, 1) := by decide +kernel
theorem dX9_undyed_3 : decode cX9_undyed 3 = .ok (.sipush 192, 3) := by decide +kernel
theorem dX9_undyed_6 : decode cX9_undyed 6 = .ok (.if_icmp .ge 23, 3) := by decide +kernel
theorem dX9_undyed_9 : decode cX9_undyed 9 = .ok (.aload_n 0, 1) := by decide +kernel
theorem dX9_undyed_10 : decode cX9_undyed 10 = .ok (.getfield 20, 3) := by decide +kernel
theorem dX9_undyed_13 : decode cX9_undyed 13 = .ok (.iload_n 1, 1) := by decide +kernel
theorem dX9_undyed_14 : decode cX9_undyed 14 = .ok (.iconst 0, 1) := by decide +kernel
theorem dX9_undyed_15 : decode cX9_undyed 15 = .ok (.iastore, 1) := by decide +kernel
theorem dX9_undyed_16 : decode cX9_undyed 16 = .ok (.aload_n 0, 1) := by decide +kernel
theorem dX9_undyed_17 : decode cX9_undyed 17 = .ok (.getfield 42, 3) := by decide +kernel
theorem dX9_undyed_20 : decode cX9_undyed 20 = .ok (.iload_n 1, 1) := by decide +kernel
theorem dX9_undyed_21 : decode cX9_undyed 21 = .ok (.iconst 0, 1) := by decide +kernel
theorem dX9_undyed_22 : decode cX9_undyed 22 = .ok (.bastore, 1) := by decide +kernel
theorem dX9_undyed_23 : decode cX9_undyed 23 = .ok (.iinc 1 1, 3) := by decide +kernel
theorem dX9_undyed_26 : decode cX9_undyed 26 = .ok (.goto (-24), 3) := by decide +kernel
theorem dX9_undyed_29 : decode cX9_undyed 29 = .ok (.return_, 1) := by decide +kernel
set_option maxRecDepth 20000 in
theorem ggX9_frame_X9_right : GoodIn wsX9_frame wsX9_right := goodIn_r _ [14, 1, 21, 22, 23, 24, 25, 26, 27, 28, 29, 30, 31, 32, 33, 34, 35, 36, 37, 38, 39, 40, 41, 42, 43, 44] (by decide +kernel) (by decide +kernel)
set_option maxRecDepth 20000 in
theorem gX9_frame_X9_right : GoodIn wsX9_frame (wsV RX9 69 RX9 yX9_right wsX9_right) := goodIn_app (goodIn_of _ (by decide +kernel)) ggX9_frame_X9_right
set_option maxRecDepth 20000 in
theorem ggX9_frame_X9_undyed : GoodIn wsX9_frame wsX9_undyed := goodIn_r _ [18, 19, 20, 21, 22, 23, 24, 25, 26, 27, 28, 29, 30, 31, 32, 33, 34, 35, 36, 37, 38, 39, 40, 41, 42, 43, 44] (by decide +kernel) (by decide +kernel)
set_option maxRecDepth 20000 in
theorem gX9_frame_X9_undyed : GoodIn wsX9_frame (wsV RX9 77 RX9 yX9_undyed wsX9_undyed) := goodIn_app (goodIn_of _ (by decide +kernel)) ggX9_frame_X9_undyed
theorem dX9_frame_0 : decode cX9_frame 0 = .ok (.aload_n 0, 1) := by decide +kernel
theorem dX9_frame_1 : decode cX9_frame 1 = .ok (.iconst 0, 1) := by decide +kernel
theorem dX9_frame_2 : decode cX9_frame 2 = .ok (.putfield 66, 3) := by decide +kernel
theorem dX9_frame_5 : decode cX9_frame 5 = .ok (.aload_n 0, 1) := by decide +kernel
theorem dX9_frame_6 : decode cX9_frame 6 = .ok (.iload_n 1, 1) := by decide +kernel
theorem dX9_frame_7 : decode cX9_frame 7 = .ok (.iconst 1, 1) := by decide +kernel
theorem dX9_frame_8 : decode cX9_frame 8 = .ok (.if_icmp .lt 24, 3) := by decide +kernel
theorem dX9_frame_11 : decode cX9_frame 11 = .ok (.iload_n 1, 1) := by decide +kernel
theorem dX9_frame_12 : decode cX9_frame 12 = .ok (.bipush 16, 2) := by decide +kernel
theorem dX9_frame_14 : decode cX9_frame 14 = .ok (.if_icmp .gt 18, 3) := by decide +kernel
theorem dX9_frame_17 : decode cX9_frame 17 = .ok (.iload_n 2, 1) := by decide +kernel
theorem dX9_frame_18 : decode cX9_frame 18 = .ok (.iconst 1, 1) := by decide +kernel
theorem dX9_frame_19 : decode cX9_frame 19 = .ok (.if_icmp .lt 13, 3) := by decide +kernel
theorem dX9_frame_22 : decode cX9_frame 22 = .ok (.iload_n 2, 1) := by decide +kernel
theorem dX9_frame_23 : decode cX9_frame 23 = .ok (.bipush 24, 2) := by decide +kernel
theorem dX9_frame_25 : decode cX9_frame 25 = .ok (.if_icmp .gt 7, 3) := by decide +kernel
theorem dX9_frame_28 : decode cX9_frame 28 = .ok (.iconst 1, 1) := by decide +kernel
theorem dX9_frame_29 : decode cX9_frame 29 = .ok (.goto 4, 3) := by decide +kernel
theorem dX9_frame_32 : decode cX9_frame 32 = .ok (.iconst 0, 1) := by decide +kernel
theorem dX9_frame_33 : decode cX9_frame 33 = .ok (.iconst 1, 1) := by decide +kernel
theorem dX9_frame_34 : decode cX9_frame 34 = .ok (.invokevirtual 69, 3) := by decide +kernel
theorem dX9_frame_37 : decode cX9_frame 37 = .ok (.ifCond .ne 4, 3) := by decide +kernel
theorem dX9_frame_40 : decode cX9_frame 40 = .ok (.return_, 1) := by decide +kernel
theorem dX9_frame_41 : decode cX9_frame 41 = .ok (.aload_n 0, 1) := by decide +kernel
theorem dX9_frame_42 : decode cX9_frame 42 = .ok (.iload_n 1, 1) := by decide +kernel
theorem dX9_frame_43 : decode cX9_frame 43 = .ok (.putfield 7, 3) := by decide +kernel
theorem dX9_frame_46 : decode cX9_frame 46 = .ok (.aload_n 0, 1) := by decide +kernel
theorem dX9_frame_47 : decode cX9_frame 47 = .ok (.iload_n 2, 1) := by decide +kernel
theorem dX9_frame_48 : decode cX9_frame 48 = .ok (.putfield 13, 3) := by decide +kernel
theorem dX9_frame_51 : decode cX9_frame 51 = .ok (.iconst 0, 1) := by decide +kernel
theorem dX9_frame_52 : decode cX9_frame 52 = .ok (.istore_n 3, 1) := by decide +kernel
theorem dX9_frame_53 : decode cX9_frame 53 = .ok (.iload_n 3, 1) := by decide +kernel
theorem dX9_frame_54 : decode cX9_frame 54 = .ok (.sipush 384, 3) := by decide +kernel
theorem dX9_frame_57 : decode cX9_frame 57 = .ok (.if_icmp .ge 16, 3) := by decide +kernel
theorem dX9_frame_60 : decode cX9_frame 60 = .ok (.aload_n 0, 1) := by decide +kernel
theorem dX9_frame_61 : decode cX9_frame 61 = .ok (.getfield 29, 3) := by decide +kernel
theorem dX9_frame_64 : decode cX9_frame 64 = .ok (.iload_n 3, 1) := by decide +kernel
theorem dX9_frame_65 : decode cX9_frame 65 = .ok (.iconst 0, 1) := by decide +kernel
theorem dX9_frame_66 : decode cX9_frame 66 = .ok (.iastore, 1) := by decide +kernel
theorem dX9_frame_67 : decode cX9_frame 67 = .ok (.iinc 3 1, 3) := by decide +kernel
theorem dX9_frame_70 : decode cX9_frame 70 = .ok (.goto (-17), 3) := by decide +kernel
theorem dX9_frame_73 : decode cX9_frame 73 = .ok (.iconst 0, 1) := by decide +kernel
theorem dX9_frame_74 : decode cX9_frame 74 = .ok (.istore_n 3, 1) := by decide +kernel
theorem dX9_frame_75 : decode cX9_frame 75 = .ok (.iload_n 3, 1) := by decide +kernel
theorem dX9_frame_76 : decode cX9_frame 76 = .ok (.bipush 16, 2) := by decide +kernel
theorem dX9_frame_78 : decode cX9_frame 78 = .ok (.if_icmp .ge 30, 3) := by decide +kernel
theorem dX9_frame_81 : decode cX9_frame 81 = .ok (.aload_n 0, 1) := by decide +kernel
theorem dX9_frame_82 : decode cX9_frame 82 = .ok (.getfield 16, 3) := by decide +kernel
theorem dX9_frame_85 : decode cX9_frame 85 = .ok (.iload_n 3, 1) := by decide +kernel
theorem dX9_frame_86 : decode cX9_frame 86 = .ok (.iconst 0, 1) := by decide +kernel
theorem dX9_frame_87 : decode cX9_frame 87 = .ok (.iastore, 1) := by decide +kernel
theorem dX9_frame_88 : decode cX9_frame 88 = .ok (.aload_n 0, 1) := by decide +kernel
theorem dX9_frame_89 : decode cX9_frame 89 = .ok (.getfield 32, 3) := by decide +kernel
theorem dX9_frame_92 : decode cX9_frame 92 = .ok (.iload_n 3, 1) := by decide +kernel
theorem dX9_frame_93 : decode cX9_frame 93 = .ok (.iconst 0, 1) := by decide +kernel
theorem dX9_frame_94 : decode cX9_frame 94 = .ok (.iastore, 1) := by decide +kernel
theorem dX9_frame_95 : decode cX9_frame 95 = .ok (.aload_n 0, 1) := by decide +kernel
theorem dX9_frame_96 : decode cX9_frame 96 = .ok (.getfield 35, 3) := by decide +kernel
theorem dX9_frame_99 : decode cX9_frame 99 = .ok (.iload_n 3, 1) := by decide +kernel
theorem dX9_frame_100 : decode cX9_frame 100 = .ok (.iconst 0, 1) := by decide +kernel
theorem dX9_frame_101 : decode cX9_frame 101 = .ok (.iastore, 1) := by decide +kernel
theorem dX9_frame_102 : decode cX9_frame 102 = .ok (.iinc 3 1, 3) := by decide +kernel
theorem dX9_frame_105 : decode cX9_frame 105 = .ok (.goto (-30), 3) := by decide +kernel
theorem dX9_frame_108 : decode cX9_frame 108 = .ok (.iconst 0, 1) := by decide +kernel
theorem dX9_frame_109 : decode cX9_frame 109 = .ok (.istore_n 3, 1) := by decide +kernel
theorem dX9_frame_110 : decode cX9_frame 110 = .ok (.iload_n 3, 1) := by decide +kernel
theorem dX9_frame_111 : decode cX9_frame 111 = .ok (.bipush 8, 2) := by decide +kernel
theorem dX9_frame_113 : decode cX9_frame 113 = .ok (.if_icmp .ge 16, 3) := by decide +kernel
theorem dX9_frame_116 : decode cX9_frame 116 = .ok (.aload_n 0, 1) := by decide +kernel
theorem dX9_frame_117 : decode cX9_frame 117 = .ok (.getfield 38, 3) := by decide +kernel
theorem dX9_frame_120 : decode cX9_frame 120 = .ok (.iload_n 3, 1) := by decide +kernel
theorem dX9_frame_121 : decode cX9_frame 121 = .ok (.iconst 0, 1) := by decide +kernel
theorem dX9_frame_122 : decode cX9_frame 122 = .ok (.bastore, 1) := by decide +kernel
theorem dX9_frame_123 : decode cX9_frame 123 = .ok (.iinc 3 1, 3) := by decide +kernel
theorem dX9_frame_126 : decode cX9_frame 126 = .ok (.goto (-16), 3) := by decide +kernel
theorem dX9_frame_129 : decode cX9_frame 129 = .ok (.aload_n 0, 1) := by decide +kernel
theorem dX9_frame_130 : decode cX9_frame 130 = .ok (.iconst 0, 1) := by decide +kernel
theorem dX9_frame_131 : decode cX9_frame 131 = .ok (.putfield 73, 3) := by decide +kernel
theorem dX9_frame_134 : decode cX9_frame 134 = .ok (.aload_n 0, 1) := by decide +kernel
theorem dX9_frame_135 : decode cX9_frame 135 = .ok (.invokevirtual 77, 3) := by decide +kernel
theorem dX9_frame_138 : decode cX9_frame 138 = .ok (.return_, 1) := by decide +kernel
set_option maxRecDepth 20000 in
theorem ggX9_isThread_X9_right : GoodIn wsX9_isThread wsX9_right := goodIn_r _ [6, 7, 8, 9, 10, 11, 12, 13, 14, 15, 16, 17, 18, 19, 20, 21, 22, 23, 24, 25, 26, 27, 28, 29, 30, 31] (by decide +kernel) (by decide +kernel)
set_option maxRecDepth 20000 in
theorem gX9_isThread_X9_right : GoodIn wsX9_isThread (wsV RX9 69 RX9 yX9_right wsX9_right) := goodIn_app (goodIn_of _ (by decide +kernel)) ggX9_isThread_X9_right
theorem dX9_isThread_0 : decode cX9_isThread 0 = .ok (.aload_n 0, 1) := by decide +kernel
theorem dX9_isThread_1 : decode cX9_isThread 1 = .ok (.iload_n 1, 1) := by decide +kernel
theorem dX9_isThread_2 : decode cX9_isThread 2 = .ok (.ifCond .lt 15, 3) := by decide +kernel
theorem dX9_isThread_5 : decode cX9_isThread 5 = .ok (.iload_n 1, 1) := by decide +kernel
theorem dX9_isThread_6 : decode cX9_isThread 6 = .ok (.aload_n 0, 1) := by decide +kernel
theorem dX9_isThread_7 : decode cX9_isThread 7 = .ok (.getfield 7, 3) := by decide +kernel
theorem dX9_isThread_10 : decode cX9_isThread 10 = .ok (.if_icmp .ge 7, 3) := by decide +kernel
theorem dX9_isThread_13 : decode cX9_isThread 13 = .ok (.iconst 1, 1) := by decide +kernel
theorem dX9_isThread_14 : decode cX9_isThread 14 = .ok (.goto 4, 3) := by decide +kernel
theorem dX9_isThread_17 : decode cX9_isThread 17 = .ok (.iconst 0, 1) := by decide +kernel
theorem dX9_isThread_18 : decode cX9_isThread 18 = .ok (.iconst 1, 1) := by decide +kernel
theorem dX9_isThread_19 : decode cX9_isThread 19 = .ok (.invokevirtual 69, 3) := by decide +kernel
theorem dX9_isThread_22 : decode cX9_isThread 22 = .ok (.ireturn, 1) := by decide +kernel
set_option maxRecDepth 20000 in
theorem ggX9_isBundle_X9_right : GoodIn wsX9_isBundle wsX9_right := goodIn_r _ [5, 6, 7, 8, 9, 10, 11, 12, 13, 14, 15, 16, 17, 18, 19, 20, 21, 22, 23, 24, 25, 26, 27, 28, 29, 30] (by decide +kernel) (by decide +kernel)
set_option maxRecDepth 20000 in
theorem gX9_isBundle_X9_right : GoodIn wsX9_isBundle (wsV RX9 69 RX9 yX9_right wsX9_right) := goodIn_app (goodIn_of _ (by decide +kernel)) ggX9_isBundle_X9_right
theorem dX9_isBundle_0 : decode cX9_isBundle 0 = .ok (.aload_n 0, 1) := by decide +kernel
theorem dX9_isBundle_1 : decode cX9_isBundle 1 = .ok (.iload_n 1, 1) := by decide +kernel
theorem dX9_isBundle_2 : decode cX9_isBundle 2 = .ok (.ifCond .lt 13, 3) := by decide +kernel
theorem dX9_isBundle_5 : decode cX9_isBundle 5 = .ok (.iload_n 1, 1) := by decide +kernel
theorem dX9_isBundle_6 : decode cX9_isBundle 6 = .ok (.bipush 8, 2) := by decide +kernel
theorem dX9_isBundle_8 : decode cX9_isBundle 8 = .ok (.if_icmp .ge 7, 3) := by decide +kernel
theorem dX9_isBundle_11 : decode cX9_isBundle 11 = .ok (.iconst 1, 1) := by decide +kernel
theorem dX9_isBundle_12 : decode cX9_isBundle 12 = .ok (.goto 4, 3) := by decide +kernel
theorem dX9_isBundle_15 : decode cX9_isBundle 15 = .ok (.iconst 0, 1) := by decide +kernel
theorem dX9_isBundle_16 : decode cX9_isBundle 16 = .ok (.iconst 1, 1) := by decide +kernel
theorem dX9_isBundle_17 : decode cX9_isBundle 17 = .ok (.invokevirtual 69, 3) := by decide +kernel
theorem dX9_isBundle_20 : decode cX9_isBundle 20 = .ok (.ireturn, 1) := by decide +kernel
set_option maxRecDepth 20000 in
theorem ggX9_isPlace_X9_right : GoodIn wsX9_isPlace wsX9_right := goodIn_r _ [6, 7, 8, 9, 10, 11, 12, 13, 14, 15, 16, 17, 18, 19, 20, 21, 22, 23, 24, 25, 26, 27, 28, 29, 30, 31] (by decide +kernel) (by decide +kernel)
set_option maxRecDepth 20000 in
theorem gX9_isPlace_X9_right : GoodIn wsX9_isPlace (wsV RX9 69 RX9 yX9_right wsX9_right) := goodIn_app (goodIn_of _ (by decide +kernel)) ggX9_isPlace_X9_right
theorem dX9_isPlace_0 : decode cX9_isPlace 0 = .ok (.aload_n 0, 1) := by decide +kernel
theorem dX9_isPlace_1 : decode cX9_isPlace 1 = .ok (.iload_n 1, 1) := by decide +kernel
theorem dX9_isPlace_2 : decode cX9_isPlace 2 = .ok (.ifCond .lt 15, 3) := by decide +kernel
theorem dX9_isPlace_5 : decode cX9_isPlace 5 = .ok (.iload_n 1, 1) := by decide +kernel
theorem dX9_isPlace_6 : decode cX9_isPlace 6 = .ok (.aload_n 0, 1) := by decide +kernel
theorem dX9_isPlace_7 : decode cX9_isPlace 7 = .ok (.getfield 13, 3) := by decide +kernel
theorem dX9_isPlace_10 : decode cX9_isPlace 10 = .ok (.if_icmp .ge 7, 3) := by decide +kernel
theorem dX9_isPlace_13 : decode cX9_isPlace 13 = .ok (.iconst 1, 1) := by decide +kernel
theorem dX9_isPlace_14 : decode cX9_isPlace 14 = .ok (.goto 4, 3) := by decide +kernel
theorem dX9_isPlace_17 : decode cX9_isPlace 17 = .ok (.iconst 0, 1) := by decide +kernel
theorem dX9_isPlace_18 : decode cX9_isPlace 18 = .ok (.iconst 1, 1) := by decide +kernel
theorem dX9_isPlace_19 : decode cX9_isPlace 19 = .ok (.invokevirtual 69, 3) := by decide +kernel
theorem dX9_isPlace_22 : decode cX9_isPlace 22 = .ok (.ireturn, 1) := by decide +kernel
set_option maxRecDepth 20000 in
theorem ggX9_into_X9_isThread : GoodIn wsX9_into wsX9_isThread := goodIn_r _ [8, 9, 10, 11, 12, 7, 13, 1, 24, 25, 26, 27, 28, 29, 30, 31, 32, 33, 34, 35, 36, 37, 38, 39, 40, 41, 42, 43, 44, 45, 46, 47] (by decide +kernel) (by decide +kernel)
set_option maxRecDepth 20000 in
theorem gX9_into_X9_isThread : GoodIn wsX9_into (wsV RX9 80 RX9 yX9_isThread wsX9_isThread) := goodIn_app (goodIn_of _ (by decide +kernel)) ggX9_into_X9_isThread
set_option maxRecDepth 20000 in
theorem ggX9_into_X9_isBundle : GoodIn wsX9_into wsX9_isBundle := goodIn_r _ [17, 10, 11, 12, 7, 13, 1, 24, 25, 26, 27, 28, 29, 30, 31, 32, 33, 34, 35, 36, 37, 38, 39, 40, 41, 42, 43, 44, 45, 46, 47] (by decide +kernel) (by decide +kernel)
set_option maxRecDepth 20000 in
theorem gX9_into_X9_isBundle : GoodIn wsX9_into (wsV RX9 84 RX9 yX9_isBundle wsX9_isBundle) := goodIn_app (goodIn_of _ (by decide +kernel)) ggX9_into_X9_isBundle
set_option maxRecDepth 20000 in
theorem ggX9_into_X9_undyed : GoodIn wsX9_into wsX9_undyed := goodIn_r _ [21, 22, 23, 24, 25, 26, 27, 28, 29, 30, 31, 32, 33, 34, 35, 36, 37, 38, 39, 40, 41, 42, 43, 44, 45, 46, 47] (by decide +kernel) (by decide +kernel)
set_option maxRecDepth 20000 in
theorem gX9_into_X9_undyed : GoodIn wsX9_into (wsV RX9 77 RX9 yX9_undyed wsX9_undyed) := goodIn_app (goodIn_of _ (by decide +kernel)) ggX9_into_X9_undyed
theorem dX9_into_0 : decode cX9_into 0 = .ok (.aload_n 0, 1) := by decide +kernel
theorem dX9_into_1 : decode cX9_into 1 = .ok (.iconst 0, 1) := by decide +kernel
theorem dX9_into_2 : decode cX9_into 2 = .ok (.putfield 66, 3) := by decide +kernel
theorem dX9_into_5 : decode cX9_into 5 = .ok (.aload_n 0, 1) := by decide +kernel
theorem dX9_into_6 : decode cX9_into 6 = .ok (.iload_n 1, 1) := by decide +kernel
theorem dX9_into_7 : decode cX9_into 7 = .ok (.invokevirtual 80, 3) := by decide +kernel
theorem dX9_into_10 : decode cX9_into 10 = .ok (.ifCond .eq 11, 3) := by decide +kernel
theorem dX9_into_13 : decode cX9_into 13 = .ok (.aload_n 0, 1) := by decide +kernel
theorem dX9_into_14 : decode cX9_into 14 = .ok (.iload_n 2, 1) := by decide +kernel
theorem dX9_into_15 : decode cX9_into 15 = .ok (.invokevirtual 84, 3) := by decide +kernel
theorem dX9_into_18 : decode cX9_into 18 = .ok (.ifCond .ne 5, 3) := by decide +kernel
theorem dX9_into_21 : decode cX9_into 21 = .ok (.iconst 0, 1) := by decide +kernel
theorem dX9_into_22 : decode cX9_into 22 = .ok (.ireturn, 1) := by decide +kernel
theorem dX9_into_23 : decode cX9_into 23 = .ok (.aload_n 0, 1) := by decide +kernel
theorem dX9_into_24 : decode cX9_into 24 = .ok (.getfield 16, 3) := by decide +kernel
theorem dX9_into_27 : decode cX9_into 27 = .ok (.iload_n 1, 1) := by decide +kernel
theorem dX9_into_28 : decode cX9_into 28 = .ok (.iaload, 1) := by decide +kernel
theorem dX9_into_29 : decode cX9_into 29 = .ok (.istore_n 3, 1) := by decide +kernel
theorem dX9_into_30 : decode cX9_into 30 = .ok (.aload_n 0, 1) := by decide +kernel
theorem dX9_into_31 : decode cX9_into 31 = .ok (.getfield 16, 3) := by decide +kernel
theorem dX9_into_34 : decode cX9_into 34 = .ok (.iload_n 1, 1) := by decide +kernel
theorem dX9_into_35 : decode cX9_into 35 = .ok (.iload_n 2, 1) := by decide +kernel
theorem dX9_into_36 : decode cX9_into 36 = .ok (.iastore, 1) := by decide +kernel
theorem dX9_into_37 : decode cX9_into 37 = .ok (.aload_n 0, 1) := by decide +kernel
theorem dX9_into_38 : decode cX9_into 38 = .ok (.iconst 0, 1) := by decide +kernel
theorem dX9_into_39 : decode cX9_into 39 = .ok (.putfield 73, 3) := by decide +kernel
theorem dX9_into_42 : decode cX9_into 42 = .ok (.aload_n 0, 1) := by decide +kernel
theorem dX9_into_43 : decode cX9_into 43 = .ok (.invokevirtual 77, 3) := by decide +kernel
theorem dX9_into_46 : decode cX9_into 46 = .ok (.iload_n 3, 1) := by decide +kernel
theorem dX9_into_47 : decode cX9_into 47 = .ok (.ireturn, 1) := by decide +kernel
set_option maxRecDepth 20000 in
theorem ggX9_fold_X9_isBundle : GoodIn wsX9_fold wsX9_isBundle := goodIn_r _ [8, 9, 10, 11, 7, 12, 1, 19, 20, 21, 22, 23, 24, 25, 26, 27, 28, 29, 30, 31, 32, 33, 34, 35, 36, 37, 38, 39, 40, 41, 42] (by decide +kernel) (by decide +kernel)
set_option maxRecDepth 20000 in
theorem gX9_fold_X9_isBundle : GoodIn wsX9_fold (wsV RX9 84 RX9 yX9_isBundle wsX9_isBundle) := goodIn_app (goodIn_of _ (by decide +kernel)) ggX9_fold_X9_isBundle
set_option maxRecDepth 20000 in
theorem ggX9_fold_X9_undyed : GoodIn wsX9_fold wsX9_undyed := goodIn_r _ [16, 17, 18, 19, 20, 21, 22, 23, 24, 25, 26, 27, 28, 29, 30, 31, 32, 33, 34, 35, 36, 37, 38, 39, 40, 41, 42] (by decide +kernel) (by decide +kernel)
set_option maxRecDepth 20000 in
theorem gX9_fold_X9_undyed : GoodIn wsX9_fold (wsV RX9 77 RX9 yX9_undyed wsX9_undyed) := goodIn_app (goodIn_of _ (by decide +kernel)) ggX9_fold_X9_undyed
theorem dX9_fold_0 : decode cX9_fold 0 = .ok (.aload_n 0, 1) := by decide +kernel
theorem dX9_fold_1 : decode cX9_fold 1 = .ok (.iconst 0, 1) := by decide +kernel
theorem dX9_fold_2 : decode cX9_fold 2 = .ok (.putfield 66, 3) := by decide +kernel
theorem dX9_fold_5 : decode cX9_fold 5 = .ok (.aload_n 0, 1) := by decide +kernel
theorem dX9_fold_6 : decode cX9_fold 6 = .ok (.iload_n 1, 1) := by decide +kernel
theorem dX9_fold_7 : decode cX9_fold 7 = .ok (.invokevirtual 84, 3) := by decide +kernel
theorem dX9_fold_10 : decode cX9_fold 10 = .ok (.ifCond .ne 5, 3) := by decide +kernel
theorem dX9_fold_13 : decode cX9_fold 13 = .ok (.iconst 0, 1) := by decide +kernel
theorem dX9_fold_14 : decode cX9_fold 14 = .ok (.ireturn, 1) := by decide +kernel
theorem dX9_fold_15 : decode cX9_fold 15 = .ok (.aload_n 0, 1) := by decide +kernel
theorem dX9_fold_16 : decode cX9_fold 16 = .ok (.getfield 38, 3) := by decide +kernel
theorem dX9_fold_19 : decode cX9_fold 19 = .ok (.iload_n 1, 1) := by decide +kernel
theorem dX9_fold_20 : decode cX9_fold 20 = .ok (.baload, 1) := by decide +kernel
theorem dX9_fold_21 : decode cX9_fold 21 = .ok (.istore_n 3, 1) := by decide +kernel
theorem dX9_fold_22 : decode cX9_fold 22 = .ok (.aload_n 0, 1) := by decide +kernel
theorem dX9_fold_23 : decode cX9_fold 23 = .ok (.getfield 38, 3) := by decide +kernel
theorem dX9_fold_26 : decode cX9_fold 26 = .ok (.iload_n 1, 1) := by decide +kernel
theorem dX9_fold_27 : decode cX9_fold 27 = .ok (.iload_n 2, 1) := by decide +kernel
theorem dX9_fold_28 : decode cX9_fold 28 = .ok (.bastore, 1) := by decide +kernel
theorem dX9_fold_29 : decode cX9_fold 29 = .ok (.aload_n 0, 1) := by decide +kernel
theorem dX9_fold_30 : decode cX9_fold 30 = .ok (.iconst 0, 1) := by decide +kernel
theorem dX9_fold_31 : decode cX9_fold 31 = .ok (.putfield 73, 3) := by decide +kernel
theorem dX9_fold_34 : decode cX9_fold 34 = .ok (.aload_n 0, 1) := by decide +kernel
theorem dX9_fold_35 : decode cX9_fold 35 = .ok (.invokevirtual 77, 3) := by decide +kernel
theorem dX9_fold_38 : decode cX9_fold 38 = .ok (.iload_n 3, 1) := by decide +kernel
theorem dX9_fold_39 : decode cX9_fold 39 = .ok (.ireturn, 1) := by decide +kernel
set_option maxRecDepth 20000 in
theorem ggX9_table_X9_right : GoodIn wsX9_table wsX9_right := goodIn_r _ [8, 1, 9, 10, 11, 12, 13, 14, 15, 16, 17, 18, 19, 20, 21, 22, 23, 24, 25, 26, 27, 28, 29, 30, 31, 32] (by decide +kernel) (by decide +kernel)
set_option maxRecDepth 20000 in
theorem gX9_table_X9_right : GoodIn wsX9_table (wsV RX9 69 RX9 yX9_right wsX9_right) := goodIn_app (goodIn_of _ (by decide +kernel)) ggX9_table_X9_right
theorem dX9_table_0 : decode cX9_table 0 = .ok (.aload_n 0, 1) := by decide +kernel
theorem dX9_table_1 : decode cX9_table 1 = .ok (.iconst 0, 1) := by decide +kernel
theorem dX9_table_2 : decode cX9_table 2 = .ok (.putfield 66, 3) := by decide +kernel
theorem dX9_table_5 : decode cX9_table 5 = .ok (.aload_n 0, 1) := by decide +kernel
theorem dX9_table_6 : decode cX9_table 6 = .ok (.iload_n 1, 1) := by decide +kernel
theorem dX9_table_7 : decode cX9_table 7 = .ok (.ifCond .lt 22, 3) := by decide +kernel
theorem dX9_table_10 : decode cX9_table 10 = .ok (.iload_n 1, 1) := by decide +kernel
theorem dX9_table_11 : decode cX9_table 11 = .ok (.bipush 16, 2) := by decide +kernel
theorem dX9_table_13 : decode cX9_table 13 = .ok (.if_icmp .ge 16, 3) := by decide +kernel
theorem dX9_table_16 : decode cX9_table 16 = .ok (.iload_n 2, 1) := by decide +kernel
theorem dX9_table_17 : decode cX9_table 17 = .ok (.ifCond .lt 12, 3) := by decide +kernel
theorem dX9_table_20 : decode cX9_table 20 = .ok (.iload_n 2, 1) := by decide +kernel
theorem dX9_table_21 : decode cX9_table 21 = .ok (.iconst 4, 1) := by decide +kernel
theorem dX9_table_22 : decode cX9_table 22 = .ok (.if_icmp .ge 7, 3) := by decide +kernel
theorem dX9_table_25 : decode cX9_table 25 = .ok (.iconst 1, 1) := by decide +kernel
theorem dX9_table_26 : decode cX9_table 26 = .ok (.goto 4, 3) := by decide +kernel
theorem dX9_table_29 : decode cX9_table 29 = .ok (.iconst 0, 1) := by decide +kernel
theorem dX9_table_30 : decode cX9_table 30 = .ok (.iconst 1, 1) := by decide +kernel
theorem dX9_table_31 : decode cX9_table 31 = .ok (.invokevirtual 69, 3) := by decide +kernel
theorem dX9_table_34 : decode cX9_table 34 = .ok (.ifCond .eq 26, 3) := by decide +kernel
theorem dX9_table_37 : decode cX9_table 37 = .ok (.aload_n 0, 1) := by decide +kernel
theorem dX9_table_38 : decode cX9_table 38 = .ok (.iload_n 3, 1) := by decide +kernel
theorem dX9_table_39 : decode cX9_table 39 = .ok (.ifCond .lt 13, 3) := by decide +kernel
theorem dX9_table_42 : decode cX9_table 42 = .ok (.iload_n 3, 1) := by decide +kernel
theorem dX9_table_43 : decode cX9_table 43 = .ok (.bipush 16, 2) := by decide +kernel
theorem dX9_table_45 : decode cX9_table 45 = .ok (.if_icmp .ge 7, 3) := by decide +kernel
theorem dX9_table_48 : decode cX9_table 48 = .ok (.iconst 1, 1) := by decide +kernel
theorem dX9_table_49 : decode cX9_table 49 = .ok (.goto 4, 3) := by decide +kernel
theorem dX9_table_52 : decode cX9_table 52 = .ok (.iconst 0, 1) := by decide +kernel
theorem dX9_table_53 : decode cX9_table 53 = .ok (.iconst 2, 1) := by decide +kernel
theorem dX9_table_54 : decode cX9_table 54 = .ok (.invokevirtual 69, 3) := by decide +kernel
theorem dX9_table_57 : decode cX9_table 57 = .ok (.ifCond .ne 5, 3) := by decide +kernel
theorem dX9_table_60 : decode cX9_table 60 = .ok (.iconst 0, 1) := by decide +kernel
theorem dX9_table_61 : decode cX9_table 61 = .ok (.ireturn, 1) := by decide +kernel
theorem dX9_table_62 : decode cX9_table 62 = .ok (.aload_n 0, 1) := by decide +kernel
theorem dX9_table_63 : decode cX9_table 63 = .ok (.getfield 23, 3) := by decide +kernel
theorem dX9_table_66 : decode cX9_table 66 = .ok (.iconst 4, 1) := by decide +kernel
theorem dX9_table_67 : decode cX9_table 67 = .ok (.iload_n 1, 1) := by decide +kernel
theorem dX9_table_68 : decode cX9_table 68 = .ok (.imul, 1) := by decide +kernel
theorem dX9_table_69 : decode cX9_table 69 = .ok (.iload_n 2, 1) := by decide +kernel
theorem dX9_table_70 : decode cX9_table 70 = .ok (.iadd, 1) := by decide +kernel
theorem dX9_table_71 : decode cX9_table 71 = .ok (.iaload, 1) := by decide +kernel
theorem dX9_table_72 : decode cX9_table 72 = .ok (.istore 4, 2) := by decide +kernel
theorem dX9_table_74 : decode cX9_table 74 = .ok (.aload_n 0, 1) := by decide +kernel
theorem dX9_table_75 : decode cX9_table 75 = .ok (.getfield 23, 3) := by decide +kernel
theorem dX9_table_78 : decode cX9_table 78 = .ok (.iconst 4, 1) := by decide +kernel
theorem dX9_table_79 : decode cX9_table 79 = .ok (.iload_n 1, 1) := by decide +kernel
theorem dX9_table_80 : decode cX9_table 80 = .ok (.imul, 1) := by decide +kernel
theorem dX9_table_81 : decode cX9_table 81 = .ok (.iload_n 2, 1) := by decide +kernel
theorem dX9_table_82 : decode cX9_table 82 = .ok (.iadd, 1) := by decide +kernel
theorem dX9_table_83 : decode cX9_table 83 = .ok (.iload_n 3, 1) := by decide +kernel
theorem dX9_table_84 : decode cX9_table 84 = .ok (.iastore, 1) := by decide +kernel
theorem dX9_table_85 : decode cX9_table 85 = .ok (.aload_n 0, 1) := by decide +kernel
theorem dX9_table_86 : decode cX9_table 86 = .ok (.iconst 0, 1) := by decide +kernel
theorem dX9_table_87 : decode cX9_table 87 = .ok (.putfield 73, 3) := by decide +kernel
theorem dX9_table_90 : decode cX9_table 90 = .ok (.iload 4, 2) := by decide +kernel
theorem dX9_table_92 : decode cX9_table 92 = .ok (.ireturn, 1) := by decide +kernel
set_option maxRecDepth 20000 in
theorem ggX9_vat_X9_right : GoodIn wsX9_vat wsX9_right := goodIn_r _ [8, 1, 9, 10, 11, 12, 13, 14, 15, 16, 17, 18, 19, 20, 21, 22, 23, 24, 25, 26, 27, 28, 29, 30, 31, 32] (by decide +kernel) (by decide +kernel)
set_option maxRecDepth 20000 in
theorem gX9_vat_X9_right : GoodIn wsX9_vat (wsV RX9 69 RX9 yX9_right wsX9_right) := goodIn_app (goodIn_of _ (by decide +kernel)) ggX9_vat_X9_right
theorem dX9_vat_0 : decode cX9_vat 0 = .ok (.aload_n 0, 1) := by decide +kernel
theorem dX9_vat_1 : decode cX9_vat 1 = .ok (.iconst 0, 1) := by decide +kernel
theorem dX9_vat_2 : decode cX9_vat 2 = .ok (.putfield 66, 3) := by decide +kernel
theorem dX9_vat_5 : decode cX9_vat 5 = .ok (.aload_n 0, 1) := by decide +kernel
theorem dX9_vat_6 : decode cX9_vat 6 = .ok (.iload_n 1, 1) := by decide +kernel
theorem dX9_vat_7 : decode cX9_vat 7 = .ok (.ifCond .lt 12, 3) := by decide +kernel
theorem dX9_vat_10 : decode cX9_vat 10 = .ok (.iload_n 1, 1) := by decide +kernel
theorem dX9_vat_11 : decode cX9_vat 11 = .ok (.iconst 4, 1) := by decide +kernel
theorem dX9_vat_12 : decode cX9_vat 12 = .ok (.if_icmp .ge 7, 3) := by decide +kernel
theorem dX9_vat_15 : decode cX9_vat 15 = .ok (.iconst 1, 1) := by decide +kernel
theorem dX9_vat_16 : decode cX9_vat 16 = .ok (.goto 4, 3) := by decide +kernel
theorem dX9_vat_19 : decode cX9_vat 19 = .ok (.iconst 0, 1) := by decide +kernel
theorem dX9_vat_20 : decode cX9_vat 20 = .ok (.iconst 1, 1) := by decide +kernel
theorem dX9_vat_21 : decode cX9_vat 21 = .ok (.invokevirtual 69, 3) := by decide +kernel
theorem dX9_vat_24 : decode cX9_vat 24 = .ok (.ifCond .ne 5, 3) := by decide +kernel
theorem dX9_vat_27 : decode cX9_vat 27 = .ok (.iconst 0, 1) := by decide +kernel
theorem dX9_vat_28 : decode cX9_vat 28 = .ok (.ireturn, 1) := by decide +kernel
theorem dX9_vat_29 : decode cX9_vat 29 = .ok (.iload_n 2, 1) := by decide +kernel
theorem dX9_vat_30 : decode cX9_vat 30 = .ok (.iconst 1, 1) := by decide +kernel
theorem dX9_vat_31 : decode cX9_vat 31 = .ok (.if_icmp .lt 16, 3) := by decide +kernel
theorem dX9_vat_34 : decode cX9_vat 34 = .ok (.iload_n 2, 1) := by decide +kernel
theorem dX9_vat_35 : decode cX9_vat 35 = .ok (.ldc 87, 2) := by decide +kernel
theorem dX9_vat_37 : decode cX9_vat 37 = .ok (.aload_n 0, 1) := by decide +kernel
theorem dX9_vat_38 : decode cX9_vat 38 = .ok (.getfield 26, 3) := by decide +kernel
theorem dX9_vat_41 : decode cX9_vat 41 = .ok (.iload_n 1, 1) := by decide +kernel
theorem dX9_vat_42 : decode cX9_vat 42 = .ok (.iaload, 1) := by decide +kernel
theorem dX9_vat_43 : decode cX9_vat 43 = .ok (.isub, 1) := by decide +kernel
theorem dX9_vat_44 : decode cX9_vat 44 = .ok (.if_icmp .le 5, 3) := by decide +kernel
theorem dX9_vat_47 : decode cX9_vat 47 = .ok (.iconst (-1), 1) := by decide +kernel
theorem dX9_vat_48 : decode cX9_vat 48 = .ok (.ireturn, 1) := by decide +kernel
theorem dX9_vat_49 : decode cX9_vat 49 = .ok (.aload_n 0, 1) := by decide +kernel
theorem dX9_vat_50 : decode cX9_vat 50 = .ok (.getfield 26, 3) := by decide +kernel
theorem dX9_vat_53 : decode cX9_vat 53 = .ok (.iload_n 1, 1) := by decide +kernel
theorem dX9_vat_54 : decode cX9_vat 54 = .ok (.dup2, 1) := by decide +kernel
theorem dX9_vat_55 : decode cX9_vat 55 = .ok (.iaload, 1) := by decide +kernel
theorem dX9_vat_56 : decode cX9_vat 56 = .ok (.iload_n 2, 1) := by decide +kernel
theorem dX9_vat_57 : decode cX9_vat 57 = .ok (.iadd, 1) := by decide +kernel
theorem dX9_vat_58 : decode cX9_vat 58 = .ok (.iastore, 1) := by decide +kernel
theorem dX9_vat_59 : decode cX9_vat 59 = .ok (.aload_n 0, 1) := by decide +kernel
theorem dX9_vat_60 : decode cX9_vat 60 = .ok (.getfield 26, 3) := by decide +kernel
theorem dX9_vat_63 : decode cX9_vat 63 = .ok (.iload_n 1, 1) := by decide +kernel
theorem dX9_vat_64 : decode cX9_vat 64 = .ok (.iaload, 1) := by decide +kernel
theorem dX9_vat_65 : decode cX9_vat 65 = .ok (.ireturn, 1) := by decide +kernel
theorem dX9_many_0 : decode cX9_many 0 = .ok (.iconst 0, 1) := by decide +kernel
theorem dX9_many_1 : decode cX9_many 1 = .ok (.istore_n 2, 1) := by decide +kernel
theorem dX9_many_2 : decode cX9_many 2 = .ok (.iconst 0, 1) := by decide +kernel
theorem dX9_many_3 : decode cX9_many 3 = .ok (.istore_n 3, 1) := by decide +kernel
theorem dX9_many_4 : decode cX9_many 4 = .ok (.iload_n 3, 1) := by decide +kernel
theorem dX9_many_5 : decode cX9_many 5 = .ok (.aload_n 0, 1) := by decide +kernel
theorem dX9_many_6 : decode cX9_many 6 = .ok (.getfield 7, 3) := by decide +kernel
theorem dX9_many_9 : decode cX9_many 9 = .ok (.if_icmp .ge 22, 3) := by decide +kernel
theorem dX9_many_12 : decode cX9_many 12 = .ok (.aload_n 0, 1) := by decide +kernel
theorem dX9_many_13 : decode cX9_many 13 = .ok (.getfield 16, 3) := by decide +kernel
theorem dX9_many_16 : decode cX9_many 16 = .ok (.iload_n 3, 1) := by decide +kernel
theorem dX9_many_17 : decode cX9_many 17 = .ok (.iaload, 1) := by decide +kernel
theorem dX9_many_18 : decode cX9_many 18 = .ok (.iload_n 1, 1) := by decide +kernel
theorem dX9_many_19 : decode cX9_many 19 = .ok (.if_icmp .ne 6, 3) := by decide +kernel
theorem dX9_many_22 : decode cX9_many 22 = .ok (.iinc 2 1, 3) := by decide +kernel
theorem dX9_many_25 : decode cX9_many 25 = .ok (.iinc 3 1, 3) := by decide +kernel
theorem dX9_many_28 : decode cX9_many 28 = .ok (.goto (-24), 3) := by decide +kernel
theorem dX9_many_31 : decode cX9_many 31 = .ok (.iload_n 2, 1) := by decide +kernel
theorem dX9_many_32 : decode cX9_many 32 = .ok (.ireturn, 1) := by decide +kernel
theorem dX9_binds_0 : decode cX9_binds 0 = .ok (.bipush 24, 2) := by decide +kernel
theorem dX9_binds_2 : decode cX9_binds 2 = .ok (.iload_n 1, 1) := by decide +kernel
theorem dX9_binds_3 : decode cX9_binds 3 = .ok (.imul, 1) := by decide +kernel
theorem dX9_binds_4 : decode cX9_binds 4 = .ok (.iload_n 2, 1) := by decide +kernel
theorem dX9_binds_5 : decode cX9_binds 5 = .ok (.iadd, 1) := by decide +kernel
theorem dX9_binds_6 : decode cX9_binds 6 = .ok (.istore 4, 2) := by decide +kernel
theorem dX9_binds_8 : decode cX9_binds 8 = .ok (.aload_n 0, 1) := by decide +kernel
theorem dX9_binds_9 : decode cX9_binds 9 = .ok (.getfield 42, 3) := by decide +kernel
theorem dX9_binds_12 : decode cX9_binds 12 = .ok (.iload 4, 2) := by decide +kernel
theorem dX9_binds_14 : decode cX9_binds 14 = .ok (.baload, 1) := by decide +kernel
theorem dX9_binds_15 : decode cX9_binds 15 = .ok (.iload_n 3, 1) := by decide +kernel
theorem dX9_binds_16 : decode cX9_binds 16 = .ok (.if_icmp .ne 5, 3) := by decide +kernel
theorem dX9_binds_19 : decode cX9_binds 19 = .ok (.iconst 0, 1) := by decide +kernel
theorem dX9_binds_20 : decode cX9_binds 20 = .ok (.ireturn, 1) := by decide +kernel
theorem dX9_binds_21 : decode cX9_binds 21 = .ok (.aload_n 0, 1) := by decide +kernel
theorem dX9_binds_22 : decode cX9_binds 22 = .ok (.getfield 42, 3) := by decide +kernel
theorem dX9_binds_25 : decode cX9_binds 25 = .ok (.iload 4, 2) := by decide +kernel
theorem dX9_binds_27 : decode cX9_binds 27 = .ok (.iload_n 3, 1) := by decide +kernel
theorem dX9_binds_28 : decode cX9_binds 28 = .ok (.bastore, 1) := by decide +kernel
theorem dX9_binds_29 : decode cX9_binds 29 = .ok (.iconst 1, 1) := by decide +kernel
theorem dX9_binds_30 : decode cX9_binds 30 = .ok (.ireturn, 1) := by decide +kernel
set_option maxRecDepth 20000 in
theorem ggX9_ties_X9_isBundle : GoodIn wsX9_ties wsX9_isBundle := goodIn_r _ [8, 9, 10, 11, 7, 12, 1, 22, 23, 24, 25, 26, 27, 28, 29, 30, 31, 32, 33, 34, 35, 36, 37, 38, 39, 40, 41, 42, 43, 44, 45] (by decide +kernel) (by decide +kernel)
set_option maxRecDepth 20000 in
theorem gX9_ties_X9_isBundle : GoodIn wsX9_ties (wsV RX9 84 RX9 yX9_isBundle wsX9_isBundle) := goodIn_app (goodIn_of _ (by decide +kernel)) ggX9_ties_X9_isBundle
set_option maxRecDepth 20000 in
theorem ggX9_ties_X9_isPlace : GoodIn wsX9_ties wsX9_isPlace := goodIn_r _ [16, 3, 9, 10, 11, 7, 12, 1, 22, 23, 24, 25, 26, 27, 28, 29, 30, 31, 32, 33, 34, 35, 36, 37, 38, 39, 40, 41, 42, 43, 44, 45] (by decide +kernel) (by decide +kernel)
set_option maxRecDepth 20000 in
theorem gX9_ties_X9_isPlace : GoodIn wsX9_ties (wsV RX9 88 RX9 yX9_isPlace wsX9_isPlace) := goodIn_app (goodIn_of _ (by decide +kernel)) ggX9_ties_X9_isPlace
set_option maxRecDepth 20000 in
theorem ggX9_ties_X9_right : GoodIn wsX9_ties wsX9_right := goodIn_r _ [12, 1, 22, 23, 24, 25, 26, 27, 28, 29, 30, 31, 32, 33, 34, 35, 36, 37, 38, 39, 40, 41, 42, 43, 44, 45] (by decide +kernel) (by decide +kernel)
set_option maxRecDepth 20000 in
theorem gX9_ties_X9_right : GoodIn wsX9_ties (wsV RX9 69 RX9 yX9_right wsX9_right) := goodIn_app (goodIn_of _ (by decide +kernel)) ggX9_ties_X9_right
set_option maxRecDepth 20000 in
theorem ggX9_ties_X9_binds : GoodIn wsX9_ties wsX9_binds := goodIn_r _ [20, 21, 22, 23, 24, 25, 26, 27, 28, 29, 30, 31, 32, 33, 34, 35, 36, 37, 38, 39, 40, 41, 42, 43, 44, 45] (by decide +kernel) (by decide +kernel)
set_option maxRecDepth 20000 in
theorem gX9_ties_X9_binds : GoodIn wsX9_ties (wsV RX9 91 RX9 yX9_binds wsX9_binds) := goodIn_app (goodIn_of _ (by decide +kernel)) ggX9_ties_X9_binds
theorem dX9_ties_0 : decode cX9_ties 0 = .ok (.aload_n 0, 1) := by decide +kernel
theorem dX9_ties_1 : decode cX9_ties 1 = .ok (.iconst 0, 1) := by decide +kernel
theorem dX9_ties_2 : decode cX9_ties 2 = .ok (.putfield 66, 3) := by decide +kernel
theorem dX9_ties_5 : decode cX9_ties 5 = .ok (.aload_n 0, 1) := by decide +kernel
theorem dX9_ties_6 : decode cX9_ties 6 = .ok (.iload_n 1, 1) := by decide +kernel
theorem dX9_ties_7 : decode cX9_ties 7 = .ok (.invokevirtual 84, 3) := by decide +kernel
theorem dX9_ties_10 : decode cX9_ties 10 = .ok (.ifCond .eq 37, 3) := by decide +kernel
theorem dX9_ties_13 : decode cX9_ties 13 = .ok (.aload_n 0, 1) := by decide +kernel
theorem dX9_ties_14 : decode cX9_ties 14 = .ok (.iload_n 2, 1) := by decide +kernel
theorem dX9_ties_15 : decode cX9_ties 15 = .ok (.invokevirtual 88, 3) := by decide +kernel
theorem dX9_ties_18 : decode cX9_ties 18 = .ok (.ifCond .eq 29, 3) := by decide +kernel
theorem dX9_ties_21 : decode cX9_ties 21 = .ok (.aload_n 0, 1) := by decide +kernel
theorem dX9_ties_22 : decode cX9_ties 22 = .ok (.iload_n 3, 1) := by decide +kernel
theorem dX9_ties_23 : decode cX9_ties 23 = .ok (.invokevirtual 88, 3) := by decide +kernel
theorem dX9_ties_26 : decode cX9_ties 26 = .ok (.ifCond .eq 21, 3) := by decide +kernel
theorem dX9_ties_29 : decode cX9_ties 29 = .ok (.aload_n 0, 1) := by decide +kernel
theorem dX9_ties_30 : decode cX9_ties 30 = .ok (.iload_n 2, 1) := by decide +kernel
theorem dX9_ties_31 : decode cX9_ties 31 = .ok (.iload_n 3, 1) := by decide +kernel
theorem dX9_ties_32 : decode cX9_ties 32 = .ok (.if_icmp .gt 7, 3) := by decide +kernel
theorem dX9_ties_35 : decode cX9_ties 35 = .ok (.iconst 1, 1) := by decide +kernel
theorem dX9_ties_36 : decode cX9_ties 36 = .ok (.goto 4, 3) := by decide +kernel
theorem dX9_ties_39 : decode cX9_ties 39 = .ok (.iconst 0, 1) := by decide +kernel
theorem dX9_ties_40 : decode cX9_ties 40 = .ok (.iconst 2, 1) := by decide +kernel
theorem dX9_ties_41 : decode cX9_ties 41 = .ok (.invokevirtual 69, 3) := by decide +kernel
theorem dX9_ties_44 : decode cX9_ties 44 = .ok (.ifCond .ne 5, 3) := by decide +kernel
theorem dX9_ties_47 : decode cX9_ties 47 = .ok (.iconst 0, 1) := by decide +kernel
theorem dX9_ties_48 : decode cX9_ties 48 = .ok (.ireturn, 1) := by decide +kernel
theorem dX9_ties_49 : decode cX9_ties 49 = .ok (.iconst 0, 1) := by decide +kernel
theorem dX9_ties_50 : decode cX9_ties 50 = .ok (.istore 5, 2) := by decide +kernel
theorem dX9_ties_52 : decode cX9_ties 52 = .ok (.iload_n 2, 1) := by decide +kernel
theorem dX9_ties_53 : decode cX9_ties 53 = .ok (.istore 6, 2) := by decide +kernel
theorem dX9_ties_55 : decode cX9_ties 55 = .ok (.iload 6, 2) := by decide +kernel
theorem dX9_ties_57 : decode cX9_ties 57 = .ok (.iload_n 3, 1) := by decide +kernel
theorem dX9_ties_58 : decode cX9_ties 58 = .ok (.if_icmp .gt 53, 3) := by decide +kernel
theorem dX9_ties_61 : decode cX9_ties 61 = .ok (.iload 5, 2) := by decide +kernel
theorem dX9_ties_63 : decode cX9_ties 63 = .ok (.aload_n 0, 1) := by decide +kernel
theorem dX9_ties_64 : decode cX9_ties 64 = .ok (.iload_n 1, 1) := by decide +kernel
theorem dX9_ties_65 : decode cX9_ties 65 = .ok (.iload 6, 2) := by decide +kernel
theorem dX9_ties_67 : decode cX9_ties 67 = .ok (.iload 4, 2) := by decide +kernel
theorem dX9_ties_69 : decode cX9_ties 69 = .ok (.invokevirtual 91, 3) := by decide +kernel
theorem dX9_ties_72 : decode cX9_ties 72 = .ok (.iadd, 1) := by decide +kernel
