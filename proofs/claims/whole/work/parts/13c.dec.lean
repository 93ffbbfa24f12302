set_option maxRecDepth 20000 in
theorem ggX8_init_X0_init : GoodIn wsX8_init wsX0_init := goodIn_r _ [49, 50, 2, 3, 41, 51, 52, 53, 54, 55, 56, 57, 119, 120, 121, 122, 123, 124, 125] (by decide +kernel) (by decide +kernel)
set_option maxRecDepth 20000 in
theorem gX8_init_X0_init_n25 : GoodIn wsX8_init (wsX0_init) := ggX8_init_X0_init
set_option maxRecDepth 20000 in
theorem ggX8_init_X3_init : GoodIn wsX8_init wsX3_init := goodIn_r _ [59, 60, 2, 3, 61, 41, 62, 126] (by decide +kernel) (by decide +kernel)
set_option maxRecDepth 20000 in
theorem gX8_init_X3_init_n32 : GoodIn wsX8_init (wsX3_init) := ggX8_init_X3_init
set_option maxRecDepth 20000 in
theorem ggX8_init_X5_init : GoodIn wsX8_init wsX5_init := goodIn_r _ [64, 65, 2, 3, 41, 66, 67, 68, 69, 70, 71, 72, 73, 74, 75, 76, 127, 128, 129, 130, 131, 132, 133, 134, 135, 136] (by decide +kernel) (by decide +kernel)
set_option maxRecDepth 20000 in
theorem gX8_init_X5_init_n39 : GoodIn wsX8_init (wsX5_init) := ggX8_init_X5_init
set_option maxRecDepth 20000 in
theorem ggX8_init_X4_init : GoodIn wsX8_init wsX4_init := goodIn_r _ [78, 79, 2, 3, 80, 81, 82, 83, 41, 84, 137, 138, 139, 140] (by decide +kernel) (by decide +kernel)
set_option maxRecDepth 20000 in
theorem gX8_init_X4_init_n46 : GoodIn wsX8_init (wsX4_init) := ggX8_init_X4_init
set_option maxRecDepth 20000 in
theorem ggX8_init_X6_init : GoodIn wsX8_init wsX6_init := goodIn_r _ [86, 87, 2, 3, 41, 88, 89, 141, 142] (by decide +kernel) (by decide +kernel)
set_option maxRecDepth 20000 in
theorem gX8_init_X6_init_n53 : GoodIn wsX8_init (wsX6_init) := ggX8_init_X6_init
set_option maxRecDepth 20000 in
theorem ggX8_init_X1_init : GoodIn wsX8_init wsX1_init := goodIn_r _ [91, 92, 2, 3, 41, 93, 94, 95, 96, 143, 144, 145, 146] (by decide +kernel) (by decide +kernel)
set_option maxRecDepth 20000 in
theorem gX8_init_X1_init_n60 : GoodIn wsX8_init (wsX1_init) := ggX8_init_X1_init
set_option maxRecDepth 20000 in
theorem ggX8_init_X0_stretch : GoodIn wsX8_init wsX0_stretch := goodIn_r _ [100, 101, 102, 51, 52, 54, 103, 104, 105, 14, 106, 55, 57, 119, 120, 121, 122, 123, 124, 125] (by decide +kernel) (by decide +kernel)
set_option maxRecDepth 20000 in
theorem gX8_init_X0_stretch : GoodIn wsX8_init (wsV RX8 69 RX0 yX0_stretch wsX0_stretch) := goodIn_app (goodIn_of _ (by decide +kernel)) ggX8_init_X0_stretch
theorem dX8_init_0 : decode cX8_init 0 = .ok (.aload_n 0, 1) := by decide +kernel
theorem dX8_init_1 : decode cX8_init 1 = .ok (.invokespecial 3, 3) := by decide +kernel
theorem dX8_init_4 : decode cX8_init 4 = .ok (.aload_n 0, 1) := by decide +kernel
theorem dX8_init_5 : decode cX8_init 5 = .ok (.new 9, 3) := by decide +kernel
theorem dX8_init_8 : decode cX8_init 8 = .ok (.dup, 1) := by decide +kernel
theorem dX8_init_9 : decode cX8_init 9 = .ok (.invokespecial 11, 3) := by decide +kernel
theorem dX8_init_12 : decode cX8_init 12 = .ok (.putfield 12, 3) := by decide +kernel
theorem dX8_init_15 : decode cX8_init 15 = .ok (.aload_n 0, 1) := by decide +kernel
theorem dX8_init_16 : decode cX8_init 16 = .ok (.new 16, 3) := by decide +kernel
theorem dX8_init_19 : decode cX8_init 19 = .ok (.dup, 1) := by decide +kernel
theorem dX8_init_20 : decode cX8_init 20 = .ok (.invokespecial 18, 3) := by decide +kernel
theorem dX8_init_23 : decode cX8_init 23 = .ok (.putfield 19, 3) := by decide +kernel
theorem dX8_init_26 : decode cX8_init 26 = .ok (.aload_n 0, 1) := by decide +kernel
theorem dX8_init_27 : decode cX8_init 27 = .ok (.new 23, 3) := by decide +kernel
theorem dX8_init_30 : decode cX8_init 30 = .ok (.dup, 1) := by decide +kernel
theorem dX8_init_31 : decode cX8_init 31 = .ok (.invokespecial 25, 3) := by decide +kernel
theorem dX8_init_34 : decode cX8_init 34 = .ok (.putfield 26, 3) := by decide +kernel
theorem dX8_init_37 : decode cX8_init 37 = .ok (.aload_n 0, 1) := by decide +kernel
theorem dX8_init_38 : decode cX8_init 38 = .ok (.new 30, 3) := by decide +kernel
theorem dX8_init_41 : decode cX8_init 41 = .ok (.dup, 1) := by decide +kernel
theorem dX8_init_42 : decode cX8_init 42 = .ok (.invokespecial 32, 3) := by decide +kernel
theorem dX8_init_45 : decode cX8_init 45 = .ok (.putfield 33, 3) := by decide +kernel
theorem dX8_init_48 : decode cX8_init 48 = .ok (.aload_n 0, 1) := by decide +kernel
theorem dX8_init_49 : decode cX8_init 49 = .ok (.new 37, 3) := by decide +kernel
theorem dX8_init_52 : decode cX8_init 52 = .ok (.dup, 1) := by decide +kernel
theorem dX8_init_53 : decode cX8_init 53 = .ok (.invokespecial 39, 3) := by decide +kernel
theorem dX8_init_56 : decode cX8_init 56 = .ok (.putfield 40, 3) := by decide +kernel
theorem dX8_init_59 : decode cX8_init 59 = .ok (.aload_n 0, 1) := by decide +kernel
theorem dX8_init_60 : decode cX8_init 60 = .ok (.new 44, 3) := by decide +kernel
theorem dX8_init_63 : decode cX8_init 63 = .ok (.dup, 1) := by decide +kernel
theorem dX8_init_64 : decode cX8_init 64 = .ok (.invokespecial 46, 3) := by decide +kernel
theorem dX8_init_67 : decode cX8_init 67 = .ok (.putfield 47, 3) := by decide +kernel
theorem dX8_init_70 : decode cX8_init 70 = .ok (.aload_n 0, 1) := by decide +kernel
theorem dX8_init_71 : decode cX8_init 71 = .ok (.new 51, 3) := by decide +kernel
theorem dX8_init_74 : decode cX8_init 74 = .ok (.dup, 1) := by decide +kernel
theorem dX8_init_75 : decode cX8_init 75 = .ok (.invokespecial 53, 3) := by decide +kernel
theorem dX8_init_78 : decode cX8_init 78 = .ok (.putfield 54, 3) := by decide +kernel
theorem dX8_init_81 : decode cX8_init 81 = .ok (.aload_n 0, 1) := by decide +kernel
theorem dX8_init_82 : decode cX8_init 82 = .ok (.new 58, 3) := by decide +kernel
theorem dX8_init_85 : decode cX8_init 85 = .ok (.dup, 1) := by decide +kernel
theorem dX8_init_86 : decode cX8_init 86 = .ok (.invokespecial 60, 3) := by decide +kernel
theorem dX8_init_89 : decode cX8_init 89 = .ok (.putfield 61, 3) := by decide +kernel
theorem dX8_init_92 : decode cX8_init 92 = .ok (.aload_n 0, 1) := by decide +kernel
theorem dX8_init_93 : decode cX8_init 93 = .ok (.iconst 0, 1) := by decide +kernel
theorem dX8_init_94 : decode cX8_init 94 = .ok (.putfield 65, 3) := by decide +kernel
theorem dX8_init_97 : decode cX8_init 97 = .ok (.aload_n 0, 1) := by decide +kernel
theorem dX8_init_98 : decode cX8_init 98 = .ok (.getfield 26, 3) := by decide +kernel
theorem dX8_init_101 : decode cX8_init 101 = .ok (.iconst 1, 1) := by decide +kernel
theorem dX8_init_102 : decode cX8_init 102 = .ok (.iconst 1, 1) := by decide +kernel
theorem dX8_init_103 : decode cX8_init 103 = .ok (.invokevirtual 69, 3) := by decide +kernel
theorem dX8_init_106 : decode cX8_init 106 = .ok (.return_, 1) := by decide +kernel
set_option maxRecDepth 20000 in
theorem ggX8_frame_X0_stretch : GoodIn wsX8_frame wsX0_stretch := goodIn_r _ [11, 12, 13, 14, 15, 16, 17, 18, 19, 10, 20, 21, 22, 55, 56, 57, 58, 59, 60, 61] (by decide +kernel) (by decide +kernel)
set_option maxRecDepth 20000 in
theorem gX8_frame_X0_stretch : GoodIn wsX8_frame (wsV RX8 69 RX0 yX0_stretch wsX0_stretch) := goodIn_app (goodIn_of _ (by decide +kernel)) ggX8_frame_X0_stretch
set_option maxRecDepth 20000 in
theorem ggX8_frame_X3_clear : GoodIn wsX8_frame wsX3_clear := goodIn_r _ [27, 28, 62] (by decide +kernel) (by decide +kernel)
set_option maxRecDepth 20000 in
theorem gX8_frame_X3_clear : GoodIn wsX8_frame (wsV RX8 80 RX3 yX3_clear wsX3_clear) := goodIn_app (goodIn_of _ (by decide +kernel)) ggX8_frame_X3_clear
set_option maxRecDepth 20000 in
theorem ggX8_frame_X6_clear : GoodIn wsX8_frame wsX6_clear := goodIn_r _ [33, 34, 35, 36, 32, 37, 38, 39, 63, 64] (by decide +kernel) (by decide +kernel)
set_option maxRecDepth 20000 in
theorem gX8_frame_X6_clear : GoodIn wsX8_frame (wsV RX8 83 RX6 yX6_clear wsX6_clear) := goodIn_app (goodIn_of _ (by decide +kernel)) ggX8_frame_X6_clear
set_option maxRecDepth 20000 in
theorem ggX8_frame_X4_drop : GoodIn wsX8_frame wsX4_drop := goodIn_r _ [44, 45, 65, 66, 67, 68] (by decide +kernel) (by decide +kernel)
set_option maxRecDepth 20000 in
theorem gX8_frame_X4_drop : GoodIn wsX8_frame (wsV RX8 84 RX4 yX4_drop wsX4_drop) := goodIn_app (goodIn_of _ (by decide +kernel)) ggX8_frame_X4_drop
theorem dX8_frame_0 : decode cX8_frame 0 = .ok (.iload_n 1, 1) := by decide +kernel
theorem dX8_frame_1 : decode cX8_frame 1 = .ok (.iconst 1, 1) := by decide +kernel
theorem dX8_frame_2 : decode cX8_frame 2 = .ok (.if_icmp .lt 20, 3) := by decide +kernel
theorem dX8_frame_5 : decode cX8_frame 5 = .ok (.iload_n 1, 1) := by decide +kernel
theorem dX8_frame_6 : decode cX8_frame 6 = .ok (.bipush 16, 2) := by decide +kernel
theorem dX8_frame_8 : decode cX8_frame 8 = .ok (.if_icmp .gt 14, 3) := by decide +kernel
theorem dX8_frame_11 : decode cX8_frame 11 = .ok (.iload_n 2, 1) := by decide +kernel
theorem dX8_frame_12 : decode cX8_frame 12 = .ok (.iconst 1, 1) := by decide +kernel
theorem dX8_frame_13 : decode cX8_frame 13 = .ok (.if_icmp .lt 9, 3) := by decide +kernel
theorem dX8_frame_16 : decode cX8_frame 16 = .ok (.iload_n 2, 1) := by decide +kernel
theorem dX8_frame_17 : decode cX8_frame 17 = .ok (.bipush 24, 2) := by decide +kernel
theorem dX8_frame_19 : decode cX8_frame 19 = .ok (.if_icmp .le 13, 3) := by decide +kernel
theorem dX8_frame_22 : decode cX8_frame 22 = .ok (.new 73, 3) := by decide +kernel
theorem dX8_frame_25 : decode cX8_frame 25 = .ok (.dup, 1) := by decide +kernel
theorem dX8_frame_26 : decode cX8_frame 26 = .ok (.ldc 75, 2) := by decide +kernel
theorem dX8_frame_28 : decode cX8_frame 28 = .ok (.invokespecial 77, 3) := by decide +kernel
theorem dX8_frame_31 : decode cX8_frame 31 = .ok (.athrow, 1) := by decide +kernel
theorem dX8_frame_32 : decode cX8_frame 32 = .ok (.aload_n 0, 1) := by decide +kernel
theorem dX8_frame_33 : decode cX8_frame 33 = .ok (.getfield 26, 3) := by decide +kernel
theorem dX8_frame_36 : decode cX8_frame 36 = .ok (.iload_n 1, 1) := by decide +kernel
theorem dX8_frame_37 : decode cX8_frame 37 = .ok (.iload_n 2, 1) := by decide +kernel
theorem dX8_frame_38 : decode cX8_frame 38 = .ok (.invokevirtual 69, 3) := by decide +kernel
theorem dX8_frame_41 : decode cX8_frame 41 = .ok (.aload_n 0, 1) := by decide +kernel
theorem dX8_frame_42 : decode cX8_frame 42 = .ok (.getfield 33, 3) := by decide +kernel
theorem dX8_frame_45 : decode cX8_frame 45 = .ok (.invokevirtual 80, 3) := by decide +kernel
theorem dX8_frame_48 : decode cX8_frame 48 = .ok (.aload_n 0, 1) := by decide +kernel
theorem dX8_frame_49 : decode cX8_frame 49 = .ok (.getfield 54, 3) := by decide +kernel
theorem dX8_frame_52 : decode cX8_frame 52 = .ok (.invokevirtual 83, 3) := by decide +kernel
theorem dX8_frame_55 : decode cX8_frame 55 = .ok (.aload_n 0, 1) := by decide +kernel
theorem dX8_frame_56 : decode cX8_frame 56 = .ok (.getfield 47, 3) := by decide +kernel
theorem dX8_frame_59 : decode cX8_frame 59 = .ok (.invokevirtual 84, 3) := by decide +kernel
theorem dX8_frame_62 : decode cX8_frame 62 = .ok (.return_, 1) := by decide +kernel
set_option maxRecDepth 20000 in
theorem ggX8_into_X8_needThread : GoodIn wsX8_into wsX8_needThread := goodIn_ca (goodIn_r _ [7, 8, 9, 1, 10, 11, 12, 13, 14, 15, 41, 42, 43, 44, 45, 46, 47, 48, 49, 50, 51, 52, 53, 54, 55, 56] (by decide +kernel) (by decide +kernel)) (goodIn_sub (fun _ h => List.mem_cons_of_mem _ (List.mem_append_right _ h)) (by decide +kernel))
set_option maxRecDepth 20000 in
theorem gX8_into_X8_needThread : GoodIn wsX8_into (wsV RX8 87 RX8 yX8_needThread wsX8_needThread) := goodIn_app (goodIn_of _ (by decide +kernel)) ggX8_into_X8_needThread
set_option maxRecDepth 20000 in
theorem ggX8_into_X8_needBundle : GoodIn wsX8_into wsX8_needBundle := goodIn_ca (goodIn_r _ [18, 8, 9] (by decide +kernel) (by decide +kernel)) (goodIn_sub (fun _ h => List.mem_cons_of_mem _ (List.mem_append_right _ h)) (by decide +kernel))
set_option maxRecDepth 20000 in
theorem gX8_into_X8_needBundle : GoodIn wsX8_into (va_wsS RX8 91 yX8_needBundle wsX8_needBundle) := goodIn_app (goodIn_of _ (by decide +kernel)) ggX8_into_X8_needBundle
set_option maxRecDepth 20000 in
theorem ggX8_into_X0_bundleOf : GoodIn wsX8_into wsX0_bundleOf := goodIn_r _ [22, 23, 50, 51, 52, 53, 54, 55, 56] (by decide +kernel) (by decide +kernel)
set_option maxRecDepth 20000 in
theorem gX8_into_X0_bundleOf : GoodIn wsX8_into (wsV RX8 94 RX0 yX0_bundleOf wsX0_bundleOf) := goodIn_app (goodIn_of _ (by decide +kernel)) ggX8_into_X0_bundleOf
set_option maxRecDepth 20000 in
theorem ggX8_into_X0_move : GoodIn wsX8_into wsX0_move := goodIn_r _ [27, 28, 23, 29, 30, 31, 13, 32, 33, 34, 50, 51, 52, 53, 54, 55, 56] (by decide +kernel) (by decide +kernel)
set_option maxRecDepth 20000 in
theorem gX8_into_X0_move : GoodIn wsX8_into (wsV RX8 98 RX0 yX0_move wsX0_move) := goodIn_app (goodIn_of _ (by decide +kernel)) ggX8_into_X0_move
set_option maxRecDepth 20000 in
theorem ggX8_into_X4_drop : GoodIn wsX8_into wsX4_drop := goodIn_r _ [39, 40, 57, 58, 59, 60] (by decide +kernel) (by decide +kernel)
set_option maxRecDepth 20000 in
theorem gX8_into_X4_drop : GoodIn wsX8_into (wsV RX8 84 RX4 yX4_drop wsX4_drop) := goodIn_app (goodIn_of _ (by decide +kernel)) ggX8_into_X4_drop
theorem dX8_into_0 : decode cX8_into 0 = .ok (.aload_n 0, 1) := by decide +kernel
theorem dX8_into_1 : decode cX8_into 1 = .ok (.iload_n 1, 1) := by decide +kernel
theorem dX8_into_2 : decode cX8_into 2 = .ok (.invokevirtual 87, 3) := by decide +kernel
theorem dX8_into_5 : decode cX8_into 5 = .ok (.iload_n 2, 1) := by decide +kernel
theorem dX8_into_6 : decode cX8_into 6 = .ok (.invokestatic 91, 3) := by decide +kernel
theorem dX8_into_9 : decode cX8_into 9 = .ok (.aload_n 0, 1) := by decide +kernel
theorem dX8_into_10 : decode cX8_into 10 = .ok (.getfield 26, 3) := by decide +kernel
theorem dX8_into_13 : decode cX8_into 13 = .ok (.iload_n 1, 1) := by decide +kernel
theorem dX8_into_14 : decode cX8_into 14 = .ok (.invokevirtual 94, 3) := by decide +kernel
theorem dX8_into_17 : decode cX8_into 17 = .ok (.istore_n 3, 1) := by decide +kernel
theorem dX8_into_18 : decode cX8_into 18 = .ok (.aload_n 0, 1) := by decide +kernel
theorem dX8_into_19 : decode cX8_into 19 = .ok (.getfield 26, 3) := by decide +kernel
theorem dX8_into_22 : decode cX8_into 22 = .ok (.iload_n 1, 1) := by decide +kernel
theorem dX8_into_23 : decode cX8_into 23 = .ok (.iload_n 2, 1) := by decide +kernel
theorem dX8_into_24 : decode cX8_into 24 = .ok (.invokevirtual 98, 3) := by decide +kernel
theorem dX8_into_27 : decode cX8_into 27 = .ok (.aload_n 0, 1) := by decide +kernel
theorem dX8_into_28 : decode cX8_into 28 = .ok (.getfield 47, 3) := by decide +kernel
theorem dX8_into_31 : decode cX8_into 31 = .ok (.invokevirtual 84, 3) := by decide +kernel
theorem dX8_into_34 : decode cX8_into 34 = .ok (.iload_n 3, 1) := by decide +kernel
theorem dX8_into_35 : decode cX8_into 35 = .ok (.ireturn, 1) := by decide +kernel
set_option maxRecDepth 20000 in
theorem ggX8_fold_X8_needBundle : GoodIn wsX8_fold wsX8_needBundle := goodIn_ca (goodIn_r _ [6, 7, 8] (by decide +kernel) (by decide +kernel)) (goodIn_sub (fun _ h => List.mem_cons_of_mem _ (List.mem_append_right _ h)) (by decide +kernel))
set_option maxRecDepth 20000 in
theorem gX8_fold_X8_needBundle : GoodIn wsX8_fold (va_wsS RX8 91 yX8_needBundle wsX8_needBundle) := goodIn_app (goodIn_of _ (by decide +kernel)) ggX8_fold_X8_needBundle
set_option maxRecDepth 20000 in
theorem ggX8_fold_X0_isFolded : GoodIn wsX8_fold wsX0_isFolded := goodIn_r _ [13, 14, 40, 41, 42, 43, 44, 45, 46] (by decide +kernel) (by decide +kernel)
set_option maxRecDepth 20000 in
theorem gX8_fold_X0_isFolded : GoodIn wsX8_fold (wsV RX8 101 RX0 yX0_isFolded wsX0_isFolded) := goodIn_app (goodIn_of _ (by decide +kernel)) ggX8_fold_X0_isFolded
set_option maxRecDepth 20000 in
theorem ggX8_fold_X0_setFolded : GoodIn wsX8_fold wsX0_setFolded := goodIn_r _ [18, 14, 19, 20, 21, 12, 22, 23, 24, 40, 41, 42, 43, 44, 45, 46] (by decide +kernel) (by decide +kernel)
set_option maxRecDepth 20000 in
theorem gX8_fold_X0_setFolded : GoodIn wsX8_fold (wsV RX8 105 RX0 yX0_setFolded wsX0_setFolded) := goodIn_app (goodIn_of _ (by decide +kernel)) ggX8_fold_X0_setFolded
set_option maxRecDepth 20000 in
theorem ggX8_fold_X4_drop : GoodIn wsX8_fold wsX4_drop := goodIn_r _ [29, 30, 47, 48, 49, 50] (by decide +kernel) (by decide +kernel)
set_option maxRecDepth 20000 in
theorem gX8_fold_X4_drop : GoodIn wsX8_fold (wsV RX8 84 RX4 yX4_drop wsX4_drop) := goodIn_app (goodIn_of _ (by decide +kernel)) ggX8_fold_X4_drop
theorem dX8_fold_0 : decode cX8_fold 0 = .ok (.iload_n 1, 1) := by decide +kernel
theorem dX8_fold_1 : decode cX8_fold 1 = .ok (.invokestatic 91, 3) := by decide +kernel
theorem dX8_fold_4 : decode cX8_fold 4 = .ok (.aload_n 0, 1) := by decide +kernel
theorem dX8_fold_5 : decode cX8_fold 5 = .ok (.getfield 26, 3) := by decide +kernel
theorem dX8_fold_8 : decode cX8_fold 8 = .ok (.iload_n 1, 1) := by decide +kernel
theorem dX8_fold_9 : decode cX8_fold 9 = .ok (.invokevirtual 101, 3) := by decide +kernel
theorem dX8_fold_12 : decode cX8_fold 12 = .ok (.istore_n 3, 1) := by decide +kernel
theorem dX8_fold_13 : decode cX8_fold 13 = .ok (.aload_n 0, 1) := by decide +kernel
theorem dX8_fold_14 : decode cX8_fold 14 = .ok (.getfield 26, 3) := by decide +kernel
theorem dX8_fold_17 : decode cX8_fold 17 = .ok (.iload_n 1, 1) := by decide +kernel
theorem dX8_fold_18 : decode cX8_fold 18 = .ok (.iload_n 2, 1) := by decide +kernel
theorem dX8_fold_19 : decode cX8_fold 19 = .ok (.invokevirtual 105, 3) := by decide +kernel
theorem dX8_fold_22 : decode cX8_fold 22 = .ok (.aload_n 0, 1) := by decide +kernel
theorem dX8_fold_23 : decode cX8_fold 23 = .ok (.getfield 47, 3) := by decide +kernel
theorem dX8_fold_26 : decode cX8_fold 26 = .ok (.invokevirtual 84, 3) := by decide +kernel
theorem dX8_fold_29 : decode cX8_fold 29 = .ok (.iload_n 3, 1) := by decide +kernel
theorem dX8_fold_30 : decode cX8_fold 30 = .ok (.ireturn, 1) := by decide +kernel
set_option maxRecDepth 20000 in
theorem ggX8_table_X8_isColour : GoodIn wsX8_table wsX8_isColour := goodIn_r _ [10] (by decide +kernel) (by decide +kernel)
set_option maxRecDepth 20000 in
theorem gX8_table_X8_isColour : GoodIn wsX8_table (va_wsS RX8 109 yX8_isColour wsX8_isColour) := goodIn_app (goodIn_of _ (by decide +kernel)) ggX8_table_X8_isColour
set_option maxRecDepth 20000 in
theorem ggX8_table_X8_needDye : GoodIn wsX8_table wsX8_needDye := goodIn_ca (goodIn_r _ [13, 1, 2] (by decide +kernel) (by decide +kernel)) (goodIn_sub (fun _ h => List.mem_cons_of_mem _ (List.mem_append_left _ (List.mem_append_right _ h))) (by decide +kernel))
set_option maxRecDepth 20000 in
theorem gX8_table_X8_needDye : GoodIn wsX8_table (va_wsS RX8 117 yX8_needDye wsX8_needDye) := goodIn_app (goodIn_of _ (by decide +kernel)) ggX8_table_X8_needDye
set_option maxRecDepth 20000 in
theorem ggX8_table_X2_comesOf : GoodIn wsX8_table wsX2_comesOf := goodIn_r _ [18, 19, 39] (by decide +kernel) (by decide +kernel)
set_option maxRecDepth 20000 in
theorem gX8_table_X2_comesOf : GoodIn wsX8_table (wsV RX8 122 RX2 yX2_comesOf wsX2_comesOf) := goodIn_app (goodIn_of _ (by decide +kernel)) ggX8_table_X2_comesOf
set_option maxRecDepth 20000 in
theorem ggX8_table_X2_tell : GoodIn wsX8_table wsX2_tell := goodIn_r _ [23, 19, 39] (by decide +kernel) (by decide +kernel)
set_option maxRecDepth 20000 in
theorem gX8_table_X2_tell : GoodIn wsX8_table (wsV RX8 126 RX2 yX2_tell wsX2_tell) := goodIn_app (goodIn_of _ (by decide +kernel)) ggX8_table_X2_tell
set_option maxRecDepth 20000 in
theorem ggX8_table_X4_drop : GoodIn wsX8_table wsX4_drop := goodIn_r _ [28, 29, 40, 41, 42, 43] (by decide +kernel) (by decide +kernel)
set_option maxRecDepth 20000 in
theorem gX8_table_X4_drop : GoodIn wsX8_table (wsV RX8 84 RX4 yX4_drop wsX4_drop) := goodIn_app (goodIn_of _ (by decide +kernel)) ggX8_table_X4_drop
theorem dX8_table_0 : decode cX8_table 0 = .ok (.iload_n 1, 1) := by decide +kernel
theorem dX8_table_1 : decode cX8_table 1 = .ok (.invokestatic 109, 3) := by decide +kernel
theorem dX8_table_4 : decode cX8_table 4 = .ok (.ifCond .ne 13, 3) := by decide +kernel
theorem dX8_table_7 : decode cX8_table 7 = .ok (.new 112, 3) := by decide +kernel
theorem dX8_table_10 : decode cX8_table 10 = .ok (.dup, 1) := by decide +kernel
theorem dX8_table_11 : decode cX8_table 11 = .ok (.ldc 114, 2) := by decide +kernel
theorem dX8_table_13 : decode cX8_table 13 = .ok (.invokespecial 116, 3) := by decide +kernel
theorem dX8_table_16 : decode cX8_table 16 = .ok (.athrow, 1) := by decide +kernel
theorem dX8_table_17 : decode cX8_table 17 = .ok (.iload_n 2, 1) := by decide +kernel
theorem dX8_table_18 : decode cX8_table 18 = .ok (.invokestatic 117, 3) := by decide +kernel
theorem dX8_table_21 : decode cX8_table 21 = .ok (.iload_n 3, 1) := by decide +kernel
theorem dX8_table_22 : decode cX8_table 22 = .ok (.invokestatic 109, 3) := by decide +kernel
theorem dX8_table_25 : decode cX8_table 25 = .ok (.ifCond .ne 13, 3) := by decide +kernel
theorem dX8_table_28 : decode cX8_table 28 = .ok (.new 73, 3) := by decide +kernel
theorem dX8_table_31 : decode cX8_table 31 = .ok (.dup, 1) := by decide +kernel
theorem dX8_table_32 : decode cX8_table 32 = .ok (.ldc 120, 2) := by decide +kernel
theorem dX8_table_34 : decode cX8_table 34 = .ok (.invokespecial 77, 3) := by decide +kernel
theorem dX8_table_37 : decode cX8_table 37 = .ok (.athrow, 1) := by decide +kernel
theorem dX8_table_38 : decode cX8_table 38 = .ok (.aload_n 0, 1) := by decide +kernel
theorem dX8_table_39 : decode cX8_table 39 = .ok (.getfield 12, 3) := by decide +kernel
theorem dX8_table_42 : decode cX8_table 42 = .ok (.iload_n 1, 1) := by decide +kernel
theorem dX8_table_43 : decode cX8_table 43 = .ok (.iload_n 2, 1) := by decide +kernel
theorem dX8_table_44 : decode cX8_table 44 = .ok (.invokevirtual 122, 3) := by decide +kernel
theorem dX8_table_47 : decode cX8_table 47 = .ok (.istore 4, 2) := by decide +kernel
theorem dX8_table_49 : decode cX8_table 49 = .ok (.aload_n 0, 1) := by decide +kernel
theorem dX8_table_50 : decode cX8_table 50 = .ok (.getfield 12, 3) := by decide +kernel
theorem dX8_table_53 : decode cX8_table 53 = .ok (.iload_n 1, 1) := by decide +kernel
theorem dX8_table_54 : decode cX8_table 54 = .ok (.iload_n 2, 1) := by decide +kernel
theorem dX8_table_55 : decode cX8_table 55 = .ok (.iload_n 3, 1) := by decide +kernel
theorem dX8_table_56 : decode cX8_table 56 = .ok (.invokevirtual 126, 3) := by decide +kernel
theorem dX8_table_59 : decode cX8_table 59 = .ok (.aload_n 0, 1) := by decide +kernel
theorem dX8_table_60 : decode cX8_table 60 = .ok (.getfield 47, 3) := by decide +kernel
theorem dX8_table_63 : decode cX8_table 63 = .ok (.invokevirtual 84, 3) := by decide +kernel
theorem dX8_table_66 : decode cX8_table 66 = .ok (.iload 4, 2) := by decide +kernel
theorem dX8_table_68 : decode cX8_table 68 = .ok (.ireturn, 1) := by decide +kernel
set_option maxRecDepth 20000 in
theorem ggX8_vat_X8_needDye : GoodIn wsX8_vat wsX8_needDye := goodIn_ca (goodIn_r _ [6, 7, 8] (by decide +kernel) (by decide +kernel)) (goodIn_sub (fun _ h => List.mem_cons_of_mem _ (List.mem_append_right _ h)) (by decide +kernel))
set_option maxRecDepth 20000 in
theorem gX8_vat_X8_needDye : GoodIn wsX8_vat (va_wsS RX8 117 yX8_needDye wsX8_needDye) := goodIn_app (goodIn_of _ (by decide +kernel)) ggX8_vat_X8_needDye
set_option maxRecDepth 20000 in
theorem ggX8_vat_X7_strengthOf : GoodIn wsX8_vat wsX7_strengthOf := goodIn_r _ [13, 14, 28, 29] (by decide +kernel) (by decide +kernel)
set_option maxRecDepth 20000 in
theorem gX8_vat_X7_strengthOf : GoodIn wsX8_vat (wsV RX8 131 RX7 yX7_strengthOf wsX7_strengthOf) := goodIn_app (goodIn_of _ (by decide +kernel)) ggX8_vat_X7_strengthOf
set_option maxRecDepth 20000 in
theorem ggX8_vat_X7_fill : GoodIn wsX8_vat wsX7_fill := goodIn_r _ [18, 14, 28, 29] (by decide +kernel) (by decide +kernel)
set_option maxRecDepth 20000 in
theorem gX8_vat_X7_fill : GoodIn wsX8_vat (wsV RX8 134 RX7 yX7_fill wsX7_fill) := goodIn_app (goodIn_of _ (by decide +kernel)) ggX8_vat_X7_fill
theorem dX8_vat_0 : decode cX8_vat 0 = .ok (.iload_n 1, 1) := by decide +kernel
theorem dX8_vat_1 : decode cX8_vat 1 = .ok (.invokestatic 117, 3) := by decide +kernel
theorem dX8_vat_4 : decode cX8_vat 4 = .ok (.iload_n 2, 1) := by decide +kernel
theorem dX8_vat_5 : decode cX8_vat 5 = .ok (.iconst 1, 1) := by decide +kernel
theorem dX8_vat_6 : decode cX8_vat 6 = .ok (.if_icmp .lt 18, 3) := by decide +kernel
theorem dX8_vat_9 : decode cX8_vat 9 = .ok (.iload_n 2, 1) := by decide +kernel
theorem dX8_vat_10 : decode cX8_vat 10 = .ok (.ldc 130, 2) := by decide +kernel
theorem dX8_vat_12 : decode cX8_vat 12 = .ok (.aload_n 0, 1) := by decide +kernel
theorem dX8_vat_13 : decode cX8_vat 13 = .ok (.getfield 19, 3) := by decide +kernel
theorem dX8_vat_16 : decode cX8_vat 16 = .ok (.iload_n 1, 1) := by decide +kernel
theorem dX8_vat_17 : decode cX8_vat 17 = .ok (.invokevirtual 131, 3) := by decide +kernel
theorem dX8_vat_20 : decode cX8_vat 20 = .ok (.isub, 1) := by decide +kernel
theorem dX8_vat_21 : decode cX8_vat 21 = .ok (.if_icmp .le 5, 3) := by decide +kernel
theorem dX8_vat_24 : decode cX8_vat 24 = .ok (.iconst (-1), 1) := by decide +kernel
theorem dX8_vat_25 : decode cX8_vat 25 = .ok (.ireturn, 1) := by decide +kernel
theorem dX8_vat_26 : decode cX8_vat 26 = .ok (.aload_n 0, 1) := by decide +kernel
theorem dX8_vat_27 : decode cX8_vat 27 = .ok (.getfield 19, 3) := by decide +kernel
theorem dX8_vat_30 : decode cX8_vat 30 = .ok (.iload_n 1, 1) := by decide +kernel
theorem dX8_vat_31 : decode cX8_vat 31 = .ok (.iload_n 2, 1) := by decide +kernel
theorem dX8_vat_32 : decode cX8_vat 32 = .ok (.invokevirtual 134, 3) := by decide +kernel
theorem dX8_vat_35 : decode cX8_vat 35 = .ok (.aload_n 0, 1) := by decide +kernel
theorem dX8_vat_36 : decode cX8_vat 36 = .ok (.getfield 19, 3) := by decide +kernel
theorem dX8_vat_39 : decode cX8_vat 39 = .ok (.iload_n 1, 1) := by decide +kernel
theorem dX8_vat_40 : decode cX8_vat 40 = .ok (.invokevirtual 131, 3) := by decide +kernel
theorem dX8_vat_43 : decode cX8_vat 43 = .ok (.ireturn, 1) := by decide +kernel
set_option maxRecDepth 20000 in
theorem ggX8_tie_X8_needRange : GoodIn wsX8_tie wsX8_needRange := goodIn_ca (goodIn_ca (goodIn_r _ [6, 7, 8, 9, 10, 5, 11, 12, 13, 14, 15, 16, 17, 1, 18, 19, 20, 21, 22, 23, 41, 42, 43, 44, 45, 46, 47, 48, 49, 50, 51, 52, 53, 54, 55, 56] (by decide +kernel) (by decide +kernel)) (goodIn_sub (fun _ h => List.mem_cons_of_mem _ (List.mem_append_left _ (List.mem_append_right _ h))) (by decide +kernel))) (goodIn_sub (fun _ h => List.mem_cons_of_mem _ (List.mem_append_right _ h)) (by decide +kernel))
set_option maxRecDepth 20000 in
theorem gX8_tie_X8_needRange : GoodIn wsX8_tie (wsV RX8 137 RX8 yX8_needRange wsX8_needRange) := goodIn_app (goodIn_of _ (by decide +kernel)) ggX8_tie_X8_needRange
set_option maxRecDepth 20000 in
theorem ggX8_tie_X0_bind : GoodIn wsX8_tie wsX0_bind := goodIn_r _ [27, 28, 29, 30, 31, 21, 32, 33, 23, 34, 35, 36, 37, 38, 39, 40, 50, 51, 52, 53, 54, 55, 56] (by decide +kernel) (by decide +kernel)
set_option maxRecDepth 20000 in
theorem gX8_tie_X0_bind : GoodIn wsX8_tie (wsV RX8 140 RX0 yX0_bind wsX0_bind) := goodIn_app (goodIn_of _ (by decide +kernel)) ggX8_tie_X0_bind
theorem dX8_tie_0 : decode cX8_tie 0 = .ok (.aload_n 0, 1) := by decide +kernel
theorem dX8_tie_1 : decode cX8_tie 1 = .ok (.iload_n 1, 1) := by decide +kernel
theorem dX8_tie_2 : decode cX8_tie 2 = .ok (.iload_n 2, 1) := by decide +kernel
theorem dX8_tie_3 : decode cX8_tie 3 = .ok (.iload_n 3, 1) := by decide +kernel
theorem dX8_tie_4 : decode cX8_tie 4 = .ok (.invokevirtual 137, 3) := by decide +kernel
theorem dX8_tie_7 : decode cX8_tie 7 = .ok (.aload_n 0, 1) := by decide +kernel
theorem dX8_tie_8 : decode cX8_tie 8 = .ok (.getfield 26, 3) := by decide +kernel
theorem dX8_tie_11 : decode cX8_tie 11 = .ok (.iload_n 1, 1) := by decide +kernel
theorem dX8_tie_12 : decode cX8_tie 12 = .ok (.iload_n 2, 1) := by decide +kernel
theorem dX8_tie_13 : decode cX8_tie 13 = .ok (.iload_n 3, 1) := by decide +kernel
theorem dX8_tie_14 : decode cX8_tie 14 = .ok (.invokevirtual 140, 3) := by decide +kernel
theorem dX8_tie_17 : decode cX8_tie 17 = .ok (.ireturn, 1) := by decide +kernel
set_option maxRecDepth 20000 in
theorem ggX8_untie_X8_needRange : GoodIn wsX8_untie wsX8_needRange := goodIn_ca (goodIn_ca (goodIn_r _ [6, 7, 8, 9, 10, 5, 11, 12, 13, 14, 15, 16, 17, 1, 18, 19, 20, 21, 22, 23, 41, 42, 43, 44, 45, 46, 47, 48, 49, 50, 51, 52, 53, 54, 55, 56] (by decide +kernel) (by decide +kernel)) (goodIn_sub (fun _ h => List.mem_cons_of_mem _ (List.mem_append_left _ (List.mem_append_right _ h))) (by decide +kernel))) (goodIn_sub (fun _ h => List.mem_cons_of_mem _ (List.mem_append_right _ h)) (by decide +kernel))
set_option maxRecDepth 20000 in
theorem gX8_untie_X8_needRange : GoodIn wsX8_untie (wsV RX8 137 RX8 yX8_needRange wsX8_needRange) := goodIn_app (goodIn_of _ (by decide +kernel)) ggX8_untie_X8_needRange
set_option maxRecDepth 20000 in
theorem ggX8_untie_X0_loosen : GoodIn wsX8_untie wsX0_loosen := goodIn_r _ [27, 28, 29, 30, 31, 21, 32, 33, 23, 34, 35, 36, 37, 38, 39, 40, 50, 51, 52, 53, 54, 55, 56] (by decide +kernel) (by decide +kernel)
set_option maxRecDepth 20000 in
theorem gX8_untie_X0_loosen : GoodIn wsX8_untie (wsV RX8 144 RX0 yX0_loosen wsX0_loosen) := goodIn_app (goodIn_of _ (by decide +kernel)) ggX8_untie_X0_loosen
theorem dX8_untie_0 : decode cX8_untie 0 = .ok (.aload_n 0, 1) := by decide +kernel
theorem dX8_untie_1 : decode cX8_untie 1 = .ok (.iload_n 1, 1) := by decide +kernel
theorem dX8_untie_2 : decode cX8_untie 2 = .ok (.iload_n 2, 1) := by decide +kernel
theorem dX8_untie_3 : decode cX8_untie 3 = .ok (.iload_n 3, 1) := by decide +kernel
theorem dX8_untie_4 : decode cX8_untie 4 = .ok (.invokevirtual 137, 3) := by decide +kernel
theorem dX8_untie_7 : decode cX8_untie 7 = .ok (.aload_n 0, 1) := by decide +kernel
theorem dX8_untie_8 : decode cX8_untie 8 = .ok (.getfield 26, 3) := by decide +kernel
theorem dX8_untie_11 : decode cX8_untie 11 = .ok (.iload_n 1, 1) := by decide +kernel
theorem dX8_untie_12 : decode cX8_untie 12 = .ok (.iload_n 2, 1) := by decide +kernel
theorem dX8_untie_13 : decode cX8_untie 13 = .ok (.iload_n 3, 1) := by decide +kernel
theorem dX8_untie_14 : decode cX8_untie 14 = .ok (.invokevirtual 144, 3) := by decide +kernel
theorem dX8_untie_17 : decode cX8_untie 17 = .ok (.ireturn, 1) := by decide +kernel
set_option maxRecDepth 20000 in
theorem ggX8_bath_X8_needDye : GoodIn wsX8_bath wsX8_needDye := goodIn_ca (goodIn_r _ [8, 9, 10] (by decide +kernel) (by decide +kernel)) (goodIn_sub (fun _ h => List.mem_cons_of_mem _ (List.mem_append_right _ h)) (by decide +kernel))
set_option maxRecDepth 20000 in
theorem gX8_bath_X8_needDye : GoodIn wsX8_bath (va_wsS RX8 117 yX8_needDye wsX8_needDye) := goodIn_app (goodIn_of _ (by decide +kernel)) ggX8_bath_X8_needDye
set_option maxRecDepth 20000 in
theorem ggX8_bath_X0_takesUp : GoodIn wsX8_bath wsX0_takesUp := goodIn_r _ [15, 16, 17, 18, 19, 14, 20, 21, 22, 23, 24, 25, 26, 27, 28, 29, 64, 65, 66, 67, 68, 69, 70] (by decide +kernel) (by decide +kernel)
set_option maxRecDepth 20000 in
theorem gX8_bath_X0_takesUp : GoodIn wsX8_bath (wsV RX8 147 RX0 yX0_takesUp wsX0_takesUp) := goodIn_app (goodIn_of _ (by decide +kernel)) ggX8_bath_X0_takesUp
set_option maxRecDepth 20000 in
theorem ggX8_bath_X7_strengthOf : GoodIn wsX8_bath wsX7_strengthOf := goodIn_r _ [34, 35, 71, 72] (by decide +kernel) (by decide +kernel)
set_option maxRecDepth 20000 in
theorem gX8_bath_X7_strengthOf : GoodIn wsX8_bath (wsV RX8 131 RX7 yX7_strengthOf wsX7_strengthOf) := goodIn_app (goodIn_of _ (by decide +kernel)) ggX8_bath_X7_strengthOf
set_option maxRecDepth 20000 in
theorem ggX8_bath_X7_lose : GoodIn wsX8_bath wsX7_lose := goodIn_r _ [39, 35, 71, 72] (by decide +kernel) (by decide +kernel)
set_option maxRecDepth 20000 in
theorem gX8_bath_X7_lose : GoodIn wsX8_bath (wsV RX8 151 RX7 yX7_lose wsX7_lose) := goodIn_app (goodIn_of _ (by decide +kernel)) ggX8_bath_X7_lose
set_option maxRecDepth 20000 in
theorem ggX8_bath_X0_dip : GoodIn wsX8_bath wsX0_dip := goodIn_r _ [43, 22, 44, 45, 46, 47, 14, 48, 16, 49, 50, 51, 52, 53, 54, 64, 65, 66, 67, 68, 69, 70, 73] (by decide +kernel) (by decide +kernel)
set_option maxRecDepth 20000 in
theorem gX8_bath_X0_dip : GoodIn wsX8_bath (wsV RX8 154 RX0 yX0_dip wsX0_dip) := goodIn_app (goodIn_of _ (by decide +kernel)) ggX8_bath_X0_dip
theorem dX8_bath_0 : decode cX8_bath 0 = .ok (.iload_n 1, 1) := by decide +kernel
theorem dX8_bath_1 : decode cX8_bath 1 = .ok (.invokestatic 117, 3) := by decide +kernel
theorem dX8_bath_4 : decode cX8_bath 4 = .ok (.aload_n 0, 1) := by decide +kernel
theorem dX8_bath_5 : decode cX8_bath 5 = .ok (.getfield 26, 3) := by decide +kernel
theorem dX8_bath_8 : decode cX8_bath 8 = .ok (.invokevirtual 147, 3) := by decide +kernel
theorem dX8_bath_11 : decode cX8_bath 11 = .ok (.istore_n 2, 1) := by decide +kernel
theorem dX8_bath_12 : decode cX8_bath 12 = .ok (.iload_n 2, 1) := by decide +kernel
theorem dX8_bath_13 : decode cX8_bath 13 = .ok (.aload_n 0, 1) := by decide +kernel
theorem dX8_bath_14 : decode cX8_bath 14 = .ok (.getfield 19, 3) := by decide +kernel
theorem dX8_bath_17 : decode cX8_bath 17 = .ok (.iload_n 1, 1) := by decide +kernel
theorem dX8_bath_18 : decode cX8_bath 18 = .ok (.invokevirtual 131, 3) := by decide +kernel
theorem dX8_bath_21 : decode cX8_bath 21 = .ok (.if_icmp .le 5, 3) := by decide +kernel
theorem dX8_bath_24 : decode cX8_bath 24 = .ok (.iconst (-1), 1) := by decide +kernel
theorem dX8_bath_25 : decode cX8_bath 25 = .ok (.ireturn, 1) := by decide +kernel
theorem dX8_bath_26 : decode cX8_bath 26 = .ok (.aload_n 0, 1) := by decide +kernel
theorem dX8_bath_27 : decode cX8_bath 27 = .ok (.getfield 19, 3) := by decide +kernel
theorem dX8_bath_30 : decode cX8_bath 30 = .ok (.iload_n 1, 1) := by decide +kernel
theorem dX8_bath_31 : decode cX8_bath 31 = .ok (.iload_n 2, 1) := by decide +kernel
theorem dX8_bath_32 : decode cX8_bath 32 = .ok (.invokevirtual 151, 3) := by decide +kernel
theorem dX8_bath_35 : decode cX8_bath 35 = .ok (.aload_n 0, 1) := by decide +kernel
theorem dX8_bath_36 : decode cX8_bath 36 = .ok (.getfield 26, 3) := by decide +kernel
theorem dX8_bath_39 : decode cX8_bath 39 = .ok (.iload_n 1, 1) := by decide +kernel
theorem dX8_bath_40 : decode cX8_bath 40 = .ok (.aload_n 0, 1) := by decide +kernel
theorem dX8_bath_41 : decode cX8_bath 41 = .ok (.getfield 12, 3) := by decide +kernel
theorem dX8_bath_44 : decode cX8_bath 44 = .ok (.invokevirtual 154, 3) := by decide +kernel
theorem dX8_bath_47 : decode cX8_bath 47 = .ok (.aload_n 0, 1) := by decide +kernel
theorem dX8_bath_48 : decode cX8_bath 48 = .ok (.dup, 1) := by decide +kernel
theorem dX8_bath_49 : decode cX8_bath 49 = .ok (.getfield 65, 3) := by decide +kernel
theorem dX8_bath_52 : decode cX8_bath 52 = .ok (.iconst 1, 1) := by decide +kernel
theorem dX8_bath_53 : decode cX8_bath 53 = .ok (.iadd, 1) := by decide +kernel
theorem dX8_bath_54 : decode cX8_bath 54 = .ok (.putfield 65, 3) := by decide +kernel
theorem dX8_bath_57 : decode cX8_bath 57 = .ok (.iload_n 2, 1) := by decide +kernel
theorem dX8_bath_58 : decode cX8_bath 58 = .ok (.ireturn, 1) := by decide +kernel
set_option maxRecDepth 20000 in
theorem ggX8_colour_X8_needThread : GoodIn wsX8_colour wsX8_needThread := goodIn_ca (goodIn_r _ [6, 7, 8, 1, 9, 10, 11, 12, 13, 14, 30, 31, 32, 33, 34, 35, 36, 37, 38, 39, 40, 41, 42, 43, 44, 45] (by decide +kernel) (by decide +kernel)) (goodIn_sub (fun _ h => List.mem_cons_of_mem _ (List.mem_append_right _ h)) (by decide +kernel))
set_option maxRecDepth 20000 in
theorem gX8_colour_X8_needThread : GoodIn wsX8_colour (wsV RX8 87 RX8 yX8_needThread wsX8_needThread) := goodIn_app (goodIn_of _ (by decide +kernel)) ggX8_colour_X8_needThread
set_option maxRecDepth 20000 in
theorem ggX8_colour_X8_needPlace : GoodIn wsX8_colour wsX8_needPlace := goodIn_ca (goodIn_r _ [18, 7, 8, 1, 19, 20, 21, 12, 22, 23, 30, 31, 32, 33, 34, 35, 36, 37, 38, 39, 40, 41, 42, 43, 44, 45] (by decide +kernel) (by decide +kernel)) (goodIn_sub (fun _ h => List.mem_cons_of_mem _ (List.mem_append_right _ h)) (by decide +kernel))
set_option maxRecDepth 20000 in
theorem gX8_colour_X8_needPlace : GoodIn wsX8_colour (wsV RX8 158 RX8 yX8_needPlace wsX8_needPlace) := goodIn_app (goodIn_of _ (by decide +kernel)) ggX8_colour_X8_needPlace
set_option maxRecDepth 20000 in
theorem ggX8_colour_X0_colourAt : GoodIn wsX8_colour wsX0_colourAt := goodIn_r _ [27, 28, 29, 39, 40, 41, 42, 43, 44, 45] (by decide +kernel) (by decide +kernel)
set_option maxRecDepth 20000 in
theorem gX8_colour_X0_colourAt : GoodIn wsX8_colour (wsV RX8 161 RX0 yX0_colourAt wsX0_colourAt) := goodIn_app (goodIn_of _ (by decide +kernel)) ggX8_colour_X0_colourAt
theorem dX8_colour_0 : decode cX8_colour 0 = .ok (.aload_n 0, 1) := by decide +kernel
theorem dX8_colour_1 : decode cX8_colour 1 = .ok (.iload_n 1, 1) := by decide +kernel
theorem dX8_colour_2 : decode cX8_colour 2 = .ok (.invokevirtual 87, 3) := by decide +kernel
theorem dX8_colour_5 : decode cX8_colour 5 = .ok (.aload_n 0, 1) := by decide +kernel
theorem dX8_colour_6 : decode cX8_colour 6 = .ok (.iload_n 2, 1) := by decide +kernel
theorem dX8_colour_7 : decode cX8_colour 7 = .ok (.invokevirtual 158, 3) := by decide +kernel
theorem dX8_colour_10 : decode cX8_colour 10 = .ok (.aload_n 0, 1) := by decide +kernel
theorem dX8_colour_11 : decode cX8_colour 11 = .ok (.getfield 26, 3) := by decide +kernel
theorem dX8_colour_14 : decode cX8_colour 14 = .ok (.iload_n 1, 1) := by decide +kernel
theorem dX8_colour_15 : decode cX8_colour 15 = .ok (.iload_n 2, 1) := by decide +kernel
theorem dX8_colour_16 : decode cX8_colour 16 = .ok (.invokevirtual 161, 3) := by decide +kernel
theorem dX8_colour_19 : decode cX8_colour 19 = .ok (.ireturn, 1) := by decide +kernel
set_option maxRecDepth 20000 in
theorem ggX8_bound_X8_needBundle : GoodIn wsX8_bound wsX8_needBundle := goodIn_ca (goodIn_r _ [5, 6, 7] (by decide +kernel) (by decide +kernel)) (goodIn_sub (fun _ h => List.mem_cons_of_mem _ (List.mem_append_right _ h)) (by decide +kernel))
set_option maxRecDepth 20000 in
theorem gX8_bound_X8_needBundle : GoodIn wsX8_bound (va_wsS RX8 91 yX8_needBundle wsX8_needBundle) := goodIn_app (goodIn_of _ (by decide +kernel)) ggX8_bound_X8_needBundle
set_option maxRecDepth 20000 in
theorem ggX8_bound_X8_needPlace : GoodIn wsX8_bound wsX8_needPlace := goodIn_ca (goodIn_r _ [11, 6, 7, 1, 12, 13, 14, 15, 16, 17, 23, 24, 25, 26, 27, 28, 29, 30, 31, 32, 33, 34, 35, 36, 37, 38] (by decide +kernel) (by decide +kernel)) (goodIn_sub (fun _ h => List.mem_cons_of_mem _ (List.mem_append_right _ h)) (by decide +kernel))
set_option maxRecDepth 20000 in
theorem gX8_bound_X8_needPlace : GoodIn wsX8_bound (wsV RX8 158 RX8 yX8_needPlace wsX8_needPlace) := goodIn_app (goodIn_of _ (by decide +kernel)) ggX8_bound_X8_needPlace
set_option maxRecDepth 20000 in
theorem ggX8_bound_X0_isBound : GoodIn wsX8_bound wsX0_isBound := goodIn_r _ [21, 22, 32, 33, 34, 35, 36, 37, 38] (by decide +kernel) (by decide +kernel)
set_option maxRecDepth 20000 in
theorem gX8_bound_X0_isBound : GoodIn wsX8_bound (wsV RX8 164 RX0 yX0_isBound wsX0_isBound) := goodIn_app (goodIn_of _ (by decide +kernel)) ggX8_bound_X0_isBound
theorem dX8_bound_0 : decode cX8_bound 0 = .ok (.iload_n 1, 1) := by decide +kernel
theorem dX8_bound_1 : decode cX8_bound 1 = .ok (.invokestatic 91, 3) := by decide +kernel
theorem dX8_bound_4 : decode cX8_bound 4 = .ok (.aload_n 0, 1) := by decide +kernel
theorem dX8_bound_5 : decode cX8_bound 5 = .ok (.iload_n 2, 1) := by decide +kernel
theorem dX8_bound_6 : decode cX8_bound 6 = .ok (.invokevirtual 158, 3) := by decide +kernel
theorem dX8_bound_9 : decode cX8_bound 9 = .ok (.aload_n 0, 1) := by decide +kernel
theorem dX8_bound_10 : decode cX8_bound 10 = .ok (.getfield 26, 3) := by decide +kernel
theorem dX8_bound_13 : decode cX8_bound 13 = .ok (.iload_n 1, 1) := by decide +kernel
theorem dX8_bound_14 : decode cX8_bound 14 = .ok (.iload_n 2, 1) := by decide +kernel
theorem dX8_bound_15 : decode cX8_bound 15 = .ok (.invokevirtual 164, 3) := by decide +kernel
theorem dX8_bound_18 : decode cX8_bound 18 = .ok (.ireturn, 1) := by decide +kernel
set_option maxRecDepth 20000 in
theorem ggX8_want_X8_needThread : GoodIn wsX8_want wsX8_needThread := goodIn_ca (goodIn_r _ [9, 10, 11, 12, 13, 14, 15, 16, 17, 18, 47, 48, 49, 50, 51, 52, 53, 54, 55, 56, 57, 58, 59, 60, 61, 62] (by decide +kernel) (by decide +kernel)) (goodIn_sub (fun _ h => List.mem_cons_of_mem _ (List.mem_append_right _ h)) (by decide +kernel))
set_option maxRecDepth 20000 in
theorem gX8_want_X8_needThread : GoodIn wsX8_want (wsV RX8 87 RX8 yX8_needThread wsX8_needThread) := goodIn_app (goodIn_of _ (by decide +kernel)) ggX8_want_X8_needThread
set_option maxRecDepth 20000 in
theorem ggX8_want_X8_needPlace : GoodIn wsX8_want wsX8_needPlace := goodIn_ca (goodIn_r _ [22, 10, 11, 12, 23, 24, 25, 16, 26, 27, 47, 48, 49, 50, 51, 52, 53, 54, 55, 56, 57, 58, 59, 60, 61, 62] (by decide +kernel) (by decide +kernel)) (goodIn_sub (fun _ h => List.mem_cons_of_mem _ (List.mem_append_right _ h)) (by decide +kernel))
set_option maxRecDepth 20000 in
theorem gX8_want_X8_needPlace : GoodIn wsX8_want (wsV RX8 158 RX8 yX8_needPlace wsX8_needPlace) := goodIn_app (goodIn_of _ (by decide +kernel)) ggX8_want_X8_needPlace
set_option maxRecDepth 20000 in
theorem ggX8_want_X8_isColour : GoodIn wsX8_want wsX8_isColour := goodIn_r _ [30] (by decide +kernel) (by decide +kernel)
set_option maxRecDepth 20000 in
theorem gX8_want_X8_isColour : GoodIn wsX8_want (va_wsS RX8 109 yX8_isColour wsX8_isColour) := goodIn_app (goodIn_of _ (by decide +kernel)) ggX8_want_X8_isColour
set_option maxRecDepth 20000 in
theorem ggX8_want_X3_wantedAt : GoodIn wsX8_want wsX3_wantedAt := goodIn_r _ [35, 36, 63] (by decide +kernel) (by decide +kernel)
set_option maxRecDepth 20000 in
theorem gX8_want_X3_wantedAt : GoodIn wsX8_want (wsV RX8 168 RX3 yX3_wantedAt wsX3_wantedAt) := goodIn_app (goodIn_of _ (by decide +kernel)) ggX8_want_X3_wantedAt
set_option maxRecDepth 20000 in
theorem ggX8_want_X3_ask : GoodIn wsX8_want wsX3_ask := goodIn_r _ [40, 36, 63] (by decide +kernel) (by decide +kernel)
set_option maxRecDepth 20000 in
theorem gX8_want_X3_ask : GoodIn wsX8_want (wsV RX8 171 RX3 yX3_ask wsX3_ask) := goodIn_app (goodIn_of _ (by decide +kernel)) ggX8_want_X3_ask
set_option maxRecDepth 20000 in
theorem ggX8_want_X4_drop : GoodIn wsX8_want wsX4_drop := goodIn_r _ [45, 46, 64, 65, 66, 67] (by decide +kernel) (by decide +kernel)
set_option maxRecDepth 20000 in
theorem gX8_want_X4_drop : GoodIn wsX8_want (wsV RX8 84 RX4 yX4_drop wsX4_drop) := goodIn_app (goodIn_of _ (by decide +kernel)) ggX8_want_X4_drop
theorem dX8_want_0 : decode cX8_want 0 = .ok (.aload_n 0, 1) := by decide +kernel
theorem dX8_want_1 : decode cX8_want 1 = .ok (.iload_n 1, 1) := by decide +kernel
theorem dX8_want_2 : decode cX8_want 2 = .ok (.invokevirtual 87, 3) := by decide +kernel
theorem dX8_want_5 : decode cX8_want 5 = .ok (.aload_n 0, 1) := by decide +kernel
theorem dX8_want_6 : decode cX8_want 6 = .ok (.iload_n 2, 1) := by decide +kernel
theorem dX8_want_7 : decode cX8_want 7 = .ok (.invokevirtual 158, 3) := by decide +kernel
theorem dX8_want_10 : decode cX8_want 10 = .ok (.iload_n 3, 1) := by decide +kernel
theorem dX8_want_11 : decode cX8_want 11 = .ok (.invokestatic 109, 3) := by decide +kernel
theorem dX8_want_14 : decode cX8_want 14 = .ok (.ifCond .ne 13, 3) := by decide +kernel
theorem dX8_want_17 : decode cX8_want 17 = .ok (.new 73, 3) := by decide +kernel
theorem dX8_want_20 : decode cX8_want 20 = .ok (.dup, 1) := by decide +kernel
theorem dX8_want_21 : decode cX8_want 21 = .ok (.ldc 114, 2) := by decide +kernel
theorem dX8_want_23 : decode cX8_want 23 = .ok (.invokespecial 77, 3) := by decide +kernel
theorem dX8_want_26 : decode cX8_want 26 = .ok (.athrow, 1) := by decide +kernel
theorem dX8_want_27 : decode cX8_want 27 = .ok (.aload_n 0, 1) := by decide +kernel
theorem dX8_want_28 : decode cX8_want 28 = .ok (.getfield 33, 3) := by decide +kernel
theorem dX8_want_31 : decode cX8_want 31 = .ok (.iload_n 1, 1) := by decide +kernel
theorem dX8_want_32 : decode cX8_want 32 = .ok (.iload_n 2, 1) := by decide +kernel
theorem dX8_want_33 : decode cX8_want 33 = .ok (.invokevirtual 168, 3) := by decide +kernel
theorem dX8_want_36 : decode cX8_want 36 = .ok (.istore 4, 2) := by decide +kernel
theorem dX8_want_38 : decode cX8_want 38 = .ok (.aload_n 0, 1) := by decide +kernel
theorem dX8_want_39 : decode cX8_want 39 = .ok (.getfield 33, 3) := by decide +kernel
theorem dX8_want_42 : decode cX8_want 42 = .ok (.iload_n 1, 1) := by decide +kernel
theorem dX8_want_43 : decode cX8_want 43 = .ok (.iload_n 2, 1) := by decide +kernel
theorem dX8_want_44 : decode cX8_want 44 = .ok (.iload_n 3, 1) := by decide +kernel
theorem dX8_want_45 : decode cX8_want 45 = .ok (.invokevirtual 171, 3) := by decide +kernel
theorem dX8_want_48 : decode cX8_want 48 = .ok (.aload_n 0, 1) := by decide +kernel
theorem dX8_want_49 : decode cX8_want 49 = .ok (.getfield 47, 3) := by decide +kernel
theorem dX8_want_52 : decode cX8_want 52 = .ok (.invokevirtual 84, 3) := by decide +kernel
theorem dX8_want_55 : decode cX8_want 55 = .ok (.iload 4, 2) := by decide +kernel
theorem dX8_want_57 : decode cX8_want 57 = .ok (.ireturn, 1) := by decide +kernel
set_option maxRecDepth 20000 in
theorem ggX8_plan_X8_isRow : GoodIn wsX8_plan wsX8_isRow := goodIn_r _ [11, 12, 13, 10, 14, 15, 16, 17] (by decide +kernel) (by decide +kernel)
set_option maxRecDepth 20000 in
theorem gX8_plan_X8_isRow : GoodIn wsX8_plan (va_wsS RX8 174 yX8_isRow wsX8_isRow) := goodIn_app (goodIn_of _ (by decide +kernel)) ggX8_plan_X8_isRow
set_option maxRecDepth 20000 in
theorem ggX8_plan_X5_aimAt : GoodIn wsX8_plan wsX5_aimAt := goodIn_r _ [22, 23, 24, 25, 26, 27, 28, 29, 30, 31, 32, 33, 34, 35, 36, 37, 38, 39, 40, 41, 42, 43, 44, 45, 46, 47, 48, 49, 50, 51, 52, 53, 54, 55, 56, 57, 58, 59, 60, 61, 62, 163, 164, 165, 166, 167, 168, 169, 170, 171, 172, 173, 174, 175, 176, 177, 178, 179, 180] (by decide +kernel) (by decide +kernel)
set_option maxRecDepth 20000 in
theorem gX8_plan_X5_aimAt : GoodIn wsX8_plan (wsV RX8 179 RX5 yX5_aimAt wsX5_aimAt) := goodIn_app (goodIn_of _ (by decide +kernel)) ggX8_plan_X5_aimAt
set_option maxRecDepth 20000 in
theorem ggX8_plan_X5_tryRow : GoodIn wsX8_plan wsX5_tryRow := goodIn_r _ [66, 67, 68, 13, 10, 14, 15, 16, 17, 69, 70, 71, 72, 73, 74, 75, 76, 77, 21, 78, 79, 80, 25, 81, 82, 83, 163, 164, 165, 166, 167, 168, 169, 170, 171, 172, 181] (by decide +kernel) (by decide +kernel)
set_option maxRecDepth 20000 in
theorem gX8_plan_X5_tryRow : GoodIn wsX8_plan (wsV RX8 183 RX5 yX5_tryRow wsX5_tryRow) := goodIn_app (goodIn_of _ (by decide +kernel)) ggX8_plan_X5_tryRow
set_option maxRecDepth 20000 in
theorem ggX8_plan_X5_writeInto : GoodIn wsX8_plan wsX5_writeInto := goodIn_r _ [87, 67, 23, 79, 24, 88, 89, 90, 91, 92, 93, 94, 95, 96, 97, 98, 21, 99, 100, 101, 102, 103, 80, 104, 105, 106, 107, 108, 109, 110, 111, 112, 113, 114, 115, 116, 117, 118, 119, 120, 121, 122, 123, 124, 125, 126, 127, 128, 129, 130, 131, 132, 133, 81, 82, 83, 134, 135, 136, 137, 138, 139, 140, 141, 142, 143, 144, 145, 48, 49, 50, 29, 51, 37, 58, 59, 60, 61, 62, 33, 34, 35, 36, 146, 147, 148, 149, 163, 164, 165, 166, 167, 168, 169, 170, 171, 172, 182, 183, 184, 185, 173, 174, 175, 176, 177, 178, 179] (by decide +kernel) (by decide +kernel)
set_option maxRecDepth 20000 in
theorem gX8_plan_X5_writeInto : GoodIn wsX8_plan (wsV RX8 187 RX5 yX5_writeInto wsX5_writeInto) := goodIn_app (goodIn_of _ (by decide +kernel)) ggX8_plan_X5_writeInto
set_option maxRecDepth 20000 in
theorem ggX8_plan_X4_ties : GoodIn wsX8_plan wsX4_ties := goodIn_r _ [153, 95, 182, 183, 184, 185] (by decide +kernel) (by decide +kernel)
set_option maxRecDepth 20000 in
theorem gX8_plan_X4_ties : GoodIn wsX8_plan (wsV RX8 191 RX4 yX4_ties wsX4_ties) := goodIn_app (goodIn_of _ (by decide +kernel)) ggX8_plan_X4_ties
theorem dX8_plan_0 : decode cX8_plan 0 = .ok (.iload_n 1, 1) := by decide +kernel
theorem dX8_plan_1 : decode cX8_plan 1 = .ok (.invokestatic 174, 3) := by decide +kernel
theorem dX8_plan_4 : decode cX8_plan 4 = .ok (.ifCond .ne 13, 3) := by decide +kernel
theorem dX8_plan_7 : decode cX8_plan 7 = .ok (.new 73, 3) := by decide +kernel
theorem dX8_plan_10 : decode cX8_plan 10 = .ok (.dup, 1) := by decide +kernel
theorem dX8_plan_11 : decode cX8_plan 11 = .ok (.ldc 177, 2) := by decide +kernel
theorem dX8_plan_13 : decode cX8_plan 13 = .ok (.invokespecial 77, 3) := by decide +kernel
theorem dX8_plan_16 : decode cX8_plan 16 = .ok (.athrow, 1) := by decide +kernel
theorem dX8_plan_17 : decode cX8_plan 17 = .ok (.aload_n 0, 1) := by decide +kernel
theorem dX8_plan_18 : decode cX8_plan 18 = .ok (.getfield 40, 3) := by decide +kernel
theorem dX8_plan_21 : decode cX8_plan 21 = .ok (.aload_n 0, 1) := by decide +kernel
theorem dX8_plan_22 : decode cX8_plan 22 = .ok (.getfield 26, 3) := by decide +kernel
theorem dX8_plan_25 : decode cX8_plan 25 = .ok (.aload_n 0, 1) := by decide +kernel
theorem dX8_plan_26 : decode cX8_plan 26 = .ok (.getfield 33, 3) := by decide +kernel
theorem dX8_plan_29 : decode cX8_plan 29 = .ok (.invokevirtual 179, 3) := by decide +kernel
theorem dX8_plan_32 : decode cX8_plan 32 = .ok (.ifCond .eq 18, 3) := by decide +kernel
theorem dX8_plan_35 : decode cX8_plan 35 = .ok (.aload_n 0, 1) := by decide +kernel
theorem dX8_plan_36 : decode cX8_plan 36 = .ok (.getfield 40, 3) := by decide +kernel
theorem dX8_plan_39 : decode cX8_plan 39 = .ok (.iload_n 1, 1) := by decide +kernel
theorem dX8_plan_40 : decode cX8_plan 40 = .ok (.aload_n 0, 1) := by decide +kernel
theorem dX8_plan_41 : decode cX8_plan 41 = .ok (.getfield 12, 3) := by decide +kernel
theorem dX8_plan_44 : decode cX8_plan 44 = .ok (.invokevirtual 183, 3) := by decide +kernel
theorem dX8_plan_47 : decode cX8_plan 47 = .ok (.ifCond .ne 5, 3) := by decide +kernel
theorem dX8_plan_50 : decode cX8_plan 50 = .ok (.iconst (-1), 1) := by decide +kernel
theorem dX8_plan_51 : decode cX8_plan 51 = .ok (.ireturn, 1) := by decide +kernel
theorem dX8_plan_52 : decode cX8_plan 52 = .ok (.aload_n 0, 1) := by decide +kernel
theorem dX8_plan_53 : decode cX8_plan 53 = .ok (.getfield 40, 3) := by decide +kernel
theorem dX8_plan_56 : decode cX8_plan 56 = .ok (.aload_n 0, 1) := by decide +kernel
theorem dX8_plan_57 : decode cX8_plan 57 = .ok (.getfield 47, 3) := by decide +kernel
theorem dX8_plan_60 : decode cX8_plan 60 = .ok (.aload_n 0, 1) := by decide +kernel
theorem dX8_plan_61 : decode cX8_plan 61 = .ok (.getfield 26, 3) := by decide +kernel
theorem dX8_plan_64 : decode cX8_plan 64 = .ok (.invokevirtual 187, 3) := by decide +kernel
theorem dX8_plan_67 : decode cX8_plan 67 = .ok (.aload_n 0, 1) := by decide +kernel
theorem dX8_plan_68 : decode cX8_plan 68 = .ok (.getfield 47, 3) := by decide +kernel
theorem dX8_plan_71 : decode cX8_plan 71 = .ok (.invokevirtual 191, 3) := by decide +kernel
theorem dX8_plan_74 : decode cX8_plan 74 = .ok (.ireturn, 1) := by decide +kernel
set_option maxRecDepth 20000 in
theorem ggX8_best_X5_aimAt : GoodIn wsX8_best wsX5_aimAt := goodIn_r _ [12, 13, 14, 15, 16, 17, 18, 19, 20, 21, 22, 23, 24, 25, 26, 27, 28, 29, 30, 31, 32, 33, 34, 35, 36, 37, 38, 39, 40, 41, 42, 43, 44, 45, 46, 47, 48, 49, 50, 51, 52, 172, 173, 174, 175, 176, 177, 178, 179, 180, 181, 182, 183, 184, 185, 186, 187, 188, 189] (by decide +kernel) (by decide +kernel)
set_option maxRecDepth 20000 in
theorem gX8_best_X5_aimAt : GoodIn wsX8_best (wsV RX8 179 RX5 yX5_aimAt wsX5_aimAt) := goodIn_app (goodIn_of _ (by decide +kernel)) ggX8_best_X5_aimAt
set_option maxRecDepth 20000 in
theorem ggX8_best_X5_bestRow : GoodIn wsX8_best wsX5_bestRow := goodIn_r _ [56, 57, 58, 59, 11, 60, 61, 62, 63, 64, 65, 66, 67, 68, 69, 70, 71, 72, 73, 74, 75, 76, 77, 78, 79, 80, 81, 82, 83, 84, 15, 85, 86, 87, 88, 89, 90, 91, 92, 93, 94, 95, 13, 96, 97, 98, 99, 14, 100, 101, 102, 103, 104, 105, 106, 107, 108, 109, 110, 111, 112, 113, 114, 115, 116, 117, 172, 173, 174, 175, 176, 177, 178, 179, 180, 181, 190] (by decide +kernel) (by decide +kernel)
set_option maxRecDepth 20000 in
theorem gX8_best_X5_bestRow : GoodIn wsX8_best (wsV RX8 196 RX5 yX5_bestRow wsX5_bestRow) := goodIn_app (goodIn_of _ (by decide +kernel)) ggX8_best_X5_bestRow
set_option maxRecDepth 20000 in
theorem ggX8_best_X5_tryRow : GoodIn wsX8_best wsX5_tryRow := goodIn_r _ [64, 65, 66, 67, 68, 69, 70, 71, 72, 73, 74, 75, 76, 77, 78, 79, 80, 81, 11, 82, 83, 84, 15, 85, 86, 87, 172, 173, 174, 175, 176, 177, 178, 179, 180, 181, 190] (by decide +kernel) (by decide +kernel)
set_option maxRecDepth 20000 in
theorem gX8_best_X5_tryRow : GoodIn wsX8_best (wsV RX8 183 RX5 yX5_tryRow wsX5_tryRow) := goodIn_app (goodIn_of _ (by decide +kernel)) ggX8_best_X5_tryRow
set_option maxRecDepth 20000 in
theorem ggX8_best_X5_writeInto : GoodIn wsX8_best wsX5_writeInto := goodIn_r _ [122, 65, 13, 83, 14, 123, 124, 125, 126, 127, 128, 129, 130, 92, 93, 94, 11, 95, 96, 97, 98, 99, 84, 100, 101, 102, 103, 104, 105, 106, 107, 108, 109, 110, 111, 112, 113, 114, 115, 116, 117, 131, 132, 133, 134, 135, 136, 137, 138, 139, 140, 141, 142, 85, 86, 87, 143, 144, 145, 146, 147, 148, 149, 150, 151, 152, 153, 154, 38, 39, 40, 19, 41, 27, 48, 49, 50, 51, 52, 23, 24, 25, 26, 155, 156, 157, 158, 172, 173, 174, 175, 176, 177, 178, 179, 180, 181, 191, 192, 193, 194, 182, 183, 184, 185, 186, 187, 188] (by decide +kernel) (by decide +kernel)
set_option maxRecDepth 20000 in
theorem gX8_best_X5_writeInto : GoodIn wsX8_best (wsV RX8 187 RX5 yX5_writeInto wsX5_writeInto) := goodIn_app (goodIn_of _ (by decide +kernel)) ggX8_best_X5_writeInto
set_option maxRecDepth 20000 in
theorem ggX8_best_X4_ties : GoodIn wsX8_best wsX4_ties := goodIn_r _ [162, 130, 191, 192, 193, 194] (by decide +kernel) (by decide +kernel)
set_option maxRecDepth 20000 in
theorem gX8_best_X4_ties : GoodIn wsX8_best (wsV RX8 191 RX4 yX4_ties wsX4_ties) := goodIn_app (goodIn_of _ (by decide +kernel)) ggX8_best_X4_ties
theorem dX8_best_0 : decode cX8_best 0 = .ok (.iload_n 1, 1) := by decide +kernel
theorem dX8_best_1 : decode cX8_best 1 = .ok (.ifCond .lt 8, 3) := by decide +kernel
theorem dX8_best_4 : decode cX8_best 4 = .ok (.iload_n 1, 1) := by decide +kernel
theorem dX8_best_5 : decode cX8_best 5 = .ok (.iconst 4, 1) := by decide +kernel
theorem dX8_best_6 : decode cX8_best 6 = .ok (.if_icmp .le 13, 3) := by decide +kernel
theorem dX8_best_9 : decode cX8_best 9 = .ok (.new 73, 3) := by decide +kernel
theorem dX8_best_12 : decode cX8_best 12 = .ok (.dup, 1) := by decide +kernel
theorem dX8_best_13 : decode cX8_best 13 = .ok (.ldc 194, 2) := by decide +kernel
theorem dX8_best_15 : decode cX8_best 15 = .ok (.invokespecial 77, 3) := by decide +kernel
theorem dX8_best_18 : decode cX8_best 18 = .ok (.athrow, 1) := by decide +kernel
theorem dX8_best_19 : decode cX8_best 19 = .ok (.aload_n 0, 1) := by decide +kernel
theorem dX8_best_20 : decode cX8_best 20 = .ok (.getfield 40, 3) := by decide +kernel
theorem dX8_best_23 : decode cX8_best 23 = .ok (.aload_n 0, 1) := by decide +kernel
theorem dX8_best_24 : decode cX8_best 24 = .ok (.getfield 26, 3) := by decide +kernel
theorem dX8_best_27 : decode cX8_best 27 = .ok (.aload_n 0, 1) := by decide +kernel
theorem dX8_best_28 : decode cX8_best 28 = .ok (.getfield 33, 3) := by decide +kernel
theorem dX8_best_31 : decode cX8_best 31 = .ok (.invokevirtual 179, 3) := by decide +kernel
theorem dX8_best_34 : decode cX8_best 34 = .ok (.ifCond .ne 5, 3) := by decide +kernel
theorem dX8_best_37 : decode cX8_best 37 = .ok (.iconst (-1), 1) := by decide +kernel
theorem dX8_best_38 : decode cX8_best 38 = .ok (.ireturn, 1) := by decide +kernel
theorem dX8_best_39 : decode cX8_best 39 = .ok (.aload_n 0, 1) := by decide +kernel
theorem dX8_best_40 : decode cX8_best 40 = .ok (.getfield 40, 3) := by decide +kernel
theorem dX8_best_43 : decode cX8_best 43 = .ok (.iload_n 1, 1) := by decide +kernel
theorem dX8_best_44 : decode cX8_best 44 = .ok (.aload_n 0, 1) := by decide +kernel
theorem dX8_best_45 : decode cX8_best 45 = .ok (.getfield 12, 3) := by decide +kernel
theorem dX8_best_48 : decode cX8_best 48 = .ok (.invokevirtual 196, 3) := by decide +kernel
theorem dX8_best_51 : decode cX8_best 51 = .ok (.istore_n 2, 1) := by decide +kernel
theorem dX8_best_52 : decode cX8_best 52 = .ok (.iload_n 2, 1) := by decide +kernel
theorem dX8_best_53 : decode cX8_best 53 = .ok (.iconst (-1), 1) := by decide +kernel
theorem dX8_best_54 : decode cX8_best 54 = .ok (.if_icmp .eq 18, 3) := by decide +kernel
theorem dX8_best_57 : decode cX8_best 57 = .ok (.aload_n 0, 1) := by decide +kernel
theorem dX8_best_58 : decode cX8_best 58 = .ok (.getfield 40, 3) := by decide +kernel
theorem dX8_best_61 : decode cX8_best 61 = .ok (.iload_n 2, 1) := by decide +kernel
theorem dX8_best_62 : decode cX8_best 62 = .ok (.aload_n 0, 1) := by decide +kernel
theorem dX8_best_63 : decode cX8_best 63 = .ok (.getfield 12, 3) := by decide +kernel
theorem dX8_best_66 : decode cX8_best 66 = .ok (.invokevirtual 183, 3) := by decide +kernel
theorem dX8_best_69 : decode cX8_best 69 = .ok (.ifCond .ne 5, 3) := by decide +kernel
theorem dX8_best_72 : decode cX8_best 72 = .ok (.iconst (-1), 1) := by decide +kernel
theorem dX8_best_73 : decode cX8_best 73 = .ok (.ireturn, 1) := by decide +kernel
theorem dX8_best_74 : decode cX8_best 74 = .ok (.aload_n 0, 1) := by decide +kernel
theorem dX8_best_75 : decode cX8_best 75 = .ok (.getfield 40, 3) := by decide +kernel
theorem dX8_best_78 : decode cX8_best 78 = .ok (.aload_n 0, 1) := by decide +kernel
theorem dX8_best_79 : decode cX8_best 79 = .ok (.getfield 47, 3) := by decide +kernel
theorem dX8_best_82 : decode cX8_best 82 = .ok (.aload_n 0, 1) := by decide +kernel
theorem dX8_best_83 : decode cX8_best 83 = .ok (.getfield 26, 3) := by decide +kernel
theorem dX8_best_86 : decode cX8_best 86 = .ok (.invokevirtual 187, 3) := by decide +kernel
theorem dX8_best_89 : decode cX8_best 89 = .ok (.aload_n 0, 1) := by decide +kernel
theorem dX8_best_90 : decode cX8_best 90 = .ok (.getfield 47, 3) := by decide +kernel
theorem dX8_best_93 : decode cX8_best 93 = .ok (.invokevirtual 191, 3) := by decide +kernel
theorem dX8_best_96 : decode cX8_best 96 = .ok (.ireturn, 1) := by decide +kernel
set_option maxRecDepth 20000 in
theorem ggX8_kept_X4_exists : GoodIn wsX8_kept wsX4_exists := goodIn_r _ [8, 9, 36, 37, 38, 39] (by decide +kernel) (by decide +kernel)
set_option maxRecDepth 20000 in
theorem gX8_kept_X4_exists : GoodIn wsX8_kept (wsV RX8 205 RX4 yX4_exists wsX4_exists) := goodIn_app (goodIn_of _ (by decide +kernel)) ggX8_kept_X4_exists
set_option maxRecDepth 20000 in
theorem ggX8_kept_X4_row : GoodIn wsX8_kept wsX4_row := goodIn_r _ [13, 14, 36, 37, 38, 39] (by decide +kernel) (by decide +kernel)
set_option maxRecDepth 20000 in
theorem gX8_kept_X4_row : GoodIn wsX8_kept (wsV RX8 209 RX4 yX4_row wsX4_row) := goodIn_app (goodIn_of _ (by decide +kernel)) ggX8_kept_X4_row
set_option maxRecDepth 20000 in
theorem ggX8_kept_X8_bathsOf : GoodIn wsX8_kept wsX8_bathsOf := goodIn_r _ [18, 19, 20, 17, 21] (by decide +kernel) (by decide +kernel)
set_option maxRecDepth 20000 in
theorem gX8_kept_X8_bathsOf : GoodIn wsX8_kept (va_wsS RX8 211 yX8_bathsOf wsX8_bathsOf) := goodIn_app (goodIn_of _ (by decide +kernel)) ggX8_kept_X8_bathsOf
set_option maxRecDepth 20000 in
theorem ggX8_kept_X4_ties : GoodIn wsX8_kept wsX4_ties := goodIn_r _ [25, 26, 36, 37, 38, 39] (by decide +kernel) (by decide +kernel)
set_option maxRecDepth 20000 in
theorem gX8_kept_X4_ties : GoodIn wsX8_kept (wsV RX8 191 RX4 yX4_ties wsX4_ties) := goodIn_app (goodIn_of _ (by decide +kernel)) ggX8_kept_X4_ties
theorem dX8_kept_0 : decode cX8_kept 0 = .ok (.iload_n 1, 1) := by decide +kernel
theorem dX8_kept_1 : decode cX8_kept 1 = .ok (.ifCond .lt 8, 3) := by decide +kernel
theorem dX8_kept_4 : decode cX8_kept 4 = .ok (.iload_n 1, 1) := by decide +kernel
theorem dX8_kept_5 : decode cX8_kept 5 = .ok (.iconst 2, 1) := by decide +kernel
theorem dX8_kept_6 : decode cX8_kept 6 = .ok (.if_icmp .le 13, 3) := by decide +kernel
theorem dX8_kept_9 : decode cX8_kept 9 = .ok (.new 200, 3) := by decide +kernel
theorem dX8_kept_12 : decode cX8_kept 12 = .ok (.dup, 1) := by decide +kernel
theorem dX8_kept_13 : decode cX8_kept 13 = .ok (.ldc 202, 2) := by decide +kernel
theorem dX8_kept_15 : decode cX8_kept 15 = .ok (.invokespecial 204, 3) := by decide +kernel
theorem dX8_kept_18 : decode cX8_kept 18 = .ok (.athrow, 1) := by decide +kernel
theorem dX8_kept_19 : decode cX8_kept 19 = .ok (.aload_n 0, 1) := by decide +kernel
theorem dX8_kept_20 : decode cX8_kept 20 = .ok (.getfield 47, 3) := by decide +kernel
theorem dX8_kept_23 : decode cX8_kept 23 = .ok (.invokevirtual 205, 3) := by decide +kernel
theorem dX8_kept_26 : decode cX8_kept 26 = .ok (.ifCond .ne 5, 3) := by decide +kernel
theorem dX8_kept_29 : decode cX8_kept 29 = .ok (.iconst (-1), 1) := by decide +kernel
theorem dX8_kept_30 : decode cX8_kept 30 = .ok (.ireturn, 1) := by decide +kernel
theorem dX8_kept_31 : decode cX8_kept 31 = .ok (.iload_n 1, 1) := by decide +kernel
theorem dX8_kept_32 : decode cX8_kept 32 = .ok (.ifCond .ne 11, 3) := by decide +kernel
theorem dX8_kept_35 : decode cX8_kept 35 = .ok (.aload_n 0, 1) := by decide +kernel
theorem dX8_kept_36 : decode cX8_kept 36 = .ok (.getfield 47, 3) := by decide +kernel
theorem dX8_kept_39 : decode cX8_kept 39 = .ok (.invokevirtual 209, 3) := by decide +kernel
theorem dX8_kept_42 : decode cX8_kept 42 = .ok (.ireturn, 1) := by decide +kernel
theorem dX8_kept_43 : decode cX8_kept 43 = .ok (.iload_n 1, 1) := by decide +kernel
theorem dX8_kept_44 : decode cX8_kept 44 = .ok (.iconst 1, 1) := by decide +kernel
theorem dX8_kept_45 : decode cX8_kept 45 = .ok (.if_icmp .ne 16, 3) := by decide +kernel
theorem dX8_kept_48 : decode cX8_kept 48 = .ok (.aload_n 0, 1) := by decide +kernel
theorem dX8_kept_49 : decode cX8_kept 49 = .ok (.getfield 47, 3) := by decide +kernel
theorem dX8_kept_52 : decode cX8_kept 52 = .ok (.invokevirtual 209, 3) := by decide +kernel
theorem dX8_kept_55 : decode cX8_kept 55 = .ok (.invokestatic 211, 3) := by decide +kernel
theorem dX8_kept_58 : decode cX8_kept 58 = .ok (.goto 10, 3) := by decide +kernel
theorem dX8_kept_61 : decode cX8_kept 61 = .ok (.aload_n 0, 1) := by decide +kernel
theorem dX8_kept_62 : decode cX8_kept 62 = .ok (.getfield 47, 3) := by decide +kernel
theorem dX8_kept_65 : decode cX8_kept 65 = .ok (.invokevirtual 191, 3) := by decide +kernel
theorem dX8_kept_68 : decode cX8_kept 68 = .ok (.ireturn, 1) := by decide +kernel
set_option maxRecDepth 20000 in
theorem ggX8_bits_X8_needBundle : GoodIn wsX8_bits wsX8_needBundle := goodIn_ca (goodIn_r _ [5, 6, 7] (by decide +kernel) (by decide +kernel)) (goodIn_sub (fun _ h => List.mem_cons_of_mem _ (List.mem_append_right _ h)) (by decide +kernel))
set_option maxRecDepth 20000 in
theorem gX8_bits_X8_needBundle : GoodIn wsX8_bits (va_wsS RX8 91 yX8_needBundle wsX8_needBundle) := goodIn_app (goodIn_of _ (by decide +kernel)) ggX8_bits_X8_needBundle
set_option maxRecDepth 20000 in
theorem ggX8_bits_X8_needPlace : GoodIn wsX8_bits wsX8_needPlace := goodIn_ca (goodIn_r _ [11, 6, 7, 12, 13, 14, 15, 16, 17, 18, 30, 31, 32, 33, 34, 35, 36, 37, 38, 39, 40, 41, 42, 43, 44, 45] (by decide +kernel) (by decide +kernel)) (goodIn_sub (fun _ h => List.mem_cons_of_mem _ (List.mem_append_right _ h)) (by decide +kernel))
set_option maxRecDepth 20000 in
theorem gX8_bits_X8_needPlace : GoodIn wsX8_bits (wsV RX8 158 RX8 yX8_needPlace wsX8_needPlace) := goodIn_app (goodIn_of _ (by decide +kernel)) ggX8_bits_X8_needPlace
set_option maxRecDepth 20000 in
theorem ggX8_bits_X4_exists : GoodIn wsX8_bits wsX4_exists := goodIn_r _ [23, 24, 46, 47, 48, 49] (by decide +kernel) (by decide +kernel)
set_option maxRecDepth 20000 in
theorem gX8_bits_X4_exists : GoodIn wsX8_bits (wsV RX8 205 RX4 yX4_exists wsX4_exists) := goodIn_app (goodIn_of _ (by decide +kernel)) ggX8_bits_X4_exists
set_option maxRecDepth 20000 in
theorem ggX8_bits_X4_bitsAt : GoodIn wsX8_bits wsX4_bitsAt := goodIn_r _ [28, 29, 46, 47, 48, 49] (by decide +kernel) (by decide +kernel)
set_option maxRecDepth 20000 in
theorem gX8_bits_X4_bitsAt : GoodIn wsX8_bits (wsV RX8 214 RX4 yX4_bitsAt wsX4_bitsAt) := goodIn_app (goodIn_of _ (by decide +kernel)) ggX8_bits_X4_bitsAt
theorem dX8_bits_0 : decode cX8_bits 0 = .ok (.iload_n 1, 1) := by decide +kernel
theorem dX8_bits_1 : decode cX8_bits 1 = .ok (.invokestatic 91, 3) := by decide +kernel
theorem dX8_bits_4 : decode cX8_bits 4 = .ok (.aload_n 0, 1) := by decide +kernel
theorem dX8_bits_5 : decode cX8_bits 5 = .ok (.iload_n 2, 1) := by decide +kernel
theorem dX8_bits_6 : decode cX8_bits 6 = .ok (.invokevirtual 158, 3) := by decide +kernel
theorem dX8_bits_9 : decode cX8_bits 9 = .ok (.aload_n 0, 1) := by decide +kernel
theorem dX8_bits_10 : decode cX8_bits 10 = .ok (.getfield 47, 3) := by decide +kernel
theorem dX8_bits_13 : decode cX8_bits 13 = .ok (.invokevirtual 205, 3) := by decide +kernel
theorem dX8_bits_16 : decode cX8_bits 16 = .ok (.ifCond .eq 15, 3) := by decide +kernel
theorem dX8_bits_19 : decode cX8_bits 19 = .ok (.aload_n 0, 1) := by decide +kernel
theorem dX8_bits_20 : decode cX8_bits 20 = .ok (.getfield 47, 3) := by decide +kernel
theorem dX8_bits_23 : decode cX8_bits 23 = .ok (.iload_n 1, 1) := by decide +kernel
theorem dX8_bits_24 : decode cX8_bits 24 = .ok (.iload_n 2, 1) := by decide +kernel
theorem dX8_bits_25 : decode cX8_bits 25 = .ok (.invokevirtual 214, 3) := by decide +kernel
theorem dX8_bits_28 : decode cX8_bits 28 = .ok (.goto 4, 3) := by decide +kernel
theorem dX8_bits_31 : decode cX8_bits 31 = .ok (.iconst (-1), 1) := by decide +kernel
theorem dX8_bits_32 : decode cX8_bits 32 = .ok (.ireturn, 1) := by decide +kernel
set_option maxRecDepth 20000 in
theorem ggX8_dye_X4_exists : GoodIn wsX8_dye wsX4_exists := goodIn_r _ [10, 11, 100, 101, 102, 103] (by decide +kernel) (by decide +kernel)
set_option maxRecDepth 20000 in
theorem gX8_dye_X4_exists : GoodIn wsX8_dye (wsV RX8 205 RX4 yX4_exists wsX4_exists) := goodIn_app (goodIn_of _ (by decide +kernel)) ggX8_dye_X4_exists
set_option maxRecDepth 20000 in
theorem ggX8_dye_X7_sufficeFor : GoodIn wsX8_dye wsX7_sufficeFor := goodIn_r _ [16, 17, 18, 19, 20, 21, 9, 22, 23, 24, 25, 26, 27, 28, 29, 30, 31, 32, 33, 34, 35, 36, 37, 38, 39, 40, 41, 42, 43, 44, 45, 46, 47, 48, 49, 50, 51, 52, 53, 54, 55, 56, 104, 105, 100, 101, 102, 103, 106, 107, 108, 109, 110, 111, 112] (by decide +kernel) (by decide +kernel)
set_option maxRecDepth 20000 in
theorem gX8_dye_X7_sufficeFor : GoodIn wsX8_dye (wsV RX8 217 RX7 yX7_sufficeFor wsX7_sufficeFor) := goodIn_app (goodIn_of _ (by decide +kernel)) ggX8_dye_X7_sufficeFor
set_option maxRecDepth 20000 in
theorem ggX8_dye_X4_row : GoodIn wsX8_dye wsX4_row := goodIn_r _ [22, 23, 100, 101, 102, 103] (by decide +kernel) (by decide +kernel)
set_option maxRecDepth 20000 in
theorem gX8_dye_X4_row : GoodIn wsX8_dye (wsV RX8 209 RX4 yX4_row wsX4_row) := goodIn_app (goodIn_of _ (by decide +kernel)) ggX8_dye_X4_row
set_option maxRecDepth 20000 in
theorem ggX8_dye_X8_bathsOf : GoodIn wsX8_dye wsX8_bathsOf := goodIn_r _ [26, 27, 28, 25, 29] (by decide +kernel) (by decide +kernel)
set_option maxRecDepth 20000 in
theorem gX8_dye_X8_bathsOf : GoodIn wsX8_dye (va_wsS RX8 211 yX8_bathsOf wsX8_bathsOf) := goodIn_app (goodIn_of _ (by decide +kernel)) ggX8_dye_X8_bathsOf
set_option maxRecDepth 20000 in
theorem ggX8_dye_X0_wash : GoodIn wsX8_dye wsX0_wash := goodIn_r _ [62, 63, 64, 106, 107, 108, 109, 110, 111, 112] (by decide +kernel) (by decide +kernel)
set_option maxRecDepth 20000 in
theorem gX8_dye_X0_wash : GoodIn wsX8_dye (wsV RX8 221 RX0 yX0_wash wsX0_wash) := goodIn_app (goodIn_of _ (by decide +kernel)) ggX8_dye_X0_wash
set_option maxRecDepth 20000 in
theorem ggX8_dye_X8_dyeOf : GoodIn wsX8_dye wsX8_dyeOf := goodIn_r _ [29] (by decide +kernel) (by decide +kernel)
set_option maxRecDepth 20000 in
theorem gX8_dye_X8_dyeOf : GoodIn wsX8_dye (va_wsS RX8 224 yX8_dyeOf wsX8_dyeOf) := goodIn_app (goodIn_of _ (by decide +kernel)) ggX8_dye_X8_dyeOf
set_option maxRecDepth 20000 in
theorem ggX8_dye_X0_bindAs : GoodIn wsX8_dye wsX0_bindAs := goodIn_r _ [68, 63, 35, 36, 37, 33, 38, 39, 40, 41, 42, 9, 43, 44, 106, 107, 108, 109, 110, 111, 112, 100, 101, 102, 103] (by decide +kernel) (by decide +kernel)
set_option maxRecDepth 20000 in
theorem gX8_dye_X0_bindAs : GoodIn wsX8_dye (wsV RX8 227 RX0 yX0_bindAs wsX0_bindAs) := goodIn_app (goodIn_of _ (by decide +kernel)) ggX8_dye_X0_bindAs
set_option maxRecDepth 20000 in
theorem ggX8_dye_X0_takesUp : GoodIn wsX8_dye wsX0_takesUp := goodIn_r _ [72, 63, 45, 46, 47, 33, 48, 49, 39, 50, 51, 52, 53, 54, 55, 56, 106, 107, 108, 109, 110, 111, 112] (by decide +kernel) (by decide +kernel)
set_option maxRecDepth 20000 in
theorem gX8_dye_X0_takesUp : GoodIn wsX8_dye (wsV RX8 147 RX0 yX0_takesUp wsX0_takesUp) := goodIn_app (goodIn_of _ (by decide +kernel)) ggX8_dye_X0_takesUp
set_option maxRecDepth 20000 in
theorem ggX8_dye_X7_lose : GoodIn wsX8_dye wsX7_lose := goodIn_r _ [76, 18, 104, 105] (by decide +kernel) (by decide +kernel)
set_option maxRecDepth 20000 in
theorem gX8_dye_X7_lose : GoodIn wsX8_dye (wsV RX8 151 RX7 yX7_lose wsX7_lose) := goodIn_app (goodIn_of _ (by decide +kernel)) ggX8_dye_X7_lose
set_option maxRecDepth 20000 in
theorem ggX8_dye_X0_dip : GoodIn wsX8_dye wsX0_dip := goodIn_r _ [80, 39, 64, 81, 82, 83, 33, 84, 63, 85, 86, 87, 88, 89, 90, 106, 107, 108, 109, 110, 111, 112, 113] (by decide +kernel) (by decide +kernel)
set_option maxRecDepth 20000 in
theorem gX8_dye_X0_dip : GoodIn wsX8_dye (wsV RX8 154 RX0 yX0_dip wsX0_dip) := goodIn_app (goodIn_of _ (by decide +kernel)) ggX8_dye_X0_dip
theorem dX8_dye_0 : decode cX8_dye 0 = .ok (.aload_n 0, 1) := by decide +kernel
theorem dX8_dye_1 : decode cX8_dye 1 = .ok (.getfield 47, 3) := by decide +kernel
theorem dX8_dye_4 : decode cX8_dye 4 = .ok (.invokevirtual 205, 3) := by decide +kernel
theorem dX8_dye_7 : decode cX8_dye 7 = .ok (.ifCond .eq 21, 3) := by decide +kernel
theorem dX8_dye_10 : decode cX8_dye 10 = .ok (.aload_n 0, 1) := by decide +kernel
theorem dX8_dye_11 : decode cX8_dye 11 = .ok (.getfield 19, 3) := by decide +kernel
theorem dX8_dye_14 : decode cX8_dye 14 = .ok (.aload_n 0, 1) := by decide +kernel
theorem dX8_dye_15 : decode cX8_dye 15 = .ok (.getfield 47, 3) := by decide +kernel
theorem dX8_dye_18 : decode cX8_dye 18 = .ok (.aload_n 0, 1) := by decide +kernel
theorem dX8_dye_19 : decode cX8_dye 19 = .ok (.getfield 26, 3) := by decide +kernel
theorem dX8_dye_22 : decode cX8_dye 22 = .ok (.invokevirtual 217, 3) := by decide +kernel
theorem dX8_dye_25 : decode cX8_dye 25 = .ok (.ifCond .ne 5, 3) := by decide +kernel
theorem dX8_dye_28 : decode cX8_dye 28 = .ok (.iconst (-1), 1) := by decide +kernel
theorem dX8_dye_29 : decode cX8_dye 29 = .ok (.ireturn, 1) := by decide +kernel
theorem dX8_dye_30 : decode cX8_dye 30 = .ok (.aload_n 0, 1) := by decide +kernel
theorem dX8_dye_31 : decode cX8_dye 31 = .ok (.getfield 47, 3) := by decide +kernel
theorem dX8_dye_34 : decode cX8_dye 34 = .ok (.invokevirtual 209, 3) := by decide +kernel
theorem dX8_dye_37 : decode cX8_dye 37 = .ok (.invokestatic 211, 3) := by decide +kernel
theorem dX8_dye_40 : decode cX8_dye 40 = .ok (.istore_n 1, 1) := by decide +kernel
theorem dX8_dye_41 : decode cX8_dye 41 = .ok (.iconst 0, 1) := by decide +kernel
theorem dX8_dye_42 : decode cX8_dye 42 = .ok (.istore_n 2, 1) := by decide +kernel
theorem dX8_dye_43 : decode cX8_dye 43 = .ok (.aload_n 0, 1) := by decide +kernel
theorem dX8_dye_44 : decode cX8_dye 44 = .ok (.getfield 26, 3) := by decide +kernel
theorem dX8_dye_47 : decode cX8_dye 47 = .ok (.invokevirtual 221, 3) := by decide +kernel
theorem dX8_dye_50 : decode cX8_dye 50 = .ok (.iconst 0, 1) := by decide +kernel
theorem dX8_dye_51 : decode cX8_dye 51 = .ok (.istore_n 3, 1) := by decide +kernel
theorem dX8_dye_52 : decode cX8_dye 52 = .ok (.iload_n 3, 1) := by decide +kernel
theorem dX8_dye_53 : decode cX8_dye 53 = .ok (.iload_n 1, 1) := by decide +kernel
theorem dX8_dye_54 : decode cX8_dye 54 = .ok (.if_icmp .ge 72, 3) := by decide +kernel
theorem dX8_dye_57 : decode cX8_dye 57 = .ok (.aload_n 0, 1) := by decide +kernel
theorem dX8_dye_58 : decode cX8_dye 58 = .ok (.getfield 47, 3) := by decide +kernel
theorem dX8_dye_61 : decode cX8_dye 61 = .ok (.invokevirtual 209, 3) := by decide +kernel
theorem dX8_dye_64 : decode cX8_dye 64 = .ok (.iload_n 3, 1) := by decide +kernel
theorem dX8_dye_65 : decode cX8_dye 65 = .ok (.invokestatic 224, 3) := by decide +kernel
theorem dX8_dye_68 : decode cX8_dye 68 = .ok (.istore 4, 2) := by decide +kernel
theorem dX8_dye_70 : decode cX8_dye 70 = .ok (.aload_n 0, 1) := by decide +kernel
theorem dX8_dye_71 : decode cX8_dye 71 = .ok (.getfield 26, 3) := by decide +kernel
theorem dX8_dye_74 : decode cX8_dye 74 = .ok (.aload_n 0, 1) := by decide +kernel
theorem dX8_dye_75 : decode cX8_dye 75 = .ok (.getfield 47, 3) := by decide +kernel
theorem dX8_dye_78 : decode cX8_dye 78 = .ok (.iload_n 3, 1) := by decide +kernel
theorem dX8_dye_79 : decode cX8_dye 79 = .ok (.invokevirtual 227, 3) := by decide +kernel
theorem dX8_dye_82 : decode cX8_dye 82 = .ok (.aload_n 0, 1) := by decide +kernel
theorem dX8_dye_83 : decode cX8_dye 83 = .ok (.getfield 26, 3) := by decide +kernel
theorem dX8_dye_86 : decode cX8_dye 86 = .ok (.invokevirtual 147, 3) := by decide +kernel
theorem dX8_dye_89 : decode cX8_dye 89 = .ok (.istore 5, 2) := by decide +kernel
theorem dX8_dye_91 : decode cX8_dye 91 = .ok (.aload_n 0, 1) := by decide +kernel
theorem dX8_dye_92 : decode cX8_dye 92 = .ok (.getfield 19, 3) := by decide +kernel
theorem dX8_dye_95 : decode cX8_dye 95 = .ok (.iload 4, 2) := by decide +kernel
theorem dX8_dye_97 : decode cX8_dye 97 = .ok (.iload 5, 2) := by decide +kernel
theorem dX8_dye_99 : decode cX8_dye 99 = .ok (.invokevirtual 151, 3) := by decide +kernel
theorem dX8_dye_102 : decode cX8_dye 102 = .ok (.aload_n 0, 1) := by decide +kernel
theorem dX8_dye_103 : decode cX8_dye 103 = .ok (.getfield 26, 3) := by decide +kernel
theorem dX8_dye_106 : decode cX8_dye 106 = .ok (.iload 4, 2) := by decide +kernel
theorem dX8_dye_108 : decode cX8_dye 108 = .ok (.aload_n 0, 1) := by decide +kernel
theorem dX8_dye_109 : decode cX8_dye 109 = .ok (.getfield 12, 3) := by decide +kernel
theorem dX8_dye_112 : decode cX8_dye 112 = .ok (.invokevirtual 154, 3) := by decide +kernel
theorem dX8_dye_115 : decode cX8_dye 115 = .ok (.iload_n 2, 1) := by decide +kernel
theorem dX8_dye_116 : decode cX8_dye 116 = .ok (.iload 5, 2) := by decide +kernel
theorem dX8_dye_118 : decode cX8_dye 118 = .ok (.iadd, 1) := by decide +kernel
theorem dX8_dye_119 : decode cX8_dye 119 = .ok (.istore_n 2, 1) := by decide +kernel
theorem dX8_dye_120 : decode cX8_dye 120 = .ok (.iinc 3 1, 3) := by decide +kernel
theorem dX8_dye_123 : decode cX8_dye 123 = .ok (.goto (-71), 3) := by decide +kernel
theorem dX8_dye_126 : decode cX8_dye 126 = .ok (.aload_n 0, 1) := by decide +kernel
theorem dX8_dye_127 : decode cX8_dye 127 = .ok (.dup, 1) := by decide +kernel
theorem dX8_dye_128 : decode cX8_dye 128 = .ok (.getfield 65, 3) := by decide +kernel
theorem dX8_dye_131 : decode cX8_dye 131 = .ok (.iload_n 1, 1) := by decide +kernel
theorem dX8_dye_132 : decode cX8_dye 132 = .ok (.iadd, 1) := by decide +kernel
theorem dX8_dye_133 : decode cX8_dye 133 = .ok (.putfield 65, 3) := by decide +kernel
theorem dX8_dye_136 : decode cX8_dye 136 = .ok (.iload_n 2, 1) := by decide +kernel
theorem dX8_dye_137 : decode cX8_dye 137 = .ok (.ireturn, 1) := by decide +kernel
set_option maxRecDepth 20000 in
theorem ggX8_slip_X8_needThread : GoodIn wsX8_slip wsX8_needThread := goodIn_ca (goodIn_r _ [8, 9, 10, 11, 12, 13, 14, 15, 16, 17, 25, 26, 27, 28, 29, 30, 31, 32, 33, 34, 35, 36, 37, 38, 39, 40] (by decide +kernel) (by decide +kernel)) (goodIn_sub (fun _ h => List.mem_cons_of_mem _ (List.mem_append_right _ h)) (by decide +kernel))
set_option maxRecDepth 20000 in
theorem gX8_slip_X8_needThread : GoodIn wsX8_slip (wsV RX8 87 RX8 yX8_needThread wsX8_needThread) := goodIn_app (goodIn_of _ (by decide +kernel)) ggX8_slip_X8_needThread
set_option maxRecDepth 20000 in
theorem ggX8_slip_X6_let : GoodIn wsX8_slip wsX6_let := goodIn_r _ [22, 23, 24, 41, 42] (by decide +kernel) (by decide +kernel)
set_option maxRecDepth 20000 in
theorem gX8_slip_X6_let : GoodIn wsX8_slip (wsV RX8 233 RX6 yX6_let wsX6_let) := goodIn_app (goodIn_of _ (by decide +kernel)) ggX8_slip_X6_let
theorem dX8_slip_0 : decode cX8_slip 0 = .ok (.aload_n 0, 1) := by decide +kernel
theorem dX8_slip_1 : decode cX8_slip 1 = .ok (.iload_n 1, 1) := by decide +kernel
theorem dX8_slip_2 : decode cX8_slip 2 = .ok (.invokevirtual 87, 3) := by decide +kernel
theorem dX8_slip_5 : decode cX8_slip 5 = .ok (.iload_n 2, 1) := by decide +kernel
theorem dX8_slip_6 : decode cX8_slip 6 = .ok (.bipush (-3), 2) := by decide +kernel
theorem dX8_slip_8 : decode cX8_slip 8 = .ok (.if_icmp .lt 13, 3) := by decide +kernel
theorem dX8_slip_11 : decode cX8_slip 11 = .ok (.iload_n 2, 1) := by decide +kernel
theorem dX8_slip_12 : decode cX8_slip 12 = .ok (.iload_n 3, 1) := by decide +kernel
theorem dX8_slip_13 : decode cX8_slip 13 = .ok (.if_icmp .gt 8, 3) := by decide +kernel
theorem dX8_slip_16 : decode cX8_slip 16 = .ok (.iload_n 3, 1) := by decide +kernel
theorem dX8_slip_17 : decode cX8_slip 17 = .ok (.iconst 3, 1) := by decide +kernel
theorem dX8_slip_18 : decode cX8_slip 18 = .ok (.if_icmp .le 13, 3) := by decide +kernel
theorem dX8_slip_21 : decode cX8_slip 21 = .ok (.new 73, 3) := by decide +kernel
theorem dX8_slip_24 : decode cX8_slip 24 = .ok (.dup, 1) := by decide +kernel
theorem dX8_slip_25 : decode cX8_slip 25 = .ok (.ldc 231, 2) := by decide +kernel
theorem dX8_slip_27 : decode cX8_slip 27 = .ok (.invokespecial 77, 3) := by decide +kernel
theorem dX8_slip_30 : decode cX8_slip 30 = .ok (.athrow, 1) := by decide +kernel
theorem dX8_slip_31 : decode cX8_slip 31 = .ok (.aload_n 0, 1) := by decide +kernel
theorem dX8_slip_32 : decode cX8_slip 32 = .ok (.getfield 54, 3) := by decide +kernel
theorem dX8_slip_35 : decode cX8_slip 35 = .ok (.iload_n 1, 1) := by decide +kernel
theorem dX8_slip_36 : decode cX8_slip 36 = .ok (.iload_n 2, 1) := by decide +kernel
theorem dX8_slip_37 : decode cX8_slip 37 = .ok (.iload_n 3, 1) := by decide +kernel
theorem dX8_slip_38 : decode cX8_slip 38 = .ok (.invokevirtual 233, 3) := by decide +kernel
theorem dX8_slip_41 : decode cX8_slip 41 = .ok (.return_, 1) := by decide +kernel
set_option maxRecDepth 20000 in
theorem ggX8_seen_X8_needThread : GoodIn wsX8_seen wsX8_needThread := goodIn_ca (goodIn_r _ [7, 8, 9, 2, 10, 11, 12, 13, 14, 15, 39, 40, 41, 42, 43, 44, 45, 46, 47, 48, 49, 50, 51, 52, 53, 54] (by decide +kernel) (by decide +kernel)) (goodIn_sub (fun _ h => List.mem_cons_of_mem _ (List.mem_append_right _ h)) (by decide +kernel))
set_option maxRecDepth 20000 in
theorem gX8_seen_X8_needThread : GoodIn wsX8_seen (wsV RX8 87 RX8 yX8_needThread wsX8_needThread) := goodIn_app (goodIn_of _ (by decide +kernel)) ggX8_seen_X8_needThread
set_option maxRecDepth 20000 in
theorem ggX8_seen_X8_needPlace : GoodIn wsX8_seen wsX8_needPlace := goodIn_ca (goodIn_r _ [19, 8, 9, 2, 20, 21, 22, 13, 23, 24, 39, 40, 41, 42, 43, 44, 45, 46, 47, 48, 49, 50, 51, 52, 53, 54] (by decide +kernel) (by decide +kernel)) (goodIn_sub (fun _ h => List.mem_cons_of_mem _ (List.mem_append_right _ h)) (by decide +kernel))
set_option maxRecDepth 20000 in
theorem gX8_seen_X8_needPlace : GoodIn wsX8_seen (wsV RX8 158 RX8 yX8_needPlace wsX8_needPlace) := goodIn_app (goodIn_of _ (by decide +kernel)) ggX8_seen_X8_needPlace
set_option maxRecDepth 20000 in
theorem ggX8_seen_X6_showsAt : GoodIn wsX8_seen wsX6_showsAt := goodIn_r _ [29, 30, 31, 32, 21, 22, 13, 23, 24, 33, 34, 35, 36, 37, 38, 55, 56, 48, 49, 50, 51, 52, 53, 54] (by decide +kernel) (by decide +kernel)
set_option maxRecDepth 20000 in
theorem gX8_seen_X6_showsAt : GoodIn wsX8_seen (wsV RX8 236 RX6 yX6_showsAt wsX6_showsAt) := goodIn_app (goodIn_of _ (by decide +kernel)) ggX8_seen_X6_showsAt
theorem dX8_seen_0 : decode cX8_seen 0 = .ok (.aload_n 0, 1) := by decide +kernel
theorem dX8_seen_1 : decode cX8_seen 1 = .ok (.iload_n 1, 1) := by decide +kernel
theorem dX8_seen_2 : decode cX8_seen 2 = .ok (.invokevirtual 87, 3) := by decide +kernel
theorem dX8_seen_5 : decode cX8_seen 5 = .ok (.aload_n 0, 1) := by decide +kernel
theorem dX8_seen_6 : decode cX8_seen 6 = .ok (.iload_n 2, 1) := by decide +kernel
theorem dX8_seen_7 : decode cX8_seen 7 = .ok (.invokevirtual 158, 3) := by decide +kernel
theorem dX8_seen_10 : decode cX8_seen 10 = .ok (.aload_n 0, 1) := by decide +kernel
theorem dX8_seen_11 : decode cX8_seen 11 = .ok (.getfield 54, 3) := by decide +kernel
theorem dX8_seen_14 : decode cX8_seen 14 = .ok (.iload_n 1, 1) := by decide +kernel
theorem dX8_seen_15 : decode cX8_seen 15 = .ok (.iload_n 2, 1) := by decide +kernel
theorem dX8_seen_16 : decode cX8_seen 16 = .ok (.aload_n 0, 1) := by decide +kernel
theorem dX8_seen_17 : decode cX8_seen 17 = .ok (.getfield 26, 3) := by decide +kernel
theorem dX8_seen_20 : decode cX8_seen 20 = .ok (.invokevirtual 236, 3) := by decide +kernel
theorem dX8_seen_23 : decode cX8_seen 23 = .ok (.ireturn, 1) := by decide +kernel
set_option maxRecDepth 20000 in
theorem ggX8_blurred_X0_threads : GoodIn wsX8_blurred wsX0_threads := goodIn_r _ [8, 9, 44, 45, 46, 47, 48, 49, 50] (by decide +kernel) (by decide +kernel)
set_option maxRecDepth 20000 in
theorem gX8_blurred_X0_threads : GoodIn wsX8_blurred (wsV RX8 240 RX0 yX0_threads wsX0_threads) := goodIn_app (goodIn_of _ (by decide +kernel)) ggX8_blurred_X0_threads
set_option maxRecDepth 20000 in
theorem ggX8_blurred_X0_places : GoodIn wsX8_blurred wsX0_places := goodIn_r _ [13, 14, 44, 45, 46, 47, 48, 49, 50] (by decide +kernel) (by decide +kernel)
set_option maxRecDepth 20000 in
theorem gX8_blurred_X0_places : GoodIn wsX8_blurred (wsV RX8 243 RX0 yX0_places wsX0_places) := goodIn_app (goodIn_of _ (by decide +kernel)) ggX8_blurred_X0_places
set_option maxRecDepth 20000 in
theorem ggX8_blurred_X6_showsAt : GoodIn wsX8_blurred wsX6_showsAt := goodIn_r _ [19, 20, 21, 22, 11, 12, 7, 13, 14, 23, 24, 25, 26, 27, 28, 51, 52, 44, 45, 46, 47, 48, 49, 50] (by decide +kernel) (by decide +kernel)
set_option maxRecDepth 20000 in
theorem gX8_blurred_X6_showsAt : GoodIn wsX8_blurred (wsV RX8 236 RX6 yX6_showsAt wsX6_showsAt) := goodIn_app (goodIn_of _ (by decide +kernel)) ggX8_blurred_X6_showsAt
set_option maxRecDepth 20000 in
theorem ggX8_blurred_X3_wantedAt : GoodIn wsX8_blurred wsX3_wantedAt := goodIn_r _ [33, 34, 53] (by decide +kernel) (by decide +kernel)
set_option maxRecDepth 20000 in
theorem gX8_blurred_X3_wantedAt : GoodIn wsX8_blurred (wsV RX8 168 RX3 yX3_wantedAt wsX3_wantedAt) := goodIn_app (goodIn_of _ (by decide +kernel)) ggX8_blurred_X3_wantedAt
theorem dX8_blurred_0 : decode cX8_blurred 0 = .ok (.iconst 0, 1) := by decide +kernel
theorem dX8_blurred_1 : decode cX8_blurred 1 = .ok (.istore_n 1, 1) := by decide +kernel
theorem dX8_blurred_2 : decode cX8_blurred 2 = .ok (.iconst 0, 1) := by decide +kernel
theorem dX8_blurred_3 : decode cX8_blurred 3 = .ok (.istore_n 2, 1) := by decide +kernel
theorem dX8_blurred_4 : decode cX8_blurred 4 = .ok (.iload_n 2, 1) := by decide +kernel
theorem dX8_blurred_5 : decode cX8_blurred 5 = .ok (.aload_n 0, 1) := by decide +kernel
theorem dX8_blurred_6 : decode cX8_blurred 6 = .ok (.getfield 26, 3) := by decide +kernel
theorem dX8_blurred_9 : decode cX8_blurred 9 = .ok (.invokevirtual 240, 3) := by decide +kernel
theorem dX8_blurred_12 : decode cX8_blurred 12 = .ok (.if_icmp .ge 58, 3) := by decide +kernel
theorem dX8_blurred_15 : decode cX8_blurred 15 = .ok (.iconst 0, 1) := by decide +kernel
theorem dX8_blurred_16 : decode cX8_blurred 16 = .ok (.istore_n 3, 1) := by decide +kernel
theorem dX8_blurred_17 : decode cX8_blurred 17 = .ok (.iload_n 3, 1) := by decide +kernel
theorem dX8_blurred_18 : decode cX8_blurred 18 = .ok (.aload_n 0, 1) := by decide +kernel
theorem dX8_blurred_19 : decode cX8_blurred 19 = .ok (.getfield 26, 3) := by decide +kernel
theorem dX8_blurred_22 : decode cX8_blurred 22 = .ok (.invokevirtual 243, 3) := by decide +kernel
theorem dX8_blurred_25 : decode cX8_blurred 25 = .ok (.if_icmp .ge 39, 3) := by decide +kernel
theorem dX8_blurred_28 : decode cX8_blurred 28 = .ok (.aload_n 0, 1) := by decide +kernel
theorem dX8_blurred_29 : decode cX8_blurred 29 = .ok (.getfield 54, 3) := by decide +kernel
theorem dX8_blurred_32 : decode cX8_blurred 32 = .ok (.iload_n 2, 1) := by decide +kernel
theorem dX8_blurred_33 : decode cX8_blurred 33 = .ok (.iload_n 3, 1) := by decide +kernel
