theorem dX0_init_0 : decode cX0_init 0 = .ok (.aload_n 0, 1) := by decide +kernel
theorem dX0_init_1 : decode cX0_init 1 = .ok (.invokespecial 3, 3) := by decide +kernel
theorem dX0_init_4 : decode cX0_init 4 = .ok (.aload_n 0, 1) := by decide +kernel
theorem dX0_init_5 : decode cX0_init 5 = .ok (.bipush 16, 2) := by decide +kernel
theorem dX0_init_7 : decode cX0_init 7 = .ok (.newarray .int, 2) := by decide +kernel
theorem dX0_init_9 : decode cX0_init 9 = .ok (.putfield 9, 3) := by decide +kernel
theorem dX0_init_12 : decode cX0_init 12 = .ok (.aload_n 0, 1) := by decide +kernel
theorem dX0_init_13 : decode cX0_init 13 = .ok (.bipush 8, 2) := by decide +kernel
theorem dX0_init_15 : decode cX0_init 15 = .ok (.newarray .int, 2) := by decide +kernel
theorem dX0_init_17 : decode cX0_init 17 = .ok (.putfield 15, 3) := by decide +kernel
theorem dX0_init_20 : decode cX0_init 20 = .ok (.aload_n 0, 1) := by decide +kernel
theorem dX0_init_21 : decode cX0_init 21 = .ok (.bipush 8, 2) := by decide +kernel
theorem dX0_init_23 : decode cX0_init 23 = .ok (.newarray .boolean, 2) := by decide +kernel
theorem dX0_init_25 : decode cX0_init 25 = .ok (.putfield 18, 3) := by decide +kernel
theorem dX0_init_28 : decode cX0_init 28 = .ok (.aload_n 0, 1) := by decide +kernel
theorem dX0_init_29 : decode cX0_init 29 = .ok (.bipush 8, 2) := by decide +kernel
theorem dX0_init_31 : decode cX0_init 31 = .ok (.newarray .int, 2) := by decide +kernel
theorem dX0_init_33 : decode cX0_init 33 = .ok (.putfield 22, 3) := by decide +kernel
theorem dX0_init_36 : decode cX0_init 36 = .ok (.aload_n 0, 1) := by decide +kernel
theorem dX0_init_37 : decode cX0_init 37 = .ok (.bipush 8, 2) := by decide +kernel
theorem dX0_init_39 : decode cX0_init 39 = .ok (.bipush 24, 2) := by decide +kernel
theorem dX0_init_41 : decode cX0_init 41 = .ok (.multianewarray 25 2, 4) := by decide +kernel
theorem dX0_init_45 : decode cX0_init 45 = .ok (.putfield 27, 3) := by decide +kernel
theorem dX0_init_48 : decode cX0_init 48 = .ok (.return_, 1) := by decide +kernel
set_option maxRecDepth 20000 in
theorem ggX0_stretch_X0_wash : GoodIn wsX0_stretch wsX0_wash := goodIn_r _ [10, 11, 12, 13, 14, 15, 16, 17, 18, 19] (by decide +kernel) (by decide +kernel)
set_option maxRecDepth 20000 in
theorem gX0_stretch_X0_wash : GoodIn wsX0_stretch (wsV RX0 37 RX0 yX0_wash wsX0_wash) := goodIn_app (goodIn_of _ (by decide +kernel)) ggX0_stretch_X0_wash
theorem dX0_stretch_0 : decode cX0_stretch 0 = .ok (.aload_n 0, 1) := by decide +kernel
theorem dX0_stretch_1 : decode cX0_stretch 1 = .ok (.iload_n 1, 1) := by decide +kernel
theorem dX0_stretch_2 : decode cX0_stretch 2 = .ok (.putfield 30, 3) := by decide +kernel
theorem dX0_stretch_5 : decode cX0_stretch 5 = .ok (.aload_n 0, 1) := by decide +kernel
theorem dX0_stretch_6 : decode cX0_stretch 6 = .ok (.iload_n 2, 1) := by decide +kernel
theorem dX0_stretch_7 : decode cX0_stretch 7 = .ok (.putfield 34, 3) := by decide +kernel
theorem dX0_stretch_10 : decode cX0_stretch 10 = .ok (.iconst 0, 1) := by decide +kernel
theorem dX0_stretch_11 : decode cX0_stretch 11 = .ok (.istore_n 3, 1) := by decide +kernel
theorem dX0_stretch_12 : decode cX0_stretch 12 = .ok (.iload_n 3, 1) := by decide +kernel
theorem dX0_stretch_13 : decode cX0_stretch 13 = .ok (.bipush 16, 2) := by decide +kernel
theorem dX0_stretch_15 : decode cX0_stretch 15 = .ok (.if_icmp .ge 16, 3) := by decide +kernel
theorem dX0_stretch_18 : decode cX0_stretch 18 = .ok (.aload_n 0, 1) := by decide +kernel
theorem dX0_stretch_19 : decode cX0_stretch 19 = .ok (.getfield 9, 3) := by decide +kernel
theorem dX0_stretch_22 : decode cX0_stretch 22 = .ok (.iload_n 3, 1) := by decide +kernel
theorem dX0_stretch_23 : decode cX0_stretch 23 = .ok (.iconst 0, 1) := by decide +kernel
theorem dX0_stretch_24 : decode cX0_stretch 24 = .ok (.iastore, 1) := by decide +kernel
theorem dX0_stretch_25 : decode cX0_stretch 25 = .ok (.iinc 3 1, 3) := by decide +kernel
theorem dX0_stretch_28 : decode cX0_stretch 28 = .ok (.goto (-16), 3) := by decide +kernel
theorem dX0_stretch_31 : decode cX0_stretch 31 = .ok (.iconst 0, 1) := by decide +kernel
theorem dX0_stretch_32 : decode cX0_stretch 32 = .ok (.istore_n 3, 1) := by decide +kernel
theorem dX0_stretch_33 : decode cX0_stretch 33 = .ok (.iload_n 3, 1) := by decide +kernel
theorem dX0_stretch_34 : decode cX0_stretch 34 = .ok (.bipush 8, 2) := by decide +kernel
theorem dX0_stretch_36 : decode cX0_stretch 36 = .ok (.if_icmp .ge 23, 3) := by decide +kernel
theorem dX0_stretch_39 : decode cX0_stretch 39 = .ok (.aload_n 0, 1) := by decide +kernel
theorem dX0_stretch_40 : decode cX0_stretch 40 = .ok (.getfield 15, 3) := by decide +kernel
theorem dX0_stretch_43 : decode cX0_stretch 43 = .ok (.iload_n 3, 1) := by decide +kernel
theorem dX0_stretch_44 : decode cX0_stretch 44 = .ok (.iconst 0, 1) := by decide +kernel
theorem dX0_stretch_45 : decode cX0_stretch 45 = .ok (.iastore, 1) := by decide +kernel
theorem dX0_stretch_46 : decode cX0_stretch 46 = .ok (.aload_n 0, 1) := by decide +kernel
theorem dX0_stretch_47 : decode cX0_stretch 47 = .ok (.getfield 18, 3) := by decide +kernel
theorem dX0_stretch_50 : decode cX0_stretch 50 = .ok (.iload_n 3, 1) := by decide +kernel
theorem dX0_stretch_51 : decode cX0_stretch 51 = .ok (.iconst 0, 1) := by decide +kernel
theorem dX0_stretch_52 : decode cX0_stretch 52 = .ok (.bastore, 1) := by decide +kernel
theorem dX0_stretch_53 : decode cX0_stretch 53 = .ok (.iinc 3 1, 3) := by decide +kernel
theorem dX0_stretch_56 : decode cX0_stretch 56 = .ok (.goto (-23), 3) := by decide +kernel
theorem dX0_stretch_59 : decode cX0_stretch 59 = .ok (.aload_n 0, 1) := by decide +kernel
theorem dX0_stretch_60 : decode cX0_stretch 60 = .ok (.getfield 15, 3) := by decide +kernel
theorem dX0_stretch_63 : decode cX0_stretch 63 = .ok (.iconst 0, 1) := by decide +kernel
theorem dX0_stretch_64 : decode cX0_stretch 64 = .ok (.aload_n 0, 1) := by decide +kernel
theorem dX0_stretch_65 : decode cX0_stretch 65 = .ok (.getfield 30, 3) := by decide +kernel
theorem dX0_stretch_68 : decode cX0_stretch 68 = .ok (.iastore, 1) := by decide +kernel
theorem dX0_stretch_69 : decode cX0_stretch 69 = .ok (.aload_n 0, 1) := by decide +kernel
theorem dX0_stretch_70 : decode cX0_stretch 70 = .ok (.invokevirtual 37, 3) := by decide +kernel
theorem dX0_stretch_73 : decode cX0_stretch 73 = .ok (.return_, 1) := by decide +kernel
theorem dX0_wash_0 : decode cX0_wash 0 = .ok (.iconst 0, 1) := by decide +kernel
theorem dX0_wash_1 : decode cX0_wash 1 = .ok (.istore_n 1, 1) := by decide +kernel
theorem dX0_wash_2 : decode cX0_wash 2 = .ok (.iload_n 1, 1) := by decide +kernel
theorem dX0_wash_3 : decode cX0_wash 3 = .ok (.bipush 8, 2) := by decide +kernel
theorem dX0_wash_5 : decode cX0_wash 5 = .ok (.if_icmp .ge 39, 3) := by decide +kernel
theorem dX0_wash_8 : decode cX0_wash 8 = .ok (.aload_n 0, 1) := by decide +kernel
theorem dX0_wash_9 : decode cX0_wash 9 = .ok (.getfield 22, 3) := by decide +kernel
theorem dX0_wash_12 : decode cX0_wash 12 = .ok (.iload_n 1, 1) := by decide +kernel
theorem dX0_wash_13 : decode cX0_wash 13 = .ok (.iconst 0, 1) := by decide +kernel
theorem dX0_wash_14 : decode cX0_wash 14 = .ok (.iastore, 1) := by decide +kernel
theorem dX0_wash_15 : decode cX0_wash 15 = .ok (.iconst 0, 1) := by decide +kernel
theorem dX0_wash_16 : decode cX0_wash 16 = .ok (.istore_n 2, 1) := by decide +kernel
theorem dX0_wash_17 : decode cX0_wash 17 = .ok (.iload_n 2, 1) := by decide +kernel
theorem dX0_wash_18 : decode cX0_wash 18 = .ok (.bipush 24, 2) := by decide +kernel
theorem dX0_wash_20 : decode cX0_wash 20 = .ok (.if_icmp .ge 18, 3) := by decide +kernel
theorem dX0_wash_23 : decode cX0_wash 23 = .ok (.aload_n 0, 1) := by decide +kernel
theorem dX0_wash_24 : decode cX0_wash 24 = .ok (.getfield 27, 3) := by decide +kernel
theorem dX0_wash_27 : decode cX0_wash 27 = .ok (.iload_n 1, 1) := by decide +kernel
theorem dX0_wash_28 : decode cX0_wash 28 = .ok (.aaload, 1) := by decide +kernel
theorem dX0_wash_29 : decode cX0_wash 29 = .ok (.iload_n 2, 1) := by decide +kernel
theorem dX0_wash_30 : decode cX0_wash 30 = .ok (.iconst 0, 1) := by decide +kernel
theorem dX0_wash_31 : decode cX0_wash 31 = .ok (.iastore, 1) := by decide +kernel
theorem dX0_wash_32 : decode cX0_wash 32 = .ok (.iinc 2 1, 3) := by decide +kernel
theorem dX0_wash_35 : decode cX0_wash 35 = .ok (.goto (-18), 3) := by decide +kernel
theorem dX0_wash_38 : decode cX0_wash 38 = .ok (.iinc 1 1, 3) := by decide +kernel
theorem dX0_wash_41 : decode cX0_wash 41 = .ok (.goto (-39), 3) := by decide +kernel
theorem dX0_wash_44 : decode cX0_wash 44 = .ok (.return_, 1) := by decide +kernel
set_option maxRecDepth 20000 in
theorem ggX0_move_X0_wash : GoodIn wsX0_move wsX0_wash := goodIn_r _ [7, 8, 9, 10, 11, 12, 13, 14, 15, 16] (by decide +kernel) (by decide +kernel)
set_option maxRecDepth 20000 in
theorem gX0_move_X0_wash : GoodIn wsX0_move (wsV RX0 37 RX0 yX0_wash wsX0_wash) := goodIn_app (goodIn_of _ (by decide +kernel)) ggX0_move_X0_wash
theorem dX0_move_0 : decode cX0_move 0 = .ok (.aload_n 0, 1) := by decide +kernel
theorem dX0_move_1 : decode cX0_move 1 = .ok (.getfield 15, 3) := by decide +kernel
theorem dX0_move_4 : decode cX0_move 4 = .ok (.aload_n 0, 1) := by decide +kernel
theorem dX0_move_5 : decode cX0_move 5 = .ok (.getfield 9, 3) := by decide +kernel
theorem dX0_move_8 : decode cX0_move 8 = .ok (.iload_n 1, 1) := by decide +kernel
theorem dX0_move_9 : decode cX0_move 9 = .ok (.iaload, 1) := by decide +kernel
theorem dX0_move_10 : decode cX0_move 10 = .ok (.dup2, 1) := by decide +kernel
theorem dX0_move_11 : decode cX0_move 11 = .ok (.iaload, 1) := by decide +kernel
theorem dX0_move_12 : decode cX0_move 12 = .ok (.iconst 1, 1) := by decide +kernel
theorem dX0_move_13 : decode cX0_move 13 = .ok (.isub, 1) := by decide +kernel
theorem dX0_move_14 : decode cX0_move 14 = .ok (.iastore, 1) := by decide +kernel
theorem dX0_move_15 : decode cX0_move 15 = .ok (.aload_n 0, 1) := by decide +kernel
theorem dX0_move_16 : decode cX0_move 16 = .ok (.getfield 9, 3) := by decide +kernel
theorem dX0_move_19 : decode cX0_move 19 = .ok (.iload_n 1, 1) := by decide +kernel
theorem dX0_move_20 : decode cX0_move 20 = .ok (.iload_n 2, 1) := by decide +kernel
theorem dX0_move_21 : decode cX0_move 21 = .ok (.iastore, 1) := by decide +kernel
theorem dX0_move_22 : decode cX0_move 22 = .ok (.aload_n 0, 1) := by decide +kernel
theorem dX0_move_23 : decode cX0_move 23 = .ok (.getfield 15, 3) := by decide +kernel
theorem dX0_move_26 : decode cX0_move 26 = .ok (.iload_n 2, 1) := by decide +kernel
theorem dX0_move_27 : decode cX0_move 27 = .ok (.dup2, 1) := by decide +kernel
theorem dX0_move_28 : decode cX0_move 28 = .ok (.iaload, 1) := by decide +kernel
theorem dX0_move_29 : decode cX0_move 29 = .ok (.iconst 1, 1) := by decide +kernel
theorem dX0_move_30 : decode cX0_move 30 = .ok (.iadd, 1) := by decide +kernel
theorem dX0_move_31 : decode cX0_move 31 = .ok (.iastore, 1) := by decide +kernel
theorem dX0_move_32 : decode cX0_move 32 = .ok (.aload_n 0, 1) := by decide +kernel
theorem dX0_move_33 : decode cX0_move 33 = .ok (.invokevirtual 37, 3) := by decide +kernel
theorem dX0_move_36 : decode cX0_move 36 = .ok (.return_, 1) := by decide +kernel
set_option maxRecDepth 20000 in
theorem ggX0_setFolded_X0_wash : GoodIn wsX0_setFolded wsX0_wash := goodIn_r _ [6, 7, 8, 9, 10, 11, 12, 13, 14, 15] (by decide +kernel) (by decide +kernel)
set_option maxRecDepth 20000 in
theorem gX0_setFolded_X0_wash : GoodIn wsX0_setFolded (wsV RX0 37 RX0 yX0_wash wsX0_wash) := goodIn_app (goodIn_of _ (by decide +kernel)) ggX0_setFolded_X0_wash
theorem dX0_setFolded_0 : decode cX0_setFolded 0 = .ok (.aload_n 0, 1) := by decide +kernel
theorem dX0_setFolded_1 : decode cX0_setFolded 1 = .ok (.getfield 18, 3) := by decide +kernel
theorem dX0_setFolded_4 : decode cX0_setFolded 4 = .ok (.iload_n 1, 1) := by decide +kernel
theorem dX0_setFolded_5 : decode cX0_setFolded 5 = .ok (.iload_n 2, 1) := by decide +kernel
theorem dX0_setFolded_6 : decode cX0_setFolded 6 = .ok (.bastore, 1) := by decide +kernel
theorem dX0_setFolded_7 : decode cX0_setFolded 7 = .ok (.aload_n 0, 1) := by decide +kernel
theorem dX0_setFolded_8 : decode cX0_setFolded 8 = .ok (.invokevirtual 37, 3) := by decide +kernel
theorem dX0_setFolded_11 : decode cX0_setFolded 11 = .ok (.return_, 1) := by decide +kernel
theorem dX0_threads_0 : decode cX0_threads 0 = .ok (.aload_n 0, 1) := by decide +kernel
theorem dX0_threads_1 : decode cX0_threads 1 = .ok (.getfield 30, 3) := by decide +kernel
theorem dX0_threads_4 : decode cX0_threads 4 = .ok (.ireturn, 1) := by decide +kernel
theorem dX0_places_0 : decode cX0_places 0 = .ok (.aload_n 0, 1) := by decide +kernel
theorem dX0_places_1 : decode cX0_places 1 = .ok (.getfield 34, 3) := by decide +kernel
theorem dX0_places_4 : decode cX0_places 4 = .ok (.ireturn, 1) := by decide +kernel
theorem dX0_bundleOf_0 : decode cX0_bundleOf 0 = .ok (.aload_n 0, 1) := by decide +kernel
theorem dX0_bundleOf_1 : decode cX0_bundleOf 1 = .ok (.getfield 9, 3) := by decide +kernel
theorem dX0_bundleOf_4 : decode cX0_bundleOf 4 = .ok (.iload_n 1, 1) := by decide +kernel
theorem dX0_bundleOf_5 : decode cX0_bundleOf 5 = .ok (.iaload, 1) := by decide +kernel
theorem dX0_bundleOf_6 : decode cX0_bundleOf 6 = .ok (.ireturn, 1) := by decide +kernel
theorem dX0_threadsIn_0 : decode cX0_threadsIn 0 = .ok (.aload_n 0, 1) := by decide +kernel
theorem dX0_threadsIn_1 : decode cX0_threadsIn 1 = .ok (.getfield 15, 3) := by decide +kernel
theorem dX0_threadsIn_4 : decode cX0_threadsIn 4 = .ok (.iload_n 1, 1) := by decide +kernel
theorem dX0_threadsIn_5 : decode cX0_threadsIn 5 = .ok (.iaload, 1) := by decide +kernel
theorem dX0_threadsIn_6 : decode cX0_threadsIn 6 = .ok (.ireturn, 1) := by decide +kernel
theorem dX0_isFolded_0 : decode cX0_isFolded 0 = .ok (.aload_n 0, 1) := by decide +kernel
theorem dX0_isFolded_1 : decode cX0_isFolded 1 = .ok (.getfield 18, 3) := by decide +kernel
theorem dX0_isFolded_4 : decode cX0_isFolded 4 = .ok (.iload_n 1, 1) := by decide +kernel
theorem dX0_isFolded_5 : decode cX0_isFolded 5 = .ok (.baload, 1) := by decide +kernel
theorem dX0_isFolded_6 : decode cX0_isFolded 6 = .ok (.ireturn, 1) := by decide +kernel
theorem dX0_isBound_0 : decode cX0_isBound 0 = .ok (.aload_n 0, 1) := by decide +kernel
theorem dX0_isBound_1 : decode cX0_isBound 1 = .ok (.getfield 22, 3) := by decide +kernel
theorem dX0_isBound_4 : decode cX0_isBound 4 = .ok (.iload_n 1, 1) := by decide +kernel
theorem dX0_isBound_5 : decode cX0_isBound 5 = .ok (.iaload, 1) := by decide +kernel
theorem dX0_isBound_6 : decode cX0_isBound 6 = .ok (.iload_n 2, 1) := by decide +kernel
theorem dX0_isBound_7 : decode cX0_isBound 7 = .ok (.ishr, 1) := by decide +kernel
theorem dX0_isBound_8 : decode cX0_isBound 8 = .ok (.iconst 1, 1) := by decide +kernel
theorem dX0_isBound_9 : decode cX0_isBound 9 = .ok (.iand, 1) := by decide +kernel
theorem dX0_isBound_10 : decode cX0_isBound 10 = .ok (.ifCond .eq 7, 3) := by decide +kernel
theorem dX0_isBound_13 : decode cX0_isBound 13 = .ok (.iconst 1, 1) := by decide +kernel
theorem dX0_isBound_14 : decode cX0_isBound 14 = .ok (.goto 4, 3) := by decide +kernel
theorem dX0_isBound_17 : decode cX0_isBound 17 = .ok (.iconst 0, 1) := by decide +kernel
theorem dX0_isBound_18 : decode cX0_isBound 18 = .ok (.ireturn, 1) := by decide +kernel
theorem dX0_colourAt_0 : decode cX0_colourAt 0 = .ok (.aload_n 0, 1) := by decide +kernel
theorem dX0_colourAt_1 : decode cX0_colourAt 1 = .ok (.getfield 27, 3) := by decide +kernel
theorem dX0_colourAt_4 : decode cX0_colourAt 4 = .ok (.aload_n 0, 1) := by decide +kernel
theorem dX0_colourAt_5 : decode cX0_colourAt 5 = .ok (.getfield 9, 3) := by decide +kernel
theorem dX0_colourAt_8 : decode cX0_colourAt 8 = .ok (.iload_n 1, 1) := by decide +kernel
theorem dX0_colourAt_9 : decode cX0_colourAt 9 = .ok (.iaload, 1) := by decide +kernel
theorem dX0_colourAt_10 : decode cX0_colourAt 10 = .ok (.aaload, 1) := by decide +kernel
theorem dX0_colourAt_11 : decode cX0_colourAt 11 = .ok (.iload_n 2, 1) := by decide +kernel
theorem dX0_colourAt_12 : decode cX0_colourAt 12 = .ok (.iaload, 1) := by decide +kernel
theorem dX0_colourAt_13 : decode cX0_colourAt 13 = .ok (.ireturn, 1) := by decide +kernel
theorem dX0_freePlaces_0 : decode cX0_freePlaces 0 = .ok (.aload_n 0, 1) := by decide +kernel
theorem dX0_freePlaces_1 : decode cX0_freePlaces 1 = .ok (.getfield 18, 3) := by decide +kernel
theorem dX0_freePlaces_4 : decode cX0_freePlaces 4 = .ok (.iload_n 1, 1) := by decide +kernel
theorem dX0_freePlaces_5 : decode cX0_freePlaces 5 = .ok (.baload, 1) := by decide +kernel
theorem dX0_freePlaces_6 : decode cX0_freePlaces 6 = .ok (.ifCond .eq 14, 3) := by decide +kernel
theorem dX0_freePlaces_9 : decode cX0_freePlaces 9 = .ok (.aload_n 0, 1) := by decide +kernel
theorem dX0_freePlaces_10 : decode cX0_freePlaces 10 = .ok (.getfield 34, 3) := by decide +kernel
theorem dX0_freePlaces_13 : decode cX0_freePlaces 13 = .ok (.iconst 1, 1) := by decide +kernel
theorem dX0_freePlaces_14 : decode cX0_freePlaces 14 = .ok (.iadd, 1) := by decide +kernel
theorem dX0_freePlaces_15 : decode cX0_freePlaces 15 = .ok (.iconst 2, 1) := by decide +kernel
theorem dX0_freePlaces_16 : decode cX0_freePlaces 16 = .ok (.idiv, 1) := by decide +kernel
theorem dX0_freePlaces_17 : decode cX0_freePlaces 17 = .ok (.goto 7, 3) := by decide +kernel
theorem dX0_freePlaces_20 : decode cX0_freePlaces 20 = .ok (.aload_n 0, 1) := by decide +kernel
theorem dX0_freePlaces_21 : decode cX0_freePlaces 21 = .ok (.getfield 34, 3) := by decide +kernel
theorem dX0_freePlaces_24 : decode cX0_freePlaces 24 = .ok (.ireturn, 1) := by decide +kernel
set_option maxRecDepth 20000 in
theorem ggX0_underFold_X0_freePlaces : GoodIn wsX0_underFold wsX0_freePlaces := goodIn_r _ [6, 7, 1, 8, 9, 10, 11, 12, 13, 14] (by decide +kernel) (by decide +kernel)
set_option maxRecDepth 20000 in
theorem gX0_underFold_X0_freePlaces : GoodIn wsX0_underFold (wsV RX0 40 RX0 yX0_freePlaces wsX0_freePlaces) := goodIn_app (goodIn_of _ (by decide +kernel)) ggX0_underFold_X0_freePlaces
theorem dX0_underFold_0 : decode cX0_underFold 0 = .ok (.iload_n 2, 1) := by decide +kernel
theorem dX0_underFold_1 : decode cX0_underFold 1 = .ok (.aload_n 0, 1) := by decide +kernel
theorem dX0_underFold_2 : decode cX0_underFold 2 = .ok (.iload_n 1, 1) := by decide +kernel
theorem dX0_underFold_3 : decode cX0_underFold 3 = .ok (.invokevirtual 40, 3) := by decide +kernel
theorem dX0_underFold_6 : decode cX0_underFold 6 = .ok (.if_icmp .ge 7, 3) := by decide +kernel
theorem dX0_underFold_9 : decode cX0_underFold 9 = .ok (.iload_n 2, 1) := by decide +kernel
theorem dX0_underFold_10 : decode cX0_underFold 10 = .ok (.goto 11, 3) := by decide +kernel
theorem dX0_underFold_13 : decode cX0_underFold 13 = .ok (.aload_n 0, 1) := by decide +kernel
theorem dX0_underFold_14 : decode cX0_underFold 14 = .ok (.getfield 34, 3) := by decide +kernel
theorem dX0_underFold_17 : decode cX0_underFold 17 = .ok (.iconst 1, 1) := by decide +kernel
theorem dX0_underFold_18 : decode cX0_underFold 18 = .ok (.isub, 1) := by decide +kernel
theorem dX0_underFold_19 : decode cX0_underFold 19 = .ok (.iload_n 2, 1) := by decide +kernel
theorem dX0_underFold_20 : decode cX0_underFold 20 = .ok (.isub, 1) := by decide +kernel
theorem dX0_underFold_21 : decode cX0_underFold 21 = .ok (.ireturn, 1) := by decide +kernel
theorem dX0_reach_0 : decode cX0_reach 0 = .ok (.iconst 0, 1) := by decide +kernel
theorem dX0_reach_1 : decode cX0_reach 1 = .ok (.istore 4, 2) := by decide +kernel
theorem dX0_reach_3 : decode cX0_reach 3 = .ok (.iload_n 2, 1) := by decide +kernel
theorem dX0_reach_4 : decode cX0_reach 4 = .ok (.istore 5, 2) := by decide +kernel
theorem dX0_reach_6 : decode cX0_reach 6 = .ok (.iload 5, 2) := by decide +kernel
theorem dX0_reach_8 : decode cX0_reach 8 = .ok (.iload_n 3, 1) := by decide +kernel
theorem dX0_reach_9 : decode cX0_reach 9 = .ok (.if_icmp .gt 43, 3) := by decide +kernel
theorem dX0_reach_12 : decode cX0_reach 12 = .ok (.iload 4, 2) := by decide +kernel
theorem dX0_reach_14 : decode cX0_reach 14 = .ok (.iconst 1, 1) := by decide +kernel
theorem dX0_reach_15 : decode cX0_reach 15 = .ok (.iload 5, 2) := by decide +kernel
theorem dX0_reach_17 : decode cX0_reach 17 = .ok (.ishl, 1) := by decide +kernel
theorem dX0_reach_18 : decode cX0_reach 18 = .ok (.ior, 1) := by decide +kernel
theorem dX0_reach_19 : decode cX0_reach 19 = .ok (.istore 4, 2) := by decide +kernel
theorem dX0_reach_21 : decode cX0_reach 21 = .ok (.aload_n 0, 1) := by decide +kernel
theorem dX0_reach_22 : decode cX0_reach 22 = .ok (.getfield 18, 3) := by decide +kernel
theorem dX0_reach_25 : decode cX0_reach 25 = .ok (.iload_n 1, 1) := by decide +kernel
theorem dX0_reach_26 : decode cX0_reach 26 = .ok (.baload, 1) := by decide +kernel
theorem dX0_reach_27 : decode cX0_reach 27 = .ok (.ifCond .eq 19, 3) := by decide +kernel
theorem dX0_reach_30 : decode cX0_reach 30 = .ok (.iload 4, 2) := by decide +kernel
theorem dX0_reach_32 : decode cX0_reach 32 = .ok (.iconst 1, 1) := by decide +kernel
theorem dX0_reach_33 : decode cX0_reach 33 = .ok (.aload_n 0, 1) := by decide +kernel
theorem dX0_reach_34 : decode cX0_reach 34 = .ok (.getfield 34, 3) := by decide +kernel
theorem dX0_reach_37 : decode cX0_reach 37 = .ok (.iconst 1, 1) := by decide +kernel
theorem dX0_reach_38 : decode cX0_reach 38 = .ok (.isub, 1) := by decide +kernel
theorem dX0_reach_39 : decode cX0_reach 39 = .ok (.iload 5, 2) := by decide +kernel
theorem dX0_reach_41 : decode cX0_reach 41 = .ok (.isub, 1) := by decide +kernel
theorem dX0_reach_42 : decode cX0_reach 42 = .ok (.ishl, 1) := by decide +kernel
theorem dX0_reach_43 : decode cX0_reach 43 = .ok (.ior, 1) := by decide +kernel
theorem dX0_reach_44 : decode cX0_reach 44 = .ok (.istore 4, 2) := by decide +kernel
theorem dX0_reach_46 : decode cX0_reach 46 = .ok (.iinc 5 1, 3) := by decide +kernel
theorem dX0_reach_49 : decode cX0_reach 49 = .ok (.goto (-43), 3) := by decide +kernel
theorem dX0_reach_52 : decode cX0_reach 52 = .ok (.iload 4, 2) := by decide +kernel
theorem dX0_reach_54 : decode cX0_reach 54 = .ok (.ireturn, 1) := by decide +kernel
set_option maxRecDepth 20000 in
theorem ggX0_bind_X0_reach : GoodIn wsX0_bind wsX0_reach := goodIn_r _ [6, 7, 8, 16, 17, 18, 19, 20, 21, 22] (by decide +kernel) (by decide +kernel)
set_option maxRecDepth 20000 in
theorem gX0_bind_X0_reach : GoodIn wsX0_bind (wsV RX0 44 RX0 yX0_reach wsX0_reach) := goodIn_app (goodIn_of _ (by decide +kernel)) ggX0_bind_X0_reach
set_option maxRecDepth 20000 in
theorem ggX0_bind_J6_bitCount_0f7a4 : GoodIn wsX0_bind wsJ6_bitCount_0f7a4 := goodIn_r _ [12, 13, 14, 15] (by decide +kernel) (by decide +kernel)
set_option maxRecDepth 20000 in
theorem gX0_bind_J6_bitCount_0f7a4 : GoodIn wsX0_bind (va_wsS RX0 48 yJ6_bitCount_0f7a4 wsJ6_bitCount_0f7a4) := goodIn_app (goodIn_of _ (by decide +kernel)) ggX0_bind_J6_bitCount_0f7a4
theorem dX0_bind_0 : decode cX0_bind 0 = .ok (.aload_n 0, 1) := by decide +kernel
theorem dX0_bind_1 : decode cX0_bind 1 = .ok (.iload_n 1, 1) := by decide +kernel
theorem dX0_bind_2 : decode cX0_bind 2 = .ok (.iload_n 2, 1) := by decide +kernel
theorem dX0_bind_3 : decode cX0_bind 3 = .ok (.iload_n 3, 1) := by decide +kernel
theorem dX0_bind_4 : decode cX0_bind 4 = .ok (.invokevirtual 44, 3) := by decide +kernel
theorem dX0_bind_7 : decode cX0_bind 7 = .ok (.aload_n 0, 1) := by decide +kernel
theorem dX0_bind_8 : decode cX0_bind 8 = .ok (.getfield 22, 3) := by decide +kernel
theorem dX0_bind_11 : decode cX0_bind 11 = .ok (.iload_n 1, 1) := by decide +kernel
theorem dX0_bind_12 : decode cX0_bind 12 = .ok (.iaload, 1) := by decide +kernel
theorem dX0_bind_13 : decode cX0_bind 13 = .ok (.iconst (-1), 1) := by decide +kernel
theorem dX0_bind_14 : decode cX0_bind 14 = .ok (.ixor, 1) := by decide +kernel
theorem dX0_bind_15 : decode cX0_bind 15 = .ok (.iand, 1) := by decide +kernel
theorem dX0_bind_16 : decode cX0_bind 16 = .ok (.istore 4, 2) := by decide +kernel
theorem dX0_bind_18 : decode cX0_bind 18 = .ok (.aload_n 0, 1) := by decide +kernel
theorem dX0_bind_19 : decode cX0_bind 19 = .ok (.getfield 22, 3) := by decide +kernel
theorem dX0_bind_22 : decode cX0_bind 22 = .ok (.iload_n 1, 1) := by decide +kernel
theorem dX0_bind_23 : decode cX0_bind 23 = .ok (.dup2, 1) := by decide +kernel
theorem dX0_bind_24 : decode cX0_bind 24 = .ok (.iaload, 1) := by decide +kernel
theorem dX0_bind_25 : decode cX0_bind 25 = .ok (.iload 4, 2) := by decide +kernel
theorem dX0_bind_27 : decode cX0_bind 27 = .ok (.ior, 1) := by decide +kernel
theorem dX0_bind_28 : decode cX0_bind 28 = .ok (.iastore, 1) := by decide +kernel
theorem dX0_bind_29 : decode cX0_bind 29 = .ok (.iload 4, 2) := by decide +kernel
theorem dX0_bind_31 : decode cX0_bind 31 = .ok (.invokestatic 48, 3) := by decide +kernel
theorem dX0_bind_34 : decode cX0_bind 34 = .ok (.ireturn, 1) := by decide +kernel
set_option maxRecDepth 20000 in
theorem ggX0_loosen_X0_reach : GoodIn wsX0_loosen wsX0_reach := goodIn_r _ [6, 7, 8, 16, 17, 18, 19, 20, 21, 22] (by decide +kernel) (by decide +kernel)
set_option maxRecDepth 20000 in
theorem gX0_loosen_X0_reach : GoodIn wsX0_loosen (wsV RX0 44 RX0 yX0_reach wsX0_reach) := goodIn_app (goodIn_of _ (by decide +kernel)) ggX0_loosen_X0_reach
set_option maxRecDepth 20000 in
theorem ggX0_loosen_J6_bitCount_0f7a4 : GoodIn wsX0_loosen wsJ6_bitCount_0f7a4 := goodIn_r _ [12, 13, 14, 15] (by decide +kernel) (by decide +kernel)
set_option maxRecDepth 20000 in
theorem gX0_loosen_J6_bitCount_0f7a4 : GoodIn wsX0_loosen (va_wsS RX0 48 yJ6_bitCount_0f7a4 wsJ6_bitCount_0f7a4) := goodIn_app (goodIn_of _ (by decide +kernel)) ggX0_loosen_J6_bitCount_0f7a4
theorem dX0_loosen_0 : decode cX0_loosen 0 = .ok (.aload_n 0, 1) := by decide +kernel
theorem dX0_loosen_1 : decode cX0_loosen 1 = .ok (.iload_n 1, 1) := by decide +kernel
theorem dX0_loosen_2 : decode cX0_loosen 2 = .ok (.iload_n 2, 1) := by decide +kernel
theorem dX0_loosen_3 : decode cX0_loosen 3 = .ok (.iload_n 3, 1) := by decide +kernel
theorem dX0_loosen_4 : decode cX0_loosen 4 = .ok (.invokevirtual 44, 3) := by decide +kernel
theorem dX0_loosen_7 : decode cX0_loosen 7 = .ok (.aload_n 0, 1) := by decide +kernel
theorem dX0_loosen_8 : decode cX0_loosen 8 = .ok (.getfield 22, 3) := by decide +kernel
theorem dX0_loosen_11 : decode cX0_loosen 11 = .ok (.iload_n 1, 1) := by decide +kernel
theorem dX0_loosen_12 : decode cX0_loosen 12 = .ok (.iaload, 1) := by decide +kernel
theorem dX0_loosen_13 : decode cX0_loosen 13 = .ok (.iand, 1) := by decide +kernel
theorem dX0_loosen_14 : decode cX0_loosen 14 = .ok (.istore 4, 2) := by decide +kernel
theorem dX0_loosen_16 : decode cX0_loosen 16 = .ok (.aload_n 0, 1) := by decide +kernel
theorem dX0_loosen_17 : decode cX0_loosen 17 = .ok (.getfield 22, 3) := by decide +kernel
theorem dX0_loosen_20 : decode cX0_loosen 20 = .ok (.iload_n 1, 1) := by decide +kernel
theorem dX0_loosen_21 : decode cX0_loosen 21 = .ok (.dup2, 1) := by decide +kernel
theorem dX0_loosen_22 : decode cX0_loosen 22 = .ok (.iaload, 1) := by decide +kernel
theorem dX0_loosen_23 : decode cX0_loosen 23 = .ok (.iload 4, 2) := by decide +kernel
theorem dX0_loosen_25 : decode cX0_loosen 25 = .ok (.iconst (-1), 1) := by decide +kernel
theorem dX0_loosen_26 : decode cX0_loosen 26 = .ok (.ixor, 1) := by decide +kernel
theorem dX0_loosen_27 : decode cX0_loosen 27 = .ok (.iand, 1) := by decide +kernel
theorem dX0_loosen_28 : decode cX0_loosen 28 = .ok (.iastore, 1) := by decide +kernel
theorem dX0_loosen_29 : decode cX0_loosen 29 = .ok (.iload 4, 2) := by decide +kernel
theorem dX0_loosen_31 : decode cX0_loosen 31 = .ok (.invokestatic 48, 3) := by decide +kernel
theorem dX0_loosen_34 : decode cX0_loosen 34 = .ok (.ireturn, 1) := by decide +kernel
set_option maxRecDepth 20000 in
theorem ggX0_bindAs_X0_knotsOf : GoodIn wsX0_bindAs wsX0_knotsOf := goodIn_r _ [6, 7, 8, 9, 10, 11, 12, 13, 14, 15, 16, 17, 18, 19, 20, 21, 22, 23, 24] (by decide +kernel) (by decide +kernel)
set_option maxRecDepth 20000 in
theorem gX0_bindAs_X0_knotsOf : GoodIn wsX0_bindAs (wsV RX0 53 RX0 yX0_knotsOf wsX0_knotsOf) := goodIn_app (goodIn_of _ (by decide +kernel)) ggX0_bindAs_X0_knotsOf
theorem dX0_bindAs_0 : decode cX0_bindAs 0 = .ok (.iconst 0, 1) := by decide +kernel
theorem dX0_bindAs_1 : decode cX0_bindAs 1 = .ok (.istore_n 3, 1) := by decide +kernel
theorem dX0_bindAs_2 : decode cX0_bindAs 2 = .ok (.iload_n 3, 1) := by decide +kernel
theorem dX0_bindAs_3 : decode cX0_bindAs 3 = .ok (.bipush 8, 2) := by decide +kernel
theorem dX0_bindAs_5 : decode cX0_bindAs 5 = .ok (.if_icmp .ge 22, 3) := by decide +kernel
theorem dX0_bindAs_8 : decode cX0_bindAs 8 = .ok (.aload_n 0, 1) := by decide +kernel
theorem dX0_bindAs_9 : decode cX0_bindAs 9 = .ok (.getfield 22, 3) := by decide +kernel
theorem dX0_bindAs_12 : decode cX0_bindAs 12 = .ok (.iload_n 3, 1) := by decide +kernel
theorem dX0_bindAs_13 : decode cX0_bindAs 13 = .ok (.aload_n 0, 1) := by decide +kernel
theorem dX0_bindAs_14 : decode cX0_bindAs 14 = .ok (.aload_n 1, 1) := by decide +kernel
theorem dX0_bindAs_15 : decode cX0_bindAs 15 = .ok (.iload_n 3, 1) := by decide +kernel
theorem dX0_bindAs_16 : decode cX0_bindAs 16 = .ok (.iload_n 2, 1) := by decide +kernel
theorem dX0_bindAs_17 : decode cX0_bindAs 17 = .ok (.invokevirtual 53, 3) := by decide +kernel
theorem dX0_bindAs_20 : decode cX0_bindAs 20 = .ok (.iastore, 1) := by decide +kernel
theorem dX0_bindAs_21 : decode cX0_bindAs 21 = .ok (.iinc 3 1, 3) := by decide +kernel
theorem dX0_bindAs_24 : decode cX0_bindAs 24 = .ok (.goto (-22), 3) := by decide +kernel
theorem dX0_bindAs_27 : decode cX0_bindAs 27 = .ok (.return_, 1) := by decide +kernel
set_option maxRecDepth 20000 in
theorem ggX0_knotsOf_X4_bitsAt : GoodIn wsX0_knotsOf wsX4_bitsAt := goodIn_r _ [6, 7, 15, 16, 17, 18] (by decide +kernel) (by decide +kernel)
set_option maxRecDepth 20000 in
theorem gX0_knotsOf_X4_bitsAt : GoodIn wsX0_knotsOf (wsV RX0 57 RX4 yX4_bitsAt wsX4_bitsAt) := goodIn_app (goodIn_of _ (by decide +kernel)) ggX0_knotsOf_X4_bitsAt
theorem dX0_knotsOf_0 : decode cX0_knotsOf 0 = .ok (.iconst 0, 1) := by decide +kernel
theorem dX0_knotsOf_1 : decode cX0_knotsOf 1 = .ok (.istore 4, 2) := by decide +kernel
theorem dX0_knotsOf_3 : decode cX0_knotsOf 3 = .ok (.iconst 0, 1) := by decide +kernel
theorem dX0_knotsOf_4 : decode cX0_knotsOf 4 = .ok (.istore 5, 2) := by decide +kernel
theorem dX0_knotsOf_6 : decode cX0_knotsOf 6 = .ok (.iload 5, 2) := by decide +kernel
theorem dX0_knotsOf_8 : decode cX0_knotsOf 8 = .ok (.aload_n 0, 1) := by decide +kernel
theorem dX0_knotsOf_9 : decode cX0_knotsOf 9 = .ok (.getfield 34, 3) := by decide +kernel
theorem dX0_knotsOf_12 : decode cX0_knotsOf 12 = .ok (.if_icmp .ge 28, 3) := by decide +kernel
theorem dX0_knotsOf_15 : decode cX0_knotsOf 15 = .ok (.iload 4, 2) := by decide +kernel
theorem dX0_knotsOf_17 : decode cX0_knotsOf 17 = .ok (.aload_n 1, 1) := by decide +kernel
theorem dX0_knotsOf_18 : decode cX0_knotsOf 18 = .ok (.iload_n 2, 1) := by decide +kernel
theorem dX0_knotsOf_19 : decode cX0_knotsOf 19 = .ok (.iload 5, 2) := by decide +kernel
theorem dX0_knotsOf_21 : decode cX0_knotsOf 21 = .ok (.invokevirtual 57, 3) := by decide +kernel
theorem dX0_knotsOf_24 : decode cX0_knotsOf 24 = .ok (.iload_n 3, 1) := by decide +kernel
theorem dX0_knotsOf_25 : decode cX0_knotsOf 25 = .ok (.ishr, 1) := by decide +kernel
theorem dX0_knotsOf_26 : decode cX0_knotsOf 26 = .ok (.iconst 1, 1) := by decide +kernel
theorem dX0_knotsOf_27 : decode cX0_knotsOf 27 = .ok (.iand, 1) := by decide +kernel
theorem dX0_knotsOf_28 : decode cX0_knotsOf 28 = .ok (.iload 5, 2) := by decide +kernel
theorem dX0_knotsOf_30 : decode cX0_knotsOf 30 = .ok (.ishl, 1) := by decide +kernel
theorem dX0_knotsOf_31 : decode cX0_knotsOf 31 = .ok (.ior, 1) := by decide +kernel
theorem dX0_knotsOf_32 : decode cX0_knotsOf 32 = .ok (.istore 4, 2) := by decide +kernel
theorem dX0_knotsOf_34 : decode cX0_knotsOf 34 = .ok (.iinc 5 1, 3) := by decide +kernel
theorem dX0_knotsOf_37 : decode cX0_knotsOf 37 = .ok (.goto (-31), 3) := by decide +kernel
theorem dX0_knotsOf_40 : decode cX0_knotsOf 40 = .ok (.iload 4, 2) := by decide +kernel
theorem dX0_knotsOf_42 : decode cX0_knotsOf 42 = .ok (.ireturn, 1) := by decide +kernel
set_option maxRecDepth 20000 in
theorem ggX0_takesUp_X0_takenBy : GoodIn wsX0_takesUp wsX0_takenBy := goodIn_r _ [6, 7, 8, 9, 10, 11, 12, 13, 14, 15, 16, 17, 18, 19, 20, 21, 22] (by decide +kernel) (by decide +kernel)
set_option maxRecDepth 20000 in
theorem gX0_takesUp_X0_takenBy : GoodIn wsX0_takesUp (wsV RX0 63 RX0 yX0_takenBy wsX0_takenBy) := goodIn_app (goodIn_of _ (by decide +kernel)) ggX0_takesUp_X0_takenBy
theorem dX0_takesUp_0 : decode cX0_takesUp 0 = .ok (.iconst 0, 1) := by decide +kernel
theorem dX0_takesUp_1 : decode cX0_takesUp 1 = .ok (.istore_n 1, 1) := by decide +kernel
theorem dX0_takesUp_2 : decode cX0_takesUp 2 = .ok (.iconst 0, 1) := by decide +kernel
theorem dX0_takesUp_3 : decode cX0_takesUp 3 = .ok (.istore_n 2, 1) := by decide +kernel
theorem dX0_takesUp_4 : decode cX0_takesUp 4 = .ok (.iload_n 2, 1) := by decide +kernel
theorem dX0_takesUp_5 : decode cX0_takesUp 5 = .ok (.bipush 8, 2) := by decide +kernel
theorem dX0_takesUp_7 : decode cX0_takesUp 7 = .ok (.if_icmp .ge 23, 3) := by decide +kernel
theorem dX0_takesUp_10 : decode cX0_takesUp 10 = .ok (.iload_n 1, 1) := by decide +kernel
theorem dX0_takesUp_11 : decode cX0_takesUp 11 = .ok (.aload_n 0, 1) := by decide +kernel
theorem dX0_takesUp_12 : decode cX0_takesUp 12 = .ok (.iload_n 2, 1) := by decide +kernel
theorem dX0_takesUp_13 : decode cX0_takesUp 13 = .ok (.aload_n 0, 1) := by decide +kernel
theorem dX0_takesUp_14 : decode cX0_takesUp 14 = .ok (.getfield 22, 3) := by decide +kernel
theorem dX0_takesUp_17 : decode cX0_takesUp 17 = .ok (.iload_n 2, 1) := by decide +kernel
theorem dX0_takesUp_18 : decode cX0_takesUp 18 = .ok (.iaload, 1) := by decide +kernel
theorem dX0_takesUp_19 : decode cX0_takesUp 19 = .ok (.invokevirtual 63, 3) := by decide +kernel
theorem dX0_takesUp_22 : decode cX0_takesUp 22 = .ok (.iadd, 1) := by decide +kernel
theorem dX0_takesUp_23 : decode cX0_takesUp 23 = .ok (.istore_n 1, 1) := by decide +kernel
theorem dX0_takesUp_24 : decode cX0_takesUp 24 = .ok (.iinc 2 1, 3) := by decide +kernel
theorem dX0_takesUp_27 : decode cX0_takesUp 27 = .ok (.goto (-23), 3) := by decide +kernel
theorem dX0_takesUp_30 : decode cX0_takesUp 30 = .ok (.iload_n 1, 1) := by decide +kernel
theorem dX0_takesUp_31 : decode cX0_takesUp 31 = .ok (.ireturn, 1) := by decide +kernel
set_option maxRecDepth 20000 in
theorem ggX0_wouldTakeUp_X0_knotsOf : GoodIn wsX0_wouldTakeUp wsX0_knotsOf := goodIn_r _ [5, 6, 7, 8, 9, 10, 11, 12, 25, 26, 27, 28, 29, 30, 31, 32, 33, 34, 35] (by decide +kernel) (by decide +kernel)
set_option maxRecDepth 20000 in
theorem gX0_wouldTakeUp_X0_knotsOf : GoodIn wsX0_wouldTakeUp (wsV RX0 53 RX0 yX0_knotsOf wsX0_knotsOf) := goodIn_app (goodIn_of _ (by decide +kernel)) ggX0_wouldTakeUp_X0_knotsOf
set_option maxRecDepth 20000 in
theorem ggX0_wouldTakeUp_X0_takenBy : GoodIn wsX0_wouldTakeUp wsX0_takenBy := goodIn_r _ [16, 17, 6, 18, 19, 20, 21, 22, 23, 24, 25, 26, 27, 28, 29, 30, 31] (by decide +kernel) (by decide +kernel)
set_option maxRecDepth 20000 in
theorem gX0_wouldTakeUp_X0_takenBy : GoodIn wsX0_wouldTakeUp (wsV RX0 63 RX0 yX0_takenBy wsX0_takenBy) := goodIn_app (goodIn_of _ (by decide +kernel)) ggX0_wouldTakeUp_X0_takenBy
theorem dX0_wouldTakeUp_0 : decode cX0_wouldTakeUp 0 = .ok (.iconst 0, 1) := by decide +kernel
theorem dX0_wouldTakeUp_1 : decode cX0_wouldTakeUp 1 = .ok (.istore_n 3, 1) := by decide +kernel
theorem dX0_wouldTakeUp_2 : decode cX0_wouldTakeUp 2 = .ok (.iconst 0, 1) := by decide +kernel
theorem dX0_wouldTakeUp_3 : decode cX0_wouldTakeUp 3 = .ok (.istore 4, 2) := by decide +kernel
theorem dX0_wouldTakeUp_5 : decode cX0_wouldTakeUp 5 = .ok (.iload 4, 2) := by decide +kernel
theorem dX0_wouldTakeUp_7 : decode cX0_wouldTakeUp 7 = .ok (.bipush 8, 2) := by decide +kernel
theorem dX0_wouldTakeUp_9 : decode cX0_wouldTakeUp 9 = .ok (.if_icmp .ge 26, 3) := by decide +kernel
theorem dX0_wouldTakeUp_12 : decode cX0_wouldTakeUp 12 = .ok (.iload_n 3, 1) := by decide +kernel
theorem dX0_wouldTakeUp_13 : decode cX0_wouldTakeUp 13 = .ok (.aload_n 0, 1) := by decide +kernel
theorem dX0_wouldTakeUp_14 : decode cX0_wouldTakeUp 14 = .ok (.iload 4, 2) := by decide +kernel
theorem dX0_wouldTakeUp_16 : decode cX0_wouldTakeUp 16 = .ok (.aload_n 0, 1) := by decide +kernel
theorem dX0_wouldTakeUp_17 : decode cX0_wouldTakeUp 17 = .ok (.aload_n 1, 1) := by decide +kernel
theorem dX0_wouldTakeUp_18 : decode cX0_wouldTakeUp 18 = .ok (.iload 4, 2) := by decide +kernel
theorem dX0_wouldTakeUp_20 : decode cX0_wouldTakeUp 20 = .ok (.iload_n 2, 1) := by decide +kernel
theorem dX0_wouldTakeUp_21 : decode cX0_wouldTakeUp 21 = .ok (.invokevirtual 53, 3) := by decide +kernel
theorem dX0_wouldTakeUp_24 : decode cX0_wouldTakeUp 24 = .ok (.invokevirtual 63, 3) := by decide +kernel
theorem dX0_wouldTakeUp_27 : decode cX0_wouldTakeUp 27 = .ok (.iadd, 1) := by decide +kernel
theorem dX0_wouldTakeUp_28 : decode cX0_wouldTakeUp 28 = .ok (.istore_n 3, 1) := by decide +kernel
theorem dX0_wouldTakeUp_29 : decode cX0_wouldTakeUp 29 = .ok (.iinc 4 1, 3) := by decide +kernel
theorem dX0_wouldTakeUp_32 : decode cX0_wouldTakeUp 32 = .ok (.goto (-27), 3) := by decide +kernel
theorem dX0_wouldTakeUp_35 : decode cX0_wouldTakeUp 35 = .ok (.iload_n 3, 1) := by decide +kernel
theorem dX0_wouldTakeUp_36 : decode cX0_wouldTakeUp 36 = .ok (.ireturn, 1) := by decide +kernel
set_option maxRecDepth 20000 in
theorem ggX0_takenBy_J6_bitCount_0f7a4 : GoodIn wsX0_takenBy wsJ6_bitCount_0f7a4 := goodIn_r _ [6, 7, 8, 9] (by decide +kernel) (by decide +kernel)
set_option maxRecDepth 20000 in
theorem gX0_takenBy_J6_bitCount_0f7a4 : GoodIn wsX0_takenBy (va_wsS RX0 48 yJ6_bitCount_0f7a4 wsJ6_bitCount_0f7a4) := goodIn_app (goodIn_of _ (by decide +kernel)) ggX0_takenBy_J6_bitCount_0f7a4
theorem dX0_takenBy_0 : decode cX0_takenBy 0 = .ok (.aload_n 0, 1) := by decide +kernel
theorem dX0_takenBy_1 : decode cX0_takenBy 1 = .ok (.getfield 15, 3) := by decide +kernel
theorem dX0_takenBy_4 : decode cX0_takenBy 4 = .ok (.iload_n 1, 1) := by decide +kernel
theorem dX0_takenBy_5 : decode cX0_takenBy 5 = .ok (.iaload, 1) := by decide +kernel
theorem dX0_takenBy_6 : decode cX0_takenBy 6 = .ok (.aload_n 0, 1) := by decide +kernel
theorem dX0_takenBy_7 : decode cX0_takenBy 7 = .ok (.getfield 34, 3) := by decide +kernel
theorem dX0_takenBy_10 : decode cX0_takenBy 10 = .ok (.iload_n 2, 1) := by decide +kernel
theorem dX0_takenBy_11 : decode cX0_takenBy 11 = .ok (.invokestatic 48, 3) := by decide +kernel
theorem dX0_takenBy_14 : decode cX0_takenBy 14 = .ok (.isub, 1) := by decide +kernel
theorem dX0_takenBy_15 : decode cX0_takenBy 15 = .ok (.imul, 1) := by decide +kernel
theorem dX0_takenBy_16 : decode cX0_takenBy 16 = .ok (.ireturn, 1) := by decide +kernel
set_option maxRecDepth 20000 in
theorem ggX0_dip_X0_isBound : GoodIn wsX0_dip wsX0_isBound := goodIn_r _ [7, 8, 15, 16, 17, 18, 19, 20, 21] (by decide +kernel) (by decide +kernel)
set_option maxRecDepth 20000 in
theorem gX0_dip_X0_isBound : GoodIn wsX0_dip (wsV RX0 66 RX0 yX0_isBound wsX0_isBound) := goodIn_app (goodIn_of _ (by decide +kernel)) ggX0_dip_X0_isBound
set_option maxRecDepth 20000 in
theorem ggX0_dip_X2_comesOf : GoodIn wsX0_dip wsX2_comesOf := goodIn_r _ [13, 14, 22] (by decide +kernel) (by decide +kernel)
set_option maxRecDepth 20000 in
theorem gX0_dip_X2_comesOf : GoodIn wsX0_dip (wsV RX0 70 RX2 yX2_comesOf wsX2_comesOf) := goodIn_app (goodIn_of _ (by decide +kernel)) ggX0_dip_X2_comesOf
theorem dX0_dip_0 : decode cX0_dip 0 = .ok (.iconst 0, 1) := by decide +kernel
theorem dX0_dip_1 : decode cX0_dip 1 = .ok (.istore_n 3, 1) := by decide +kernel
theorem dX0_dip_2 : decode cX0_dip 2 = .ok (.iload_n 3, 1) := by decide +kernel
theorem dX0_dip_3 : decode cX0_dip 3 = .ok (.bipush 8, 2) := by decide +kernel
theorem dX0_dip_5 : decode cX0_dip 5 = .ok (.if_icmp .ge 60, 3) := by decide +kernel
theorem dX0_dip_8 : decode cX0_dip 8 = .ok (.iconst 0, 1) := by decide +kernel
theorem dX0_dip_9 : decode cX0_dip 9 = .ok (.istore 4, 2) := by decide +kernel
theorem dX0_dip_11 : decode cX0_dip 11 = .ok (.iload 4, 2) := by decide +kernel
theorem dX0_dip_13 : decode cX0_dip 13 = .ok (.aload_n 0, 1) := by decide +kernel
theorem dX0_dip_14 : decode cX0_dip 14 = .ok (.getfield 34, 3) := by decide +kernel
theorem dX0_dip_17 : decode cX0_dip 17 = .ok (.if_icmp .ge 42, 3) := by decide +kernel
theorem dX0_dip_20 : decode cX0_dip 20 = .ok (.aload_n 0, 1) := by decide +kernel
theorem dX0_dip_21 : decode cX0_dip 21 = .ok (.iload_n 3, 1) := by decide +kernel
theorem dX0_dip_22 : decode cX0_dip 22 = .ok (.iload 4, 2) := by decide +kernel
theorem dX0_dip_24 : decode cX0_dip 24 = .ok (.invokevirtual 66, 3) := by decide +kernel
theorem dX0_dip_27 : decode cX0_dip 27 = .ok (.ifCond .ne 26, 3) := by decide +kernel
theorem dX0_dip_30 : decode cX0_dip 30 = .ok (.aload_n 0, 1) := by decide +kernel
theorem dX0_dip_31 : decode cX0_dip 31 = .ok (.getfield 27, 3) := by decide +kernel
theorem dX0_dip_34 : decode cX0_dip 34 = .ok (.iload_n 3, 1) := by decide +kernel
theorem dX0_dip_35 : decode cX0_dip 35 = .ok (.aaload, 1) := by decide +kernel
theorem dX0_dip_36 : decode cX0_dip 36 = .ok (.iload 4, 2) := by decide +kernel
theorem dX0_dip_38 : decode cX0_dip 38 = .ok (.aload_n 2, 1) := by decide +kernel
theorem dX0_dip_39 : decode cX0_dip 39 = .ok (.aload_n 0, 1) := by decide +kernel
theorem dX0_dip_40 : decode cX0_dip 40 = .ok (.getfield 27, 3) := by decide +kernel
theorem dX0_dip_43 : decode cX0_dip 43 = .ok (.iload_n 3, 1) := by decide +kernel
theorem dX0_dip_44 : decode cX0_dip 44 = .ok (.aaload, 1) := by decide +kernel
theorem dX0_dip_45 : decode cX0_dip 45 = .ok (.iload 4, 2) := by decide +kernel
theorem dX0_dip_47 : decode cX0_dip 47 = .ok (.iaload, 1) := by decide +kernel
theorem dX0_dip_48 : decode cX0_dip 48 = .ok (.iload_n 1, 1) := by decide +kernel
theorem dX0_dip_49 : decode cX0_dip 49 = .ok (.invokevirtual 70, 3) := by decide +kernel
theorem dX0_dip_52 : decode cX0_dip 52 = .ok (.iastore, 1) := by decide +kernel
theorem dX0_dip_53 : decode cX0_dip 53 = .ok (.iinc 4 1, 3) := by decide +kernel
theorem dX0_dip_56 : decode cX0_dip 56 = .ok (.goto (-45), 3) := by decide +kernel
theorem dX0_dip_59 : decode cX0_dip 59 = .ok (.iinc 3 1, 3) := by decide +kernel
theorem dX0_dip_62 : decode cX0_dip 62 = .ok (.goto (-60), 3) := by decide +kernel
theorem dX0_dip_65 : decode cX0_dip 65 = .ok (.return_, 1) := by decide +kernel
theorem dX0_coloursWorn_0 : decode cX0_coloursWorn 0 = .ok (.iconst 0, 1) := by decide +kernel
theorem dX0_coloursWorn_1 : decode cX0_coloursWorn 1 = .ok (.istore_n 1, 1) := by decide +kernel
theorem dX0_coloursWorn_2 : decode cX0_coloursWorn 2 = .ok (.iconst 0, 1) := by decide +kernel
theorem dX0_coloursWorn_3 : decode cX0_coloursWorn 3 = .ok (.istore_n 2, 1) := by decide +kernel
theorem dX0_coloursWorn_4 : decode cX0_coloursWorn 4 = .ok (.iload_n 2, 1) := by decide +kernel
theorem dX0_coloursWorn_5 : decode cX0_coloursWorn 5 = .ok (.bipush 8, 2) := by decide +kernel
theorem dX0_coloursWorn_7 : decode cX0_coloursWorn 7 = .ok (.if_icmp .ge 47, 3) := by decide +kernel
theorem dX0_coloursWorn_10 : decode cX0_coloursWorn 10 = .ok (.iconst 0, 1) := by decide +kernel
theorem dX0_coloursWorn_11 : decode cX0_coloursWorn 11 = .ok (.istore_n 3, 1) := by decide +kernel
theorem dX0_coloursWorn_12 : decode cX0_coloursWorn 12 = .ok (.iload_n 3, 1) := by decide +kernel
theorem dX0_coloursWorn_13 : decode cX0_coloursWorn 13 = .ok (.aload_n 0, 1) := by decide +kernel
theorem dX0_coloursWorn_14 : decode cX0_coloursWorn 14 = .ok (.getfield 34, 3) := by decide +kernel
theorem dX0_coloursWorn_17 : decode cX0_coloursWorn 17 = .ok (.if_icmp .ge 31, 3) := by decide +kernel
theorem dX0_coloursWorn_20 : decode cX0_coloursWorn 20 = .ok (.aload_n 0, 1) := by decide +kernel
theorem dX0_coloursWorn_21 : decode cX0_coloursWorn 21 = .ok (.getfield 15, 3) := by decide +kernel
theorem dX0_coloursWorn_24 : decode cX0_coloursWorn 24 = .ok (.iload_n 2, 1) := by decide +kernel
theorem dX0_coloursWorn_25 : decode cX0_coloursWorn 25 = .ok (.iaload, 1) := by decide +kernel
theorem dX0_coloursWorn_26 : decode cX0_coloursWorn 26 = .ok (.ifCond .le 22, 3) := by decide +kernel
theorem dX0_coloursWorn_29 : decode cX0_coloursWorn 29 = .ok (.iload_n 1, 1) := by decide +kernel
theorem dX0_coloursWorn_30 : decode cX0_coloursWorn 30 = .ok (.iconst 1, 1) := by decide +kernel
theorem dX0_coloursWorn_31 : decode cX0_coloursWorn 31 = .ok (.aload_n 0, 1) := by decide +kernel
theorem dX0_coloursWorn_32 : decode cX0_coloursWorn 32 = .ok (.getfield 27, 3) := by decide +kernel
theorem dX0_coloursWorn_35 : decode cX0_coloursWorn 35 = .ok (.iload_n 2, 1) := by decide +kernel
theorem dX0_coloursWorn_36 : decode cX0_coloursWorn 36 = .ok (.aaload, 1) := by decide +kernel
theorem dX0_coloursWorn_37 : decode cX0_coloursWorn 37 = .ok (.iload_n 3, 1) := by decide +kernel
theorem dX0_coloursWorn_38 : decode cX0_coloursWorn 38 = .ok (.iaload, 1) := by decide +kernel
theorem dX0_coloursWorn_39 : decode cX0_coloursWorn 39 = .ok (.ishl, 1) := by decide +kernel
theorem dX0_coloursWorn_40 : decode cX0_coloursWorn 40 = .ok (.ior, 1) := by decide +kernel
theorem dX0_coloursWorn_41 : decode cX0_coloursWorn 41 = .ok (.istore_n 1, 1) := by decide +kernel
theorem dX0_coloursWorn_42 : decode cX0_coloursWorn 42 = .ok (.iinc 3 1, 3) := by decide +kernel
theorem dX0_coloursWorn_45 : decode cX0_coloursWorn 45 = .ok (.goto (-33), 3) := by decide +kernel
theorem dX0_coloursWorn_48 : decode cX0_coloursWorn 48 = .ok (.iinc 2 1, 3) := by decide +kernel
theorem dX0_coloursWorn_51 : decode cX0_coloursWorn 51 = .ok (.goto (-47), 3) := by decide +kernel
theorem dX0_coloursWorn_54 : decode cX0_coloursWorn 54 = .ok (.iload_n 1, 1) := by decide +kernel
theorem dX0_coloursWorn_55 : decode cX0_coloursWorn 55 = .ok (.ireturn, 1) := by decide +kernel
theorem dX1_init_0 : decode cX1_init 0 = .ok (.aload_n 0, 1) := by decide +kernel
theorem dX1_init_1 : decode cX1_init 1 = .ok (.invokespecial 3, 3) := by decide +kernel
theorem dX1_init_4 : decode cX1_init 4 = .ok (.aload_n 0, 1) := by decide +kernel
theorem dX1_init_5 : decode cX1_init 5 = .ok (.bipush 60, 2) := by decide +kernel
theorem dX1_init_7 : decode cX1_init 7 = .ok (.newarray .int, 2) := by decide +kernel
theorem dX1_init_9 : decode cX1_init 9 = .ok (.putfield 9, 3) := by decide +kernel
theorem dX1_init_12 : decode cX1_init 12 = .ok (.aload_n 0, 1) := by decide +kernel
theorem dX1_init_13 : decode cX1_init 13 = .ok (.bipush 60, 2) := by decide +kernel
theorem dX1_init_15 : decode cX1_init 15 = .ok (.newarray .int, 2) := by decide +kernel
theorem dX1_init_17 : decode cX1_init 17 = .ok (.putfield 15, 3) := by decide +kernel
theorem dX1_init_20 : decode cX1_init 20 = .ok (.aload_n 0, 1) := by decide +kernel
theorem dX1_init_21 : decode cX1_init 21 = .ok (.bipush 60, 2) := by decide +kernel
theorem dX1_init_23 : decode cX1_init 23 = .ok (.newarray .int, 2) := by decide +kernel
theorem dX1_init_25 : decode cX1_init 25 = .ok (.putfield 18, 3) := by decide +kernel
theorem dX1_init_28 : decode cX1_init 28 = .ok (.aload_n 0, 1) := by decide +kernel
theorem dX1_init_29 : decode cX1_init 29 = .ok (.iconst 0, 1) := by decide +kernel
theorem dX1_init_30 : decode cX1_init 30 = .ok (.putfield 21, 3) := by decide +kernel
theorem dX1_init_33 : decode cX1_init 33 = .ok (.return_, 1) := by decide +kernel
theorem dX1_size_0 : decode cX1_size 0 = .ok (.aload_n 0, 1) := by decide +kernel
theorem dX1_size_1 : decode cX1_size 1 = .ok (.getfield 21, 3) := by decide +kernel
theorem dX1_size_4 : decode cX1_size 4 = .ok (.ireturn, 1) := by decide +kernel
theorem dX1_add_0 : decode cX1_add 0 = .ok (.aload_n 0, 1) := by decide +kernel
theorem dX1_add_1 : decode cX1_add 1 = .ok (.getfield 9, 3) := by decide +kernel
theorem dX1_add_4 : decode cX1_add 4 = .ok (.aload_n 0, 1) := by decide +kernel
theorem dX1_add_5 : decode cX1_add 5 = .ok (.getfield 21, 3) := by decide +kernel
theorem dX1_add_8 : decode cX1_add 8 = .ok (.iload_n 1, 1) := by decide +kernel
theorem dX1_add_9 : decode cX1_add 9 = .ok (.iastore, 1) := by decide +kernel
theorem dX1_add_10 : decode cX1_add 10 = .ok (.aload_n 0, 1) := by decide +kernel
theorem dX1_add_11 : decode cX1_add 11 = .ok (.getfield 15, 3) := by decide +kernel
theorem dX1_add_14 : decode cX1_add 14 = .ok (.aload_n 0, 1) := by decide +kernel
theorem dX1_add_15 : decode cX1_add 15 = .ok (.getfield 21, 3) := by decide +kernel
theorem dX1_add_18 : decode cX1_add 18 = .ok (.iload_n 2, 1) := by decide +kernel
theorem dX1_add_19 : decode cX1_add 19 = .ok (.iastore, 1) := by decide +kernel
theorem dX1_add_20 : decode cX1_add 20 = .ok (.aload_n 0, 1) := by decide +kernel
theorem dX1_add_21 : decode cX1_add 21 = .ok (.getfield 18, 3) := by decide +kernel
theorem dX1_add_24 : decode cX1_add 24 = .ok (.aload_n 0, 1) := by decide +kernel
theorem dX1_add_25 : decode cX1_add 25 = .ok (.getfield 21, 3) := by decide +kernel
theorem dX1_add_28 : decode cX1_add 28 = .ok (.iload_n 3, 1) := by decide +kernel
theorem dX1_add_29 : decode cX1_add 29 = .ok (.iastore, 1) := by decide +kernel
theorem dX1_add_30 : decode cX1_add 30 = .ok (.aload_n 0, 1) := by decide +kernel
theorem dX1_add_31 : decode cX1_add 31 = .ok (.dup, 1) := by decide +kernel
theorem dX1_add_32 : decode cX1_add 32 = .ok (.getfield 21, 3) := by decide +kernel
theorem dX1_add_35 : decode cX1_add 35 = .ok (.iconst 1, 1) := by decide +kernel
theorem dX1_add_36 : decode cX1_add 36 = .ok (.iadd, 1) := by decide +kernel
theorem dX1_add_37 : decode cX1_add 37 = .ok (.putfield 21, 3) := by decide +kernel
theorem dX1_add_40 : decode cX1_add 40 = .ok (.return_, 1) := by decide +kernel
theorem dX1_inForce_0 : decode cX1_inForce 0 = .ok (.iconst (-1), 1) := by decide +kernel
theorem dX1_inForce_1 : decode cX1_inForce 1 = .ok (.istore_n 3, 1) := by decide +kernel
theorem dX1_inForce_2 : decode cX1_inForce 2 = .ok (.iconst 0, 1) := by decide +kernel
theorem dX1_inForce_3 : decode cX1_inForce 3 = .ok (.istore 4, 2) := by decide +kernel
theorem dX1_inForce_5 : decode cX1_inForce 5 = .ok (.iconst 0, 1) := by decide +kernel
theorem dX1_inForce_6 : decode cX1_inForce 6 = .ok (.istore 5, 2) := by decide +kernel
theorem dX1_inForce_8 : decode cX1_inForce 8 = .ok (.iload 5, 2) := by decide +kernel
theorem dX1_inForce_10 : decode cX1_inForce 10 = .ok (.aload_n 0, 1) := by decide +kernel
theorem dX1_inForce_11 : decode cX1_inForce 11 = .ok (.getfield 21, 3) := by decide +kernel
theorem dX1_inForce_14 : decode cX1_inForce 14 = .ok (.if_icmp .ge 59, 3) := by decide +kernel
theorem dX1_inForce_17 : decode cX1_inForce 17 = .ok (.aload_n 0, 1) := by decide +kernel
theorem dX1_inForce_18 : decode cX1_inForce 18 = .ok (.getfield 15, 3) := by decide +kernel
theorem dX1_inForce_21 : decode cX1_inForce 21 = .ok (.iload 5, 2) := by decide +kernel
theorem dX1_inForce_23 : decode cX1_inForce 23 = .ok (.iaload, 1) := by decide +kernel
theorem dX1_inForce_24 : decode cX1_inForce 24 = .ok (.iload_n 2, 1) := by decide +kernel
theorem dX1_inForce_25 : decode cX1_inForce 25 = .ok (.if_icmp .ne 42, 3) := by decide +kernel
theorem dX1_inForce_28 : decode cX1_inForce 28 = .ok (.aload_n 0, 1) := by decide +kernel
theorem dX1_inForce_29 : decode cX1_inForce 29 = .ok (.getfield 9, 3) := by decide +kernel
theorem dX1_inForce_32 : decode cX1_inForce 32 = .ok (.iload 5, 2) := by decide +kernel
theorem dX1_inForce_34 : decode cX1_inForce 34 = .ok (.iaload, 1) := by decide +kernel
theorem dX1_inForce_35 : decode cX1_inForce 35 = .ok (.iload_n 1, 1) := by decide +kernel
theorem dX1_inForce_36 : decode cX1_inForce 36 = .ok (.if_icmp .gt 31, 3) := by decide +kernel
theorem dX1_inForce_39 : decode cX1_inForce 39 = .ok (.aload_n 0, 1) := by decide +kernel
theorem dX1_inForce_40 : decode cX1_inForce 40 = .ok (.getfield 9, 3) := by decide +kernel
theorem dX1_inForce_43 : decode cX1_inForce 43 = .ok (.iload 5, 2) := by decide +kernel
theorem dX1_inForce_45 : decode cX1_inForce 45 = .ok (.iaload, 1) := by decide +kernel
theorem dX1_inForce_46 : decode cX1_inForce 46 = .ok (.iload_n 3, 1) := by decide +kernel
theorem dX1_inForce_47 : decode cX1_inForce 47 = .ok (.if_icmp .lt 20, 3) := by decide +kernel
theorem dX1_inForce_50 : decode cX1_inForce 50 = .ok (.aload_n 0, 1) := by decide +kernel
theorem dX1_inForce_51 : decode cX1_inForce 51 = .ok (.getfield 9, 3) := by decide +kernel
theorem dX1_inForce_54 : decode cX1_inForce 54 = .ok (.iload 5, 2) := by decide +kernel
theorem dX1_inForce_56 : decode cX1_inForce 56 = .ok (.iaload, 1) := by decide +kernel
theorem dX1_inForce_57 : decode cX1_inForce 57 = .ok (.istore_n 3, 1) := by decide +kernel
theorem dX1_inForce_58 : decode cX1_inForce 58 = .ok (.aload_n 0, 1) := by decide +kernel
theorem dX1_inForce_59 : decode cX1_inForce 59 = .ok (.getfield 18, 3) := by decide +kernel
theorem dX1_inForce_62 : decode cX1_inForce 62 = .ok (.iload 5, 2) := by decide +kernel
theorem dX1_inForce_64 : decode cX1_inForce 64 = .ok (.iaload, 1) := by decide +kernel
theorem dX1_inForce_65 : decode cX1_inForce 65 = .ok (.istore 4, 2) := by decide +kernel
theorem dX1_inForce_67 : decode cX1_inForce 67 = .ok (.iinc 5 1, 3) := by decide +kernel
theorem dX1_inForce_70 : decode cX1_inForce 70 = .ok (.goto (-62), 3) := by decide +kernel
theorem dX1_inForce_73 : decode cX1_inForce 73 = .ok (.iload 4, 2) := by decide +kernel
theorem dX1_inForce_75 : decode cX1_inForce 75 = .ok (.ireturn, 1) := by decide +kernel
theorem dX2_init_0 : decode cX2_init 0 = .ok (.aload_n 0, 1) := by decide +kernel
theorem dX2_init_1 : decode cX2_init 1 = .ok (.invokespecial 3, 3) := by decide +kernel
theorem dX2_init_4 : decode cX2_init 4 = .ok (.aload_n 0, 1) := by decide +kernel
theorem dX2_init_5 : decode cX2_init 5 = .ok (.bipush 64, 2) := by decide +kernel
theorem dX2_init_7 : decode cX2_init 7 = .ok (.newarray .int, 2) := by decide +kernel
theorem dX2_init_9 : decode cX2_init 9 = .ok (.putfield 9, 3) := by decide +kernel
theorem dX2_init_12 : decode cX2_init 12 = .ok (.iconst 0, 1) := by decide +kernel
theorem dX2_init_13 : decode cX2_init 13 = .ok (.istore_n 1, 1) := by decide +kernel
theorem dX2_init_14 : decode cX2_init 14 = .ok (.iload_n 1, 1) := by decide +kernel
theorem dX2_init_15 : decode cX2_init 15 = .ok (.bipush 16, 2) := by decide +kernel
theorem dX2_init_17 : decode cX2_init 17 = .ok (.if_icmp .ge 37, 3) := by decide +kernel
theorem dX2_init_20 : decode cX2_init 20 = .ok (.iconst 0, 1) := by decide +kernel
theorem dX2_init_21 : decode cX2_init 21 = .ok (.istore_n 2, 1) := by decide +kernel
theorem dX2_init_22 : decode cX2_init 22 = .ok (.iload_n 2, 1) := by decide +kernel
theorem dX2_init_23 : decode cX2_init 23 = .ok (.iconst 4, 1) := by decide +kernel
theorem dX2_init_24 : decode cX2_init 24 = .ok (.if_icmp .ge 24, 3) := by decide +kernel
theorem dX2_init_27 : decode cX2_init 27 = .ok (.aload_n 0, 1) := by decide +kernel
theorem dX2_init_28 : decode cX2_init 28 = .ok (.getfield 9, 3) := by decide +kernel
theorem dX2_init_31 : decode cX2_init 31 = .ok (.iload_n 1, 1) := by decide +kernel
theorem dX2_init_32 : decode cX2_init 32 = .ok (.iconst 4, 1) := by decide +kernel
theorem dX2_init_33 : decode cX2_init 33 = .ok (.imul, 1) := by decide +kernel
theorem dX2_init_34 : decode cX2_init 34 = .ok (.iload_n 2, 1) := by decide +kernel
theorem dX2_init_35 : decode cX2_init 35 = .ok (.iadd, 1) := by decide +kernel
theorem dX2_init_36 : decode cX2_init 36 = .ok (.iload_n 1, 1) := by decide +kernel
theorem dX2_init_37 : decode cX2_init 37 = .ok (.iconst 1, 1) := by decide +kernel
theorem dX2_init_38 : decode cX2_init 38 = .ok (.iload_n 2, 1) := by decide +kernel
theorem dX2_init_39 : decode cX2_init 39 = .ok (.ishl, 1) := by decide +kernel
theorem dX2_init_40 : decode cX2_init 40 = .ok (.ior, 1) := by decide +kernel
theorem dX2_init_41 : decode cX2_init 41 = .ok (.iastore, 1) := by decide +kernel
theorem dX2_init_42 : decode cX2_init 42 = .ok (.iinc 2 1, 3) := by decide +kernel
theorem dX2_init_45 : decode cX2_init 45 = .ok (.goto (-23), 3) := by decide +kernel
theorem dX2_init_48 : decode cX2_init 48 = .ok (.iinc 1 1, 3) := by decide +kernel
theorem dX2_init_51 : decode cX2_init 51 = .ok (.goto (-37), 3) := by decide +kernel
theorem dX2_init_54 : decode cX2_init 54 = .ok (.return_, 1) := by decide +kernel
theorem dX2_comesOf_0 : decode cX2_comesOf 0 = .ok (.aload_n 0, 1) := by decide +kernel
theorem dX2_comesOf_1 : decode cX2_comesOf 1 = .ok (.getfield 9, 3) := by decide +kernel
theorem dX2_comesOf_4 : decode cX2_comesOf 4 = .ok (.iload_n 1, 1) := by decide +kernel
theorem dX2_comesOf_5 : decode cX2_comesOf 5 = .ok (.iconst 4, 1) := by decide +kernel
theorem dX2_comesOf_6 : decode cX2_comesOf 6 = .ok (.imul, 1) := by decide +kernel
theorem dX2_comesOf_7 : decode cX2_comesOf 7 = .ok (.iload_n 2, 1) := by decide +kernel
theorem dX2_comesOf_8 : decode cX2_comesOf 8 = .ok (.iadd, 1) := by decide +kernel
theorem dX2_comesOf_9 : decode cX2_comesOf 9 = .ok (.iaload, 1) := by decide +kernel
theorem dX2_comesOf_10 : decode cX2_comesOf 10 = .ok (.ireturn, 1) := by decide +kernel
theorem dX2_tell_0 : decode cX2_tell 0 = .ok (.aload_n 0, 1) := by decide +kernel
theorem dX2_tell_1 : decode cX2_tell 1 = .ok (.getfield 9, 3) := by decide +kernel
theorem dX2_tell_4 : decode cX2_tell 4 = .ok (.iload_n 1, 1) := by decide +kernel
theorem dX2_tell_5 : decode cX2_tell 5 = .ok (.iconst 4, 1) := by decide +kernel
theorem dX2_tell_6 : decode cX2_tell 6 = .ok (.imul, 1) := by decide +kernel
theorem dX2_tell_7 : decode cX2_tell 7 = .ok (.iload_n 2, 1) := by decide +kernel
theorem dX2_tell_8 : decode cX2_tell 8 = .ok (.iadd, 1) := by decide +kernel
theorem dX2_tell_9 : decode cX2_tell 9 = .ok (.iload_n 3, 1) := by decide +kernel
theorem dX2_tell_10 : decode cX2_tell 10 = .ok (.iastore, 1) := by decide +kernel
theorem dX2_tell_11 : decode cX2_tell 11 = .ok (.return_, 1) := by decide +kernel
theorem dX3_init_0 : decode cX3_init 0 = .ok (.aload_n 0, 1) := by decide +kernel
theorem dX3_init_1 : decode cX3_init 1 = .ok (.invokespecial 3, 3) := by decide +kernel
theorem dX3_init_4 : decode cX3_init 4 = .ok (.aload_n 0, 1) := by decide +kernel
theorem dX3_init_5 : decode cX3_init 5 = .ok (.bipush 16, 2) := by decide +kernel
theorem dX3_init_7 : decode cX3_init 7 = .ok (.bipush 24, 2) := by decide +kernel
theorem dX3_init_9 : decode cX3_init 9 = .ok (.multianewarray 9 2, 4) := by decide +kernel
theorem dX3_init_13 : decode cX3_init 13 = .ok (.putfield 11, 3) := by decide +kernel
theorem dX3_init_16 : decode cX3_init 16 = .ok (.return_, 1) := by decide +kernel
theorem dX3_clear_0 : decode cX3_clear 0 = .ok (.iconst 0, 1) := by decide +kernel
theorem dX3_clear_1 : decode cX3_clear 1 = .ok (.istore_n 1, 1) := by decide +kernel
theorem dX3_clear_2 : decode cX3_clear 2 = .ok (.iload_n 1, 1) := by decide +kernel
theorem dX3_clear_3 : decode cX3_clear 3 = .ok (.bipush 16, 2) := by decide +kernel
theorem dX3_clear_5 : decode cX3_clear 5 = .ok (.if_icmp .ge 32, 3) := by decide +kernel
theorem dX3_clear_8 : decode cX3_clear 8 = .ok (.iconst 0, 1) := by decide +kernel
theorem dX3_clear_9 : decode cX3_clear 9 = .ok (.istore_n 2, 1) := by decide +kernel
theorem dX3_clear_10 : decode cX3_clear 10 = .ok (.iload_n 2, 1) := by decide +kernel
theorem dX3_clear_11 : decode cX3_clear 11 = .ok (.bipush 24, 2) := by decide +kernel
theorem dX3_clear_13 : decode cX3_clear 13 = .ok (.if_icmp .ge 18, 3) := by decide +kernel
theorem dX3_clear_16 : decode cX3_clear 16 = .ok (.aload_n 0, 1) := by decide +kernel
theorem dX3_clear_17 : decode cX3_clear 17 = .ok (.getfield 11, 3) := by decide +kernel
theorem dX3_clear_20 : decode cX3_clear 20 = .ok (.iload_n 1, 1) := by decide +kernel
theorem dX3_clear_21 : decode cX3_clear 21 = .ok (.aaload, 1) := by decide +kernel
theorem dX3_clear_22 : decode cX3_clear 22 = .ok (.iload_n 2, 1) := by decide +kernel
theorem dX3_clear_23 : decode cX3_clear 23 = .ok (.iconst 0, 1) := by decide +kernel
theorem dX3_clear_24 : decode cX3_clear 24 = .ok (.iastore, 1) := by decide +kernel
theorem dX3_clear_25 : decode cX3_clear 25 = .ok (.iinc 2 1, 3) := by decide +kernel
theorem dX3_clear_28 : decode cX3_clear 28 = .ok (.goto (-18), 3) := by decide +kernel
theorem dX3_clear_31 : decode cX3_clear 31 = .ok (.iinc 1 1, 3) := by decide +kernel
theorem dX3_clear_34 : decode cX3_clear 34 = .ok (.goto (-32), 3) := by decide +kernel
theorem dX3_clear_37 : decode cX3_clear 37 = .ok (.return_, 1) := by decide +kernel
theorem dX3_wantedAt_0 : decode cX3_wantedAt 0 = .ok (.aload_n 0, 1) := by decide +kernel
theorem dX3_wantedAt_1 : decode cX3_wantedAt 1 = .ok (.getfield 11, 3) := by decide +kernel
theorem dX3_wantedAt_4 : decode cX3_wantedAt 4 = .ok (.iload_n 1, 1) := by decide +kernel
theorem dX3_wantedAt_5 : decode cX3_wantedAt 5 = .ok (.aaload, 1) := by decide +kernel
theorem dX3_wantedAt_6 : decode cX3_wantedAt 6 = .ok (.iload_n 2, 1) := by decide +kernel
theorem dX3_wantedAt_7 : decode cX3_wantedAt 7 = .ok (.iaload, 1) := by decide +kernel
theorem dX3_wantedAt_8 : decode cX3_wantedAt 8 = .ok (.ireturn, 1) := by decide +kernel
theorem dX3_ask_0 : decode cX3_ask 0 = .ok (.aload_n 0, 1) := by decide +kernel
theorem dX3_ask_1 : decode cX3_ask 1 = .ok (.getfield 11, 3) := by decide +kernel
theorem dX3_ask_4 : decode cX3_ask 4 = .ok (.iload_n 1, 1) := by decide +kernel
theorem dX3_ask_5 : decode cX3_ask 5 = .ok (.aaload, 1) := by decide +kernel
theorem dX3_ask_6 : decode cX3_ask 6 = .ok (.iload_n 2, 1) := by decide +kernel
theorem dX3_ask_7 : decode cX3_ask 7 = .ok (.iload_n 3, 1) := by decide +kernel
theorem dX3_ask_8 : decode cX3_ask 8 = .ok (.iastore, 1) := by decide +kernel
theorem dX3_ask_9 : decode cX3_ask 9 = .ok (.return_, 1) := by decide +kernel
theorem dX4_init_0 : decode cX4_init 0 = .ok (.aload_n 0, 1) := by decide +kernel
theorem dX4_init_1 : decode cX4_init 1 = .ok (.invokespecial 3, 3) := by decide +kernel
theorem dX4_init_4 : decode cX4_init 4 = .ok (.aload_n 0, 1) := by decide +kernel
theorem dX4_init_5 : decode cX4_init 5 = .ok (.iconst 0, 1) := by decide +kernel
theorem dX4_init_6 : decode cX4_init 6 = .ok (.putfield 9, 3) := by decide +kernel
theorem dX4_init_9 : decode cX4_init 9 = .ok (.aload_n 0, 1) := by decide +kernel
theorem dX4_init_10 : decode cX4_init 10 = .ok (.iconst 0, 1) := by decide +kernel
theorem dX4_init_11 : decode cX4_init 11 = .ok (.putfield 15, 3) := by decide +kernel
theorem dX4_init_14 : decode cX4_init 14 = .ok (.aload_n 0, 1) := by decide +kernel
theorem dX4_init_15 : decode cX4_init 15 = .ok (.iconst 0, 1) := by decide +kernel
theorem dX4_init_16 : decode cX4_init 16 = .ok (.putfield 19, 3) := by decide +kernel
theorem dX4_init_19 : decode cX4_init 19 = .ok (.aload_n 0, 1) := by decide +kernel
theorem dX4_init_20 : decode cX4_init 20 = .ok (.bipush 8, 2) := by decide +kernel
theorem dX4_init_22 : decode cX4_init 22 = .ok (.bipush 24, 2) := by decide +kernel
theorem dX4_init_24 : decode cX4_init 24 = .ok (.multianewarray 22 2, 4) := by decide +kernel
theorem dX4_init_28 : decode cX4_init 28 = .ok (.putfield 24, 3) := by decide +kernel
theorem dX4_init_31 : decode cX4_init 31 = .ok (.return_, 1) := by decide +kernel
theorem dX4_drop_0 : decode cX4_drop 0 = .ok (.aload_n 0, 1) := by decide +kernel
theorem dX4_drop_1 : decode cX4_drop 1 = .ok (.iconst 0, 1) := by decide +kernel
theorem dX4_drop_2 : decode cX4_drop 2 = .ok (.putfield 9, 3) := by decide +kernel
theorem dX4_drop_5 : decode cX4_drop 5 = .ok (.return_, 1) := by decide +kernel
theorem dX4_begin_0 : decode cX4_begin 0 = .ok (.aload_n 0, 1) := by decide +kernel
theorem dX4_begin_1 : decode cX4_begin 1 = .ok (.iconst 1, 1) := by decide +kernel
theorem dX4_begin_2 : decode cX4_begin 2 = .ok (.putfield 9, 3) := by decide +kernel
theorem dX4_begin_5 : decode cX4_begin 5 = .ok (.aload_n 0, 1) := by decide +kernel
theorem dX4_begin_6 : decode cX4_begin 6 = .ok (.iload_n 1, 1) := by decide +kernel
theorem dX4_begin_7 : decode cX4_begin 7 = .ok (.putfield 15, 3) := by decide +kernel
theorem dX4_begin_10 : decode cX4_begin 10 = .ok (.aload_n 0, 1) := by decide +kernel
theorem dX4_begin_11 : decode cX4_begin 11 = .ok (.iconst 0, 1) := by decide +kernel
theorem dX4_begin_12 : decode cX4_begin 12 = .ok (.putfield 19, 3) := by decide +kernel
theorem dX4_begin_15 : decode cX4_begin 15 = .ok (.return_, 1) := by decide +kernel
theorem dX4_addTies_0 : decode cX4_addTies 0 = .ok (.aload_n 0, 1) := by decide +kernel
theorem dX4_addTies_1 : decode cX4_addTies 1 = .ok (.dup, 1) := by decide +kernel
theorem dX4_addTies_2 : decode cX4_addTies 2 = .ok (.getfield 19, 3) := by decide +kernel
theorem dX4_addTies_5 : decode cX4_addTies 5 = .ok (.iload_n 1, 1) := by decide +kernel
theorem dX4_addTies_6 : decode cX4_addTies 6 = .ok (.iadd, 1) := by decide +kernel
theorem dX4_addTies_7 : decode cX4_addTies 7 = .ok (.putfield 19, 3) := by decide +kernel
theorem dX4_addTies_10 : decode cX4_addTies 10 = .ok (.return_, 1) := by decide +kernel
theorem dX4_write_0 : decode cX4_write 0 = .ok (.aload_n 0, 1) := by decide +kernel
theorem dX4_write_1 : decode cX4_write 1 = .ok (.getfield 24, 3) := by decide +kernel
theorem dX4_write_4 : decode cX4_write 4 = .ok (.iload_n 1, 1) := by decide +kernel
theorem dX4_write_5 : decode cX4_write 5 = .ok (.aaload, 1) := by decide +kernel
theorem dX4_write_6 : decode cX4_write 6 = .ok (.iload_n 2, 1) := by decide +kernel
theorem dX4_write_7 : decode cX4_write 7 = .ok (.iload_n 3, 1) := by decide +kernel
theorem dX4_write_8 : decode cX4_write 8 = .ok (.iastore, 1) := by decide +kernel
theorem dX4_write_9 : decode cX4_write 9 = .ok (.return_, 1) := by decide +kernel
theorem dX4_exists_0 : decode cX4_exists 0 = .ok (.aload_n 0, 1) := by decide +kernel
theorem dX4_exists_1 : decode cX4_exists 1 = .ok (.getfield 9, 3) := by decide +kernel
theorem dX4_exists_4 : decode cX4_exists 4 = .ok (.ireturn, 1) := by decide +kernel
theorem dX4_row_0 : decode cX4_row 0 = .ok (.aload_n 0, 1) := by decide +kernel
theorem dX4_row_1 : decode cX4_row 1 = .ok (.getfield 15, 3) := by decide +kernel
theorem dX4_row_4 : decode cX4_row 4 = .ok (.ireturn, 1) := by decide +kernel
theorem dX4_ties_0 : decode cX4_ties 0 = .ok (.aload_n 0, 1) := by decide +kernel
theorem dX4_ties_1 : decode cX4_ties 1 = .ok (.getfield 19, 3) := by decide +kernel
theorem dX4_ties_4 : decode cX4_ties 4 = .ok (.ireturn, 1) := by decide +kernel
theorem dX4_bitsAt_0 : decode cX4_bitsAt 0 = .ok (.aload_n 0, 1) := by decide +kernel
theorem dX4_bitsAt_1 : decode cX4_bitsAt 1 = .ok (.getfield 24, 3) := by decide +kernel
theorem dX4_bitsAt_4 : decode cX4_bitsAt 4 = .ok (.iload_n 1, 1) := by decide +kernel
theorem dX4_bitsAt_5 : decode cX4_bitsAt 5 = .ok (.aaload, 1) := by decide +kernel
theorem dX4_bitsAt_6 : decode cX4_bitsAt 6 = .ok (.iload_n 2, 1) := by decide +kernel
theorem dX4_bitsAt_7 : decode cX4_bitsAt 7 = .ok (.iaload, 1) := by decide +kernel
theorem dX4_bitsAt_8 : decode cX4_bitsAt 8 = .ok (.ireturn, 1) := by decide +kernel
theorem dX5_init_0 : decode cX5_init 0 = .ok (.aload_n 0, 1) := by decide +kernel
theorem dX5_init_1 : decode cX5_init 1 = .ok (.invokespecial 3, 3) := by decide +kernel
theorem dX5_init_4 : decode cX5_init 4 = .ok (.aload_n 0, 1) := by decide +kernel
theorem dX5_init_5 : decode cX5_init 5 = .ok (.bipush 8, 2) := by decide +kernel
theorem dX5_init_7 : decode cX5_init 7 = .ok (.newarray .int, 2) := by decide +kernel
theorem dX5_init_9 : decode cX5_init 9 = .ok (.putfield 9, 3) := by decide +kernel
theorem dX5_init_12 : decode cX5_init 12 = .ok (.aload_n 0, 1) := by decide +kernel
theorem dX5_init_13 : decode cX5_init 13 = .ok (.bipush 8, 2) := by decide +kernel
theorem dX5_init_15 : decode cX5_init 15 = .ok (.bipush 24, 2) := by decide +kernel
theorem dX5_init_17 : decode cX5_init 17 = .ok (.multianewarray 15 2, 4) := by decide +kernel
theorem dX5_init_21 : decode cX5_init 21 = .ok (.putfield 17, 3) := by decide +kernel
theorem dX5_init_24 : decode cX5_init 24 = .ok (.aload_n 0, 1) := by decide +kernel
theorem dX5_init_25 : decode cX5_init 25 = .ok (.iconst 0, 1) := by decide +kernel
theorem dX5_init_26 : decode cX5_init 26 = .ok (.putfield 20, 3) := by decide +kernel
theorem dX5_init_29 : decode cX5_init 29 = .ok (.aload_n 0, 1) := by decide +kernel
theorem dX5_init_30 : decode cX5_init 30 = .ok (.iconst 0, 1) := by decide +kernel
theorem dX5_init_31 : decode cX5_init 31 = .ok (.putfield 24, 3) := by decide +kernel
theorem dX5_init_34 : decode cX5_init 34 = .ok (.aload_n 0, 1) := by decide +kernel
theorem dX5_init_35 : decode cX5_init 35 = .ok (.bipush 16, 2) := by decide +kernel
theorem dX5_init_37 : decode cX5_init 37 = .ok (.newarray .int, 2) := by decide +kernel
theorem dX5_init_39 : decode cX5_init 39 = .ok (.putfield 27, 3) := by decide +kernel
theorem dX5_init_42 : decode cX5_init 42 = .ok (.aload_n 0, 1) := by decide +kernel
theorem dX5_init_43 : decode cX5_init 43 = .ok (.bipush 16, 2) := by decide +kernel
theorem dX5_init_45 : decode cX5_init 45 = .ok (.newarray .int, 2) := by decide +kernel
theorem dX5_init_47 : decode cX5_init 47 = .ok (.putfield 30, 3) := by decide +kernel
theorem dX5_init_50 : decode cX5_init 50 = .ok (.aload_n 0, 1) := by decide +kernel
theorem dX5_init_51 : decode cX5_init 51 = .ok (.bipush 16, 2) := by decide +kernel
theorem dX5_init_53 : decode cX5_init 53 = .ok (.newarray .int, 2) := by decide +kernel
theorem dX5_init_55 : decode cX5_init 55 = .ok (.putfield 33, 3) := by decide +kernel
theorem dX5_init_58 : decode cX5_init 58 = .ok (.aload_n 0, 1) := by decide +kernel
theorem dX5_init_59 : decode cX5_init 59 = .ok (.bipush 25, 2) := by decide +kernel
theorem dX5_init_61 : decode cX5_init 61 = .ok (.newarray .int, 2) := by decide +kernel
theorem dX5_init_63 : decode cX5_init 63 = .ok (.putfield 36, 3) := by decide +kernel
theorem dX5_init_66 : decode cX5_init 66 = .ok (.aload_n 0, 1) := by decide +kernel
theorem dX5_init_67 : decode cX5_init 67 = .ok (.bipush 25, 2) := by decide +kernel
theorem dX5_init_69 : decode cX5_init 69 = .ok (.newarray .int, 2) := by decide +kernel
theorem dX5_init_71 : decode cX5_init 71 = .ok (.putfield 39, 3) := by decide +kernel
theorem dX5_init_74 : decode cX5_init 74 = .ok (.aload_n 0, 1) := by decide +kernel
theorem dX5_init_75 : decode cX5_init 75 = .ok (.bipush 25, 2) := by decide +kernel
theorem dX5_init_77 : decode cX5_init 77 = .ok (.newarray .int, 2) := by decide +kernel
theorem dX5_init_79 : decode cX5_init 79 = .ok (.putfield 42, 3) := by decide +kernel
theorem dX5_init_82 : decode cX5_init 82 = .ok (.return_, 1) := by decide +kernel
set_option maxRecDepth 20000 in
theorem ggX5_aimAt_X0_threadsIn : GoodIn wsX5_aimAt wsX0_threadsIn := goodIn_r _ [8, 9, 51, 52, 53, 54, 55, 56, 57] (by decide +kernel) (by decide +kernel)
set_option maxRecDepth 20000 in
theorem gX5_aimAt_X0_threadsIn : GoodIn wsX5_aimAt (wsV RX5 45 RX0 yX0_threadsIn wsX0_threadsIn) := goodIn_app (goodIn_of _ (by decide +kernel)) ggX5_aimAt_X0_threadsIn
set_option maxRecDepth 20000 in
theorem ggX5_aimAt_X0_freePlaces : GoodIn wsX5_aimAt wsX0_freePlaces := goodIn_r _ [13, 14, 15, 51, 52, 53, 54, 55, 56, 57] (by decide +kernel) (by decide +kernel)
set_option maxRecDepth 20000 in
theorem gX5_aimAt_X0_freePlaces : GoodIn wsX5_aimAt (wsV RX5 51 RX0 yX0_freePlaces wsX0_freePlaces) := goodIn_app (goodIn_of _ (by decide +kernel)) ggX5_aimAt_X0_freePlaces
set_option maxRecDepth 20000 in
theorem ggX5_aimAt_X0_threads : GoodIn wsX5_aimAt wsX0_threads := goodIn_r _ [19, 20, 51, 52, 53, 54, 55, 56, 57] (by decide +kernel) (by decide +kernel)
set_option maxRecDepth 20000 in
theorem gX5_aimAt_X0_threads : GoodIn wsX5_aimAt (wsV RX5 54 RX0 yX0_threads wsX0_threads) := goodIn_app (goodIn_of _ (by decide +kernel)) ggX5_aimAt_X0_threads
set_option maxRecDepth 20000 in
theorem ggX5_aimAt_X0_bundleOf : GoodIn wsX5_aimAt wsX0_bundleOf := goodIn_r _ [24, 25, 51, 52, 53, 54, 55, 56, 57] (by decide +kernel) (by decide +kernel)
set_option maxRecDepth 20000 in
theorem gX5_aimAt_X0_bundleOf : GoodIn wsX5_aimAt (wsV RX5 58 RX0 yX0_bundleOf wsX0_bundleOf) := goodIn_app (goodIn_of _ (by decide +kernel)) ggX5_aimAt_X0_bundleOf
set_option maxRecDepth 20000 in
theorem ggX5_aimAt_X0_places : GoodIn wsX5_aimAt wsX0_places := goodIn_r _ [29, 15, 51, 52, 53, 54, 55, 56, 57] (by decide +kernel) (by decide +kernel)
set_option maxRecDepth 20000 in
theorem gX5_aimAt_X0_places : GoodIn wsX5_aimAt (wsV RX5 61 RX0 yX0_places wsX0_places) := goodIn_app (goodIn_of _ (by decide +kernel)) ggX5_aimAt_X0_places
set_option maxRecDepth 20000 in
theorem ggX5_aimAt_X3_wantedAt : GoodIn wsX5_aimAt wsX3_wantedAt := goodIn_r _ [34, 35, 58] (by decide +kernel) (by decide +kernel)
set_option maxRecDepth 20000 in
theorem gX5_aimAt_X3_wantedAt : GoodIn wsX5_aimAt (wsV RX5 64 RX3 yX3_wantedAt wsX3_wantedAt) := goodIn_app (goodIn_of _ (by decide +kernel)) ggX5_aimAt_X3_wantedAt
set_option maxRecDepth 20000 in
theorem ggX5_aimAt_X0_underFold : GoodIn wsX5_aimAt wsX0_underFold := goodIn_r _ [39, 15, 40, 11, 12, 7, 13, 14, 51, 52, 53, 54, 55, 56, 57] (by decide +kernel) (by decide +kernel)
set_option maxRecDepth 20000 in
theorem gX5_aimAt_X0_underFold : GoodIn wsX5_aimAt (wsV RX5 70 RX0 yX0_underFold wsX0_underFold) := goodIn_app (goodIn_of _ (by decide +kernel)) ggX5_aimAt_X0_underFold
theorem dX5_aimAt_0 : decode cX5_aimAt 0 = .ok (.iconst 0, 1) := by decide +kernel
theorem dX5_aimAt_1 : decode cX5_aimAt 1 = .ok (.istore_n 3, 1) := by decide +kernel
theorem dX5_aimAt_2 : decode cX5_aimAt 2 = .ok (.iload_n 3, 1) := by decide +kernel
theorem dX5_aimAt_3 : decode cX5_aimAt 3 = .ok (.bipush 8, 2) := by decide +kernel
theorem dX5_aimAt_5 : decode cX5_aimAt 5 = .ok (.if_icmp .ge 58, 3) := by decide +kernel
theorem dX5_aimAt_8 : decode cX5_aimAt 8 = .ok (.aload_n 0, 1) := by decide +kernel
theorem dX5_aimAt_9 : decode cX5_aimAt 9 = .ok (.getfield 9, 3) := by decide +kernel
theorem dX5_aimAt_12 : decode cX5_aimAt 12 = .ok (.iload_n 3, 1) := by decide +kernel
theorem dX5_aimAt_13 : decode cX5_aimAt 13 = .ok (.aload_n 1, 1) := by decide +kernel
theorem dX5_aimAt_14 : decode cX5_aimAt 14 = .ok (.iload_n 3, 1) := by decide +kernel
theorem dX5_aimAt_15 : decode cX5_aimAt 15 = .ok (.invokevirtual 45, 3) := by decide +kernel
theorem dX5_aimAt_18 : decode cX5_aimAt 18 = .ok (.ifCond .le 11, 3) := by decide +kernel
theorem dX5_aimAt_21 : decode cX5_aimAt 21 = .ok (.aload_n 1, 1) := by decide +kernel
theorem dX5_aimAt_22 : decode cX5_aimAt 22 = .ok (.iload_n 3, 1) := by decide +kernel
theorem dX5_aimAt_23 : decode cX5_aimAt 23 = .ok (.invokevirtual 51, 3) := by decide +kernel
theorem dX5_aimAt_26 : decode cX5_aimAt 26 = .ok (.goto 4, 3) := by decide +kernel
theorem dX5_aimAt_29 : decode cX5_aimAt 29 = .ok (.iconst 0, 1) := by decide +kernel
theorem dX5_aimAt_30 : decode cX5_aimAt 30 = .ok (.iastore, 1) := by decide +kernel
theorem dX5_aimAt_31 : decode cX5_aimAt 31 = .ok (.iconst 0, 1) := by decide +kernel
theorem dX5_aimAt_32 : decode cX5_aimAt 32 = .ok (.istore 4, 2) := by decide +kernel
theorem dX5_aimAt_34 : decode cX5_aimAt 34 = .ok (.iload 4, 2) := by decide +kernel
theorem dX5_aimAt_36 : decode cX5_aimAt 36 = .ok (.bipush 24, 2) := by decide +kernel
theorem dX5_aimAt_38 : decode cX5_aimAt 38 = .ok (.if_icmp .ge 19, 3) := by decide +kernel
theorem dX5_aimAt_41 : decode cX5_aimAt 41 = .ok (.aload_n 0, 1) := by decide +kernel
theorem dX5_aimAt_42 : decode cX5_aimAt 42 = .ok (.getfield 17, 3) := by decide +kernel
theorem dX5_aimAt_45 : decode cX5_aimAt 45 = .ok (.iload_n 3, 1) := by decide +kernel
theorem dX5_aimAt_46 : decode cX5_aimAt 46 = .ok (.aaload, 1) := by decide +kernel
theorem dX5_aimAt_47 : decode cX5_aimAt 47 = .ok (.iload 4, 2) := by decide +kernel
theorem dX5_aimAt_49 : decode cX5_aimAt 49 = .ok (.iconst (-1), 1) := by decide +kernel
theorem dX5_aimAt_50 : decode cX5_aimAt 50 = .ok (.iastore, 1) := by decide +kernel
theorem dX5_aimAt_51 : decode cX5_aimAt 51 = .ok (.iinc 4 1, 3) := by decide +kernel
theorem dX5_aimAt_54 : decode cX5_aimAt 54 = .ok (.goto (-20), 3) := by decide +kernel
theorem dX5_aimAt_57 : decode cX5_aimAt 57 = .ok (.iinc 3 1, 3) := by decide +kernel
theorem dX5_aimAt_60 : decode cX5_aimAt 60 = .ok (.goto (-58), 3) := by decide +kernel
theorem dX5_aimAt_63 : decode cX5_aimAt 63 = .ok (.aload_n 0, 1) := by decide +kernel
theorem dX5_aimAt_64 : decode cX5_aimAt 64 = .ok (.iconst 0, 1) := by decide +kernel
theorem dX5_aimAt_65 : decode cX5_aimAt 65 = .ok (.putfield 20, 3) := by decide +kernel
theorem dX5_aimAt_68 : decode cX5_aimAt 68 = .ok (.iconst 0, 1) := by decide +kernel
theorem dX5_aimAt_69 : decode cX5_aimAt 69 = .ok (.istore_n 3, 1) := by decide +kernel
theorem dX5_aimAt_70 : decode cX5_aimAt 70 = .ok (.iload_n 3, 1) := by decide +kernel
theorem dX5_aimAt_71 : decode cX5_aimAt 71 = .ok (.aload_n 1, 1) := by decide +kernel
theorem dX5_aimAt_72 : decode cX5_aimAt 72 = .ok (.invokevirtual 54, 3) := by decide +kernel
theorem dX5_aimAt_75 : decode cX5_aimAt 75 = .ok (.if_icmp .ge 109, 3) := by decide +kernel
theorem dX5_aimAt_78 : decode cX5_aimAt 78 = .ok (.aload_n 1, 1) := by decide +kernel
theorem dX5_aimAt_79 : decode cX5_aimAt 79 = .ok (.iload_n 3, 1) := by decide +kernel
theorem dX5_aimAt_80 : decode cX5_aimAt 80 = .ok (.invokevirtual 58, 3) := by decide +kernel
theorem dX5_aimAt_83 : decode cX5_aimAt 83 = .ok (.istore 4, 2) := by decide +kernel
theorem dX5_aimAt_85 : decode cX5_aimAt 85 = .ok (.iconst 0, 1) := by decide +kernel
theorem dX5_aimAt_86 : decode cX5_aimAt 86 = .ok (.istore 5, 2) := by decide +kernel
theorem dX5_aimAt_88 : decode cX5_aimAt 88 = .ok (.iload 5, 2) := by decide +kernel
theorem dX5_aimAt_90 : decode cX5_aimAt 90 = .ok (.aload_n 1, 1) := by decide +kernel
theorem dX5_aimAt_91 : decode cX5_aimAt 91 = .ok (.invokevirtual 61, 3) := by decide +kernel
theorem dX5_aimAt_94 : decode cX5_aimAt 94 = .ok (.if_icmp .ge 84, 3) := by decide +kernel
theorem dX5_aimAt_97 : decode cX5_aimAt 97 = .ok (.aload_n 2, 1) := by decide +kernel
theorem dX5_aimAt_98 : decode cX5_aimAt 98 = .ok (.iload_n 3, 1) := by decide +kernel
theorem dX5_aimAt_99 : decode cX5_aimAt 99 = .ok (.iload 5, 2) := by decide +kernel
theorem dX5_aimAt_101 : decode cX5_aimAt 101 = .ok (.invokevirtual 64, 3) := by decide +kernel
theorem dX5_aimAt_104 : decode cX5_aimAt 104 = .ok (.istore 6, 2) := by decide +kernel
theorem dX5_aimAt_106 : decode cX5_aimAt 106 = .ok (.aload_n 1, 1) := by decide +kernel
theorem dX5_aimAt_107 : decode cX5_aimAt 107 = .ok (.iload 4, 2) := by decide +kernel
theorem dX5_aimAt_109 : decode cX5_aimAt 109 = .ok (.iload 5, 2) := by decide +kernel
theorem dX5_aimAt_111 : decode cX5_aimAt 111 = .ok (.invokevirtual 70, 3) := by decide +kernel
theorem dX5_aimAt_114 : decode cX5_aimAt 114 = .ok (.istore 7, 2) := by decide +kernel
theorem dX5_aimAt_116 : decode cX5_aimAt 116 = .ok (.aload_n 0, 1) := by decide +kernel
theorem dX5_aimAt_117 : decode cX5_aimAt 117 = .ok (.getfield 17, 3) := by decide +kernel
theorem dX5_aimAt_120 : decode cX5_aimAt 120 = .ok (.iload 4, 2) := by decide +kernel
theorem dX5_aimAt_122 : decode cX5_aimAt 122 = .ok (.aaload, 1) := by decide +kernel
