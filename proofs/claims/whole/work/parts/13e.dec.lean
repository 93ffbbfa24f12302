theorem dX9_ties_73 : decode cX9_ties 73 = .ok (.istore 5, 2) := by decide +kernel
theorem dX9_ties_75 : decode cX9_ties 75 = .ok (.aload_n 0, 1) := by decide +kernel
theorem dX9_ties_76 : decode cX9_ties 76 = .ok (.getfield 38, 3) := by decide +kernel
theorem dX9_ties_79 : decode cX9_ties 79 = .ok (.iload_n 1, 1) := by decide +kernel
theorem dX9_ties_80 : decode cX9_ties 80 = .ok (.baload, 1) := by decide +kernel
theorem dX9_ties_81 : decode cX9_ties 81 = .ok (.ifCond .eq 24, 3) := by decide +kernel
theorem dX9_ties_84 : decode cX9_ties 84 = .ok (.iload 5, 2) := by decide +kernel
theorem dX9_ties_86 : decode cX9_ties 86 = .ok (.aload_n 0, 1) := by decide +kernel
theorem dX9_ties_87 : decode cX9_ties 87 = .ok (.iload_n 1, 1) := by decide +kernel
theorem dX9_ties_88 : decode cX9_ties 88 = .ok (.aload_n 0, 1) := by decide +kernel
theorem dX9_ties_89 : decode cX9_ties 89 = .ok (.getfield 13, 3) := by decide +kernel
theorem dX9_ties_92 : decode cX9_ties 92 = .ok (.iconst 1, 1) := by decide +kernel
theorem dX9_ties_93 : decode cX9_ties 93 = .ok (.isub, 1) := by decide +kernel
theorem dX9_ties_94 : decode cX9_ties 94 = .ok (.iload 6, 2) := by decide +kernel
theorem dX9_ties_96 : decode cX9_ties 96 = .ok (.isub, 1) := by decide +kernel
theorem dX9_ties_97 : decode cX9_ties 97 = .ok (.iload 4, 2) := by decide +kernel
theorem dX9_ties_99 : decode cX9_ties 99 = .ok (.invokevirtual 91, 3) := by decide +kernel
theorem dX9_ties_102 : decode cX9_ties 102 = .ok (.iadd, 1) := by decide +kernel
theorem dX9_ties_103 : decode cX9_ties 103 = .ok (.istore 5, 2) := by decide +kernel
theorem dX9_ties_105 : decode cX9_ties 105 = .ok (.iinc 6 1, 3) := by decide +kernel
theorem dX9_ties_108 : decode cX9_ties 108 = .ok (.goto (-53), 3) := by decide +kernel
theorem dX9_ties_111 : decode cX9_ties 111 = .ok (.iload 5, 2) := by decide +kernel
theorem dX9_ties_113 : decode cX9_ties 113 = .ok (.ireturn, 1) := by decide +kernel
set_option maxRecDepth 20000 in
theorem ggX9_tie_X9_ties : GoodIn wsX9_tie wsX9_ties := goodIn_r _ [5, 6, 7, 8, 9, 10, 11, 4, 12, 13, 14, 15, 16, 17, 18, 19, 20, 21, 22, 23, 24, 25, 26, 27, 28, 29, 30, 31, 32, 33, 34, 35, 36, 37, 38, 39, 40, 41, 42, 43, 44, 45, 46, 47, 48, 49] (by decide +kernel) (by decide +kernel)
set_option maxRecDepth 20000 in
theorem gX9_tie_X9_ties : GoodIn wsX9_tie (wsV RX9 95 RX9 yX9_ties wsX9_ties) := goodIn_app (goodIn_of _ (by decide +kernel)) ggX9_tie_X9_ties
theorem dX9_tie_0 : decode cX9_tie 0 = .ok (.aload_n 0, 1) := by decide +kernel
theorem dX9_tie_1 : decode cX9_tie 1 = .ok (.iload_n 1, 1) := by decide +kernel
theorem dX9_tie_2 : decode cX9_tie 2 = .ok (.iload_n 2, 1) := by decide +kernel
theorem dX9_tie_3 : decode cX9_tie 3 = .ok (.iload_n 3, 1) := by decide +kernel
theorem dX9_tie_4 : decode cX9_tie 4 = .ok (.iconst 1, 1) := by decide +kernel
theorem dX9_tie_5 : decode cX9_tie 5 = .ok (.invokevirtual 95, 3) := by decide +kernel
theorem dX9_tie_8 : decode cX9_tie 8 = .ok (.ireturn, 1) := by decide +kernel
set_option maxRecDepth 20000 in
theorem ggX9_untie_X9_ties : GoodIn wsX9_untie wsX9_ties := goodIn_r _ [5, 6, 7, 8, 9, 10, 11, 4, 12, 13, 14, 15, 16, 17, 18, 19, 20, 21, 22, 23, 24, 25, 26, 27, 28, 29, 30, 31, 32, 33, 34, 35, 36, 37, 38, 39, 40, 41, 42, 43, 44, 45, 46, 47, 48, 49] (by decide +kernel) (by decide +kernel)
set_option maxRecDepth 20000 in
theorem gX9_untie_X9_ties : GoodIn wsX9_untie (wsV RX9 95 RX9 yX9_ties wsX9_ties) := goodIn_app (goodIn_of _ (by decide +kernel)) ggX9_untie_X9_ties
theorem dX9_untie_0 : decode cX9_untie 0 = .ok (.aload_n 0, 1) := by decide +kernel
theorem dX9_untie_1 : decode cX9_untie 1 = .ok (.iload_n 1, 1) := by decide +kernel
theorem dX9_untie_2 : decode cX9_untie 2 = .ok (.iload_n 2, 1) := by decide +kernel
theorem dX9_untie_3 : decode cX9_untie 3 = .ok (.iload_n 3, 1) := by decide +kernel
theorem dX9_untie_4 : decode cX9_untie 4 = .ok (.iconst 0, 1) := by decide +kernel
theorem dX9_untie_5 : decode cX9_untie 5 = .ok (.invokevirtual 95, 3) := by decide +kernel
theorem dX9_untie_8 : decode cX9_untie 8 = .ok (.ireturn, 1) := by decide +kernel
set_option maxRecDepth 20000 in
theorem ggX9_taken_X9_many : GoodIn wsX9_taken wsX9_many := goodIn_r _ [7, 8, 9, 10, 11, 12, 13, 14, 15, 16, 17, 18, 19, 20, 21, 22, 23, 24, 25, 26, 27, 28, 29, 30, 31, 32, 33] (by decide +kernel) (by decide +kernel)
set_option maxRecDepth 20000 in
theorem gX9_taken_X9_many : GoodIn wsX9_taken (wsV RX9 99 RX9 yX9_many wsX9_many) := goodIn_app (goodIn_of _ (by decide +kernel)) ggX9_taken_X9_many
theorem dX9_taken_0 : decode cX9_taken 0 = .ok (.iconst 0, 1) := by decide +kernel
theorem dX9_taken_1 : decode cX9_taken 1 = .ok (.istore_n 1, 1) := by decide +kernel
theorem dX9_taken_2 : decode cX9_taken 2 = .ok (.iconst 0, 1) := by decide +kernel
theorem dX9_taken_3 : decode cX9_taken 3 = .ok (.istore_n 2, 1) := by decide +kernel
theorem dX9_taken_4 : decode cX9_taken 4 = .ok (.iload_n 2, 1) := by decide +kernel
theorem dX9_taken_5 : decode cX9_taken 5 = .ok (.bipush 8, 2) := by decide +kernel
theorem dX9_taken_7 : decode cX9_taken 7 = .ok (.if_icmp .ge 47, 3) := by decide +kernel
theorem dX9_taken_10 : decode cX9_taken 10 = .ok (.iconst 0, 1) := by decide +kernel
theorem dX9_taken_11 : decode cX9_taken 11 = .ok (.istore_n 3, 1) := by decide +kernel
theorem dX9_taken_12 : decode cX9_taken 12 = .ok (.iload_n 3, 1) := by decide +kernel
theorem dX9_taken_13 : decode cX9_taken 13 = .ok (.aload_n 0, 1) := by decide +kernel
theorem dX9_taken_14 : decode cX9_taken 14 = .ok (.getfield 13, 3) := by decide +kernel
theorem dX9_taken_17 : decode cX9_taken 17 = .ok (.if_icmp .ge 31, 3) := by decide +kernel
theorem dX9_taken_20 : decode cX9_taken 20 = .ok (.aload_n 0, 1) := by decide +kernel
theorem dX9_taken_21 : decode cX9_taken 21 = .ok (.getfield 42, 3) := by decide +kernel
theorem dX9_taken_24 : decode cX9_taken 24 = .ok (.bipush 24, 2) := by decide +kernel
theorem dX9_taken_26 : decode cX9_taken 26 = .ok (.iload_n 2, 1) := by decide +kernel
theorem dX9_taken_27 : decode cX9_taken 27 = .ok (.imul, 1) := by decide +kernel
theorem dX9_taken_28 : decode cX9_taken 28 = .ok (.iload_n 3, 1) := by decide +kernel
theorem dX9_taken_29 : decode cX9_taken 29 = .ok (.iadd, 1) := by decide +kernel
theorem dX9_taken_30 : decode cX9_taken 30 = .ok (.baload, 1) := by decide +kernel
theorem dX9_taken_31 : decode cX9_taken 31 = .ok (.ifCond .ne 11, 3) := by decide +kernel
theorem dX9_taken_34 : decode cX9_taken 34 = .ok (.iload_n 1, 1) := by decide +kernel
theorem dX9_taken_35 : decode cX9_taken 35 = .ok (.aload_n 0, 1) := by decide +kernel
theorem dX9_taken_36 : decode cX9_taken 36 = .ok (.iload_n 2, 1) := by decide +kernel
theorem dX9_taken_37 : decode cX9_taken 37 = .ok (.invokevirtual 99, 3) := by decide +kernel
theorem dX9_taken_40 : decode cX9_taken 40 = .ok (.iadd, 1) := by decide +kernel
theorem dX9_taken_41 : decode cX9_taken 41 = .ok (.istore_n 1, 1) := by decide +kernel
theorem dX9_taken_42 : decode cX9_taken 42 = .ok (.iinc 3 1, 3) := by decide +kernel
theorem dX9_taken_45 : decode cX9_taken 45 = .ok (.goto (-33), 3) := by decide +kernel
theorem dX9_taken_48 : decode cX9_taken 48 = .ok (.iinc 2 1, 3) := by decide +kernel
theorem dX9_taken_51 : decode cX9_taken 51 = .ok (.goto (-47), 3) := by decide +kernel
theorem dX9_taken_54 : decode cX9_taken 54 = .ok (.iload_n 1, 1) := by decide +kernel
theorem dX9_taken_55 : decode cX9_taken 55 = .ok (.ireturn, 1) := by decide +kernel
theorem dX9_bathes_0 : decode cX9_bathes 0 = .ok (.iconst 0, 1) := by decide +kernel
theorem dX9_bathes_1 : decode cX9_bathes 1 = .ok (.istore_n 2, 1) := by decide +kernel
theorem dX9_bathes_2 : decode cX9_bathes 2 = .ok (.iload_n 2, 1) := by decide +kernel
theorem dX9_bathes_3 : decode cX9_bathes 3 = .ok (.bipush 8, 2) := by decide +kernel
theorem dX9_bathes_5 : decode cX9_bathes 5 = .ok (.if_icmp .ge 70, 3) := by decide +kernel
theorem dX9_bathes_8 : decode cX9_bathes 8 = .ok (.iconst 0, 1) := by decide +kernel
theorem dX9_bathes_9 : decode cX9_bathes 9 = .ok (.istore_n 3, 1) := by decide +kernel
theorem dX9_bathes_10 : decode cX9_bathes 10 = .ok (.iload_n 3, 1) := by decide +kernel
theorem dX9_bathes_11 : decode cX9_bathes 11 = .ok (.aload_n 0, 1) := by decide +kernel
theorem dX9_bathes_12 : decode cX9_bathes 12 = .ok (.getfield 13, 3) := by decide +kernel
theorem dX9_bathes_15 : decode cX9_bathes 15 = .ok (.if_icmp .ge 54, 3) := by decide +kernel
theorem dX9_bathes_18 : decode cX9_bathes 18 = .ok (.aload_n 0, 1) := by decide +kernel
theorem dX9_bathes_19 : decode cX9_bathes 19 = .ok (.getfield 42, 3) := by decide +kernel
theorem dX9_bathes_22 : decode cX9_bathes 22 = .ok (.bipush 24, 2) := by decide +kernel
theorem dX9_bathes_24 : decode cX9_bathes 24 = .ok (.iload_n 2, 1) := by decide +kernel
theorem dX9_bathes_25 : decode cX9_bathes 25 = .ok (.imul, 1) := by decide +kernel
theorem dX9_bathes_26 : decode cX9_bathes 26 = .ok (.iload_n 3, 1) := by decide +kernel
theorem dX9_bathes_27 : decode cX9_bathes 27 = .ok (.iadd, 1) := by decide +kernel
theorem dX9_bathes_28 : decode cX9_bathes 28 = .ok (.baload, 1) := by decide +kernel
theorem dX9_bathes_29 : decode cX9_bathes 29 = .ok (.ifCond .ne 34, 3) := by decide +kernel
theorem dX9_bathes_32 : decode cX9_bathes 32 = .ok (.aload_n 0, 1) := by decide +kernel
theorem dX9_bathes_33 : decode cX9_bathes 33 = .ok (.getfield 20, 3) := by decide +kernel
theorem dX9_bathes_36 : decode cX9_bathes 36 = .ok (.bipush 24, 2) := by decide +kernel
theorem dX9_bathes_38 : decode cX9_bathes 38 = .ok (.iload_n 2, 1) := by decide +kernel
theorem dX9_bathes_39 : decode cX9_bathes 39 = .ok (.imul, 1) := by decide +kernel
theorem dX9_bathes_40 : decode cX9_bathes 40 = .ok (.iload_n 3, 1) := by decide +kernel
theorem dX9_bathes_41 : decode cX9_bathes 41 = .ok (.iadd, 1) := by decide +kernel
theorem dX9_bathes_42 : decode cX9_bathes 42 = .ok (.aload_n 0, 1) := by decide +kernel
theorem dX9_bathes_43 : decode cX9_bathes 43 = .ok (.getfield 23, 3) := by decide +kernel
theorem dX9_bathes_46 : decode cX9_bathes 46 = .ok (.iconst 4, 1) := by decide +kernel
theorem dX9_bathes_47 : decode cX9_bathes 47 = .ok (.aload_n 0, 1) := by decide +kernel
theorem dX9_bathes_48 : decode cX9_bathes 48 = .ok (.getfield 20, 3) := by decide +kernel
theorem dX9_bathes_51 : decode cX9_bathes 51 = .ok (.bipush 24, 2) := by decide +kernel
theorem dX9_bathes_53 : decode cX9_bathes 53 = .ok (.iload_n 2, 1) := by decide +kernel
theorem dX9_bathes_54 : decode cX9_bathes 54 = .ok (.imul, 1) := by decide +kernel
theorem dX9_bathes_55 : decode cX9_bathes 55 = .ok (.iload_n 3, 1) := by decide +kernel
theorem dX9_bathes_56 : decode cX9_bathes 56 = .ok (.iadd, 1) := by decide +kernel
theorem dX9_bathes_57 : decode cX9_bathes 57 = .ok (.iaload, 1) := by decide +kernel
theorem dX9_bathes_58 : decode cX9_bathes 58 = .ok (.imul, 1) := by decide +kernel
theorem dX9_bathes_59 : decode cX9_bathes 59 = .ok (.iload_n 1, 1) := by decide +kernel
theorem dX9_bathes_60 : decode cX9_bathes 60 = .ok (.iadd, 1) := by decide +kernel
theorem dX9_bathes_61 : decode cX9_bathes 61 = .ok (.iaload, 1) := by decide +kernel
theorem dX9_bathes_62 : decode cX9_bathes 62 = .ok (.iastore, 1) := by decide +kernel
theorem dX9_bathes_63 : decode cX9_bathes 63 = .ok (.iinc 3 1, 3) := by decide +kernel
theorem dX9_bathes_66 : decode cX9_bathes 66 = .ok (.goto (-56), 3) := by decide +kernel
theorem dX9_bathes_69 : decode cX9_bathes 69 = .ok (.iinc 2 1, 3) := by decide +kernel
theorem dX9_bathes_72 : decode cX9_bathes 72 = .ok (.goto (-70), 3) := by decide +kernel
theorem dX9_bathes_75 : decode cX9_bathes 75 = .ok (.aload_n 0, 1) := by decide +kernel
theorem dX9_bathes_76 : decode cX9_bathes 76 = .ok (.dup, 1) := by decide +kernel
theorem dX9_bathes_77 : decode cX9_bathes 77 = .ok (.getfield 103, 3) := by decide +kernel
theorem dX9_bathes_80 : decode cX9_bathes 80 = .ok (.iconst 1, 1) := by decide +kernel
theorem dX9_bathes_81 : decode cX9_bathes 81 = .ok (.iadd, 1) := by decide +kernel
theorem dX9_bathes_82 : decode cX9_bathes 82 = .ok (.putfield 103, 3) := by decide +kernel
theorem dX9_bathes_85 : decode cX9_bathes 85 = .ok (.return_, 1) := by decide +kernel
set_option maxRecDepth 20000 in
theorem ggX9_bath_X9_right : GoodIn wsX9_bath wsX9_right := goodIn_r _ [7, 1, 27, 28, 29, 30, 31, 32, 33, 34, 35, 36, 37, 38, 39, 40, 41, 42, 43, 44, 45, 46, 47, 48, 49, 50] (by decide +kernel) (by decide +kernel)
set_option maxRecDepth 20000 in
theorem gX9_bath_X9_right : GoodIn wsX9_bath (wsV RX9 69 RX9 yX9_right wsX9_right) := goodIn_app (goodIn_of _ (by decide +kernel)) ggX9_bath_X9_right
set_option maxRecDepth 20000 in
theorem ggX9_bath_X9_taken : GoodIn wsX9_bath wsX9_taken := goodIn_r _ [11, 12, 13, 14, 15, 16, 6, 17, 18, 19, 27, 28, 29, 30, 31, 32, 33, 34, 35, 36, 37, 38, 39, 40, 41, 42, 43, 44, 45, 46, 47, 48, 49, 50] (by decide +kernel) (by decide +kernel)
set_option maxRecDepth 20000 in
theorem gX9_bath_X9_taken : GoodIn wsX9_bath (wsV RX9 106 RX9 yX9_taken wsX9_taken) := goodIn_app (goodIn_of _ (by decide +kernel)) ggX9_bath_X9_taken
set_option maxRecDepth 20000 in
theorem ggX9_bath_X9_bathes : GoodIn wsX9_bath wsX9_bathes := goodIn_r _ [23, 12, 13, 24, 25, 26, 27, 28, 29, 30, 31, 32, 33, 34, 35, 36, 37, 38, 39, 40, 41, 42, 43, 44, 45, 46, 47, 48, 49, 50] (by decide +kernel) (by decide +kernel)
set_option maxRecDepth 20000 in
theorem gX9_bath_X9_bathes : GoodIn wsX9_bath (wsV RX9 110 RX9 yX9_bathes wsX9_bathes) := goodIn_app (goodIn_of _ (by decide +kernel)) ggX9_bath_X9_bathes
theorem dX9_bath_0 : decode cX9_bath 0 = .ok (.aload_n 0, 1) := by decide +kernel
theorem dX9_bath_1 : decode cX9_bath 1 = .ok (.iconst 0, 1) := by decide +kernel
theorem dX9_bath_2 : decode cX9_bath 2 = .ok (.putfield 66, 3) := by decide +kernel
theorem dX9_bath_5 : decode cX9_bath 5 = .ok (.aload_n 0, 1) := by decide +kernel
theorem dX9_bath_6 : decode cX9_bath 6 = .ok (.iload_n 1, 1) := by decide +kernel
theorem dX9_bath_7 : decode cX9_bath 7 = .ok (.ifCond .lt 12, 3) := by decide +kernel
theorem dX9_bath_10 : decode cX9_bath 10 = .ok (.iload_n 1, 1) := by decide +kernel
theorem dX9_bath_11 : decode cX9_bath 11 = .ok (.iconst 4, 1) := by decide +kernel
theorem dX9_bath_12 : decode cX9_bath 12 = .ok (.if_icmp .ge 7, 3) := by decide +kernel
theorem dX9_bath_15 : decode cX9_bath 15 = .ok (.iconst 1, 1) := by decide +kernel
theorem dX9_bath_16 : decode cX9_bath 16 = .ok (.goto 4, 3) := by decide +kernel
theorem dX9_bath_19 : decode cX9_bath 19 = .ok (.iconst 0, 1) := by decide +kernel
theorem dX9_bath_20 : decode cX9_bath 20 = .ok (.iconst 1, 1) := by decide +kernel
theorem dX9_bath_21 : decode cX9_bath 21 = .ok (.invokevirtual 69, 3) := by decide +kernel
theorem dX9_bath_24 : decode cX9_bath 24 = .ok (.ifCond .ne 5, 3) := by decide +kernel
theorem dX9_bath_27 : decode cX9_bath 27 = .ok (.iconst 0, 1) := by decide +kernel
theorem dX9_bath_28 : decode cX9_bath 28 = .ok (.ireturn, 1) := by decide +kernel
theorem dX9_bath_29 : decode cX9_bath 29 = .ok (.aload_n 0, 1) := by decide +kernel
theorem dX9_bath_30 : decode cX9_bath 30 = .ok (.invokevirtual 106, 3) := by decide +kernel
theorem dX9_bath_33 : decode cX9_bath 33 = .ok (.istore_n 2, 1) := by decide +kernel
theorem dX9_bath_34 : decode cX9_bath 34 = .ok (.aload_n 0, 1) := by decide +kernel
theorem dX9_bath_35 : decode cX9_bath 35 = .ok (.getfield 26, 3) := by decide +kernel
theorem dX9_bath_38 : decode cX9_bath 38 = .ok (.iload_n 1, 1) := by decide +kernel
theorem dX9_bath_39 : decode cX9_bath 39 = .ok (.iaload, 1) := by decide +kernel
theorem dX9_bath_40 : decode cX9_bath 40 = .ok (.iload_n 2, 1) := by decide +kernel
theorem dX9_bath_41 : decode cX9_bath 41 = .ok (.if_icmp .ge 5, 3) := by decide +kernel
theorem dX9_bath_44 : decode cX9_bath 44 = .ok (.iconst (-1), 1) := by decide +kernel
theorem dX9_bath_45 : decode cX9_bath 45 = .ok (.ireturn, 1) := by decide +kernel
theorem dX9_bath_46 : decode cX9_bath 46 = .ok (.aload_n 0, 1) := by decide +kernel
theorem dX9_bath_47 : decode cX9_bath 47 = .ok (.getfield 26, 3) := by decide +kernel
theorem dX9_bath_50 : decode cX9_bath 50 = .ok (.iload_n 1, 1) := by decide +kernel
theorem dX9_bath_51 : decode cX9_bath 51 = .ok (.dup2, 1) := by decide +kernel
theorem dX9_bath_52 : decode cX9_bath 52 = .ok (.iaload, 1) := by decide +kernel
theorem dX9_bath_53 : decode cX9_bath 53 = .ok (.iload_n 2, 1) := by decide +kernel
theorem dX9_bath_54 : decode cX9_bath 54 = .ok (.isub, 1) := by decide +kernel
theorem dX9_bath_55 : decode cX9_bath 55 = .ok (.iastore, 1) := by decide +kernel
theorem dX9_bath_56 : decode cX9_bath 56 = .ok (.aload_n 0, 1) := by decide +kernel
theorem dX9_bath_57 : decode cX9_bath 57 = .ok (.iload_n 1, 1) := by decide +kernel
theorem dX9_bath_58 : decode cX9_bath 58 = .ok (.invokevirtual 110, 3) := by decide +kernel
theorem dX9_bath_61 : decode cX9_bath 61 = .ok (.iload_n 2, 1) := by decide +kernel
theorem dX9_bath_62 : decode cX9_bath 62 = .ok (.ireturn, 1) := by decide +kernel
theorem dX9_colourOf_0 : decode cX9_colourOf 0 = .ok (.aload_n 0, 1) := by decide +kernel
theorem dX9_colourOf_1 : decode cX9_colourOf 1 = .ok (.getfield 20, 3) := by decide +kernel
theorem dX9_colourOf_4 : decode cX9_colourOf 4 = .ok (.bipush 24, 2) := by decide +kernel
theorem dX9_colourOf_6 : decode cX9_colourOf 6 = .ok (.aload_n 0, 1) := by decide +kernel
theorem dX9_colourOf_7 : decode cX9_colourOf 7 = .ok (.getfield 16, 3) := by decide +kernel
theorem dX9_colourOf_10 : decode cX9_colourOf 10 = .ok (.iload_n 1, 1) := by decide +kernel
theorem dX9_colourOf_11 : decode cX9_colourOf 11 = .ok (.iaload, 1) := by decide +kernel
theorem dX9_colourOf_12 : decode cX9_colourOf 12 = .ok (.imul, 1) := by decide +kernel
theorem dX9_colourOf_13 : decode cX9_colourOf 13 = .ok (.iload_n 2, 1) := by decide +kernel
theorem dX9_colourOf_14 : decode cX9_colourOf 14 = .ok (.iadd, 1) := by decide +kernel
theorem dX9_colourOf_15 : decode cX9_colourOf 15 = .ok (.iaload, 1) := by decide +kernel
theorem dX9_colourOf_16 : decode cX9_colourOf 16 = .ok (.ireturn, 1) := by decide +kernel
set_option maxRecDepth 20000 in
theorem ggX9_colour_X9_isThread : GoodIn wsX9_colour wsX9_isThread := goodIn_r _ [6, 7, 8, 9, 10, 5, 11, 1, 23, 24, 25, 26, 27, 28, 29, 30, 31, 32, 33, 34, 35, 36, 37, 38, 39, 40, 41, 42, 43, 44, 45, 46] (by decide +kernel) (by decide +kernel)
set_option maxRecDepth 20000 in
theorem gX9_colour_X9_isThread : GoodIn wsX9_colour (wsV RX9 80 RX9 yX9_isThread wsX9_isThread) := goodIn_app (goodIn_of _ (by decide +kernel)) ggX9_colour_X9_isThread
set_option maxRecDepth 20000 in
theorem ggX9_colour_X9_isPlace : GoodIn wsX9_colour wsX9_isPlace := goodIn_r _ [15, 16, 8, 9, 10, 5, 11, 1, 23, 24, 25, 26, 27, 28, 29, 30, 31, 32, 33, 34, 35, 36, 37, 38, 39, 40, 41, 42, 43, 44, 45, 46] (by decide +kernel) (by decide +kernel)
set_option maxRecDepth 20000 in
theorem gX9_colour_X9_isPlace : GoodIn wsX9_colour (wsV RX9 88 RX9 yX9_isPlace wsX9_isPlace) := goodIn_app (goodIn_of _ (by decide +kernel)) ggX9_colour_X9_isPlace
set_option maxRecDepth 20000 in
theorem ggX9_colour_X9_colourOf : GoodIn wsX9_colour wsX9_colourOf := goodIn_r _ [20, 21, 22, 23, 24, 25, 26, 27, 28, 29, 30, 31, 32, 33, 34, 35, 36, 37, 38, 39, 40, 41, 42, 43, 44, 45, 46] (by decide +kernel) (by decide +kernel)
set_option maxRecDepth 20000 in
theorem gX9_colour_X9_colourOf : GoodIn wsX9_colour (wsV RX9 114 RX9 yX9_colourOf wsX9_colourOf) := goodIn_app (goodIn_of _ (by decide +kernel)) ggX9_colour_X9_colourOf
theorem dX9_colour_0 : decode cX9_colour 0 = .ok (.aload_n 0, 1) := by decide +kernel
theorem dX9_colour_1 : decode cX9_colour 1 = .ok (.iconst 0, 1) := by decide +kernel
theorem dX9_colour_2 : decode cX9_colour 2 = .ok (.putfield 66, 3) := by decide +kernel
theorem dX9_colour_5 : decode cX9_colour 5 = .ok (.aload_n 0, 1) := by decide +kernel
theorem dX9_colour_6 : decode cX9_colour 6 = .ok (.iload_n 1, 1) := by decide +kernel
theorem dX9_colour_7 : decode cX9_colour 7 = .ok (.invokevirtual 80, 3) := by decide +kernel
theorem dX9_colour_10 : decode cX9_colour 10 = .ok (.ifCond .eq 20, 3) := by decide +kernel
theorem dX9_colour_13 : decode cX9_colour 13 = .ok (.aload_n 0, 1) := by decide +kernel
theorem dX9_colour_14 : decode cX9_colour 14 = .ok (.iload_n 2, 1) := by decide +kernel
theorem dX9_colour_15 : decode cX9_colour 15 = .ok (.invokevirtual 88, 3) := by decide +kernel
theorem dX9_colour_18 : decode cX9_colour 18 = .ok (.ifCond .eq 12, 3) := by decide +kernel
theorem dX9_colour_21 : decode cX9_colour 21 = .ok (.aload_n 0, 1) := by decide +kernel
theorem dX9_colour_22 : decode cX9_colour 22 = .ok (.iload_n 1, 1) := by decide +kernel
theorem dX9_colour_23 : decode cX9_colour 23 = .ok (.iload_n 2, 1) := by decide +kernel
theorem dX9_colour_24 : decode cX9_colour 24 = .ok (.invokevirtual 114, 3) := by decide +kernel
theorem dX9_colour_27 : decode cX9_colour 27 = .ok (.goto 4, 3) := by decide +kernel
theorem dX9_colour_30 : decode cX9_colour 30 = .ok (.iconst 0, 1) := by decide +kernel
theorem dX9_colour_31 : decode cX9_colour 31 = .ok (.ireturn, 1) := by decide +kernel
set_option maxRecDepth 20000 in
theorem ggX9_bound_X9_isBundle : GoodIn wsX9_bound wsX9_isBundle := goodIn_r _ [7, 8, 9, 10, 6, 11, 1, 17, 18, 19, 20, 21, 22, 23, 24, 25, 26, 27, 28, 29, 30, 31, 32, 33, 34, 35, 36, 37, 38, 39, 40] (by decide +kernel) (by decide +kernel)
set_option maxRecDepth 20000 in
theorem gX9_bound_X9_isBundle : GoodIn wsX9_bound (wsV RX9 84 RX9 yX9_isBundle wsX9_isBundle) := goodIn_app (goodIn_of _ (by decide +kernel)) ggX9_bound_X9_isBundle
set_option maxRecDepth 20000 in
theorem ggX9_bound_X9_isPlace : GoodIn wsX9_bound wsX9_isPlace := goodIn_r _ [15, 16, 8, 9, 10, 6, 11, 1, 17, 18, 19, 20, 21, 22, 23, 24, 25, 26, 27, 28, 29, 30, 31, 32, 33, 34, 35, 36, 37, 38, 39, 40] (by decide +kernel) (by decide +kernel)
set_option maxRecDepth 20000 in
theorem gX9_bound_X9_isPlace : GoodIn wsX9_bound (wsV RX9 88 RX9 yX9_isPlace wsX9_isPlace) := goodIn_app (goodIn_of _ (by decide +kernel)) ggX9_bound_X9_isPlace
theorem dX9_bound_0 : decode cX9_bound 0 = .ok (.aload_n 0, 1) := by decide +kernel
theorem dX9_bound_1 : decode cX9_bound 1 = .ok (.iconst 0, 1) := by decide +kernel
theorem dX9_bound_2 : decode cX9_bound 2 = .ok (.putfield 66, 3) := by decide +kernel
theorem dX9_bound_5 : decode cX9_bound 5 = .ok (.aload_n 0, 1) := by decide +kernel
theorem dX9_bound_6 : decode cX9_bound 6 = .ok (.iload_n 1, 1) := by decide +kernel
theorem dX9_bound_7 : decode cX9_bound 7 = .ok (.invokevirtual 84, 3) := by decide +kernel
theorem dX9_bound_10 : decode cX9_bound 10 = .ok (.ifCond .eq 29, 3) := by decide +kernel
theorem dX9_bound_13 : decode cX9_bound 13 = .ok (.aload_n 0, 1) := by decide +kernel
theorem dX9_bound_14 : decode cX9_bound 14 = .ok (.iload_n 2, 1) := by decide +kernel
theorem dX9_bound_15 : decode cX9_bound 15 = .ok (.invokevirtual 88, 3) := by decide +kernel
theorem dX9_bound_18 : decode cX9_bound 18 = .ok (.ifCond .eq 21, 3) := by decide +kernel
theorem dX9_bound_21 : decode cX9_bound 21 = .ok (.aload_n 0, 1) := by decide +kernel
theorem dX9_bound_22 : decode cX9_bound 22 = .ok (.getfield 42, 3) := by decide +kernel
theorem dX9_bound_25 : decode cX9_bound 25 = .ok (.bipush 24, 2) := by decide +kernel
theorem dX9_bound_27 : decode cX9_bound 27 = .ok (.iload_n 1, 1) := by decide +kernel
theorem dX9_bound_28 : decode cX9_bound 28 = .ok (.imul, 1) := by decide +kernel
theorem dX9_bound_29 : decode cX9_bound 29 = .ok (.iload_n 2, 1) := by decide +kernel
theorem dX9_bound_30 : decode cX9_bound 30 = .ok (.iadd, 1) := by decide +kernel
theorem dX9_bound_31 : decode cX9_bound 31 = .ok (.baload, 1) := by decide +kernel
theorem dX9_bound_32 : decode cX9_bound 32 = .ok (.ifCond .eq 7, 3) := by decide +kernel
theorem dX9_bound_35 : decode cX9_bound 35 = .ok (.iconst 1, 1) := by decide +kernel
theorem dX9_bound_36 : decode cX9_bound 36 = .ok (.goto 4, 3) := by decide +kernel
theorem dX9_bound_39 : decode cX9_bound 39 = .ok (.iconst 0, 1) := by decide +kernel
theorem dX9_bound_40 : decode cX9_bound 40 = .ok (.ireturn, 1) := by decide +kernel
set_option maxRecDepth 20000 in
theorem ggX9_want_X9_isThread : GoodIn wsX9_want wsX9_isThread := goodIn_r _ [8, 9, 10, 11, 12, 7, 13, 1, 19, 20, 21, 22, 23, 24, 25, 26, 27, 28, 29, 30, 31, 32, 33, 34, 35, 36, 37, 38, 39, 40, 41, 42] (by decide +kernel) (by decide +kernel)
set_option maxRecDepth 20000 in
theorem gX9_want_X9_isThread : GoodIn wsX9_want (wsV RX9 80 RX9 yX9_isThread wsX9_isThread) := goodIn_app (goodIn_of _ (by decide +kernel)) ggX9_want_X9_isThread
set_option maxRecDepth 20000 in
theorem ggX9_want_X9_isPlace : GoodIn wsX9_want wsX9_isPlace := goodIn_r _ [17, 18, 10, 11, 12, 7, 13, 1, 19, 20, 21, 22, 23, 24, 25, 26, 27, 28, 29, 30, 31, 32, 33, 34, 35, 36, 37, 38, 39, 40, 41, 42] (by decide +kernel) (by decide +kernel)
set_option maxRecDepth 20000 in
theorem gX9_want_X9_isPlace : GoodIn wsX9_want (wsV RX9 88 RX9 yX9_isPlace wsX9_isPlace) := goodIn_app (goodIn_of _ (by decide +kernel)) ggX9_want_X9_isPlace
set_option maxRecDepth 20000 in
theorem ggX9_want_X9_right : GoodIn wsX9_want wsX9_right := goodIn_r _ [13, 1, 19, 20, 21, 22, 23, 24, 25, 26, 27, 28, 29, 30, 31, 32, 33, 34, 35, 36, 37, 38, 39, 40, 41, 42] (by decide +kernel) (by decide +kernel)
set_option maxRecDepth 20000 in
theorem gX9_want_X9_right : GoodIn wsX9_want (wsV RX9 69 RX9 yX9_right wsX9_right) := goodIn_app (goodIn_of _ (by decide +kernel)) ggX9_want_X9_right
theorem dX9_want_0 : decode cX9_want 0 = .ok (.aload_n 0, 1) := by decide +kernel
theorem dX9_want_1 : decode cX9_want 1 = .ok (.iconst 0, 1) := by decide +kernel
theorem dX9_want_2 : decode cX9_want 2 = .ok (.putfield 66, 3) := by decide +kernel
theorem dX9_want_5 : decode cX9_want 5 = .ok (.aload_n 0, 1) := by decide +kernel
theorem dX9_want_6 : decode cX9_want 6 = .ok (.iload_n 1, 1) := by decide +kernel
theorem dX9_want_7 : decode cX9_want 7 = .ok (.invokevirtual 80, 3) := by decide +kernel
theorem dX9_want_10 : decode cX9_want 10 = .ok (.ifCond .eq 34, 3) := by decide +kernel
theorem dX9_want_13 : decode cX9_want 13 = .ok (.aload_n 0, 1) := by decide +kernel
theorem dX9_want_14 : decode cX9_want 14 = .ok (.iload_n 2, 1) := by decide +kernel
theorem dX9_want_15 : decode cX9_want 15 = .ok (.invokevirtual 88, 3) := by decide +kernel
theorem dX9_want_18 : decode cX9_want 18 = .ok (.ifCond .eq 26, 3) := by decide +kernel
theorem dX9_want_21 : decode cX9_want 21 = .ok (.aload_n 0, 1) := by decide +kernel
theorem dX9_want_22 : decode cX9_want 22 = .ok (.iload_n 3, 1) := by decide +kernel
theorem dX9_want_23 : decode cX9_want 23 = .ok (.ifCond .lt 13, 3) := by decide +kernel
theorem dX9_want_26 : decode cX9_want 26 = .ok (.iload_n 3, 1) := by decide +kernel
theorem dX9_want_27 : decode cX9_want 27 = .ok (.bipush 16, 2) := by decide +kernel
theorem dX9_want_29 : decode cX9_want 29 = .ok (.if_icmp .ge 7, 3) := by decide +kernel
theorem dX9_want_32 : decode cX9_want 32 = .ok (.iconst 1, 1) := by decide +kernel
theorem dX9_want_33 : decode cX9_want 33 = .ok (.goto 4, 3) := by decide +kernel
theorem dX9_want_36 : decode cX9_want 36 = .ok (.iconst 0, 1) := by decide +kernel
theorem dX9_want_37 : decode cX9_want 37 = .ok (.iconst 2, 1) := by decide +kernel
theorem dX9_want_38 : decode cX9_want 38 = .ok (.invokevirtual 69, 3) := by decide +kernel
theorem dX9_want_41 : decode cX9_want 41 = .ok (.ifCond .ne 5, 3) := by decide +kernel
theorem dX9_want_44 : decode cX9_want 44 = .ok (.iconst 0, 1) := by decide +kernel
theorem dX9_want_45 : decode cX9_want 45 = .ok (.ireturn, 1) := by decide +kernel
theorem dX9_want_46 : decode cX9_want 46 = .ok (.aload_n 0, 1) := by decide +kernel
theorem dX9_want_47 : decode cX9_want 47 = .ok (.getfield 29, 3) := by decide +kernel
theorem dX9_want_50 : decode cX9_want 50 = .ok (.bipush 24, 2) := by decide +kernel
theorem dX9_want_52 : decode cX9_want 52 = .ok (.iload_n 1, 1) := by decide +kernel
theorem dX9_want_53 : decode cX9_want 53 = .ok (.imul, 1) := by decide +kernel
theorem dX9_want_54 : decode cX9_want 54 = .ok (.iload_n 2, 1) := by decide +kernel
theorem dX9_want_55 : decode cX9_want 55 = .ok (.iadd, 1) := by decide +kernel
theorem dX9_want_56 : decode cX9_want 56 = .ok (.iaload, 1) := by decide +kernel
theorem dX9_want_57 : decode cX9_want 57 = .ok (.istore 4, 2) := by decide +kernel
theorem dX9_want_59 : decode cX9_want 59 = .ok (.aload_n 0, 1) := by decide +kernel
theorem dX9_want_60 : decode cX9_want 60 = .ok (.getfield 29, 3) := by decide +kernel
theorem dX9_want_63 : decode cX9_want 63 = .ok (.bipush 24, 2) := by decide +kernel
theorem dX9_want_65 : decode cX9_want 65 = .ok (.iload_n 1, 1) := by decide +kernel
theorem dX9_want_66 : decode cX9_want 66 = .ok (.imul, 1) := by decide +kernel
theorem dX9_want_67 : decode cX9_want 67 = .ok (.iload_n 2, 1) := by decide +kernel
theorem dX9_want_68 : decode cX9_want 68 = .ok (.iadd, 1) := by decide +kernel
theorem dX9_want_69 : decode cX9_want 69 = .ok (.iload_n 3, 1) := by decide +kernel
theorem dX9_want_70 : decode cX9_want 70 = .ok (.iastore, 1) := by decide +kernel
theorem dX9_want_71 : decode cX9_want 71 = .ok (.aload_n 0, 1) := by decide +kernel
theorem dX9_want_72 : decode cX9_want 72 = .ok (.iconst 0, 1) := by decide +kernel
theorem dX9_want_73 : decode cX9_want 73 = .ok (.putfield 73, 3) := by decide +kernel
theorem dX9_want_76 : decode cX9_want 76 = .ok (.iload 4, 2) := by decide +kernel
theorem dX9_want_78 : decode cX9_want 78 = .ok (.ireturn, 1) := by decide +kernel
theorem dX9_bathsOf_0 : decode cX9_bathsOf 0 = .ok (.iconst 0, 1) := by decide +kernel
theorem dX9_bathsOf_1 : decode cX9_bathsOf 1 = .ok (.istore_n 1, 1) := by decide +kernel
theorem dX9_bathsOf_2 : decode cX9_bathsOf 2 = .ok (.iload_n 0, 1) := by decide +kernel
theorem dX9_bathsOf_3 : decode cX9_bathsOf 3 = .ok (.istore_n 2, 1) := by decide +kernel
theorem dX9_bathsOf_4 : decode cX9_bathsOf 4 = .ok (.iload_n 2, 1) := by decide +kernel
theorem dX9_bathsOf_5 : decode cX9_bathsOf 5 = .ok (.ifCond .eq 13, 3) := by decide +kernel
theorem dX9_bathsOf_8 : decode cX9_bathsOf 8 = .ok (.iinc 1 1, 3) := by decide +kernel
theorem dX9_bathsOf_11 : decode cX9_bathsOf 11 = .ok (.iload_n 2, 1) := by decide +kernel
theorem dX9_bathsOf_12 : decode cX9_bathsOf 12 = .ok (.iconst 3, 1) := by decide +kernel
theorem dX9_bathsOf_13 : decode cX9_bathsOf 13 = .ok (.iushr, 1) := by decide +kernel
theorem dX9_bathsOf_14 : decode cX9_bathsOf 14 = .ok (.istore_n 2, 1) := by decide +kernel
theorem dX9_bathsOf_15 : decode cX9_bathsOf 15 = .ok (.goto (-11), 3) := by decide +kernel
theorem dX9_bathsOf_18 : decode cX9_bathsOf 18 = .ok (.iload_n 1, 1) := by decide +kernel
theorem dX9_bathsOf_19 : decode cX9_bathsOf 19 = .ok (.ireturn, 1) := by decide +kernel
set_option maxRecDepth 20000 in
theorem ggX9_isRow_X9_bathsOf : GoodIn wsX9_isRow wsX9_bathsOf := goodIn_r _ [4] (by decide +kernel) (by decide +kernel)
set_option maxRecDepth 20000 in
theorem gX9_isRow_X9_bathsOf : GoodIn wsX9_isRow (va_wsS RX9 118 yX9_bathsOf wsX9_bathsOf) := goodIn_app (goodIn_of _ (by decide +kernel)) ggX9_isRow_X9_bathsOf
theorem dX9_isRow_0 : decode cX9_isRow 0 = .ok (.iload_n 0, 1) := by decide +kernel
theorem dX9_isRow_1 : decode cX9_isRow 1 = .ok (.invokestatic 118, 3) := by decide +kernel
theorem dX9_isRow_4 : decode cX9_isRow 4 = .ok (.istore_n 1, 1) := by decide +kernel
theorem dX9_isRow_5 : decode cX9_isRow 5 = .ok (.iload_n 1, 1) := by decide +kernel
theorem dX9_isRow_6 : decode cX9_isRow 6 = .ok (.iconst 4, 1) := by decide +kernel
theorem dX9_isRow_7 : decode cX9_isRow 7 = .ok (.if_icmp .gt 7, 3) := by decide +kernel
theorem dX9_isRow_10 : decode cX9_isRow 10 = .ok (.iconst 1, 1) := by decide +kernel
theorem dX9_isRow_11 : decode cX9_isRow 11 = .ok (.goto 4, 3) := by decide +kernel
theorem dX9_isRow_14 : decode cX9_isRow 14 = .ok (.iconst 0, 1) := by decide +kernel
theorem dX9_isRow_15 : decode cX9_isRow 15 = .ok (.istore_n 2, 1) := by decide +kernel
theorem dX9_isRow_16 : decode cX9_isRow 16 = .ok (.iconst 0, 1) := by decide +kernel
theorem dX9_isRow_17 : decode cX9_isRow 17 = .ok (.istore_n 3, 1) := by decide +kernel
theorem dX9_isRow_18 : decode cX9_isRow 18 = .ok (.iload_n 3, 1) := by decide +kernel
theorem dX9_isRow_19 : decode cX9_isRow 19 = .ok (.iload_n 1, 1) := by decide +kernel
theorem dX9_isRow_20 : decode cX9_isRow 20 = .ok (.if_icmp .ge 43, 3) := by decide +kernel
theorem dX9_isRow_23 : decode cX9_isRow 23 = .ok (.iload_n 2, 1) := by decide +kernel
theorem dX9_isRow_24 : decode cX9_isRow 24 = .ok (.ifCond .eq 39, 3) := by decide +kernel
theorem dX9_isRow_27 : decode cX9_isRow 27 = .ok (.iload_n 0, 1) := by decide +kernel
theorem dX9_isRow_28 : decode cX9_isRow 28 = .ok (.iconst 3, 1) := by decide +kernel
theorem dX9_isRow_29 : decode cX9_isRow 29 = .ok (.iload_n 3, 1) := by decide +kernel
theorem dX9_isRow_30 : decode cX9_isRow 30 = .ok (.imul, 1) := by decide +kernel
theorem dX9_isRow_31 : decode cX9_isRow 31 = .ok (.iushr, 1) := by decide +kernel
theorem dX9_isRow_32 : decode cX9_isRow 32 = .ok (.bipush 7, 2) := by decide +kernel
theorem dX9_isRow_34 : decode cX9_isRow 34 = .ok (.iand, 1) := by decide +kernel
theorem dX9_isRow_35 : decode cX9_isRow 35 = .ok (.iconst 1, 1) := by decide +kernel
theorem dX9_isRow_36 : decode cX9_isRow 36 = .ok (.if_icmp .lt 19, 3) := by decide +kernel
theorem dX9_isRow_39 : decode cX9_isRow 39 = .ok (.iload_n 0, 1) := by decide +kernel
theorem dX9_isRow_40 : decode cX9_isRow 40 = .ok (.iconst 3, 1) := by decide +kernel
theorem dX9_isRow_41 : decode cX9_isRow 41 = .ok (.iload_n 3, 1) := by decide +kernel
theorem dX9_isRow_42 : decode cX9_isRow 42 = .ok (.imul, 1) := by decide +kernel
theorem dX9_isRow_43 : decode cX9_isRow 43 = .ok (.iushr, 1) := by decide +kernel
theorem dX9_isRow_44 : decode cX9_isRow 44 = .ok (.bipush 7, 2) := by decide +kernel
theorem dX9_isRow_46 : decode cX9_isRow 46 = .ok (.iand, 1) := by decide +kernel
theorem dX9_isRow_47 : decode cX9_isRow 47 = .ok (.iconst 4, 1) := by decide +kernel
theorem dX9_isRow_48 : decode cX9_isRow 48 = .ok (.if_icmp .gt 7, 3) := by decide +kernel
theorem dX9_isRow_51 : decode cX9_isRow 51 = .ok (.iconst 1, 1) := by decide +kernel
theorem dX9_isRow_52 : decode cX9_isRow 52 = .ok (.goto 4, 3) := by decide +kernel
theorem dX9_isRow_55 : decode cX9_isRow 55 = .ok (.iconst 0, 1) := by decide +kernel
theorem dX9_isRow_56 : decode cX9_isRow 56 = .ok (.istore_n 2, 1) := by decide +kernel
theorem dX9_isRow_57 : decode cX9_isRow 57 = .ok (.iinc 3 1, 3) := by decide +kernel
theorem dX9_isRow_60 : decode cX9_isRow 60 = .ok (.goto (-42), 3) := by decide +kernel
theorem dX9_isRow_63 : decode cX9_isRow 63 = .ok (.iload_n 2, 1) := by decide +kernel
theorem dX9_isRow_64 : decode cX9_isRow 64 = .ok (.ireturn, 1) := by decide +kernel
set_option maxRecDepth 20000 in
theorem ggX9_becomes_X9_bathsOf : GoodIn wsX9_becomes wsX9_bathsOf := goodIn_r _ [5] (by decide +kernel) (by decide +kernel)
set_option maxRecDepth 20000 in
theorem gX9_becomes_X9_bathsOf : GoodIn wsX9_becomes (va_wsS RX9 118 yX9_bathsOf wsX9_bathsOf) := goodIn_app (goodIn_of _ (by decide +kernel)) ggX9_becomes_X9_bathsOf
theorem dX9_becomes_0 : decode cX9_becomes 0 = .ok (.iconst 0, 1) := by decide +kernel
theorem dX9_becomes_1 : decode cX9_becomes 1 = .ok (.istore_n 3, 1) := by decide +kernel
theorem dX9_becomes_2 : decode cX9_becomes 2 = .ok (.iconst 0, 1) := by decide +kernel
theorem dX9_becomes_3 : decode cX9_becomes 3 = .ok (.istore 4, 2) := by decide +kernel
theorem dX9_becomes_5 : decode cX9_becomes 5 = .ok (.iload 4, 2) := by decide +kernel
theorem dX9_becomes_7 : decode cX9_becomes 7 = .ok (.iload_n 1, 1) := by decide +kernel
theorem dX9_becomes_8 : decode cX9_becomes 8 = .ok (.invokestatic 118, 3) := by decide +kernel
theorem dX9_becomes_11 : decode cX9_becomes 11 = .ok (.if_icmp .ge 39, 3) := by decide +kernel
theorem dX9_becomes_14 : decode cX9_becomes 14 = .ok (.iload_n 2, 1) := by decide +kernel
theorem dX9_becomes_15 : decode cX9_becomes 15 = .ok (.iload 4, 2) := by decide +kernel
theorem dX9_becomes_17 : decode cX9_becomes 17 = .ok (.ishr, 1) := by decide +kernel
theorem dX9_becomes_18 : decode cX9_becomes 18 = .ok (.iconst 1, 1) := by decide +kernel
theorem dX9_becomes_19 : decode cX9_becomes 19 = .ok (.iand, 1) := by decide +kernel
theorem dX9_becomes_20 : decode cX9_becomes 20 = .ok (.ifCond .ne 24, 3) := by decide +kernel
theorem dX9_becomes_23 : decode cX9_becomes 23 = .ok (.aload_n 0, 1) := by decide +kernel
theorem dX9_becomes_24 : decode cX9_becomes 24 = .ok (.getfield 23, 3) := by decide +kernel
theorem dX9_becomes_27 : decode cX9_becomes 27 = .ok (.iconst 4, 1) := by decide +kernel
theorem dX9_becomes_28 : decode cX9_becomes 28 = .ok (.iload_n 3, 1) := by decide +kernel
theorem dX9_becomes_29 : decode cX9_becomes 29 = .ok (.imul, 1) := by decide +kernel
theorem dX9_becomes_30 : decode cX9_becomes 30 = .ok (.iload_n 1, 1) := by decide +kernel
theorem dX9_becomes_31 : decode cX9_becomes 31 = .ok (.iconst 3, 1) := by decide +kernel
theorem dX9_becomes_32 : decode cX9_becomes 32 = .ok (.iload 4, 2) := by decide +kernel
theorem dX9_becomes_34 : decode cX9_becomes 34 = .ok (.imul, 1) := by decide +kernel
theorem dX9_becomes_35 : decode cX9_becomes 35 = .ok (.ishr, 1) := by decide +kernel
theorem dX9_becomes_36 : decode cX9_becomes 36 = .ok (.bipush 7, 2) := by decide +kernel
theorem dX9_becomes_38 : decode cX9_becomes 38 = .ok (.iand, 1) := by decide +kernel
theorem dX9_becomes_39 : decode cX9_becomes 39 = .ok (.iadd, 1) := by decide +kernel
theorem dX9_becomes_40 : decode cX9_becomes 40 = .ok (.iconst 1, 1) := by decide +kernel
theorem dX9_becomes_41 : decode cX9_becomes 41 = .ok (.isub, 1) := by decide +kernel
theorem dX9_becomes_42 : decode cX9_becomes 42 = .ok (.iaload, 1) := by decide +kernel
theorem dX9_becomes_43 : decode cX9_becomes 43 = .ok (.istore_n 3, 1) := by decide +kernel
theorem dX9_becomes_44 : decode cX9_becomes 44 = .ok (.iinc 4 1, 3) := by decide +kernel
theorem dX9_becomes_47 : decode cX9_becomes 47 = .ok (.goto (-42), 3) := by decide +kernel
theorem dX9_becomes_50 : decode cX9_becomes 50 = .ok (.iload_n 3, 1) := by decide +kernel
theorem dX9_becomes_51 : decode cX9_becomes 51 = .ok (.ireturn, 1) := by decide +kernel
theorem dX9_wants_0 : decode cX9_wants 0 = .ok (.iconst 1, 1) := by decide +kernel
theorem dX9_wants_1 : decode cX9_wants 1 = .ok (.istore 4, 2) := by decide +kernel
theorem dX9_wants_3 : decode cX9_wants 3 = .ok (.iconst 0, 1) := by decide +kernel
theorem dX9_wants_4 : decode cX9_wants 4 = .ok (.istore 5, 2) := by decide +kernel
theorem dX9_wants_6 : decode cX9_wants 6 = .ok (.iload 5, 2) := by decide +kernel
theorem dX9_wants_8 : decode cX9_wants 8 = .ok (.aload_n 0, 1) := by decide +kernel
theorem dX9_wants_9 : decode cX9_wants 9 = .ok (.getfield 7, 3) := by decide +kernel
theorem dX9_wants_12 : decode cX9_wants 12 = .ok (.if_icmp .ge 48, 3) := by decide +kernel
theorem dX9_wants_15 : decode cX9_wants 15 = .ok (.iload 4, 2) := by decide +kernel
theorem dX9_wants_17 : decode cX9_wants 17 = .ok (.ifCond .eq 34, 3) := by decide +kernel
theorem dX9_wants_20 : decode cX9_wants 20 = .ok (.aload_n 0, 1) := by decide +kernel
theorem dX9_wants_21 : decode cX9_wants 21 = .ok (.getfield 16, 3) := by decide +kernel
theorem dX9_wants_24 : decode cX9_wants 24 = .ok (.iload 5, 2) := by decide +kernel
theorem dX9_wants_26 : decode cX9_wants 26 = .ok (.iaload, 1) := by decide +kernel
theorem dX9_wants_27 : decode cX9_wants 27 = .ok (.iload_n 1, 1) := by decide +kernel
theorem dX9_wants_28 : decode cX9_wants 28 = .ok (.if_icmp .ne 19, 3) := by decide +kernel
theorem dX9_wants_31 : decode cX9_wants 31 = .ok (.aload_n 0, 1) := by decide +kernel
theorem dX9_wants_32 : decode cX9_wants 32 = .ok (.getfield 29, 3) := by decide +kernel
theorem dX9_wants_35 : decode cX9_wants 35 = .ok (.bipush 24, 2) := by decide +kernel
theorem dX9_wants_37 : decode cX9_wants 37 = .ok (.iload 5, 2) := by decide +kernel
theorem dX9_wants_39 : decode cX9_wants 39 = .ok (.imul, 1) := by decide +kernel
theorem dX9_wants_40 : decode cX9_wants 40 = .ok (.iload_n 2, 1) := by decide +kernel
theorem dX9_wants_41 : decode cX9_wants 41 = .ok (.iadd, 1) := by decide +kernel
theorem dX9_wants_42 : decode cX9_wants 42 = .ok (.iaload, 1) := by decide +kernel
theorem dX9_wants_43 : decode cX9_wants 43 = .ok (.iload_n 3, 1) := by decide +kernel
theorem dX9_wants_44 : decode cX9_wants 44 = .ok (.if_icmp .ne 7, 3) := by decide +kernel
theorem dX9_wants_47 : decode cX9_wants 47 = .ok (.iconst 1, 1) := by decide +kernel
theorem dX9_wants_48 : decode cX9_wants 48 = .ok (.goto 4, 3) := by decide +kernel
theorem dX9_wants_51 : decode cX9_wants 51 = .ok (.iconst 0, 1) := by decide +kernel
theorem dX9_wants_52 : decode cX9_wants 52 = .ok (.istore 4, 2) := by decide +kernel
theorem dX9_wants_54 : decode cX9_wants 54 = .ok (.iinc 5 1, 3) := by decide +kernel
theorem dX9_wants_57 : decode cX9_wants 57 = .ok (.goto (-51), 3) := by decide +kernel
theorem dX9_wants_60 : decode cX9_wants 60 = .ok (.iload 4, 2) := by decide +kernel
theorem dX9_wants_62 : decode cX9_wants 62 = .ok (.ireturn, 1) := by decide +kernel
theorem dX9_ones_0 : decode cX9_ones 0 = .ok (.iconst 0, 1) := by decide +kernel
theorem dX9_ones_1 : decode cX9_ones 1 = .ok (.istore_n 1, 1) := by decide +kernel
theorem dX9_ones_2 : decode cX9_ones 2 = .ok (.iload_n 0, 1) := by decide +kernel
theorem dX9_ones_3 : decode cX9_ones 3 = .ok (.istore_n 2, 1) := by decide +kernel
theorem dX9_ones_4 : decode cX9_ones 4 = .ok (.iload_n 2, 1) := by decide +kernel
theorem dX9_ones_5 : decode cX9_ones 5 = .ok (.ifCond .le 16, 3) := by decide +kernel
theorem dX9_ones_8 : decode cX9_ones 8 = .ok (.iload_n 1, 1) := by decide +kernel
theorem dX9_ones_9 : decode cX9_ones 9 = .ok (.iload_n 2, 1) := by decide +kernel
theorem dX9_ones_10 : decode cX9_ones 10 = .ok (.iconst 1, 1) := by decide +kernel
theorem dX9_ones_11 : decode cX9_ones 11 = .ok (.iand, 1) := by decide +kernel
theorem dX9_ones_12 : decode cX9_ones 12 = .ok (.iadd, 1) := by decide +kernel
theorem dX9_ones_13 : decode cX9_ones 13 = .ok (.istore_n 1, 1) := by decide +kernel
theorem dX9_ones_14 : decode cX9_ones 14 = .ok (.iload_n 2, 1) := by decide +kernel
theorem dX9_ones_15 : decode cX9_ones 15 = .ok (.iconst 1, 1) := by decide +kernel
theorem dX9_ones_16 : decode cX9_ones 16 = .ok (.ishr, 1) := by decide +kernel
theorem dX9_ones_17 : decode cX9_ones 17 = .ok (.istore_n 2, 1) := by decide +kernel
theorem dX9_ones_18 : decode cX9_ones 18 = .ok (.goto (-14), 3) := by decide +kernel
theorem dX9_ones_21 : decode cX9_ones 21 = .ok (.iload_n 1, 1) := by decide +kernel
theorem dX9_ones_22 : decode cX9_ones 22 = .ok (.ireturn, 1) := by decide +kernel
theorem dX9_newly_0 : decode cX9_newly 0 = .ok (.iload_n 0, 1) := by decide +kernel
theorem dX9_newly_1 : decode cX9_newly 1 = .ok (.iload_n 0, 1) := by decide +kernel
theorem dX9_newly_2 : decode cX9_newly 2 = .ok (.iconst 1, 1) := by decide +kernel
theorem dX9_newly_3 : decode cX9_newly 3 = .ok (.ishl, 1) := by decide +kernel
theorem dX9_newly_4 : decode cX9_newly 4 = .ok (.iconst (-1), 1) := by decide +kernel
theorem dX9_newly_5 : decode cX9_newly 5 = .ok (.ixor, 1) := by decide +kernel
theorem dX9_newly_6 : decode cX9_newly 6 = .ok (.iand, 1) := by decide +kernel
theorem dX9_newly_7 : decode cX9_newly 7 = .ok (.ireturn, 1) := by decide +kernel
set_option maxRecDepth 20000 in
theorem ggX9_find_X9_bathsOf : GoodIn wsX9_find wsX9_bathsOf := goodIn_r _ [9] (by decide +kernel) (by decide +kernel)
set_option maxRecDepth 20000 in
theorem gX9_find_X9_bathsOf : GoodIn wsX9_find (va_wsS RX9 118 yX9_bathsOf wsX9_bathsOf) := goodIn_app (goodIn_of _ (by decide +kernel)) ggX9_find_X9_bathsOf
set_option maxRecDepth 20000 in
theorem ggX9_find_X9_many : GoodIn wsX9_find wsX9_many := goodIn_r _ [13, 14, 15, 32, 33, 34, 35, 36, 37, 38, 39, 40, 41, 42, 43, 44, 45, 46, 47, 48, 49, 50, 51, 52, 53, 54, 55] (by decide +kernel) (by decide +kernel)
set_option maxRecDepth 20000 in
theorem gX9_find_X9_many : GoodIn wsX9_find (wsV RX9 99 RX9 yX9_many wsX9_many) := goodIn_app (goodIn_of _ (by decide +kernel)) ggX9_find_X9_many
set_option maxRecDepth 20000 in
theorem ggX9_find_X9_becomes : GoodIn wsX9_find wsX9_becomes := goodIn_r _ [19, 20, 6, 7, 8, 9, 32, 33, 34, 35, 36, 37, 38, 39, 40, 41, 42, 43, 44, 45, 46, 47, 48, 49, 50, 51, 52, 53, 54, 55] (by decide +kernel) (by decide +kernel)
set_option maxRecDepth 20000 in
theorem gX9_find_X9_becomes : GoodIn wsX9_find (wsV RX9 121 RX9 yX9_becomes wsX9_becomes) := goodIn_app (goodIn_of _ (by decide +kernel)) ggX9_find_X9_becomes
set_option maxRecDepth 20000 in
theorem ggX9_find_X9_wants : GoodIn wsX9_find wsX9_wants := goodIn_r _ [24, 14, 15, 25, 32, 33, 34, 35, 36, 37, 38, 39, 40, 41, 42, 43, 44, 45, 46, 47, 48, 49, 50, 51, 52, 53, 54, 55] (by decide +kernel) (by decide +kernel)
set_option maxRecDepth 20000 in
theorem gX9_find_X9_wants : GoodIn wsX9_find (wsV RX9 124 RX9 yX9_wants wsX9_wants) := goodIn_app (goodIn_of _ (by decide +kernel)) ggX9_find_X9_wants
set_option maxRecDepth 20000 in
theorem ggX9_find_X9_newly : GoodIn wsX9_find wsX9_newly := goodIn_r _ [28] (by decide +kernel) (by decide +kernel)
set_option maxRecDepth 20000 in
theorem gX9_find_X9_newly : GoodIn wsX9_find (va_wsS RX9 128 yX9_newly wsX9_newly) := goodIn_app (goodIn_of _ (by decide +kernel)) ggX9_find_X9_newly
set_option maxRecDepth 20000 in
theorem ggX9_find_X9_ones : GoodIn wsX9_find wsX9_ones := goodIn_r _ [31] (by decide +kernel) (by decide +kernel)
set_option maxRecDepth 20000 in
theorem gX9_find_X9_ones : GoodIn wsX9_find (va_wsS RX9 131 yX9_ones wsX9_ones) := goodIn_app (goodIn_of _ (by decide +kernel)) ggX9_find_X9_ones
theorem dX9_find_0 : decode cX9_find 0 = .ok (.iconst 1, 1) := by decide +kernel
theorem dX9_find_1 : decode cX9_find 1 = .ok (.iload_n 1, 1) := by decide +kernel
theorem dX9_find_2 : decode cX9_find 2 = .ok (.invokestatic 118, 3) := by decide +kernel
theorem dX9_find_5 : decode cX9_find 5 = .ok (.ishl, 1) := by decide +kernel
theorem dX9_find_6 : decode cX9_find 6 = .ok (.istore_n 2, 1) := by decide +kernel
theorem dX9_find_7 : decode cX9_find 7 = .ok (.iconst 0, 1) := by decide +kernel
theorem dX9_find_8 : decode cX9_find 8 = .ok (.istore_n 3, 1) := by decide +kernel
theorem dX9_find_9 : decode cX9_find 9 = .ok (.iconst 0, 1) := by decide +kernel
theorem dX9_find_10 : decode cX9_find 10 = .ok (.istore 4, 2) := by decide +kernel
theorem dX9_find_12 : decode cX9_find 12 = .ok (.iload 4, 2) := by decide +kernel
theorem dX9_find_14 : decode cX9_find 14 = .ok (.sipush 192, 3) := by decide +kernel
theorem dX9_find_17 : decode cX9_find 17 = .ok (.if_icmp .ge 17, 3) := by decide +kernel
theorem dX9_find_20 : decode cX9_find 20 = .ok (.aload_n 0, 1) := by decide +kernel
theorem dX9_find_21 : decode cX9_find 21 = .ok (.getfield 57, 3) := by decide +kernel
theorem dX9_find_24 : decode cX9_find 24 = .ok (.iload 4, 2) := by decide +kernel
theorem dX9_find_26 : decode cX9_find 26 = .ok (.iconst 0, 1) := by decide +kernel
theorem dX9_find_27 : decode cX9_find 27 = .ok (.iastore, 1) := by decide +kernel
theorem dX9_find_28 : decode cX9_find 28 = .ok (.iinc 4 1, 3) := by decide +kernel
theorem dX9_find_31 : decode cX9_find 31 = .ok (.goto (-19), 3) := by decide +kernel
theorem dX9_find_34 : decode cX9_find 34 = .ok (.iconst 0, 1) := by decide +kernel
theorem dX9_find_35 : decode cX9_find 35 = .ok (.istore 4, 2) := by decide +kernel
theorem dX9_find_37 : decode cX9_find 37 = .ok (.iload 4, 2) := by decide +kernel
theorem dX9_find_39 : decode cX9_find 39 = .ok (.bipush 8, 2) := by decide +kernel
theorem dX9_find_41 : decode cX9_find 41 = .ok (.if_icmp .ge 467, 3) := by decide +kernel
theorem dX9_find_44 : decode cX9_find 44 = .ok (.aload_n 0, 1) := by decide +kernel
theorem dX9_find_45 : decode cX9_find 45 = .ok (.iload 4, 2) := by decide +kernel
theorem dX9_find_47 : decode cX9_find 47 = .ok (.invokevirtual 99, 3) := by decide +kernel
theorem dX9_find_50 : decode cX9_find 50 = .ok (.ifCond .ne 6, 3) := by decide +kernel
theorem dX9_find_53 : decode cX9_find 53 = .ok (.goto 449, 3) := by decide +kernel
theorem dX9_find_56 : decode cX9_find 56 = .ok (.aload_n 0, 1) := by decide +kernel
theorem dX9_find_57 : decode cX9_find 57 = .ok (.getfield 38, 3) := by decide +kernel
theorem dX9_find_60 : decode cX9_find 60 = .ok (.iload 4, 2) := by decide +kernel
theorem dX9_find_62 : decode cX9_find 62 = .ok (.baload, 1) := by decide +kernel
theorem dX9_find_63 : decode cX9_find 63 = .ok (.ifCond .eq 16, 3) := by decide +kernel
theorem dX9_find_66 : decode cX9_find 66 = .ok (.aload_n 0, 1) := by decide +kernel
theorem dX9_find_67 : decode cX9_find 67 = .ok (.getfield 13, 3) := by decide +kernel
theorem dX9_find_70 : decode cX9_find 70 = .ok (.iconst 1, 1) := by decide +kernel
theorem dX9_find_71 : decode cX9_find 71 = .ok (.isub, 1) := by decide +kernel
theorem dX9_find_72 : decode cX9_find 72 = .ok (.iconst 2, 1) := by decide +kernel
theorem dX9_find_73 : decode cX9_find 73 = .ok (.idiv, 1) := by decide +kernel
theorem dX9_find_74 : decode cX9_find 74 = .ok (.iconst 1, 1) := by decide +kernel
theorem dX9_find_75 : decode cX9_find 75 = .ok (.iadd, 1) := by decide +kernel
theorem dX9_find_76 : decode cX9_find 76 = .ok (.goto 7, 3) := by decide +kernel
theorem dX9_find_79 : decode cX9_find 79 = .ok (.aload_n 0, 1) := by decide +kernel
theorem dX9_find_80 : decode cX9_find 80 = .ok (.getfield 13, 3) := by decide +kernel
theorem dX9_find_83 : decode cX9_find 83 = .ok (.istore 5, 2) := by decide +kernel
theorem dX9_find_85 : decode cX9_find 85 = .ok (.iload 5, 2) := by decide +kernel
theorem dX9_find_87 : decode cX9_find 87 = .ok (.iconst 1, 1) := by decide +kernel
theorem dX9_find_88 : decode cX9_find 88 = .ok (.isub, 1) := by decide +kernel
theorem dX9_find_89 : decode cX9_find 89 = .ok (.istore 6, 2) := by decide +kernel
theorem dX9_find_91 : decode cX9_find 91 = .ok (.iload 6, 2) := by decide +kernel
theorem dX9_find_93 : decode cX9_find 93 = .ok (.ifCond .lt 205, 3) := by decide +kernel
theorem dX9_find_96 : decode cX9_find 96 = .ok (.iconst 0, 1) := by decide +kernel
theorem dX9_find_97 : decode cX9_find 97 = .ok (.istore 7, 2) := by decide +kernel
theorem dX9_find_99 : decode cX9_find 99 = .ok (.iload 7, 2) := by decide +kernel
theorem dX9_find_101 : decode cX9_find 101 = .ok (.iload_n 2, 1) := by decide +kernel
theorem dX9_find_102 : decode cX9_find 102 = .ok (.if_icmp .ge 190, 3) := by decide +kernel
theorem dX9_find_105 : decode cX9_find 105 = .ok (.aload_n 0, 1) := by decide +kernel
theorem dX9_find_106 : decode cX9_find 106 = .ok (.iload_n 1, 1) := by decide +kernel
theorem dX9_find_107 : decode cX9_find 107 = .ok (.iload 7, 2) := by decide +kernel
theorem dX9_find_109 : decode cX9_find 109 = .ok (.invokevirtual 121, 3) := by decide +kernel
theorem dX9_find_112 : decode cX9_find 112 = .ok (.istore 8, 2) := by decide +kernel
theorem dX9_find_114 : decode cX9_find 114 = .ok (.aload_n 0, 1) := by decide +kernel
theorem dX9_find_115 : decode cX9_find 115 = .ok (.getfield 60, 3) := by decide +kernel
theorem dX9_find_118 : decode cX9_find 118 = .ok (.bipush 16, 2) := by decide +kernel
theorem dX9_find_120 : decode cX9_find 120 = .ok (.iload 6, 2) := by decide +kernel
theorem dX9_find_122 : decode cX9_find 122 = .ok (.imul, 1) := by decide +kernel
theorem dX9_find_123 : decode cX9_find 123 = .ok (.iload 7, 2) := by decide +kernel
theorem dX9_find_125 : decode cX9_find 125 = .ok (.iadd, 1) := by decide +kernel
theorem dX9_find_126 : decode cX9_find 126 = .ok (.ldc 87, 2) := by decide +kernel
theorem dX9_find_128 : decode cX9_find 128 = .ok (.iastore, 1) := by decide +kernel
theorem dX9_find_129 : decode cX9_find 129 = .ok (.aload_n 0, 1) := by decide +kernel
theorem dX9_find_130 : decode cX9_find 130 = .ok (.iload 4, 2) := by decide +kernel
theorem dX9_find_132 : decode cX9_find 132 = .ok (.iload 6, 2) := by decide +kernel
theorem dX9_find_134 : decode cX9_find 134 = .ok (.iload 8, 2) := by decide +kernel
theorem dX9_find_136 : decode cX9_find 136 = .ok (.invokevirtual 124, 3) := by decide +kernel
theorem dX9_find_139 : decode cX9_find 139 = .ok (.ifCond .eq 147, 3) := by decide +kernel
theorem dX9_find_142 : decode cX9_find 142 = .ok (.aload_n 0, 1) := by decide +kernel
theorem dX9_find_143 : decode cX9_find 143 = .ok (.getfield 38, 3) := by decide +kernel
theorem dX9_find_146 : decode cX9_find 146 = .ok (.iload 4, 2) := by decide +kernel
theorem dX9_find_148 : decode cX9_find 148 = .ok (.baload, 1) := by decide +kernel
theorem dX9_find_149 : decode cX9_find 149 = .ok (.ifCond .eq 26, 3) := by decide +kernel
theorem dX9_find_152 : decode cX9_find 152 = .ok (.aload_n 0, 1) := by decide +kernel
theorem dX9_find_153 : decode cX9_find 153 = .ok (.iload 4, 2) := by decide +kernel
theorem dX9_find_155 : decode cX9_find 155 = .ok (.aload_n 0, 1) := by decide +kernel
theorem dX9_find_156 : decode cX9_find 156 = .ok (.getfield 13, 3) := by decide +kernel
theorem dX9_find_159 : decode cX9_find 159 = .ok (.iconst 1, 1) := by decide +kernel
theorem dX9_find_160 : decode cX9_find 160 = .ok (.isub, 1) := by decide +kernel
theorem dX9_find_161 : decode cX9_find 161 = .ok (.iload 6, 2) := by decide +kernel
theorem dX9_find_163 : decode cX9_find 163 = .ok (.isub, 1) := by decide +kernel
theorem dX9_find_164 : decode cX9_find 164 = .ok (.iload 8, 2) := by decide +kernel
theorem dX9_find_166 : decode cX9_find 166 = .ok (.invokevirtual 124, 3) := by decide +kernel
theorem dX9_find_169 : decode cX9_find 169 = .ok (.ifCond .ne 6, 3) := by decide +kernel
theorem dX9_find_172 : decode cX9_find 172 = .ok (.goto 114, 3) := by decide +kernel
theorem dX9_find_175 : decode cX9_find 175 = .ok (.iload 6, 2) := by decide +kernel
theorem dX9_find_177 : decode cX9_find 177 = .ok (.iload 5, 2) := by decide +kernel
theorem dX9_find_179 : decode cX9_find 179 = .ok (.iconst 1, 1) := by decide +kernel
theorem dX9_find_180 : decode cX9_find 180 = .ok (.isub, 1) := by decide +kernel
theorem dX9_find_181 : decode cX9_find 181 = .ok (.if_icmp .ne 7, 3) := by decide +kernel
theorem dX9_find_184 : decode cX9_find 184 = .ok (.iconst 0, 1) := by decide +kernel
theorem dX9_find_185 : decode cX9_find 185 = .ok (.goto 5, 3) := by decide +kernel
theorem dX9_find_188 : decode cX9_find 188 = .ok (.ldc 87, 2) := by decide +kernel
theorem dX9_find_190 : decode cX9_find 190 = .ok (.istore 9, 2) := by decide +kernel
theorem dX9_find_192 : decode cX9_find 192 = .ok (.iconst 0, 1) := by decide +kernel
theorem dX9_find_193 : decode cX9_find 193 = .ok (.istore 10, 2) := by decide +kernel
theorem dX9_find_195 : decode cX9_find 195 = .ok (.iload 6, 2) := by decide +kernel
theorem dX9_find_197 : decode cX9_find 197 = .ok (.iload 5, 2) := by decide +kernel
theorem dX9_find_199 : decode cX9_find 199 = .ok (.iconst 1, 1) := by decide +kernel
theorem dX9_find_200 : decode cX9_find 200 = .ok (.isub, 1) := by decide +kernel
theorem dX9_find_201 : decode cX9_find 201 = .ok (.if_icmp .ge 70, 3) := by decide +kernel
theorem dX9_find_204 : decode cX9_find 204 = .ok (.iload 10, 2) := by decide +kernel
theorem dX9_find_206 : decode cX9_find 206 = .ok (.iload_n 2, 1) := by decide +kernel
theorem dX9_find_207 : decode cX9_find 207 = .ok (.if_icmp .ge 64, 3) := by decide +kernel
theorem dX9_find_210 : decode cX9_find 210 = .ok (.aload_n 0, 1) := by decide +kernel
theorem dX9_find_211 : decode cX9_find 211 = .ok (.getfield 60, 3) := by decide +kernel
theorem dX9_find_214 : decode cX9_find 214 = .ok (.bipush 16, 2) := by decide +kernel
theorem dX9_find_216 : decode cX9_find 216 = .ok (.iload 6, 2) := by decide +kernel
theorem dX9_find_218 : decode cX9_find 218 = .ok (.imul, 1) := by decide +kernel
theorem dX9_find_219 : decode cX9_find 219 = .ok (.bipush 16, 2) := by decide +kernel
theorem dX9_find_221 : decode cX9_find 221 = .ok (.iadd, 1) := by decide +kernel
theorem dX9_find_222 : decode cX9_find 222 = .ok (.iload 10, 2) := by decide +kernel
theorem dX9_find_224 : decode cX9_find 224 = .ok (.iadd, 1) := by decide +kernel
theorem dX9_find_225 : decode cX9_find 225 = .ok (.iaload, 1) := by decide +kernel
theorem dX9_find_226 : decode cX9_find 226 = .ok (.iload 10, 2) := by decide +kernel
theorem dX9_find_228 : decode cX9_find 228 = .ok (.invokestatic 128, 3) := by decide +kernel
theorem dX9_find_231 : decode cX9_find 231 = .ok (.iload 7, 2) := by decide +kernel
theorem dX9_find_233 : decode cX9_find 233 = .ok (.invokestatic 128, 3) := by decide +kernel
theorem dX9_find_236 : decode cX9_find 236 = .ok (.iconst (-1), 1) := by decide +kernel
theorem dX9_find_237 : decode cX9_find 237 = .ok (.ixor, 1) := by decide +kernel
theorem dX9_find_238 : decode cX9_find 238 = .ok (.iand, 1) := by decide +kernel
theorem dX9_find_239 : decode cX9_find 239 = .ok (.iload_n 2, 1) := by decide +kernel
theorem dX9_find_240 : decode cX9_find 240 = .ok (.iconst 1, 1) := by decide +kernel
theorem dX9_find_241 : decode cX9_find 241 = .ok (.isub, 1) := by decide +kernel
theorem dX9_find_242 : decode cX9_find 242 = .ok (.iand, 1) := by decide +kernel
theorem dX9_find_243 : decode cX9_find 243 = .ok (.invokestatic 131, 3) := by decide +kernel
theorem dX9_find_246 : decode cX9_find 246 = .ok (.iadd, 1) := by decide +kernel
theorem dX9_find_247 : decode cX9_find 247 = .ok (.istore 11, 2) := by decide +kernel
theorem dX9_find_249 : decode cX9_find 249 = .ok (.iload 11, 2) := by decide +kernel
theorem dX9_find_251 : decode cX9_find 251 = .ok (.iload 9, 2) := by decide +kernel
theorem dX9_find_253 : decode cX9_find 253 = .ok (.if_icmp .ge 8, 3) := by decide +kernel
theorem dX9_find_256 : decode cX9_find 256 = .ok (.iload 11, 2) := by decide +kernel
theorem dX9_find_258 : decode cX9_find 258 = .ok (.goto 5, 3) := by decide +kernel
theorem dX9_find_261 : decode cX9_find 261 = .ok (.iload 9, 2) := by decide +kernel
theorem dX9_find_263 : decode cX9_find 263 = .ok (.istore 9, 2) := by decide +kernel
theorem dX9_find_265 : decode cX9_find 265 = .ok (.iinc 10 1, 3) := by decide +kernel
theorem dX9_find_268 : decode cX9_find 268 = .ok (.goto (-73), 3) := by decide +kernel
theorem dX9_find_271 : decode cX9_find 271 = .ok (.aload_n 0, 1) := by decide +kernel
theorem dX9_find_272 : decode cX9_find 272 = .ok (.getfield 60, 3) := by decide +kernel
theorem dX9_find_275 : decode cX9_find 275 = .ok (.bipush 16, 2) := by decide +kernel
theorem dX9_find_277 : decode cX9_find 277 = .ok (.iload 6, 2) := by decide +kernel
theorem dX9_find_279 : decode cX9_find 279 = .ok (.imul, 1) := by decide +kernel
theorem dX9_find_280 : decode cX9_find 280 = .ok (.iload 7, 2) := by decide +kernel
theorem dX9_find_282 : decode cX9_find 282 = .ok (.iadd, 1) := by decide +kernel
theorem dX9_find_283 : decode cX9_find 283 = .ok (.iload 9, 2) := by decide +kernel
theorem dX9_find_285 : decode cX9_find 285 = .ok (.iastore, 1) := by decide +kernel
theorem dX9_find_286 : decode cX9_find 286 = .ok (.iinc 7 1, 3) := by decide +kernel
theorem dX9_find_289 : decode cX9_find 289 = .ok (.goto (-190), 3) := by decide +kernel
theorem dX9_find_292 : decode cX9_find 292 = .ok (.iinc 6 (-1), 3) := by decide +kernel
theorem dX9_find_295 : decode cX9_find 295 = .ok (.goto (-204), 3) := by decide +kernel
theorem dX9_find_298 : decode cX9_find 298 = .ok (.iconst 0, 1) := by decide +kernel
theorem dX9_find_299 : decode cX9_find 299 = .ok (.istore 6, 2) := by decide +kernel
theorem dX9_find_301 : decode cX9_find 301 = .ok (.ldc 87, 2) := by decide +kernel
theorem dX9_find_303 : decode cX9_find 303 = .ok (.istore 7, 2) := by decide +kernel
theorem dX9_find_305 : decode cX9_find 305 = .ok (.iconst 0, 1) := by decide +kernel
theorem dX9_find_306 : decode cX9_find 306 = .ok (.istore 8, 2) := by decide +kernel
theorem dX9_find_308 : decode cX9_find 308 = .ok (.iload 8, 2) := by decide +kernel
theorem dX9_find_310 : decode cX9_find 310 = .ok (.iload_n 2, 1) := by decide +kernel
theorem dX9_find_311 : decode cX9_find 311 = .ok (.if_icmp .ge 47, 3) := by decide +kernel
theorem dX9_find_314 : decode cX9_find 314 = .ok (.aload_n 0, 1) := by decide +kernel
theorem dX9_find_315 : decode cX9_find 315 = .ok (.getfield 60, 3) := by decide +kernel
theorem dX9_find_318 : decode cX9_find 318 = .ok (.iload 8, 2) := by decide +kernel
theorem dX9_find_320 : decode cX9_find 320 = .ok (.iaload, 1) := by decide +kernel
theorem dX9_find_321 : decode cX9_find 321 = .ok (.iload 8, 2) := by decide +kernel
theorem dX9_find_323 : decode cX9_find 323 = .ok (.invokestatic 128, 3) := by decide +kernel
theorem dX9_find_326 : decode cX9_find 326 = .ok (.iload_n 2, 1) := by decide +kernel
theorem dX9_find_327 : decode cX9_find 327 = .ok (.iconst 1, 1) := by decide +kernel
theorem dX9_find_328 : decode cX9_find 328 = .ok (.isub, 1) := by decide +kernel
theorem dX9_find_329 : decode cX9_find 329 = .ok (.iand, 1) := by decide +kernel
theorem dX9_find_330 : decode cX9_find 330 = .ok (.invokestatic 131, 3) := by decide +kernel
theorem dX9_find_333 : decode cX9_find 333 = .ok (.iadd, 1) := by decide +kernel
theorem dX9_find_334 : decode cX9_find 334 = .ok (.istore 9, 2) := by decide +kernel
theorem dX9_find_336 : decode cX9_find 336 = .ok (.iload 9, 2) := by decide +kernel
theorem dX9_find_338 : decode cX9_find 338 = .ok (.iload 7, 2) := by decide +kernel
theorem dX9_find_340 : decode cX9_find 340 = .ok (.if_icmp .ge 8, 3) := by decide +kernel
theorem dX9_find_343 : decode cX9_find 343 = .ok (.iload 9, 2) := by decide +kernel
theorem dX9_find_345 : decode cX9_find 345 = .ok (.goto 5, 3) := by decide +kernel
theorem dX9_find_348 : decode cX9_find 348 = .ok (.iload 7, 2) := by decide +kernel
theorem dX9_find_350 : decode cX9_find 350 = .ok (.istore 7, 2) := by decide +kernel
theorem dX9_find_352 : decode cX9_find 352 = .ok (.iinc 8 1, 3) := by decide +kernel
theorem dX9_find_355 : decode cX9_find 355 = .ok (.goto (-47), 3) := by decide +kernel
theorem dX9_find_358 : decode cX9_find 358 = .ok (.iload 7, 2) := by decide +kernel
theorem dX9_find_360 : decode cX9_find 360 = .ok (.ldc 87, 2) := by decide +kernel
theorem dX9_find_362 : decode cX9_find 362 = .ok (.if_icmp .lt 5, 3) := by decide +kernel
theorem dX9_find_365 : decode cX9_find 365 = .ok (.iconst (-1), 1) := by decide +kernel
theorem dX9_find_366 : decode cX9_find 366 = .ok (.ireturn, 1) := by decide +kernel
theorem dX9_find_367 : decode cX9_find 367 = .ok (.iload_n 3, 1) := by decide +kernel
theorem dX9_find_368 : decode cX9_find 368 = .ok (.iload 7, 2) := by decide +kernel
theorem dX9_find_370 : decode cX9_find 370 = .ok (.iadd, 1) := by decide +kernel
theorem dX9_find_371 : decode cX9_find 371 = .ok (.istore_n 3, 1) := by decide +kernel
theorem dX9_find_372 : decode cX9_find 372 = .ok (.iconst 0, 1) := by decide +kernel
theorem dX9_find_373 : decode cX9_find 373 = .ok (.istore 8, 2) := by decide +kernel
theorem dX9_find_375 : decode cX9_find 375 = .ok (.iload 8, 2) := by decide +kernel
theorem dX9_find_377 : decode cX9_find 377 = .ok (.iload 5, 2) := by decide +kernel
theorem dX9_find_379 : decode cX9_find 379 = .ok (.if_icmp .ge 123, 3) := by decide +kernel
theorem dX9_find_382 : decode cX9_find 382 = .ok (.iconst 0, 1) := by decide +kernel
theorem dX9_find_383 : decode cX9_find 383 = .ok (.istore 9, 2) := by decide +kernel
theorem dX9_find_385 : decode cX9_find 385 = .ok (.aload_n 0, 1) := by decide +kernel
theorem dX9_find_386 : decode cX9_find 386 = .ok (.getfield 60, 3) := by decide +kernel
theorem dX9_find_389 : decode cX9_find 389 = .ok (.bipush 16, 2) := by decide +kernel
theorem dX9_find_391 : decode cX9_find 391 = .ok (.iload 8, 2) := by decide +kernel
theorem dX9_find_393 : decode cX9_find 393 = .ok (.imul, 1) := by decide +kernel
theorem dX9_find_394 : decode cX9_find 394 = .ok (.iload 9, 2) := by decide +kernel
theorem dX9_find_396 : decode cX9_find 396 = .ok (.iadd, 1) := by decide +kernel
theorem dX9_find_397 : decode cX9_find 397 = .ok (.iaload, 1) := by decide +kernel
theorem dX9_find_398 : decode cX9_find 398 = .ok (.iload 9, 2) := by decide +kernel
theorem dX9_find_400 : decode cX9_find 400 = .ok (.invokestatic 128, 3) := by decide +kernel
theorem dX9_find_403 : decode cX9_find 403 = .ok (.iload 6, 2) := by decide +kernel
theorem dX9_find_405 : decode cX9_find 405 = .ok (.invokestatic 128, 3) := by decide +kernel
theorem dX9_find_408 : decode cX9_find 408 = .ok (.iconst (-1), 1) := by decide +kernel
theorem dX9_find_409 : decode cX9_find 409 = .ok (.ixor, 1) := by decide +kernel
theorem dX9_find_410 : decode cX9_find 410 = .ok (.iand, 1) := by decide +kernel
theorem dX9_find_411 : decode cX9_find 411 = .ok (.iload_n 2, 1) := by decide +kernel
theorem dX9_find_412 : decode cX9_find 412 = .ok (.iconst 1, 1) := by decide +kernel
theorem dX9_find_413 : decode cX9_find 413 = .ok (.isub, 1) := by decide +kernel
theorem dX9_find_414 : decode cX9_find 414 = .ok (.iand, 1) := by decide +kernel
theorem dX9_find_415 : decode cX9_find 415 = .ok (.invokestatic 131, 3) := by decide +kernel
theorem dX9_find_418 : decode cX9_find 418 = .ok (.iadd, 1) := by decide +kernel
theorem dX9_find_419 : decode cX9_find 419 = .ok (.iload 7, 2) := by decide +kernel
theorem dX9_find_421 : decode cX9_find 421 = .ok (.if_icmp .eq 9, 3) := by decide +kernel
theorem dX9_find_424 : decode cX9_find 424 = .ok (.iinc 9 1, 3) := by decide +kernel
theorem dX9_find_427 : decode cX9_find 427 = .ok (.goto (-42), 3) := by decide +kernel
theorem dX9_find_430 : decode cX9_find 430 = .ok (.aload_n 0, 1) := by decide +kernel
theorem dX9_find_431 : decode cX9_find 431 = .ok (.getfield 60, 3) := by decide +kernel
theorem dX9_find_434 : decode cX9_find 434 = .ok (.bipush 16, 2) := by decide +kernel
theorem dX9_find_436 : decode cX9_find 436 = .ok (.iload 8, 2) := by decide +kernel
theorem dX9_find_438 : decode cX9_find 438 = .ok (.imul, 1) := by decide +kernel
theorem dX9_find_439 : decode cX9_find 439 = .ok (.iload 9, 2) := by decide +kernel
theorem dX9_find_441 : decode cX9_find 441 = .ok (.iadd, 1) := by decide +kernel
theorem dX9_find_442 : decode cX9_find 442 = .ok (.iaload, 1) := by decide +kernel
theorem dX9_find_443 : decode cX9_find 443 = .ok (.istore 7, 2) := by decide +kernel
theorem dX9_find_445 : decode cX9_find 445 = .ok (.iload 9, 2) := by decide +kernel
theorem dX9_find_447 : decode cX9_find 447 = .ok (.istore 6, 2) := by decide +kernel
theorem dX9_find_449 : decode cX9_find 449 = .ok (.aload_n 0, 1) := by decide +kernel
theorem dX9_find_450 : decode cX9_find 450 = .ok (.getfield 57, 3) := by decide +kernel
theorem dX9_find_453 : decode cX9_find 453 = .ok (.bipush 24, 2) := by decide +kernel
theorem dX9_find_455 : decode cX9_find 455 = .ok (.iload 4, 2) := by decide +kernel
theorem dX9_find_457 : decode cX9_find 457 = .ok (.imul, 1) := by decide +kernel
theorem dX9_find_458 : decode cX9_find 458 = .ok (.iload 8, 2) := by decide +kernel
theorem dX9_find_460 : decode cX9_find 460 = .ok (.iadd, 1) := by decide +kernel
theorem dX9_find_461 : decode cX9_find 461 = .ok (.iload 9, 2) := by decide +kernel
theorem dX9_find_463 : decode cX9_find 463 = .ok (.iastore, 1) := by decide +kernel
theorem dX9_find_464 : decode cX9_find 464 = .ok (.aload_n 0, 1) := by decide +kernel
theorem dX9_find_465 : decode cX9_find 465 = .ok (.getfield 38, 3) := by decide +kernel
theorem dX9_find_468 : decode cX9_find 468 = .ok (.iload 4, 2) := by decide +kernel
theorem dX9_find_470 : decode cX9_find 470 = .ok (.baload, 1) := by decide +kernel
theorem dX9_find_471 : decode cX9_find 471 = .ok (.ifCond .eq 25, 3) := by decide +kernel
theorem dX9_find_474 : decode cX9_find 474 = .ok (.aload_n 0, 1) := by decide +kernel
theorem dX9_find_475 : decode cX9_find 475 = .ok (.getfield 57, 3) := by decide +kernel
theorem dX9_find_478 : decode cX9_find 478 = .ok (.bipush 24, 2) := by decide +kernel
theorem dX9_find_480 : decode cX9_find 480 = .ok (.iload 4, 2) := by decide +kernel
theorem dX9_find_482 : decode cX9_find 482 = .ok (.imul, 1) := by decide +kernel
theorem dX9_find_483 : decode cX9_find 483 = .ok (.aload_n 0, 1) := by decide +kernel
theorem dX9_find_484 : decode cX9_find 484 = .ok (.getfield 13, 3) := by decide +kernel
theorem dX9_find_487 : decode cX9_find 487 = .ok (.iadd, 1) := by decide +kernel
theorem dX9_find_488 : decode cX9_find 488 = .ok (.iconst 1, 1) := by decide +kernel
theorem dX9_find_489 : decode cX9_find 489 = .ok (.isub, 1) := by decide +kernel
theorem dX9_find_490 : decode cX9_find 490 = .ok (.iload 8, 2) := by decide +kernel
theorem dX9_find_492 : decode cX9_find 492 = .ok (.isub, 1) := by decide +kernel
theorem dX9_find_493 : decode cX9_find 493 = .ok (.iload 9, 2) := by decide +kernel
theorem dX9_find_495 : decode cX9_find 495 = .ok (.iastore, 1) := by decide +kernel
theorem dX9_find_496 : decode cX9_find 496 = .ok (.iinc 8 1, 3) := by decide +kernel
theorem dX9_find_499 : decode cX9_find 499 = .ok (.goto (-124), 3) := by decide +kernel
theorem dX9_find_502 : decode cX9_find 502 = .ok (.iinc 4 1, 3) := by decide +kernel
theorem dX9_find_505 : decode cX9_find 505 = .ok (.goto (-468), 3) := by decide +kernel
theorem dX9_find_508 : decode cX9_find 508 = .ok (.iload_n 3, 1) := by decide +kernel
theorem dX9_find_509 : decode cX9_find 509 = .ok (.ireturn, 1) := by decide +kernel
theorem dX9_keeps_0 : decode cX9_keeps 0 = .ok (.aload_n 0, 1) := by decide +kernel
theorem dX9_keeps_1 : decode cX9_keeps 1 = .ok (.iconst 1, 1) := by decide +kernel
theorem dX9_keeps_2 : decode cX9_keeps 2 = .ok (.putfield 73, 3) := by decide +kernel
theorem dX9_keeps_5 : decode cX9_keeps 5 = .ok (.aload_n 0, 1) := by decide +kernel
theorem dX9_keeps_6 : decode cX9_keeps 6 = .ok (.iload_n 1, 1) := by decide +kernel
theorem dX9_keeps_7 : decode cX9_keeps 7 = .ok (.putfield 134, 3) := by decide +kernel
theorem dX9_keeps_10 : decode cX9_keeps 10 = .ok (.aload_n 0, 1) := by decide +kernel
theorem dX9_keeps_11 : decode cX9_keeps 11 = .ok (.iload_n 2, 1) := by decide +kernel
theorem dX9_keeps_12 : decode cX9_keeps 12 = .ok (.putfield 137, 3) := by decide +kernel
theorem dX9_keeps_15 : decode cX9_keeps 15 = .ok (.iconst 0, 1) := by decide +kernel
theorem dX9_keeps_16 : decode cX9_keeps 16 = .ok (.istore_n 3, 1) := by decide +kernel
theorem dX9_keeps_17 : decode cX9_keeps 17 = .ok (.iload_n 3, 1) := by decide +kernel
theorem dX9_keeps_18 : decode cX9_keeps 18 = .ok (.sipush 192, 3) := by decide +kernel
theorem dX9_keeps_21 : decode cX9_keeps 21 = .ok (.if_icmp .ge 21, 3) := by decide +kernel
theorem dX9_keeps_24 : decode cX9_keeps 24 = .ok (.aload_n 0, 1) := by decide +kernel
theorem dX9_keeps_25 : decode cX9_keeps 25 = .ok (.getfield 54, 3) := by decide +kernel
theorem dX9_keeps_28 : decode cX9_keeps 28 = .ok (.iload_n 3, 1) := by decide +kernel
theorem dX9_keeps_29 : decode cX9_keeps 29 = .ok (.aload_n 0, 1) := by decide +kernel
theorem dX9_keeps_30 : decode cX9_keeps 30 = .ok (.getfield 57, 3) := by decide +kernel
theorem dX9_keeps_33 : decode cX9_keeps 33 = .ok (.iload_n 3, 1) := by decide +kernel
theorem dX9_keeps_34 : decode cX9_keeps 34 = .ok (.iaload, 1) := by decide +kernel
theorem dX9_keeps_35 : decode cX9_keeps 35 = .ok (.iastore, 1) := by decide +kernel
theorem dX9_keeps_36 : decode cX9_keeps 36 = .ok (.iinc 3 1, 3) := by decide +kernel
theorem dX9_keeps_39 : decode cX9_keeps 39 = .ok (.goto (-22), 3) := by decide +kernel
theorem dX9_keeps_42 : decode cX9_keeps 42 = .ok (.return_, 1) := by decide +kernel
set_option maxRecDepth 20000 in
theorem ggX9_plan_X9_isRow : GoodIn wsX9_plan wsX9_isRow := goodIn_r _ [5, 6, 7, 4, 8] (by decide +kernel) (by decide +kernel)
set_option maxRecDepth 20000 in
theorem gX9_plan_X9_isRow : GoodIn wsX9_plan (va_wsS RX9 140 yX9_isRow wsX9_isRow) := goodIn_app (goodIn_of _ (by decide +kernel)) ggX9_plan_X9_isRow
set_option maxRecDepth 20000 in
theorem ggX9_plan_X9_right : GoodIn wsX9_plan wsX9_right := goodIn_r _ [12, 1, 52, 53, 54, 55, 56, 57, 58, 59, 60, 61, 62, 63, 64, 65, 66, 67, 68, 69, 70, 71, 72, 73, 74, 75] (by decide +kernel) (by decide +kernel)
set_option maxRecDepth 20000 in
theorem gX9_plan_X9_right : GoodIn wsX9_plan (wsV RX9 69 RX9 yX9_right wsX9_right) := goodIn_app (goodIn_of _ (by decide +kernel)) ggX9_plan_X9_right
set_option maxRecDepth 20000 in
theorem ggX9_plan_X9_find : GoodIn wsX9_plan wsX9_find := goodIn_r _ [16, 17, 18, 19, 20, 21, 6, 7, 4, 8, 22, 23, 24, 25, 26, 27, 28, 29, 30, 31, 32, 33, 34, 35, 36, 37, 38, 39, 40, 41, 42, 43, 52, 53, 54, 55, 56, 57, 58, 59, 60, 61, 62, 63, 64, 65, 66, 67, 68, 69, 70, 71, 72, 73, 74, 75] (by decide +kernel) (by decide +kernel)
set_option maxRecDepth 20000 in
theorem gX9_plan_X9_find : GoodIn wsX9_plan (wsV RX9 143 RX9 yX9_find wsX9_find) := goodIn_app (goodIn_of _ (by decide +kernel)) ggX9_plan_X9_find
set_option maxRecDepth 20000 in
theorem ggX9_plan_X9_keeps : GoodIn wsX9_plan wsX9_keeps := goodIn_r _ [47, 48, 49, 50, 51, 17, 52, 53, 54, 55, 56, 57, 58, 59, 60, 61, 62, 63, 64, 65, 66, 67, 68, 69, 70, 71, 72, 73, 74, 75] (by decide +kernel) (by decide +kernel)
set_option maxRecDepth 20000 in
theorem gX9_plan_X9_keeps : GoodIn wsX9_plan (wsV RX9 146 RX9 yX9_keeps wsX9_keeps) := goodIn_app (goodIn_of _ (by decide +kernel)) ggX9_plan_X9_keeps
theorem dX9_plan_0 : decode cX9_plan 0 = .ok (.aload_n 0, 1) := by decide +kernel
theorem dX9_plan_1 : decode cX9_plan 1 = .ok (.iconst 0, 1) := by decide +kernel
theorem dX9_plan_2 : decode cX9_plan 2 = .ok (.putfield 66, 3) := by decide +kernel
theorem dX9_plan_5 : decode cX9_plan 5 = .ok (.aload_n 0, 1) := by decide +kernel
theorem dX9_plan_6 : decode cX9_plan 6 = .ok (.iload_n 1, 1) := by decide +kernel
theorem dX9_plan_7 : decode cX9_plan 7 = .ok (.invokestatic 140, 3) := by decide +kernel
theorem dX9_plan_10 : decode cX9_plan 10 = .ok (.iconst 1, 1) := by decide +kernel
theorem dX9_plan_11 : decode cX9_plan 11 = .ok (.invokevirtual 69, 3) := by decide +kernel
theorem dX9_plan_14 : decode cX9_plan 14 = .ok (.ifCond .ne 5, 3) := by decide +kernel
theorem dX9_plan_17 : decode cX9_plan 17 = .ok (.iconst 0, 1) := by decide +kernel
theorem dX9_plan_18 : decode cX9_plan 18 = .ok (.ireturn, 1) := by decide +kernel
theorem dX9_plan_19 : decode cX9_plan 19 = .ok (.aload_n 0, 1) := by decide +kernel
theorem dX9_plan_20 : decode cX9_plan 20 = .ok (.iload_n 1, 1) := by decide +kernel
theorem dX9_plan_21 : decode cX9_plan 21 = .ok (.invokevirtual 143, 3) := by decide +kernel
theorem dX9_plan_24 : decode cX9_plan 24 = .ok (.istore_n 2, 1) := by decide +kernel
theorem dX9_plan_25 : decode cX9_plan 25 = .ok (.iload_n 2, 1) := by decide +kernel
theorem dX9_plan_26 : decode cX9_plan 26 = .ok (.iconst (-1), 1) := by decide +kernel
theorem dX9_plan_27 : decode cX9_plan 27 = .ok (.if_icmp .eq 9, 3) := by decide +kernel
theorem dX9_plan_30 : decode cX9_plan 30 = .ok (.aload_n 0, 1) := by decide +kernel
theorem dX9_plan_31 : decode cX9_plan 31 = .ok (.iload_n 1, 1) := by decide +kernel
theorem dX9_plan_32 : decode cX9_plan 32 = .ok (.iload_n 2, 1) := by decide +kernel
theorem dX9_plan_33 : decode cX9_plan 33 = .ok (.invokevirtual 146, 3) := by decide +kernel
theorem dX9_plan_36 : decode cX9_plan 36 = .ok (.iload_n 2, 1) := by decide +kernel
theorem dX9_plan_37 : decode cX9_plan 37 = .ok (.ireturn, 1) := by decide +kernel
set_option maxRecDepth 20000 in
theorem ggX9_best_X9_right : GoodIn wsX9_best wsX9_right := goodIn_r _ [6, 1, 49, 50, 51, 52, 53, 54, 55, 56, 57, 58, 59, 60, 61, 62, 63, 64, 65, 66, 67, 68, 69, 70, 71, 72] (by decide +kernel) (by decide +kernel)
set_option maxRecDepth 20000 in
theorem gX9_best_X9_right : GoodIn wsX9_best (wsV RX9 69 RX9 yX9_right wsX9_right) := goodIn_app (goodIn_of _ (by decide +kernel)) ggX9_best_X9_right
set_option maxRecDepth 20000 in
theorem ggX9_best_X9_find : GoodIn wsX9_best wsX9_find := goodIn_r _ [10, 11, 12, 13, 14, 15, 16, 17, 5, 18, 19, 20, 21, 22, 23, 24, 25, 26, 27, 28, 29, 30, 31, 32, 33, 34, 35, 36, 37, 38, 39, 40, 49, 50, 51, 52, 53, 54, 55, 56, 57, 58, 59, 60, 61, 62, 63, 64, 65, 66, 67, 68, 69, 70, 71, 72] (by decide +kernel) (by decide +kernel)
set_option maxRecDepth 20000 in
theorem gX9_best_X9_find : GoodIn wsX9_best (wsV RX9 143 RX9 yX9_find wsX9_find) := goodIn_app (goodIn_of _ (by decide +kernel)) ggX9_best_X9_find
set_option maxRecDepth 20000 in
theorem ggX9_best_X9_keeps : GoodIn wsX9_best wsX9_keeps := goodIn_r _ [44, 45, 46, 47, 48, 11, 49, 50, 51, 52, 53, 54, 55, 56, 57, 58, 59, 60, 61, 62, 63, 64, 65, 66, 67, 68, 69, 70, 71, 72] (by decide +kernel) (by decide +kernel)
set_option maxRecDepth 20000 in
theorem gX9_best_X9_keeps : GoodIn wsX9_best (wsV RX9 146 RX9 yX9_keeps wsX9_keeps) := goodIn_app (goodIn_of _ (by decide +kernel)) ggX9_best_X9_keeps
theorem dX9_best_0 : decode cX9_best 0 = .ok (.aload_n 0, 1) := by decide +kernel
theorem dX9_best_1 : decode cX9_best 1 = .ok (.iconst 0, 1) := by decide +kernel
theorem dX9_best_2 : decode cX9_best 2 = .ok (.putfield 66, 3) := by decide +kernel
theorem dX9_best_5 : decode cX9_best 5 = .ok (.aload_n 0, 1) := by decide +kernel
theorem dX9_best_6 : decode cX9_best 6 = .ok (.iload_n 1, 1) := by decide +kernel
theorem dX9_best_7 : decode cX9_best 7 = .ok (.ifCond .lt 12, 3) := by decide +kernel
theorem dX9_best_10 : decode cX9_best 10 = .ok (.iload_n 1, 1) := by decide +kernel
theorem dX9_best_11 : decode cX9_best 11 = .ok (.iconst 4, 1) := by decide +kernel
theorem dX9_best_12 : decode cX9_best 12 = .ok (.if_icmp .gt 7, 3) := by decide +kernel
theorem dX9_best_15 : decode cX9_best 15 = .ok (.iconst 1, 1) := by decide +kernel
theorem dX9_best_16 : decode cX9_best 16 = .ok (.goto 4, 3) := by decide +kernel
theorem dX9_best_19 : decode cX9_best 19 = .ok (.iconst 0, 1) := by decide +kernel
theorem dX9_best_20 : decode cX9_best 20 = .ok (.iconst 1, 1) := by decide +kernel
theorem dX9_best_21 : decode cX9_best 21 = .ok (.invokevirtual 69, 3) := by decide +kernel
theorem dX9_best_24 : decode cX9_best 24 = .ok (.ifCond .ne 5, 3) := by decide +kernel
theorem dX9_best_27 : decode cX9_best 27 = .ok (.iconst 0, 1) := by decide +kernel
theorem dX9_best_28 : decode cX9_best 28 = .ok (.ireturn, 1) := by decide +kernel
theorem dX9_best_29 : decode cX9_best 29 = .ok (.iconst (-1), 1) := by decide +kernel
theorem dX9_best_30 : decode cX9_best 30 = .ok (.istore_n 2, 1) := by decide +kernel
theorem dX9_best_31 : decode cX9_best 31 = .ok (.iconst 0, 1) := by decide +kernel
theorem dX9_best_32 : decode cX9_best 32 = .ok (.istore_n 3, 1) := by decide +kernel
theorem dX9_best_33 : decode cX9_best 33 = .ok (.iload_n 3, 1) := by decide +kernel
theorem dX9_best_34 : decode cX9_best 34 = .ok (.iload_n 1, 1) := by decide +kernel
theorem dX9_best_35 : decode cX9_best 35 = .ok (.if_icmp .gt 114, 3) := by decide +kernel
theorem dX9_best_38 : decode cX9_best 38 = .ok (.iconst 1, 1) := by decide +kernel
theorem dX9_best_39 : decode cX9_best 39 = .ok (.iconst 2, 1) := by decide +kernel
theorem dX9_best_40 : decode cX9_best 40 = .ok (.iload_n 3, 1) := by decide +kernel
theorem dX9_best_41 : decode cX9_best 41 = .ok (.imul, 1) := by decide +kernel
theorem dX9_best_42 : decode cX9_best 42 = .ok (.ishl, 1) := by decide +kernel
theorem dX9_best_43 : decode cX9_best 43 = .ok (.istore 4, 2) := by decide +kernel
theorem dX9_best_45 : decode cX9_best 45 = .ok (.iconst 0, 1) := by decide +kernel
theorem dX9_best_46 : decode cX9_best 46 = .ok (.istore 5, 2) := by decide +kernel
theorem dX9_best_48 : decode cX9_best 48 = .ok (.iload 5, 2) := by decide +kernel
theorem dX9_best_50 : decode cX9_best 50 = .ok (.iload 4, 2) := by decide +kernel
theorem dX9_best_52 : decode cX9_best 52 = .ok (.if_icmp .ge 91, 3) := by decide +kernel
theorem dX9_best_55 : decode cX9_best 55 = .ok (.iconst 0, 1) := by decide +kernel
theorem dX9_best_56 : decode cX9_best 56 = .ok (.istore 6, 2) := by decide +kernel
theorem dX9_best_58 : decode cX9_best 58 = .ok (.iconst 0, 1) := by decide +kernel
