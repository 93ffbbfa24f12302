theorem dX9_best_59 : decode cX9_best 59 = .ok (.istore 7, 2) := by decide +kernel
theorem dX9_best_61 : decode cX9_best 61 = .ok (.iload 7, 2) := by decide +kernel
theorem dX9_best_63 : decode cX9_best 63 = .ok (.iload_n 3, 1) := by decide +kernel
theorem dX9_best_64 : decode cX9_best 64 = .ok (.if_icmp .ge 34, 3) := by decide +kernel
theorem dX9_best_67 : decode cX9_best 67 = .ok (.iload 6, 2) := by decide +kernel
theorem dX9_best_69 : decode cX9_best 69 = .ok (.iload 5, 2) := by decide +kernel
theorem dX9_best_71 : decode cX9_best 71 = .ok (.iconst 2, 1) := by decide +kernel
theorem dX9_best_72 : decode cX9_best 72 = .ok (.iload_n 3, 1) := by decide +kernel
theorem dX9_best_73 : decode cX9_best 73 = .ok (.iconst 1, 1) := by decide +kernel
theorem dX9_best_74 : decode cX9_best 74 = .ok (.isub, 1) := by decide +kernel
theorem dX9_best_75 : decode cX9_best 75 = .ok (.iload 7, 2) := by decide +kernel
theorem dX9_best_77 : decode cX9_best 77 = .ok (.isub, 1) := by decide +kernel
theorem dX9_best_78 : decode cX9_best 78 = .ok (.imul, 1) := by decide +kernel
theorem dX9_best_79 : decode cX9_best 79 = .ok (.ishr, 1) := by decide +kernel
theorem dX9_best_80 : decode cX9_best 80 = .ok (.iconst 3, 1) := by decide +kernel
theorem dX9_best_81 : decode cX9_best 81 = .ok (.iand, 1) := by decide +kernel
theorem dX9_best_82 : decode cX9_best 82 = .ok (.iconst 1, 1) := by decide +kernel
theorem dX9_best_83 : decode cX9_best 83 = .ok (.iadd, 1) := by decide +kernel
theorem dX9_best_84 : decode cX9_best 84 = .ok (.iconst 3, 1) := by decide +kernel
theorem dX9_best_85 : decode cX9_best 85 = .ok (.iload 7, 2) := by decide +kernel
theorem dX9_best_87 : decode cX9_best 87 = .ok (.imul, 1) := by decide +kernel
theorem dX9_best_88 : decode cX9_best 88 = .ok (.ishl, 1) := by decide +kernel
theorem dX9_best_89 : decode cX9_best 89 = .ok (.ior, 1) := by decide +kernel
theorem dX9_best_90 : decode cX9_best 90 = .ok (.istore 6, 2) := by decide +kernel
theorem dX9_best_92 : decode cX9_best 92 = .ok (.iinc 7 1, 3) := by decide +kernel
theorem dX9_best_95 : decode cX9_best 95 = .ok (.goto (-34), 3) := by decide +kernel
theorem dX9_best_98 : decode cX9_best 98 = .ok (.aload_n 0, 1) := by decide +kernel
theorem dX9_best_99 : decode cX9_best 99 = .ok (.iload 6, 2) := by decide +kernel
theorem dX9_best_101 : decode cX9_best 101 = .ok (.invokevirtual 143, 3) := by decide +kernel
theorem dX9_best_104 : decode cX9_best 104 = .ok (.istore 7, 2) := by decide +kernel
theorem dX9_best_106 : decode cX9_best 106 = .ok (.iload 7, 2) := by decide +kernel
theorem dX9_best_108 : decode cX9_best 108 = .ok (.iconst (-1), 1) := by decide +kernel
theorem dX9_best_109 : decode cX9_best 109 = .ok (.if_icmp .eq 28, 3) := by decide +kernel
theorem dX9_best_112 : decode cX9_best 112 = .ok (.iload_n 2, 1) := by decide +kernel
theorem dX9_best_113 : decode cX9_best 113 = .ok (.iconst (-1), 1) := by decide +kernel
theorem dX9_best_114 : decode cX9_best 114 = .ok (.if_icmp .eq 12, 3) := by decide +kernel
theorem dX9_best_117 : decode cX9_best 117 = .ok (.iload 7, 2) := by decide +kernel
theorem dX9_best_119 : decode cX9_best 119 = .ok (.iload_n 2, 1) := by decide +kernel
theorem dX9_best_120 : decode cX9_best 120 = .ok (.if_icmp .lt 6, 3) := by decide +kernel
theorem dX9_best_123 : decode cX9_best 123 = .ok (.goto 14, 3) := by decide +kernel
theorem dX9_best_126 : decode cX9_best 126 = .ok (.iload 7, 2) := by decide +kernel
theorem dX9_best_128 : decode cX9_best 128 = .ok (.istore_n 2, 1) := by decide +kernel
theorem dX9_best_129 : decode cX9_best 129 = .ok (.aload_n 0, 1) := by decide +kernel
theorem dX9_best_130 : decode cX9_best 130 = .ok (.iload 6, 2) := by decide +kernel
theorem dX9_best_132 : decode cX9_best 132 = .ok (.iload 7, 2) := by decide +kernel
theorem dX9_best_134 : decode cX9_best 134 = .ok (.invokevirtual 146, 3) := by decide +kernel
theorem dX9_best_137 : decode cX9_best 137 = .ok (.iinc 5 1, 3) := by decide +kernel
theorem dX9_best_140 : decode cX9_best 140 = .ok (.goto (-92), 3) := by decide +kernel
theorem dX9_best_143 : decode cX9_best 143 = .ok (.iinc 3 1, 3) := by decide +kernel
theorem dX9_best_146 : decode cX9_best 146 = .ok (.goto (-113), 3) := by decide +kernel
theorem dX9_best_149 : decode cX9_best 149 = .ok (.iload_n 2, 1) := by decide +kernel
theorem dX9_best_150 : decode cX9_best 150 = .ok (.ireturn, 1) := by decide +kernel
set_option maxRecDepth 20000 in
theorem ggX9_kept_X9_right : GoodIn wsX9_kept wsX9_right := goodIn_r _ [9, 1, 13, 14, 15, 16, 17, 18, 19, 20, 21, 22, 23, 24, 25, 26, 27, 28, 29, 30, 31, 32, 33, 34, 35, 36] (by decide +kernel) (by decide +kernel)
set_option maxRecDepth 20000 in
theorem gX9_kept_X9_right : GoodIn wsX9_kept (wsV RX9 69 RX9 yX9_right wsX9_right) := goodIn_app (goodIn_of _ (by decide +kernel)) ggX9_kept_X9_right
set_option maxRecDepth 20000 in
theorem ggX9_kept_X9_bathsOf : GoodIn wsX9_kept wsX9_bathsOf := goodIn_r _ [12] (by decide +kernel) (by decide +kernel)
set_option maxRecDepth 20000 in
theorem gX9_kept_X9_bathsOf : GoodIn wsX9_kept (va_wsS RX9 118 yX9_bathsOf wsX9_bathsOf) := goodIn_app (goodIn_of _ (by decide +kernel)) ggX9_kept_X9_bathsOf
theorem dX9_kept_0 : decode cX9_kept 0 = .ok (.aload_n 0, 1) := by decide +kernel
theorem dX9_kept_1 : decode cX9_kept 1 = .ok (.iconst 0, 1) := by decide +kernel
theorem dX9_kept_2 : decode cX9_kept 2 = .ok (.putfield 66, 3) := by decide +kernel
theorem dX9_kept_5 : decode cX9_kept 5 = .ok (.aload_n 0, 1) := by decide +kernel
theorem dX9_kept_6 : decode cX9_kept 6 = .ok (.iload_n 1, 1) := by decide +kernel
theorem dX9_kept_7 : decode cX9_kept 7 = .ok (.ifCond .lt 12, 3) := by decide +kernel
theorem dX9_kept_10 : decode cX9_kept 10 = .ok (.iload_n 1, 1) := by decide +kernel
theorem dX9_kept_11 : decode cX9_kept 11 = .ok (.iconst 2, 1) := by decide +kernel
theorem dX9_kept_12 : decode cX9_kept 12 = .ok (.if_icmp .gt 7, 3) := by decide +kernel
theorem dX9_kept_15 : decode cX9_kept 15 = .ok (.iconst 1, 1) := by decide +kernel
theorem dX9_kept_16 : decode cX9_kept 16 = .ok (.goto 4, 3) := by decide +kernel
theorem dX9_kept_19 : decode cX9_kept 19 = .ok (.iconst 0, 1) := by decide +kernel
theorem dX9_kept_20 : decode cX9_kept 20 = .ok (.iconst 1, 1) := by decide +kernel
theorem dX9_kept_21 : decode cX9_kept 21 = .ok (.invokevirtual 69, 3) := by decide +kernel
theorem dX9_kept_24 : decode cX9_kept 24 = .ok (.ifCond .ne 5, 3) := by decide +kernel
theorem dX9_kept_27 : decode cX9_kept 27 = .ok (.iconst 0, 1) := by decide +kernel
theorem dX9_kept_28 : decode cX9_kept 28 = .ok (.ireturn, 1) := by decide +kernel
theorem dX9_kept_29 : decode cX9_kept 29 = .ok (.aload_n 0, 1) := by decide +kernel
theorem dX9_kept_30 : decode cX9_kept 30 = .ok (.getfield 73, 3) := by decide +kernel
theorem dX9_kept_33 : decode cX9_kept 33 = .ok (.ifCond .ne 5, 3) := by decide +kernel
theorem dX9_kept_36 : decode cX9_kept 36 = .ok (.iconst (-1), 1) := by decide +kernel
theorem dX9_kept_37 : decode cX9_kept 37 = .ok (.ireturn, 1) := by decide +kernel
theorem dX9_kept_38 : decode cX9_kept 38 = .ok (.iload_n 1, 1) := by decide +kernel
theorem dX9_kept_39 : decode cX9_kept 39 = .ok (.ifCond .ne 10, 3) := by decide +kernel
theorem dX9_kept_42 : decode cX9_kept 42 = .ok (.aload_n 0, 1) := by decide +kernel
theorem dX9_kept_43 : decode cX9_kept 43 = .ok (.getfield 134, 3) := by decide +kernel
theorem dX9_kept_46 : decode cX9_kept 46 = .ok (.goto 22, 3) := by decide +kernel
theorem dX9_kept_49 : decode cX9_kept 49 = .ok (.iload_n 1, 1) := by decide +kernel
theorem dX9_kept_50 : decode cX9_kept 50 = .ok (.iconst 1, 1) := by decide +kernel
theorem dX9_kept_51 : decode cX9_kept 51 = .ok (.if_icmp .ne 13, 3) := by decide +kernel
theorem dX9_kept_54 : decode cX9_kept 54 = .ok (.aload_n 0, 1) := by decide +kernel
theorem dX9_kept_55 : decode cX9_kept 55 = .ok (.getfield 134, 3) := by decide +kernel
theorem dX9_kept_58 : decode cX9_kept 58 = .ok (.invokestatic 118, 3) := by decide +kernel
theorem dX9_kept_61 : decode cX9_kept 61 = .ok (.goto 7, 3) := by decide +kernel
theorem dX9_kept_64 : decode cX9_kept 64 = .ok (.aload_n 0, 1) := by decide +kernel
theorem dX9_kept_65 : decode cX9_kept 65 = .ok (.getfield 137, 3) := by decide +kernel
theorem dX9_kept_68 : decode cX9_kept 68 = .ok (.ireturn, 1) := by decide +kernel
set_option maxRecDepth 20000 in
theorem ggX9_bits_X9_isBundle : GoodIn wsX9_bits wsX9_isBundle := goodIn_r _ [8, 9, 10, 11, 7, 12, 1, 18, 19, 20, 21, 22, 23, 24, 25, 26, 27, 28, 29, 30, 31, 32, 33, 34, 35, 36, 37, 38, 39, 40, 41] (by decide +kernel) (by decide +kernel)
set_option maxRecDepth 20000 in
theorem gX9_bits_X9_isBundle : GoodIn wsX9_bits (wsV RX9 84 RX9 yX9_isBundle wsX9_isBundle) := goodIn_app (goodIn_of _ (by decide +kernel)) ggX9_bits_X9_isBundle
set_option maxRecDepth 20000 in
theorem ggX9_bits_X9_isPlace : GoodIn wsX9_bits wsX9_isPlace := goodIn_r _ [16, 17, 9, 10, 11, 7, 12, 1, 18, 19, 20, 21, 22, 23, 24, 25, 26, 27, 28, 29, 30, 31, 32, 33, 34, 35, 36, 37, 38, 39, 40, 41] (by decide +kernel) (by decide +kernel)
set_option maxRecDepth 20000 in
theorem gX9_bits_X9_isPlace : GoodIn wsX9_bits (wsV RX9 88 RX9 yX9_isPlace wsX9_isPlace) := goodIn_app (goodIn_of _ (by decide +kernel)) ggX9_bits_X9_isPlace
theorem dX9_bits_0 : decode cX9_bits 0 = .ok (.aload_n 0, 1) := by decide +kernel
theorem dX9_bits_1 : decode cX9_bits 1 = .ok (.iconst 0, 1) := by decide +kernel
theorem dX9_bits_2 : decode cX9_bits 2 = .ok (.putfield 66, 3) := by decide +kernel
theorem dX9_bits_5 : decode cX9_bits 5 = .ok (.aload_n 0, 1) := by decide +kernel
theorem dX9_bits_6 : decode cX9_bits 6 = .ok (.iload_n 1, 1) := by decide +kernel
theorem dX9_bits_7 : decode cX9_bits 7 = .ok (.invokevirtual 84, 3) := by decide +kernel
theorem dX9_bits_10 : decode cX9_bits 10 = .ok (.ifCond .eq 11, 3) := by decide +kernel
theorem dX9_bits_13 : decode cX9_bits 13 = .ok (.aload_n 0, 1) := by decide +kernel
theorem dX9_bits_14 : decode cX9_bits 14 = .ok (.iload_n 2, 1) := by decide +kernel
theorem dX9_bits_15 : decode cX9_bits 15 = .ok (.invokevirtual 88, 3) := by decide +kernel
theorem dX9_bits_18 : decode cX9_bits 18 = .ok (.ifCond .ne 5, 3) := by decide +kernel
theorem dX9_bits_21 : decode cX9_bits 21 = .ok (.iconst 0, 1) := by decide +kernel
theorem dX9_bits_22 : decode cX9_bits 22 = .ok (.ireturn, 1) := by decide +kernel
theorem dX9_bits_23 : decode cX9_bits 23 = .ok (.aload_n 0, 1) := by decide +kernel
theorem dX9_bits_24 : decode cX9_bits 24 = .ok (.getfield 73, 3) := by decide +kernel
theorem dX9_bits_27 : decode cX9_bits 27 = .ok (.ifCond .eq 17, 3) := by decide +kernel
theorem dX9_bits_30 : decode cX9_bits 30 = .ok (.aload_n 0, 1) := by decide +kernel
theorem dX9_bits_31 : decode cX9_bits 31 = .ok (.getfield 54, 3) := by decide +kernel
theorem dX9_bits_34 : decode cX9_bits 34 = .ok (.bipush 24, 2) := by decide +kernel
theorem dX9_bits_36 : decode cX9_bits 36 = .ok (.iload_n 1, 1) := by decide +kernel
theorem dX9_bits_37 : decode cX9_bits 37 = .ok (.imul, 1) := by decide +kernel
theorem dX9_bits_38 : decode cX9_bits 38 = .ok (.iload_n 2, 1) := by decide +kernel
theorem dX9_bits_39 : decode cX9_bits 39 = .ok (.iadd, 1) := by decide +kernel
theorem dX9_bits_40 : decode cX9_bits 40 = .ok (.iaload, 1) := by decide +kernel
theorem dX9_bits_41 : decode cX9_bits 41 = .ok (.goto 4, 3) := by decide +kernel
theorem dX9_bits_44 : decode cX9_bits 44 = .ok (.iconst (-1), 1) := by decide +kernel
theorem dX9_bits_45 : decode cX9_bits 45 = .ok (.ireturn, 1) := by decide +kernel
theorem dX9_bindsFor_0 : decode cX9_bindsFor 0 = .ok (.iconst 0, 1) := by decide +kernel
theorem dX9_bindsFor_1 : decode cX9_bindsFor 1 = .ok (.istore_n 2, 1) := by decide +kernel
theorem dX9_bindsFor_2 : decode cX9_bindsFor 2 = .ok (.iload_n 2, 1) := by decide +kernel
theorem dX9_bindsFor_3 : decode cX9_bindsFor 3 = .ok (.bipush 8, 2) := by decide +kernel
theorem dX9_bindsFor_5 : decode cX9_bindsFor 5 = .ok (.if_icmp .ge 60, 3) := by decide +kernel
theorem dX9_bindsFor_8 : decode cX9_bindsFor 8 = .ok (.iconst 0, 1) := by decide +kernel
theorem dX9_bindsFor_9 : decode cX9_bindsFor 9 = .ok (.istore_n 3, 1) := by decide +kernel
theorem dX9_bindsFor_10 : decode cX9_bindsFor 10 = .ok (.iload_n 3, 1) := by decide +kernel
theorem dX9_bindsFor_11 : decode cX9_bindsFor 11 = .ok (.aload_n 0, 1) := by decide +kernel
theorem dX9_bindsFor_12 : decode cX9_bindsFor 12 = .ok (.getfield 13, 3) := by decide +kernel
theorem dX9_bindsFor_15 : decode cX9_bindsFor 15 = .ok (.if_icmp .ge 44, 3) := by decide +kernel
theorem dX9_bindsFor_18 : decode cX9_bindsFor 18 = .ok (.aload_n 0, 1) := by decide +kernel
theorem dX9_bindsFor_19 : decode cX9_bindsFor 19 = .ok (.getfield 42, 3) := by decide +kernel
theorem dX9_bindsFor_22 : decode cX9_bindsFor 22 = .ok (.bipush 24, 2) := by decide +kernel
theorem dX9_bindsFor_24 : decode cX9_bindsFor 24 = .ok (.iload_n 2, 1) := by decide +kernel
theorem dX9_bindsFor_25 : decode cX9_bindsFor 25 = .ok (.imul, 1) := by decide +kernel
theorem dX9_bindsFor_26 : decode cX9_bindsFor 26 = .ok (.iload_n 3, 1) := by decide +kernel
theorem dX9_bindsFor_27 : decode cX9_bindsFor 27 = .ok (.iadd, 1) := by decide +kernel
theorem dX9_bindsFor_28 : decode cX9_bindsFor 28 = .ok (.aload_n 0, 1) := by decide +kernel
theorem dX9_bindsFor_29 : decode cX9_bindsFor 29 = .ok (.getfield 54, 3) := by decide +kernel
theorem dX9_bindsFor_32 : decode cX9_bindsFor 32 = .ok (.bipush 24, 2) := by decide +kernel
theorem dX9_bindsFor_34 : decode cX9_bindsFor 34 = .ok (.iload_n 2, 1) := by decide +kernel
theorem dX9_bindsFor_35 : decode cX9_bindsFor 35 = .ok (.imul, 1) := by decide +kernel
theorem dX9_bindsFor_36 : decode cX9_bindsFor 36 = .ok (.iload_n 3, 1) := by decide +kernel
theorem dX9_bindsFor_37 : decode cX9_bindsFor 37 = .ok (.iadd, 1) := by decide +kernel
theorem dX9_bindsFor_38 : decode cX9_bindsFor 38 = .ok (.iaload, 1) := by decide +kernel
theorem dX9_bindsFor_39 : decode cX9_bindsFor 39 = .ok (.iload_n 1, 1) := by decide +kernel
theorem dX9_bindsFor_40 : decode cX9_bindsFor 40 = .ok (.ishr, 1) := by decide +kernel
theorem dX9_bindsFor_41 : decode cX9_bindsFor 41 = .ok (.iconst 1, 1) := by decide +kernel
theorem dX9_bindsFor_42 : decode cX9_bindsFor 42 = .ok (.iand, 1) := by decide +kernel
theorem dX9_bindsFor_43 : decode cX9_bindsFor 43 = .ok (.iconst 1, 1) := by decide +kernel
theorem dX9_bindsFor_44 : decode cX9_bindsFor 44 = .ok (.if_icmp .ne 7, 3) := by decide +kernel
theorem dX9_bindsFor_47 : decode cX9_bindsFor 47 = .ok (.iconst 1, 1) := by decide +kernel
theorem dX9_bindsFor_48 : decode cX9_bindsFor 48 = .ok (.goto 4, 3) := by decide +kernel
theorem dX9_bindsFor_51 : decode cX9_bindsFor 51 = .ok (.iconst 0, 1) := by decide +kernel
theorem dX9_bindsFor_52 : decode cX9_bindsFor 52 = .ok (.bastore, 1) := by decide +kernel
theorem dX9_bindsFor_53 : decode cX9_bindsFor 53 = .ok (.iinc 3 1, 3) := by decide +kernel
theorem dX9_bindsFor_56 : decode cX9_bindsFor 56 = .ok (.goto (-46), 3) := by decide +kernel
theorem dX9_bindsFor_59 : decode cX9_bindsFor 59 = .ok (.iinc 2 1, 3) := by decide +kernel
theorem dX9_bindsFor_62 : decode cX9_bindsFor 62 = .ok (.goto (-60), 3) := by decide +kernel
theorem dX9_bindsFor_65 : decode cX9_bindsFor 65 = .ok (.return_, 1) := by decide +kernel
set_option maxRecDepth 20000 in
theorem ggX9_takes_X9_many : GoodIn wsX9_takes wsX9_many := goodIn_r _ [7, 8, 9, 10, 11, 12, 13, 14, 15, 16, 17, 18, 19, 20, 21, 22, 23, 24, 25, 26, 27, 28, 29, 30, 31, 32, 33] (by decide +kernel) (by decide +kernel)
set_option maxRecDepth 20000 in
theorem gX9_takes_X9_many : GoodIn wsX9_takes (wsV RX9 99 RX9 yX9_many wsX9_many) := goodIn_app (goodIn_of _ (by decide +kernel)) ggX9_takes_X9_many
theorem dX9_takes_0 : decode cX9_takes 0 = .ok (.iconst 0, 1) := by decide +kernel
theorem dX9_takes_1 : decode cX9_takes 1 = .ok (.istore_n 2, 1) := by decide +kernel
theorem dX9_takes_2 : decode cX9_takes 2 = .ok (.iconst 0, 1) := by decide +kernel
theorem dX9_takes_3 : decode cX9_takes 3 = .ok (.istore_n 3, 1) := by decide +kernel
theorem dX9_takes_4 : decode cX9_takes 4 = .ok (.iload_n 3, 1) := by decide +kernel
theorem dX9_takes_5 : decode cX9_takes 5 = .ok (.bipush 8, 2) := by decide +kernel
theorem dX9_takes_7 : decode cX9_takes 7 = .ok (.if_icmp .ge 54, 3) := by decide +kernel
theorem dX9_takes_10 : decode cX9_takes 10 = .ok (.iconst 0, 1) := by decide +kernel
theorem dX9_takes_11 : decode cX9_takes 11 = .ok (.istore 4, 2) := by decide +kernel
theorem dX9_takes_13 : decode cX9_takes 13 = .ok (.iload 4, 2) := by decide +kernel
theorem dX9_takes_15 : decode cX9_takes 15 = .ok (.aload_n 0, 1) := by decide +kernel
theorem dX9_takes_16 : decode cX9_takes 16 = .ok (.getfield 13, 3) := by decide +kernel
theorem dX9_takes_19 : decode cX9_takes 19 = .ok (.if_icmp .ge 36, 3) := by decide +kernel
theorem dX9_takes_22 : decode cX9_takes 22 = .ok (.aload_n 0, 1) := by decide +kernel
theorem dX9_takes_23 : decode cX9_takes 23 = .ok (.getfield 54, 3) := by decide +kernel
theorem dX9_takes_26 : decode cX9_takes 26 = .ok (.bipush 24, 2) := by decide +kernel
theorem dX9_takes_28 : decode cX9_takes 28 = .ok (.iload_n 3, 1) := by decide +kernel
theorem dX9_takes_29 : decode cX9_takes 29 = .ok (.imul, 1) := by decide +kernel
theorem dX9_takes_30 : decode cX9_takes 30 = .ok (.iload 4, 2) := by decide +kernel
theorem dX9_takes_32 : decode cX9_takes 32 = .ok (.iadd, 1) := by decide +kernel
theorem dX9_takes_33 : decode cX9_takes 33 = .ok (.iaload, 1) := by decide +kernel
theorem dX9_takes_34 : decode cX9_takes 34 = .ok (.iload_n 1, 1) := by decide +kernel
theorem dX9_takes_35 : decode cX9_takes 35 = .ok (.ishr, 1) := by decide +kernel
theorem dX9_takes_36 : decode cX9_takes 36 = .ok (.iconst 1, 1) := by decide +kernel
theorem dX9_takes_37 : decode cX9_takes 37 = .ok (.iand, 1) := by decide +kernel
theorem dX9_takes_38 : decode cX9_takes 38 = .ok (.ifCond .ne 11, 3) := by decide +kernel
theorem dX9_takes_41 : decode cX9_takes 41 = .ok (.iload_n 2, 1) := by decide +kernel
theorem dX9_takes_42 : decode cX9_takes 42 = .ok (.aload_n 0, 1) := by decide +kernel
theorem dX9_takes_43 : decode cX9_takes 43 = .ok (.iload_n 3, 1) := by decide +kernel
theorem dX9_takes_44 : decode cX9_takes 44 = .ok (.invokevirtual 99, 3) := by decide +kernel
theorem dX9_takes_47 : decode cX9_takes 47 = .ok (.iadd, 1) := by decide +kernel
theorem dX9_takes_48 : decode cX9_takes 48 = .ok (.istore_n 2, 1) := by decide +kernel
theorem dX9_takes_49 : decode cX9_takes 49 = .ok (.iinc 4 1, 3) := by decide +kernel
theorem dX9_takes_52 : decode cX9_takes 52 = .ok (.goto (-39), 3) := by decide +kernel
theorem dX9_takes_55 : decode cX9_takes 55 = .ok (.iinc 3 1, 3) := by decide +kernel
theorem dX9_takes_58 : decode cX9_takes 58 = .ok (.goto (-54), 3) := by decide +kernel
theorem dX9_takes_61 : decode cX9_takes 61 = .ok (.iload_n 2, 1) := by decide +kernel
theorem dX9_takes_62 : decode cX9_takes 62 = .ok (.ireturn, 1) := by decide +kernel
set_option maxRecDepth 20000 in
theorem ggX9_dye_X9_bathsOf : GoodIn wsX9_dye wsX9_bathsOf := goodIn_r _ [9] (by decide +kernel) (by decide +kernel)
set_option maxRecDepth 20000 in
theorem gX9_dye_X9_bathsOf : GoodIn wsX9_dye (va_wsS RX9 118 yX9_bathsOf wsX9_bathsOf) := goodIn_app (goodIn_of _ (by decide +kernel)) ggX9_dye_X9_bathsOf
set_option maxRecDepth 20000 in
theorem ggX9_dye_X9_takes : GoodIn wsX9_dye wsX9_takes := goodIn_r _ [13, 14, 15, 16, 17, 18, 8, 19, 20, 21, 42, 43, 44, 45, 46, 47, 48, 49, 50, 51, 52, 53, 54, 55, 56, 57, 58, 59, 60, 61, 62, 63, 64, 65] (by decide +kernel) (by decide +kernel)
set_option maxRecDepth 20000 in
theorem gX9_dye_X9_takes : GoodIn wsX9_dye (wsV RX9 150 RX9 yX9_takes wsX9_takes) := goodIn_app (goodIn_of _ (by decide +kernel)) ggX9_dye_X9_takes
set_option maxRecDepth 20000 in
theorem ggX9_dye_X9_undyed : GoodIn wsX9_dye wsX9_undyed := goodIn_r _ [25, 26, 27, 42, 43, 44, 45, 46, 47, 48, 49, 50, 51, 52, 53, 54, 55, 56, 57, 58, 59, 60, 61, 62, 63, 64, 65] (by decide +kernel) (by decide +kernel)
set_option maxRecDepth 20000 in
theorem gX9_dye_X9_undyed : GoodIn wsX9_dye (wsV RX9 77 RX9 yX9_undyed wsX9_undyed) := goodIn_app (goodIn_of _ (by decide +kernel)) ggX9_dye_X9_undyed
set_option maxRecDepth 20000 in
theorem ggX9_dye_X9_bindsFor : GoodIn wsX9_dye wsX9_bindsFor := goodIn_r _ [31, 14, 27, 15, 42, 43, 44, 45, 46, 47, 48, 49, 50, 51, 52, 53, 54, 55, 56, 57, 58, 59, 60, 61, 62, 63, 64, 65] (by decide +kernel) (by decide +kernel)
set_option maxRecDepth 20000 in
theorem gX9_dye_X9_bindsFor : GoodIn wsX9_dye (wsV RX9 153 RX9 yX9_bindsFor wsX9_bindsFor) := goodIn_app (goodIn_of _ (by decide +kernel)) ggX9_dye_X9_bindsFor
set_option maxRecDepth 20000 in
theorem ggX9_dye_X9_taken : GoodIn wsX9_dye wsX9_taken := goodIn_r _ [35, 14, 27, 16, 17, 18, 8, 19, 20, 21, 42, 43, 44, 45, 46, 47, 48, 49, 50, 51, 52, 53, 54, 55, 56, 57, 58, 59, 60, 61, 62, 63, 64, 65] (by decide +kernel) (by decide +kernel)
set_option maxRecDepth 20000 in
theorem gX9_dye_X9_taken : GoodIn wsX9_dye (wsV RX9 106 RX9 yX9_taken wsX9_taken) := goodIn_app (goodIn_of _ (by decide +kernel)) ggX9_dye_X9_taken
set_option maxRecDepth 20000 in
theorem ggX9_dye_X9_bathes : GoodIn wsX9_dye wsX9_bathes := goodIn_r _ [39, 14, 27, 26, 40, 41, 42, 43, 44, 45, 46, 47, 48, 49, 50, 51, 52, 53, 54, 55, 56, 57, 58, 59, 60, 61, 62, 63, 64, 65] (by decide +kernel) (by decide +kernel)
set_option maxRecDepth 20000 in
theorem gX9_dye_X9_bathes : GoodIn wsX9_dye (wsV RX9 110 RX9 yX9_bathes wsX9_bathes) := goodIn_app (goodIn_of _ (by decide +kernel)) ggX9_dye_X9_bathes
theorem dX9_dye_0 : decode cX9_dye 0 = .ok (.aload_n 0, 1) := by decide +kernel
theorem dX9_dye_1 : decode cX9_dye 1 = .ok (.iconst 0, 1) := by decide +kernel
theorem dX9_dye_2 : decode cX9_dye 2 = .ok (.putfield 66, 3) := by decide +kernel
theorem dX9_dye_5 : decode cX9_dye 5 = .ok (.aload_n 0, 1) := by decide +kernel
theorem dX9_dye_6 : decode cX9_dye 6 = .ok (.getfield 73, 3) := by decide +kernel
theorem dX9_dye_9 : decode cX9_dye 9 = .ok (.ifCond .ne 5, 3) := by decide +kernel
theorem dX9_dye_12 : decode cX9_dye 12 = .ok (.iconst (-1), 1) := by decide +kernel
theorem dX9_dye_13 : decode cX9_dye 13 = .ok (.ireturn, 1) := by decide +kernel
theorem dX9_dye_14 : decode cX9_dye 14 = .ok (.aload_n 0, 1) := by decide +kernel
theorem dX9_dye_15 : decode cX9_dye 15 = .ok (.getfield 134, 3) := by decide +kernel
theorem dX9_dye_18 : decode cX9_dye 18 = .ok (.invokestatic 118, 3) := by decide +kernel
theorem dX9_dye_21 : decode cX9_dye 21 = .ok (.istore_n 1, 1) := by decide +kernel
theorem dX9_dye_22 : decode cX9_dye 22 = .ok (.iconst 0, 1) := by decide +kernel
theorem dX9_dye_23 : decode cX9_dye 23 = .ok (.istore_n 2, 1) := by decide +kernel
theorem dX9_dye_24 : decode cX9_dye 24 = .ok (.iconst 1, 1) := by decide +kernel
theorem dX9_dye_25 : decode cX9_dye 25 = .ok (.istore_n 3, 1) := by decide +kernel
theorem dX9_dye_26 : decode cX9_dye 26 = .ok (.iconst 0, 1) := by decide +kernel
theorem dX9_dye_27 : decode cX9_dye 27 = .ok (.istore 4, 2) := by decide +kernel
theorem dX9_dye_29 : decode cX9_dye 29 = .ok (.iload 4, 2) := by decide +kernel
theorem dX9_dye_31 : decode cX9_dye 31 = .ok (.iconst 4, 1) := by decide +kernel
theorem dX9_dye_32 : decode cX9_dye 32 = .ok (.if_icmp .ge 17, 3) := by decide +kernel
theorem dX9_dye_35 : decode cX9_dye 35 = .ok (.aload_n 0, 1) := by decide +kernel
theorem dX9_dye_36 : decode cX9_dye 36 = .ok (.getfield 63, 3) := by decide +kernel
theorem dX9_dye_39 : decode cX9_dye 39 = .ok (.iload 4, 2) := by decide +kernel
theorem dX9_dye_41 : decode cX9_dye 41 = .ok (.iconst 0, 1) := by decide +kernel
theorem dX9_dye_42 : decode cX9_dye 42 = .ok (.iastore, 1) := by decide +kernel
theorem dX9_dye_43 : decode cX9_dye 43 = .ok (.iinc 4 1, 3) := by decide +kernel
theorem dX9_dye_46 : decode cX9_dye 46 = .ok (.goto (-17), 3) := by decide +kernel
theorem dX9_dye_49 : decode cX9_dye 49 = .ok (.iconst 0, 1) := by decide +kernel
theorem dX9_dye_50 : decode cX9_dye 50 = .ok (.istore 4, 2) := by decide +kernel
theorem dX9_dye_52 : decode cX9_dye 52 = .ok (.iload 4, 2) := by decide +kernel
theorem dX9_dye_54 : decode cX9_dye 54 = .ok (.iload_n 1, 1) := by decide +kernel
theorem dX9_dye_55 : decode cX9_dye 55 = .ok (.if_icmp .ge 37, 3) := by decide +kernel
theorem dX9_dye_58 : decode cX9_dye 58 = .ok (.aload_n 0, 1) := by decide +kernel
theorem dX9_dye_59 : decode cX9_dye 59 = .ok (.getfield 63, 3) := by decide +kernel
theorem dX9_dye_62 : decode cX9_dye 62 = .ok (.aload_n 0, 1) := by decide +kernel
theorem dX9_dye_63 : decode cX9_dye 63 = .ok (.getfield 134, 3) := by decide +kernel
theorem dX9_dye_66 : decode cX9_dye 66 = .ok (.iconst 3, 1) := by decide +kernel
theorem dX9_dye_67 : decode cX9_dye 67 = .ok (.iload 4, 2) := by decide +kernel
theorem dX9_dye_69 : decode cX9_dye 69 = .ok (.imul, 1) := by decide +kernel
theorem dX9_dye_70 : decode cX9_dye 70 = .ok (.ishr, 1) := by decide +kernel
theorem dX9_dye_71 : decode cX9_dye 71 = .ok (.bipush 7, 2) := by decide +kernel
theorem dX9_dye_73 : decode cX9_dye 73 = .ok (.iand, 1) := by decide +kernel
theorem dX9_dye_74 : decode cX9_dye 74 = .ok (.iconst 1, 1) := by decide +kernel
theorem dX9_dye_75 : decode cX9_dye 75 = .ok (.isub, 1) := by decide +kernel
theorem dX9_dye_76 : decode cX9_dye 76 = .ok (.dup2, 1) := by decide +kernel
theorem dX9_dye_77 : decode cX9_dye 77 = .ok (.iaload, 1) := by decide +kernel
theorem dX9_dye_78 : decode cX9_dye 78 = .ok (.aload_n 0, 1) := by decide +kernel
theorem dX9_dye_79 : decode cX9_dye 79 = .ok (.iload 4, 2) := by decide +kernel
theorem dX9_dye_81 : decode cX9_dye 81 = .ok (.invokevirtual 150, 3) := by decide +kernel
theorem dX9_dye_84 : decode cX9_dye 84 = .ok (.iadd, 1) := by decide +kernel
theorem dX9_dye_85 : decode cX9_dye 85 = .ok (.iastore, 1) := by decide +kernel
theorem dX9_dye_86 : decode cX9_dye 86 = .ok (.iinc 4 1, 3) := by decide +kernel
theorem dX9_dye_89 : decode cX9_dye 89 = .ok (.goto (-37), 3) := by decide +kernel
theorem dX9_dye_92 : decode cX9_dye 92 = .ok (.iconst 0, 1) := by decide +kernel
theorem dX9_dye_93 : decode cX9_dye 93 = .ok (.istore 4, 2) := by decide +kernel
theorem dX9_dye_95 : decode cX9_dye 95 = .ok (.iload 4, 2) := by decide +kernel
theorem dX9_dye_97 : decode cX9_dye 97 = .ok (.iconst 4, 1) := by decide +kernel
theorem dX9_dye_98 : decode cX9_dye 98 = .ok (.if_icmp .ge 36, 3) := by decide +kernel
theorem dX9_dye_101 : decode cX9_dye 101 = .ok (.iload_n 3, 1) := by decide +kernel
theorem dX9_dye_102 : decode cX9_dye 102 = .ok (.ifCond .eq 24, 3) := by decide +kernel
theorem dX9_dye_105 : decode cX9_dye 105 = .ok (.aload_n 0, 1) := by decide +kernel
theorem dX9_dye_106 : decode cX9_dye 106 = .ok (.getfield 26, 3) := by decide +kernel
theorem dX9_dye_109 : decode cX9_dye 109 = .ok (.iload 4, 2) := by decide +kernel
theorem dX9_dye_111 : decode cX9_dye 111 = .ok (.iaload, 1) := by decide +kernel
theorem dX9_dye_112 : decode cX9_dye 112 = .ok (.aload_n 0, 1) := by decide +kernel
theorem dX9_dye_113 : decode cX9_dye 113 = .ok (.getfield 63, 3) := by decide +kernel
theorem dX9_dye_116 : decode cX9_dye 116 = .ok (.iload 4, 2) := by decide +kernel
theorem dX9_dye_118 : decode cX9_dye 118 = .ok (.iaload, 1) := by decide +kernel
theorem dX9_dye_119 : decode cX9_dye 119 = .ok (.if_icmp .lt 7, 3) := by decide +kernel
theorem dX9_dye_122 : decode cX9_dye 122 = .ok (.iconst 1, 1) := by decide +kernel
theorem dX9_dye_123 : decode cX9_dye 123 = .ok (.goto 4, 3) := by decide +kernel
theorem dX9_dye_126 : decode cX9_dye 126 = .ok (.iconst 0, 1) := by decide +kernel
theorem dX9_dye_127 : decode cX9_dye 127 = .ok (.istore_n 3, 1) := by decide +kernel
theorem dX9_dye_128 : decode cX9_dye 128 = .ok (.iinc 4 1, 3) := by decide +kernel
theorem dX9_dye_131 : decode cX9_dye 131 = .ok (.goto (-36), 3) := by decide +kernel
theorem dX9_dye_134 : decode cX9_dye 134 = .ok (.iload_n 3, 1) := by decide +kernel
theorem dX9_dye_135 : decode cX9_dye 135 = .ok (.ifCond .ne 5, 3) := by decide +kernel
theorem dX9_dye_138 : decode cX9_dye 138 = .ok (.iconst (-1), 1) := by decide +kernel
theorem dX9_dye_139 : decode cX9_dye 139 = .ok (.ireturn, 1) := by decide +kernel
theorem dX9_dye_140 : decode cX9_dye 140 = .ok (.aload_n 0, 1) := by decide +kernel
theorem dX9_dye_141 : decode cX9_dye 141 = .ok (.invokevirtual 77, 3) := by decide +kernel
theorem dX9_dye_144 : decode cX9_dye 144 = .ok (.iconst 0, 1) := by decide +kernel
theorem dX9_dye_145 : decode cX9_dye 145 = .ok (.istore 4, 2) := by decide +kernel
theorem dX9_dye_147 : decode cX9_dye 147 = .ok (.iload 4, 2) := by decide +kernel
theorem dX9_dye_149 : decode cX9_dye 149 = .ok (.iload_n 1, 1) := by decide +kernel
theorem dX9_dye_150 : decode cX9_dye 150 = .ok (.if_icmp .ge 60, 3) := by decide +kernel
theorem dX9_dye_153 : decode cX9_dye 153 = .ok (.aload_n 0, 1) := by decide +kernel
theorem dX9_dye_154 : decode cX9_dye 154 = .ok (.getfield 134, 3) := by decide +kernel
theorem dX9_dye_157 : decode cX9_dye 157 = .ok (.iconst 3, 1) := by decide +kernel
theorem dX9_dye_158 : decode cX9_dye 158 = .ok (.iload 4, 2) := by decide +kernel
theorem dX9_dye_160 : decode cX9_dye 160 = .ok (.imul, 1) := by decide +kernel
theorem dX9_dye_161 : decode cX9_dye 161 = .ok (.ishr, 1) := by decide +kernel
theorem dX9_dye_162 : decode cX9_dye 162 = .ok (.bipush 7, 2) := by decide +kernel
theorem dX9_dye_164 : decode cX9_dye 164 = .ok (.iand, 1) := by decide +kernel
theorem dX9_dye_165 : decode cX9_dye 165 = .ok (.iconst 1, 1) := by decide +kernel
theorem dX9_dye_166 : decode cX9_dye 166 = .ok (.isub, 1) := by decide +kernel
theorem dX9_dye_167 : decode cX9_dye 167 = .ok (.istore 5, 2) := by decide +kernel
theorem dX9_dye_169 : decode cX9_dye 169 = .ok (.aload_n 0, 1) := by decide +kernel
theorem dX9_dye_170 : decode cX9_dye 170 = .ok (.iload 4, 2) := by decide +kernel
theorem dX9_dye_172 : decode cX9_dye 172 = .ok (.invokevirtual 153, 3) := by decide +kernel
theorem dX9_dye_175 : decode cX9_dye 175 = .ok (.aload_n 0, 1) := by decide +kernel
theorem dX9_dye_176 : decode cX9_dye 176 = .ok (.invokevirtual 106, 3) := by decide +kernel
theorem dX9_dye_179 : decode cX9_dye 179 = .ok (.istore 6, 2) := by decide +kernel
theorem dX9_dye_181 : decode cX9_dye 181 = .ok (.aload_n 0, 1) := by decide +kernel
theorem dX9_dye_182 : decode cX9_dye 182 = .ok (.getfield 26, 3) := by decide +kernel
theorem dX9_dye_185 : decode cX9_dye 185 = .ok (.iload 5, 2) := by decide +kernel
theorem dX9_dye_187 : decode cX9_dye 187 = .ok (.dup2, 1) := by decide +kernel
theorem dX9_dye_188 : decode cX9_dye 188 = .ok (.iaload, 1) := by decide +kernel
theorem dX9_dye_189 : decode cX9_dye 189 = .ok (.iload 6, 2) := by decide +kernel
theorem dX9_dye_191 : decode cX9_dye 191 = .ok (.isub, 1) := by decide +kernel
theorem dX9_dye_192 : decode cX9_dye 192 = .ok (.iastore, 1) := by decide +kernel
theorem dX9_dye_193 : decode cX9_dye 193 = .ok (.iload_n 2, 1) := by decide +kernel
theorem dX9_dye_194 : decode cX9_dye 194 = .ok (.iload 6, 2) := by decide +kernel
theorem dX9_dye_196 : decode cX9_dye 196 = .ok (.iadd, 1) := by decide +kernel
theorem dX9_dye_197 : decode cX9_dye 197 = .ok (.istore_n 2, 1) := by decide +kernel
theorem dX9_dye_198 : decode cX9_dye 198 = .ok (.aload_n 0, 1) := by decide +kernel
theorem dX9_dye_199 : decode cX9_dye 199 = .ok (.iload 5, 2) := by decide +kernel
theorem dX9_dye_201 : decode cX9_dye 201 = .ok (.invokevirtual 110, 3) := by decide +kernel
theorem dX9_dye_204 : decode cX9_dye 204 = .ok (.iinc 4 1, 3) := by decide +kernel
theorem dX9_dye_207 : decode cX9_dye 207 = .ok (.goto (-60), 3) := by decide +kernel
theorem dX9_dye_210 : decode cX9_dye 210 = .ok (.iload_n 2, 1) := by decide +kernel
theorem dX9_dye_211 : decode cX9_dye 211 = .ok (.ireturn, 1) := by decide +kernel
set_option maxRecDepth 20000 in
theorem ggX9_slip_X9_isThread : GoodIn wsX9_slip wsX9_isThread := goodIn_r _ [8, 9, 10, 11, 12, 7, 13, 1, 14, 15, 16, 17, 18, 19, 20, 21, 22, 23, 24, 25, 26, 27, 28, 29, 30, 31, 32, 33, 34, 35, 36, 37] (by decide +kernel) (by decide +kernel)
set_option maxRecDepth 20000 in
theorem gX9_slip_X9_isThread : GoodIn wsX9_slip (wsV RX9 80 RX9 yX9_isThread wsX9_isThread) := goodIn_app (goodIn_of _ (by decide +kernel)) ggX9_slip_X9_isThread
set_option maxRecDepth 20000 in
theorem ggX9_slip_X9_right : GoodIn wsX9_slip wsX9_right := goodIn_r _ [13, 1, 14, 15, 16, 17, 18, 19, 20, 21, 22, 23, 24, 25, 26, 27, 28, 29, 30, 31, 32, 33, 34, 35, 36, 37] (by decide +kernel) (by decide +kernel)
set_option maxRecDepth 20000 in
theorem gX9_slip_X9_right : GoodIn wsX9_slip (wsV RX9 69 RX9 yX9_right wsX9_right) := goodIn_app (goodIn_of _ (by decide +kernel)) ggX9_slip_X9_right
theorem dX9_slip_0 : decode cX9_slip 0 = .ok (.aload_n 0, 1) := by decide +kernel
theorem dX9_slip_1 : decode cX9_slip 1 = .ok (.iconst 0, 1) := by decide +kernel
theorem dX9_slip_2 : decode cX9_slip 2 = .ok (.putfield 66, 3) := by decide +kernel
theorem dX9_slip_5 : decode cX9_slip 5 = .ok (.aload_n 0, 1) := by decide +kernel
theorem dX9_slip_6 : decode cX9_slip 6 = .ok (.iload_n 1, 1) := by decide +kernel
theorem dX9_slip_7 : decode cX9_slip 7 = .ok (.invokevirtual 80, 3) := by decide +kernel
theorem dX9_slip_10 : decode cX9_slip 10 = .ok (.ifCond .eq 32, 3) := by decide +kernel
theorem dX9_slip_13 : decode cX9_slip 13 = .ok (.aload_n 0, 1) := by decide +kernel
theorem dX9_slip_14 : decode cX9_slip 14 = .ok (.iload_n 2, 1) := by decide +kernel
theorem dX9_slip_15 : decode cX9_slip 15 = .ok (.bipush (-3), 2) := by decide +kernel
theorem dX9_slip_17 : decode cX9_slip 17 = .ok (.if_icmp .lt 17, 3) := by decide +kernel
theorem dX9_slip_20 : decode cX9_slip 20 = .ok (.iload_n 2, 1) := by decide +kernel
theorem dX9_slip_21 : decode cX9_slip 21 = .ok (.iload_n 3, 1) := by decide +kernel
theorem dX9_slip_22 : decode cX9_slip 22 = .ok (.if_icmp .gt 12, 3) := by decide +kernel
theorem dX9_slip_25 : decode cX9_slip 25 = .ok (.iload_n 3, 1) := by decide +kernel
theorem dX9_slip_26 : decode cX9_slip 26 = .ok (.iconst 3, 1) := by decide +kernel
theorem dX9_slip_27 : decode cX9_slip 27 = .ok (.if_icmp .gt 7, 3) := by decide +kernel
theorem dX9_slip_30 : decode cX9_slip 30 = .ok (.iconst 1, 1) := by decide +kernel
theorem dX9_slip_31 : decode cX9_slip 31 = .ok (.goto 4, 3) := by decide +kernel
theorem dX9_slip_34 : decode cX9_slip 34 = .ok (.iconst 0, 1) := by decide +kernel
theorem dX9_slip_35 : decode cX9_slip 35 = .ok (.iconst 2, 1) := by decide +kernel
theorem dX9_slip_36 : decode cX9_slip 36 = .ok (.invokevirtual 69, 3) := by decide +kernel
theorem dX9_slip_39 : decode cX9_slip 39 = .ok (.ifCond .ne 4, 3) := by decide +kernel
theorem dX9_slip_42 : decode cX9_slip 42 = .ok (.return_, 1) := by decide +kernel
theorem dX9_slip_43 : decode cX9_slip 43 = .ok (.aload_n 0, 1) := by decide +kernel
theorem dX9_slip_44 : decode cX9_slip 44 = .ok (.getfield 32, 3) := by decide +kernel
theorem dX9_slip_47 : decode cX9_slip 47 = .ok (.iload_n 1, 1) := by decide +kernel
theorem dX9_slip_48 : decode cX9_slip 48 = .ok (.iload_n 2, 1) := by decide +kernel
theorem dX9_slip_49 : decode cX9_slip 49 = .ok (.iastore, 1) := by decide +kernel
theorem dX9_slip_50 : decode cX9_slip 50 = .ok (.aload_n 0, 1) := by decide +kernel
theorem dX9_slip_51 : decode cX9_slip 51 = .ok (.getfield 35, 3) := by decide +kernel
theorem dX9_slip_54 : decode cX9_slip 54 = .ok (.iload_n 1, 1) := by decide +kernel
theorem dX9_slip_55 : decode cX9_slip 55 = .ok (.iload_n 3, 1) := by decide +kernel
theorem dX9_slip_56 : decode cX9_slip 56 = .ok (.iastore, 1) := by decide +kernel
theorem dX9_slip_57 : decode cX9_slip 57 = .ok (.return_, 1) := by decide +kernel
set_option maxRecDepth 20000 in
theorem ggX9_seenOf_X9_colourOf : GoodIn wsX9_seenOf wsX9_colourOf := goodIn_r _ [8, 9, 10, 11, 12, 13, 14, 15, 16, 17, 18, 19, 20, 21, 22, 23, 24, 25, 26, 27, 28, 29, 30, 31, 32, 33, 34] (by decide +kernel) (by decide +kernel)
set_option maxRecDepth 20000 in
theorem gX9_seenOf_X9_colourOf : GoodIn wsX9_seenOf (wsV RX9 114 RX9 yX9_colourOf wsX9_colourOf) := goodIn_app (goodIn_of _ (by decide +kernel)) ggX9_seenOf_X9_colourOf
theorem dX9_seenOf_0 : decode cX9_seenOf 0 = .ok (.iconst 0, 1) := by decide +kernel
theorem dX9_seenOf_1 : decode cX9_seenOf 1 = .ok (.istore_n 3, 1) := by decide +kernel
theorem dX9_seenOf_2 : decode cX9_seenOf 2 = .ok (.aload_n 0, 1) := by decide +kernel
theorem dX9_seenOf_3 : decode cX9_seenOf 3 = .ok (.getfield 32, 3) := by decide +kernel
theorem dX9_seenOf_6 : decode cX9_seenOf 6 = .ok (.iload_n 1, 1) := by decide +kernel
theorem dX9_seenOf_7 : decode cX9_seenOf 7 = .ok (.iaload, 1) := by decide +kernel
theorem dX9_seenOf_8 : decode cX9_seenOf 8 = .ok (.istore 4, 2) := by decide +kernel
theorem dX9_seenOf_10 : decode cX9_seenOf 10 = .ok (.iload 4, 2) := by decide +kernel
theorem dX9_seenOf_12 : decode cX9_seenOf 12 = .ok (.aload_n 0, 1) := by decide +kernel
theorem dX9_seenOf_13 : decode cX9_seenOf 13 = .ok (.getfield 35, 3) := by decide +kernel
theorem dX9_seenOf_16 : decode cX9_seenOf 16 = .ok (.iload_n 1, 1) := by decide +kernel
theorem dX9_seenOf_17 : decode cX9_seenOf 17 = .ok (.iaload, 1) := by decide +kernel
theorem dX9_seenOf_18 : decode cX9_seenOf 18 = .ok (.if_icmp .gt 41, 3) := by decide +kernel
theorem dX9_seenOf_21 : decode cX9_seenOf 21 = .ok (.iload_n 2, 1) := by decide +kernel
theorem dX9_seenOf_22 : decode cX9_seenOf 22 = .ok (.iload 4, 2) := by decide +kernel
theorem dX9_seenOf_24 : decode cX9_seenOf 24 = .ok (.isub, 1) := by decide +kernel
theorem dX9_seenOf_25 : decode cX9_seenOf 25 = .ok (.ifCond .lt 28, 3) := by decide +kernel
theorem dX9_seenOf_28 : decode cX9_seenOf 28 = .ok (.iload_n 2, 1) := by decide +kernel
theorem dX9_seenOf_29 : decode cX9_seenOf 29 = .ok (.iload 4, 2) := by decide +kernel
theorem dX9_seenOf_31 : decode cX9_seenOf 31 = .ok (.isub, 1) := by decide +kernel
theorem dX9_seenOf_32 : decode cX9_seenOf 32 = .ok (.aload_n 0, 1) := by decide +kernel
theorem dX9_seenOf_33 : decode cX9_seenOf 33 = .ok (.getfield 13, 3) := by decide +kernel
theorem dX9_seenOf_36 : decode cX9_seenOf 36 = .ok (.if_icmp .ge 17, 3) := by decide +kernel
theorem dX9_seenOf_39 : decode cX9_seenOf 39 = .ok (.iload_n 3, 1) := by decide +kernel
theorem dX9_seenOf_40 : decode cX9_seenOf 40 = .ok (.iconst 1, 1) := by decide +kernel
theorem dX9_seenOf_41 : decode cX9_seenOf 41 = .ok (.aload_n 0, 1) := by decide +kernel
theorem dX9_seenOf_42 : decode cX9_seenOf 42 = .ok (.iload_n 1, 1) := by decide +kernel
theorem dX9_seenOf_43 : decode cX9_seenOf 43 = .ok (.iload_n 2, 1) := by decide +kernel
theorem dX9_seenOf_44 : decode cX9_seenOf 44 = .ok (.iload 4, 2) := by decide +kernel
theorem dX9_seenOf_46 : decode cX9_seenOf 46 = .ok (.isub, 1) := by decide +kernel
theorem dX9_seenOf_47 : decode cX9_seenOf 47 = .ok (.invokevirtual 114, 3) := by decide +kernel
theorem dX9_seenOf_50 : decode cX9_seenOf 50 = .ok (.ishl, 1) := by decide +kernel
theorem dX9_seenOf_51 : decode cX9_seenOf 51 = .ok (.ior, 1) := by decide +kernel
theorem dX9_seenOf_52 : decode cX9_seenOf 52 = .ok (.istore_n 3, 1) := by decide +kernel
theorem dX9_seenOf_53 : decode cX9_seenOf 53 = .ok (.iinc 4 1, 3) := by decide +kernel
theorem dX9_seenOf_56 : decode cX9_seenOf 56 = .ok (.goto (-46), 3) := by decide +kernel
theorem dX9_seenOf_59 : decode cX9_seenOf 59 = .ok (.iload_n 3, 1) := by decide +kernel
theorem dX9_seenOf_60 : decode cX9_seenOf 60 = .ok (.ireturn, 1) := by decide +kernel
set_option maxRecDepth 20000 in
theorem ggX9_seen_X9_isThread : GoodIn wsX9_seen wsX9_isThread := goodIn_r _ [6, 7, 8, 9, 10, 5, 11, 1, 29, 30, 31, 32, 33, 34, 35, 36, 37, 38, 39, 40, 41, 42, 43, 44, 45, 46, 47, 48, 49, 50, 51, 52] (by decide +kernel) (by decide +kernel)
set_option maxRecDepth 20000 in
theorem gX9_seen_X9_isThread : GoodIn wsX9_seen (wsV RX9 80 RX9 yX9_isThread wsX9_isThread) := goodIn_app (goodIn_of _ (by decide +kernel)) ggX9_seen_X9_isThread
set_option maxRecDepth 20000 in
theorem ggX9_seen_X9_isPlace : GoodIn wsX9_seen wsX9_isPlace := goodIn_r _ [15, 16, 8, 9, 10, 5, 11, 1, 29, 30, 31, 32, 33, 34, 35, 36, 37, 38, 39, 40, 41, 42, 43, 44, 45, 46, 47, 48, 49, 50, 51, 52] (by decide +kernel) (by decide +kernel)
set_option maxRecDepth 20000 in
theorem gX9_seen_X9_isPlace : GoodIn wsX9_seen (wsV RX9 88 RX9 yX9_isPlace wsX9_isPlace) := goodIn_app (goodIn_of _ (by decide +kernel)) ggX9_seen_X9_isPlace
set_option maxRecDepth 20000 in
theorem ggX9_seen_X9_seenOf : GoodIn wsX9_seen wsX9_seenOf := goodIn_r _ [20, 21, 22, 16, 23, 24, 25, 5, 26, 27, 28, 29, 30, 31, 32, 33, 34, 35, 36, 37, 38, 39, 40, 41, 42, 43, 44, 45, 46, 47, 48, 49, 50, 51, 52] (by decide +kernel) (by decide +kernel)
set_option maxRecDepth 20000 in
theorem gX9_seen_X9_seenOf : GoodIn wsX9_seen (wsV RX9 156 RX9 yX9_seenOf wsX9_seenOf) := goodIn_app (goodIn_of _ (by decide +kernel)) ggX9_seen_X9_seenOf
theorem dX9_seen_0 : decode cX9_seen 0 = .ok (.aload_n 0, 1) := by decide +kernel
theorem dX9_seen_1 : decode cX9_seen 1 = .ok (.iconst 0, 1) := by decide +kernel
theorem dX9_seen_2 : decode cX9_seen 2 = .ok (.putfield 66, 3) := by decide +kernel
theorem dX9_seen_5 : decode cX9_seen 5 = .ok (.aload_n 0, 1) := by decide +kernel
theorem dX9_seen_6 : decode cX9_seen 6 = .ok (.iload_n 1, 1) := by decide +kernel
theorem dX9_seen_7 : decode cX9_seen 7 = .ok (.invokevirtual 80, 3) := by decide +kernel
theorem dX9_seen_10 : decode cX9_seen 10 = .ok (.ifCond .eq 20, 3) := by decide +kernel
theorem dX9_seen_13 : decode cX9_seen 13 = .ok (.aload_n 0, 1) := by decide +kernel
theorem dX9_seen_14 : decode cX9_seen 14 = .ok (.iload_n 2, 1) := by decide +kernel
theorem dX9_seen_15 : decode cX9_seen 15 = .ok (.invokevirtual 88, 3) := by decide +kernel
theorem dX9_seen_18 : decode cX9_seen 18 = .ok (.ifCond .eq 12, 3) := by decide +kernel
theorem dX9_seen_21 : decode cX9_seen 21 = .ok (.aload_n 0, 1) := by decide +kernel
theorem dX9_seen_22 : decode cX9_seen 22 = .ok (.iload_n 1, 1) := by decide +kernel
theorem dX9_seen_23 : decode cX9_seen 23 = .ok (.iload_n 2, 1) := by decide +kernel
theorem dX9_seen_24 : decode cX9_seen 24 = .ok (.invokevirtual 156, 3) := by decide +kernel
theorem dX9_seen_27 : decode cX9_seen 27 = .ok (.goto 4, 3) := by decide +kernel
theorem dX9_seen_30 : decode cX9_seen 30 = .ok (.iconst 0, 1) := by decide +kernel
theorem dX9_seen_31 : decode cX9_seen 31 = .ok (.ireturn, 1) := by decide +kernel
set_option maxRecDepth 20000 in
theorem ggX9_blurred_X9_seenOf : GoodIn wsX9_blurred wsX9_seenOf := goodIn_r _ [9, 10, 11, 3, 12, 13, 14, 8, 15, 16, 17, 18, 19, 20, 21, 22, 23, 24, 25, 26, 27, 28, 29, 30, 31, 32, 33, 34, 35, 36, 37, 38, 39, 40, 41] (by decide +kernel) (by decide +kernel)
set_option maxRecDepth 20000 in
theorem gX9_blurred_X9_seenOf : GoodIn wsX9_blurred (wsV RX9 156 RX9 yX9_seenOf wsX9_seenOf) := goodIn_app (goodIn_of _ (by decide +kernel)) ggX9_blurred_X9_seenOf
theorem dX9_blurred_0 : decode cX9_blurred 0 = .ok (.aload_n 0, 1) := by decide +kernel
theorem dX9_blurred_1 : decode cX9_blurred 1 = .ok (.iconst 0, 1) := by decide +kernel
theorem dX9_blurred_2 : decode cX9_blurred 2 = .ok (.putfield 66, 3) := by decide +kernel
theorem dX9_blurred_5 : decode cX9_blurred 5 = .ok (.iconst 0, 1) := by decide +kernel
theorem dX9_blurred_6 : decode cX9_blurred 6 = .ok (.istore_n 1, 1) := by decide +kernel
theorem dX9_blurred_7 : decode cX9_blurred 7 = .ok (.iconst 0, 1) := by decide +kernel
theorem dX9_blurred_8 : decode cX9_blurred 8 = .ok (.istore_n 2, 1) := by decide +kernel
theorem dX9_blurred_9 : decode cX9_blurred 9 = .ok (.iload_n 2, 1) := by decide +kernel
theorem dX9_blurred_10 : decode cX9_blurred 10 = .ok (.aload_n 0, 1) := by decide +kernel
theorem dX9_blurred_11 : decode cX9_blurred 11 = .ok (.getfield 7, 3) := by decide +kernel
theorem dX9_blurred_14 : decode cX9_blurred 14 = .ok (.if_icmp .ge 50, 3) := by decide +kernel
theorem dX9_blurred_17 : decode cX9_blurred 17 = .ok (.iconst 0, 1) := by decide +kernel
theorem dX9_blurred_18 : decode cX9_blurred 18 = .ok (.istore_n 3, 1) := by decide +kernel
theorem dX9_blurred_19 : decode cX9_blurred 19 = .ok (.iload_n 3, 1) := by decide +kernel
theorem dX9_blurred_20 : decode cX9_blurred 20 = .ok (.aload_n 0, 1) := by decide +kernel
theorem dX9_blurred_21 : decode cX9_blurred 21 = .ok (.getfield 13, 3) := by decide +kernel
theorem dX9_blurred_24 : decode cX9_blurred 24 = .ok (.if_icmp .ge 34, 3) := by decide +kernel
theorem dX9_blurred_27 : decode cX9_blurred 27 = .ok (.aload_n 0, 1) := by decide +kernel
theorem dX9_blurred_28 : decode cX9_blurred 28 = .ok (.iload_n 2, 1) := by decide +kernel
theorem dX9_blurred_29 : decode cX9_blurred 29 = .ok (.iload_n 3, 1) := by decide +kernel
theorem dX9_blurred_30 : decode cX9_blurred 30 = .ok (.invokevirtual 156, 3) := by decide +kernel
theorem dX9_blurred_33 : decode cX9_blurred 33 = .ok (.iconst 1, 1) := by decide +kernel
theorem dX9_blurred_34 : decode cX9_blurred 34 = .ok (.aload_n 0, 1) := by decide +kernel
theorem dX9_blurred_35 : decode cX9_blurred 35 = .ok (.getfield 29, 3) := by decide +kernel
theorem dX9_blurred_38 : decode cX9_blurred 38 = .ok (.bipush 24, 2) := by decide +kernel
theorem dX9_blurred_40 : decode cX9_blurred 40 = .ok (.iload_n 2, 1) := by decide +kernel
theorem dX9_blurred_41 : decode cX9_blurred 41 = .ok (.imul, 1) := by decide +kernel
theorem dX9_blurred_42 : decode cX9_blurred 42 = .ok (.iload_n 3, 1) := by decide +kernel
theorem dX9_blurred_43 : decode cX9_blurred 43 = .ok (.iadd, 1) := by decide +kernel
theorem dX9_blurred_44 : decode cX9_blurred 44 = .ok (.iaload, 1) := by decide +kernel
theorem dX9_blurred_45 : decode cX9_blurred 45 = .ok (.ishl, 1) := by decide +kernel
theorem dX9_blurred_46 : decode cX9_blurred 46 = .ok (.if_icmp .eq 6, 3) := by decide +kernel
theorem dX9_blurred_49 : decode cX9_blurred 49 = .ok (.iinc 1 1, 3) := by decide +kernel
theorem dX9_blurred_52 : decode cX9_blurred 52 = .ok (.iinc 3 1, 3) := by decide +kernel
theorem dX9_blurred_55 : decode cX9_blurred 55 = .ok (.goto (-36), 3) := by decide +kernel
theorem dX9_blurred_58 : decode cX9_blurred 58 = .ok (.iinc 2 1, 3) := by decide +kernel
theorem dX9_blurred_61 : decode cX9_blurred 61 = .ok (.goto (-52), 3) := by decide +kernel
theorem dX9_blurred_64 : decode cX9_blurred 64 = .ok (.iload_n 1, 1) := by decide +kernel
theorem dX9_blurred_65 : decode cX9_blurred 65 = .ok (.ireturn, 1) := by decide +kernel
theorem dX9_law_0 : decode cX9_law 0 = .ok (.aload_n 0, 1) := by decide +kernel
theorem dX9_law_1 : decode cX9_law 1 = .ok (.iconst 0, 1) := by decide +kernel
theorem dX9_law_2 : decode cX9_law 2 = .ok (.putfield 66, 3) := by decide +kernel
theorem dX9_law_5 : decode cX9_law 5 = .ok (.aload_n 0, 1) := by decide +kernel
theorem dX9_law_6 : decode cX9_law 6 = .ok (.getfield 159, 3) := by decide +kernel
theorem dX9_law_9 : decode cX9_law 9 = .ok (.bipush 60, 2) := by decide +kernel
theorem dX9_law_11 : decode cX9_law 11 = .ok (.if_icmp .eq 34, 3) := by decide +kernel
theorem dX9_law_14 : decode cX9_law 14 = .ok (.iload_n 1, 1) := by decide +kernel
theorem dX9_law_15 : decode cX9_law 15 = .ok (.ifCond .lt 30, 3) := by decide +kernel
theorem dX9_law_18 : decode cX9_law 18 = .ok (.iload_n 1, 1) := by decide +kernel
theorem dX9_law_19 : decode cX9_law 19 = .ok (.sipush 9999, 3) := by decide +kernel
theorem dX9_law_22 : decode cX9_law 22 = .ok (.if_icmp .gt 23, 3) := by decide +kernel
theorem dX9_law_25 : decode cX9_law 25 = .ok (.iload_n 2, 1) := by decide +kernel
theorem dX9_law_26 : decode cX9_law 26 = .ok (.ifCond .lt 19, 3) := by decide +kernel
theorem dX9_law_29 : decode cX9_law 29 = .ok (.iload_n 2, 1) := by decide +kernel
theorem dX9_law_30 : decode cX9_law 30 = .ok (.bipush 15, 2) := by decide +kernel
theorem dX9_law_32 : decode cX9_law 32 = .ok (.if_icmp .gt 13, 3) := by decide +kernel
theorem dX9_law_35 : decode cX9_law 35 = .ok (.iload_n 3, 1) := by decide +kernel
theorem dX9_law_36 : decode cX9_law 36 = .ok (.ifCond .lt 9, 3) := by decide +kernel
theorem dX9_law_39 : decode cX9_law 39 = .ok (.iload_n 3, 1) := by decide +kernel
theorem dX9_law_40 : decode cX9_law 40 = .ok (.bipush 9, 2) := by decide +kernel
theorem dX9_law_42 : decode cX9_law 42 = .ok (.if_icmp .le 5, 3) := by decide +kernel
theorem dX9_law_45 : decode cX9_law 45 = .ok (.iconst (-1), 1) := by decide +kernel
theorem dX9_law_46 : decode cX9_law 46 = .ok (.ireturn, 1) := by decide +kernel
theorem dX9_law_47 : decode cX9_law 47 = .ok (.aload_n 0, 1) := by decide +kernel
theorem dX9_law_48 : decode cX9_law 48 = .ok (.getfield 45, 3) := by decide +kernel
theorem dX9_law_51 : decode cX9_law 51 = .ok (.aload_n 0, 1) := by decide +kernel
theorem dX9_law_52 : decode cX9_law 52 = .ok (.getfield 159, 3) := by decide +kernel
theorem dX9_law_55 : decode cX9_law 55 = .ok (.iload_n 1, 1) := by decide +kernel
theorem dX9_law_56 : decode cX9_law 56 = .ok (.iastore, 1) := by decide +kernel
theorem dX9_law_57 : decode cX9_law 57 = .ok (.aload_n 0, 1) := by decide +kernel
theorem dX9_law_58 : decode cX9_law 58 = .ok (.getfield 48, 3) := by decide +kernel
theorem dX9_law_61 : decode cX9_law 61 = .ok (.aload_n 0, 1) := by decide +kernel
theorem dX9_law_62 : decode cX9_law 62 = .ok (.getfield 159, 3) := by decide +kernel
theorem dX9_law_65 : decode cX9_law 65 = .ok (.iload_n 2, 1) := by decide +kernel
theorem dX9_law_66 : decode cX9_law 66 = .ok (.iastore, 1) := by decide +kernel
theorem dX9_law_67 : decode cX9_law 67 = .ok (.aload_n 0, 1) := by decide +kernel
theorem dX9_law_68 : decode cX9_law 68 = .ok (.getfield 51, 3) := by decide +kernel
theorem dX9_law_71 : decode cX9_law 71 = .ok (.aload_n 0, 1) := by decide +kernel
theorem dX9_law_72 : decode cX9_law 72 = .ok (.getfield 159, 3) := by decide +kernel
theorem dX9_law_75 : decode cX9_law 75 = .ok (.iload_n 3, 1) := by decide +kernel
theorem dX9_law_76 : decode cX9_law 76 = .ok (.iastore, 1) := by decide +kernel
theorem dX9_law_77 : decode cX9_law 77 = .ok (.aload_n 0, 1) := by decide +kernel
theorem dX9_law_78 : decode cX9_law 78 = .ok (.dup, 1) := by decide +kernel
theorem dX9_law_79 : decode cX9_law 79 = .ok (.getfield 159, 3) := by decide +kernel
theorem dX9_law_82 : decode cX9_law 82 = .ok (.iconst 1, 1) := by decide +kernel
theorem dX9_law_83 : decode cX9_law 83 = .ok (.iadd, 1) := by decide +kernel
theorem dX9_law_84 : decode cX9_law 84 = .ok (.putfield 159, 3) := by decide +kernel
theorem dX9_law_87 : decode cX9_law 87 = .ok (.aload_n 0, 1) := by decide +kernel
theorem dX9_law_88 : decode cX9_law 88 = .ok (.getfield 159, 3) := by decide +kernel
theorem dX9_law_91 : decode cX9_law 91 = .ok (.ireturn, 1) := by decide +kernel
theorem dX9_rankOf_0 : decode cX9_rankOf 0 = .ok (.iconst (-1), 1) := by decide +kernel
theorem dX9_rankOf_1 : decode cX9_rankOf 1 = .ok (.istore_n 3, 1) := by decide +kernel
theorem dX9_rankOf_2 : decode cX9_rankOf 2 = .ok (.iconst 0, 1) := by decide +kernel
theorem dX9_rankOf_3 : decode cX9_rankOf 3 = .ok (.istore 4, 2) := by decide +kernel
theorem dX9_rankOf_5 : decode cX9_rankOf 5 = .ok (.iload 4, 2) := by decide +kernel
theorem dX9_rankOf_7 : decode cX9_rankOf 7 = .ok (.aload_n 0, 1) := by decide +kernel
theorem dX9_rankOf_8 : decode cX9_rankOf 8 = .ok (.getfield 159, 3) := by decide +kernel
theorem dX9_rankOf_11 : decode cX9_rankOf 11 = .ok (.if_icmp .ge 55, 3) := by decide +kernel
theorem dX9_rankOf_14 : decode cX9_rankOf 14 = .ok (.aload_n 0, 1) := by decide +kernel
theorem dX9_rankOf_15 : decode cX9_rankOf 15 = .ok (.getfield 48, 3) := by decide +kernel
theorem dX9_rankOf_18 : decode cX9_rankOf 18 = .ok (.iload 4, 2) := by decide +kernel
theorem dX9_rankOf_20 : decode cX9_rankOf 20 = .ok (.iaload, 1) := by decide +kernel
theorem dX9_rankOf_21 : decode cX9_rankOf 21 = .ok (.iload_n 1, 1) := by decide +kernel
theorem dX9_rankOf_22 : decode cX9_rankOf 22 = .ok (.if_icmp .ne 38, 3) := by decide +kernel
theorem dX9_rankOf_25 : decode cX9_rankOf 25 = .ok (.aload_n 0, 1) := by decide +kernel
theorem dX9_rankOf_26 : decode cX9_rankOf 26 = .ok (.getfield 45, 3) := by decide +kernel
theorem dX9_rankOf_29 : decode cX9_rankOf 29 = .ok (.iload 4, 2) := by decide +kernel
theorem dX9_rankOf_31 : decode cX9_rankOf 31 = .ok (.iaload, 1) := by decide +kernel
theorem dX9_rankOf_32 : decode cX9_rankOf 32 = .ok (.iload_n 2, 1) := by decide +kernel
theorem dX9_rankOf_33 : decode cX9_rankOf 33 = .ok (.if_icmp .gt 27, 3) := by decide +kernel
theorem dX9_rankOf_36 : decode cX9_rankOf 36 = .ok (.iload_n 3, 1) := by decide +kernel
theorem dX9_rankOf_37 : decode cX9_rankOf 37 = .ok (.iconst (-1), 1) := by decide +kernel
theorem dX9_rankOf_38 : decode cX9_rankOf 38 = .ok (.if_icmp .eq 19, 3) := by decide +kernel
theorem dX9_rankOf_41 : decode cX9_rankOf 41 = .ok (.aload_n 0, 1) := by decide +kernel
theorem dX9_rankOf_42 : decode cX9_rankOf 42 = .ok (.getfield 45, 3) := by decide +kernel
theorem dX9_rankOf_45 : decode cX9_rankOf 45 = .ok (.iload 4, 2) := by decide +kernel
theorem dX9_rankOf_47 : decode cX9_rankOf 47 = .ok (.iaload, 1) := by decide +kernel
theorem dX9_rankOf_48 : decode cX9_rankOf 48 = .ok (.aload_n 0, 1) := by decide +kernel
theorem dX9_rankOf_49 : decode cX9_rankOf 49 = .ok (.getfield 45, 3) := by decide +kernel
theorem dX9_rankOf_52 : decode cX9_rankOf 52 = .ok (.iload_n 3, 1) := by decide +kernel
theorem dX9_rankOf_53 : decode cX9_rankOf 53 = .ok (.iaload, 1) := by decide +kernel
theorem dX9_rankOf_54 : decode cX9_rankOf 54 = .ok (.if_icmp .lt 6, 3) := by decide +kernel
theorem dX9_rankOf_57 : decode cX9_rankOf 57 = .ok (.iload 4, 2) := by decide +kernel
theorem dX9_rankOf_59 : decode cX9_rankOf 59 = .ok (.istore_n 3, 1) := by decide +kernel
theorem dX9_rankOf_60 : decode cX9_rankOf 60 = .ok (.iinc 4 1, 3) := by decide +kernel
theorem dX9_rankOf_63 : decode cX9_rankOf 63 = .ok (.goto (-58), 3) := by decide +kernel
theorem dX9_rankOf_66 : decode cX9_rankOf 66 = .ok (.iload_n 3, 1) := by decide +kernel
theorem dX9_rankOf_67 : decode cX9_rankOf 67 = .ok (.iconst (-1), 1) := by decide +kernel
theorem dX9_rankOf_68 : decode cX9_rankOf 68 = .ok (.if_icmp .ne 7, 3) := by decide +kernel
theorem dX9_rankOf_71 : decode cX9_rankOf 71 = .ok (.iconst 0, 1) := by decide +kernel
theorem dX9_rankOf_72 : decode cX9_rankOf 72 = .ok (.goto 9, 3) := by decide +kernel
theorem dX9_rankOf_75 : decode cX9_rankOf 75 = .ok (.aload_n 0, 1) := by decide +kernel
theorem dX9_rankOf_76 : decode cX9_rankOf 76 = .ok (.getfield 51, 3) := by decide +kernel
theorem dX9_rankOf_79 : decode cX9_rankOf 79 = .ok (.iload_n 3, 1) := by decide +kernel
theorem dX9_rankOf_80 : decode cX9_rankOf 80 = .ok (.iaload, 1) := by decide +kernel
theorem dX9_rankOf_81 : decode cX9_rankOf 81 = .ok (.ireturn, 1) := by decide +kernel
set_option maxRecDepth 20000 in
theorem ggX9_rank_X9_right : GoodIn wsX9_rank wsX9_right := goodIn_r _ [8, 1, 23, 24, 25, 26, 27, 28, 29, 30, 31, 32, 33, 34, 35, 36, 37, 38, 39, 40, 41, 42, 43, 44, 45, 46] (by decide +kernel) (by decide +kernel)
set_option maxRecDepth 20000 in
theorem gX9_rank_X9_right : GoodIn wsX9_rank (wsV RX9 69 RX9 yX9_right wsX9_right) := goodIn_app (goodIn_of _ (by decide +kernel)) ggX9_rank_X9_right
set_option maxRecDepth 20000 in
theorem ggX9_rank_X9_colourOf : GoodIn wsX9_rank wsX9_colourOf := goodIn_r _ [12, 13, 14, 23, 24, 25, 26, 27, 28, 29, 30, 31, 32, 33, 34, 35, 36, 37, 38, 39, 40, 41, 42, 43, 44, 45, 46] (by decide +kernel) (by decide +kernel)
set_option maxRecDepth 20000 in
theorem gX9_rank_X9_colourOf : GoodIn wsX9_rank (wsV RX9 114 RX9 yX9_colourOf wsX9_colourOf) := goodIn_app (goodIn_of _ (by decide +kernel)) ggX9_rank_X9_colourOf
set_option maxRecDepth 20000 in
theorem ggX9_rank_X9_rankOf : GoodIn wsX9_rank wsX9_rankOf := goodIn_r _ [18, 19, 20, 21, 22, 23, 24, 25, 26, 27, 28, 29, 30, 31, 32, 33, 34, 35, 36, 37, 38, 39, 40, 41, 42, 43, 44, 45, 46] (by decide +kernel) (by decide +kernel)
set_option maxRecDepth 20000 in
theorem gX9_rank_X9_rankOf : GoodIn wsX9_rank (wsV RX9 162 RX9 yX9_rankOf wsX9_rankOf) := goodIn_app (goodIn_of _ (by decide +kernel)) ggX9_rank_X9_rankOf
theorem dX9_rank_0 : decode cX9_rank 0 = .ok (.aload_n 0, 1) := by decide +kernel
theorem dX9_rank_1 : decode cX9_rank 1 = .ok (.iconst 0, 1) := by decide +kernel
theorem dX9_rank_2 : decode cX9_rank 2 = .ok (.putfield 66, 3) := by decide +kernel
theorem dX9_rank_5 : decode cX9_rank 5 = .ok (.aload_n 0, 1) := by decide +kernel
theorem dX9_rank_6 : decode cX9_rank 6 = .ok (.iload_n 1, 1) := by decide +kernel
theorem dX9_rank_7 : decode cX9_rank 7 = .ok (.ifCond .lt 14, 3) := by decide +kernel
theorem dX9_rank_10 : decode cX9_rank 10 = .ok (.iload_n 1, 1) := by decide +kernel
theorem dX9_rank_11 : decode cX9_rank 11 = .ok (.sipush 9999, 3) := by decide +kernel
theorem dX9_rank_14 : decode cX9_rank 14 = .ok (.if_icmp .gt 7, 3) := by decide +kernel
theorem dX9_rank_17 : decode cX9_rank 17 = .ok (.iconst 1, 1) := by decide +kernel
theorem dX9_rank_18 : decode cX9_rank 18 = .ok (.goto 4, 3) := by decide +kernel
theorem dX9_rank_21 : decode cX9_rank 21 = .ok (.iconst 0, 1) := by decide +kernel
theorem dX9_rank_22 : decode cX9_rank 22 = .ok (.iconst 1, 1) := by decide +kernel
theorem dX9_rank_23 : decode cX9_rank 23 = .ok (.invokevirtual 69, 3) := by decide +kernel
theorem dX9_rank_26 : decode cX9_rank 26 = .ok (.ifCond .ne 5, 3) := by decide +kernel
theorem dX9_rank_29 : decode cX9_rank 29 = .ok (.iconst 0, 1) := by decide +kernel
theorem dX9_rank_30 : decode cX9_rank 30 = .ok (.ireturn, 1) := by decide +kernel
theorem dX9_rank_31 : decode cX9_rank 31 = .ok (.iconst 0, 1) := by decide +kernel
theorem dX9_rank_32 : decode cX9_rank 32 = .ok (.istore_n 2, 1) := by decide +kernel
theorem dX9_rank_33 : decode cX9_rank 33 = .ok (.iconst 0, 1) := by decide +kernel
theorem dX9_rank_34 : decode cX9_rank 34 = .ok (.istore_n 3, 1) := by decide +kernel
theorem dX9_rank_35 : decode cX9_rank 35 = .ok (.iload_n 3, 1) := by decide +kernel
theorem dX9_rank_36 : decode cX9_rank 36 = .ok (.aload_n 0, 1) := by decide +kernel
theorem dX9_rank_37 : decode cX9_rank 37 = .ok (.getfield 7, 3) := by decide +kernel
theorem dX9_rank_40 : decode cX9_rank 40 = .ok (.if_icmp .ge 54, 3) := by decide +kernel
theorem dX9_rank_43 : decode cX9_rank 43 = .ok (.iconst 0, 1) := by decide +kernel
theorem dX9_rank_44 : decode cX9_rank 44 = .ok (.istore 4, 2) := by decide +kernel
theorem dX9_rank_46 : decode cX9_rank 46 = .ok (.iload 4, 2) := by decide +kernel
theorem dX9_rank_48 : decode cX9_rank 48 = .ok (.aload_n 0, 1) := by decide +kernel
theorem dX9_rank_49 : decode cX9_rank 49 = .ok (.getfield 13, 3) := by decide +kernel
theorem dX9_rank_52 : decode cX9_rank 52 = .ok (.if_icmp .ge 36, 3) := by decide +kernel
theorem dX9_rank_55 : decode cX9_rank 55 = .ok (.aload_n 0, 1) := by decide +kernel
theorem dX9_rank_56 : decode cX9_rank 56 = .ok (.aload_n 0, 1) := by decide +kernel
theorem dX9_rank_57 : decode cX9_rank 57 = .ok (.iload_n 3, 1) := by decide +kernel
theorem dX9_rank_58 : decode cX9_rank 58 = .ok (.iload 4, 2) := by decide +kernel
theorem dX9_rank_60 : decode cX9_rank 60 = .ok (.invokevirtual 114, 3) := by decide +kernel
theorem dX9_rank_63 : decode cX9_rank 63 = .ok (.iload_n 1, 1) := by decide +kernel
theorem dX9_rank_64 : decode cX9_rank 64 = .ok (.invokevirtual 162, 3) := by decide +kernel
theorem dX9_rank_67 : decode cX9_rank 67 = .ok (.istore 5, 2) := by decide +kernel
theorem dX9_rank_69 : decode cX9_rank 69 = .ok (.iload 5, 2) := by decide +kernel
theorem dX9_rank_71 : decode cX9_rank 71 = .ok (.iload_n 2, 1) := by decide +kernel
theorem dX9_rank_72 : decode cX9_rank 72 = .ok (.if_icmp .le 8, 3) := by decide +kernel
theorem dX9_rank_75 : decode cX9_rank 75 = .ok (.iload 5, 2) := by decide +kernel
theorem dX9_rank_77 : decode cX9_rank 77 = .ok (.goto 4, 3) := by decide +kernel
theorem dX9_rank_80 : decode cX9_rank 80 = .ok (.iload_n 2, 1) := by decide +kernel
theorem dX9_rank_81 : decode cX9_rank 81 = .ok (.istore_n 2, 1) := by decide +kernel
theorem dX9_rank_82 : decode cX9_rank 82 = .ok (.iinc 4 1, 3) := by decide +kernel
theorem dX9_rank_85 : decode cX9_rank 85 = .ok (.goto (-39), 3) := by decide +kernel
theorem dX9_rank_88 : decode cX9_rank 88 = .ok (.iinc 3 1, 3) := by decide +kernel
theorem dX9_rank_91 : decode cX9_rank 91 = .ok (.goto (-56), 3) := by decide +kernel
theorem dX9_rank_94 : decode cX9_rank 94 = .ok (.iload_n 2, 1) := by decide +kernel
theorem dX9_rank_95 : decode cX9_rank 95 = .ok (.ireturn, 1) := by decide +kernel
theorem dX9_strengthOf_0 : decode cX9_strengthOf 0 = .ok (.aload_n 0, 1) := by decide +kernel
theorem dX9_strengthOf_1 : decode cX9_strengthOf 1 = .ok (.getfield 26, 3) := by decide +kernel
theorem dX9_strengthOf_4 : decode cX9_strengthOf 4 = .ok (.iload_n 1, 1) := by decide +kernel
theorem dX9_strengthOf_5 : decode cX9_strengthOf 5 = .ok (.iconst 4, 1) := by decide +kernel
theorem dX9_strengthOf_6 : decode cX9_strengthOf 6 = .ok (.isub, 1) := by decide +kernel
theorem dX9_strengthOf_7 : decode cX9_strengthOf 7 = .ok (.iaload, 1) := by decide +kernel
theorem dX9_strengthOf_8 : decode cX9_strengthOf 8 = .ok (.ireturn, 1) := by decide +kernel
set_option maxRecDepth 20000 in
theorem ggX9_count_X9_right : GoodIn wsX9_count wsX9_right := goodIn_r _ [10, 1, 21, 22, 23, 24, 25, 26, 27, 28, 29, 30, 31, 32, 33, 34, 35, 36, 37, 38, 39, 40, 41, 42, 43, 44] (by decide +kernel) (by decide +kernel)
set_option maxRecDepth 20000 in
theorem gX9_count_X9_right : GoodIn wsX9_count (wsV RX9 69 RX9 yX9_right wsX9_right) := goodIn_app (goodIn_of _ (by decide +kernel)) ggX9_count_X9_right
set_option maxRecDepth 20000 in
theorem ggX9_count_X9_many : GoodIn wsX9_count wsX9_many := goodIn_r _ [14, 2, 15, 21, 22, 23, 24, 25, 26, 27, 28, 29, 30, 31, 32, 33, 34, 35, 36, 37, 38, 39, 40, 41, 42, 43, 44] (by decide +kernel) (by decide +kernel)
set_option maxRecDepth 20000 in
theorem gX9_count_X9_many : GoodIn wsX9_count (wsV RX9 99 RX9 yX9_many wsX9_many) := goodIn_app (goodIn_of _ (by decide +kernel)) ggX9_count_X9_many
set_option maxRecDepth 20000 in
theorem ggX9_count_X9_strengthOf : GoodIn wsX9_count wsX9_strengthOf := goodIn_r _ [19, 20, 21, 22, 23, 24, 25, 26, 27, 28, 29, 30, 31, 32, 33, 34, 35, 36, 37, 38, 39, 40, 41, 42, 43, 44] (by decide +kernel) (by decide +kernel)
set_option maxRecDepth 20000 in
theorem gX9_count_X9_strengthOf : GoodIn wsX9_count (wsV RX9 165 RX9 yX9_strengthOf wsX9_strengthOf) := goodIn_app (goodIn_of _ (by decide +kernel)) ggX9_count_X9_strengthOf
theorem dX9_count_0 : decode cX9_count 0 = .ok (.aload_n 0, 1) := by decide +kernel
theorem dX9_count_1 : decode cX9_count 1 = .ok (.iconst 0, 1) := by decide +kernel
theorem dX9_count_2 : decode cX9_count 2 = .ok (.putfield 66, 3) := by decide +kernel
theorem dX9_count_5 : decode cX9_count 5 = .ok (.aload_n 0, 1) := by decide +kernel
theorem dX9_count_6 : decode cX9_count 6 = .ok (.iload_n 1, 1) := by decide +kernel
theorem dX9_count_7 : decode cX9_count 7 = .ok (.ifCond .lt 13, 3) := by decide +kernel
theorem dX9_count_10 : decode cX9_count 10 = .ok (.iload_n 1, 1) := by decide +kernel
theorem dX9_count_11 : decode cX9_count 11 = .ok (.bipush 15, 2) := by decide +kernel
theorem dX9_count_13 : decode cX9_count 13 = .ok (.if_icmp .gt 7, 3) := by decide +kernel
theorem dX9_count_16 : decode cX9_count 16 = .ok (.iconst 1, 1) := by decide +kernel
theorem dX9_count_17 : decode cX9_count 17 = .ok (.goto 4, 3) := by decide +kernel
theorem dX9_count_20 : decode cX9_count 20 = .ok (.iconst 0, 1) := by decide +kernel
theorem dX9_count_21 : decode cX9_count 21 = .ok (.iconst 1, 1) := by decide +kernel
theorem dX9_count_22 : decode cX9_count 22 = .ok (.invokevirtual 69, 3) := by decide +kernel
theorem dX9_count_25 : decode cX9_count 25 = .ok (.ifCond .ne 5, 3) := by decide +kernel
theorem dX9_count_28 : decode cX9_count 28 = .ok (.iconst 0, 1) := by decide +kernel
theorem dX9_count_29 : decode cX9_count 29 = .ok (.ireturn, 1) := by decide +kernel
theorem dX9_count_30 : decode cX9_count 30 = .ok (.iload_n 1, 1) := by decide +kernel
theorem dX9_count_31 : decode cX9_count 31 = .ok (.bipush 8, 2) := by decide +kernel
theorem dX9_count_33 : decode cX9_count 33 = .ok (.if_icmp .lt 12, 3) := by decide +kernel
theorem dX9_count_36 : decode cX9_count 36 = .ok (.aload_n 0, 1) := by decide +kernel
theorem dX9_count_37 : decode cX9_count 37 = .ok (.iload_n 1, 1) := by decide +kernel
theorem dX9_count_38 : decode cX9_count 38 = .ok (.bipush 8, 2) := by decide +kernel
theorem dX9_count_40 : decode cX9_count 40 = .ok (.isub, 1) := by decide +kernel
theorem dX9_count_41 : decode cX9_count 41 = .ok (.invokevirtual 99, 3) := by decide +kernel
theorem dX9_count_44 : decode cX9_count 44 = .ok (.ireturn, 1) := by decide +kernel
theorem dX9_count_45 : decode cX9_count 45 = .ok (.iload_n 1, 1) := by decide +kernel
theorem dX9_count_46 : decode cX9_count 46 = .ok (.iconst 4, 1) := by decide +kernel
theorem dX9_count_47 : decode cX9_count 47 = .ok (.if_icmp .lt 9, 3) := by decide +kernel
theorem dX9_count_50 : decode cX9_count 50 = .ok (.aload_n 0, 1) := by decide +kernel
theorem dX9_count_51 : decode cX9_count 51 = .ok (.iload_n 1, 1) := by decide +kernel
theorem dX9_count_52 : decode cX9_count 52 = .ok (.invokevirtual 165, 3) := by decide +kernel
theorem dX9_count_55 : decode cX9_count 55 = .ok (.ireturn, 1) := by decide +kernel
theorem dX9_count_56 : decode cX9_count 56 = .ok (.iload_n 1, 1) := by decide +kernel
theorem dX9_count_57 : decode cX9_count 57 = .ok (.ifCond .ne 10, 3) := by decide +kernel
theorem dX9_count_60 : decode cX9_count 60 = .ok (.aload_n 0, 1) := by decide +kernel
theorem dX9_count_61 : decode cX9_count 61 = .ok (.getfield 7, 3) := by decide +kernel
theorem dX9_count_64 : decode cX9_count 64 = .ok (.goto 31, 3) := by decide +kernel
theorem dX9_count_67 : decode cX9_count 67 = .ok (.iload_n 1, 1) := by decide +kernel
theorem dX9_count_68 : decode cX9_count 68 = .ok (.iconst 1, 1) := by decide +kernel
theorem dX9_count_69 : decode cX9_count 69 = .ok (.if_icmp .ne 10, 3) := by decide +kernel
theorem dX9_count_72 : decode cX9_count 72 = .ok (.aload_n 0, 1) := by decide +kernel
theorem dX9_count_73 : decode cX9_count 73 = .ok (.getfield 13, 3) := by decide +kernel
theorem dX9_count_76 : decode cX9_count 76 = .ok (.goto 19, 3) := by decide +kernel
theorem dX9_count_79 : decode cX9_count 79 = .ok (.iload_n 1, 1) := by decide +kernel
theorem dX9_count_80 : decode cX9_count 80 = .ok (.iconst 2, 1) := by decide +kernel
theorem dX9_count_81 : decode cX9_count 81 = .ok (.if_icmp .ne 10, 3) := by decide +kernel
theorem dX9_count_84 : decode cX9_count 84 = .ok (.aload_n 0, 1) := by decide +kernel
theorem dX9_count_85 : decode cX9_count 85 = .ok (.getfield 103, 3) := by decide +kernel
theorem dX9_count_88 : decode cX9_count 88 = .ok (.goto 7, 3) := by decide +kernel
theorem dX9_count_91 : decode cX9_count 91 = .ok (.aload_n 0, 1) := by decide +kernel
theorem dX9_count_92 : decode cX9_count 92 = .ok (.getfield 159, 3) := by decide +kernel
theorem dX9_count_95 : decode cX9_count 95 = .ok (.ireturn, 1) := by decide +kernel
theorem dJ6_bitCount_0f7a4_0 : decode cJ6_bitCount_0f7a4 0 = .ok (.iload_n 0, 1) := by decide +kernel
theorem dJ6_bitCount_0f7a4_1 : decode cJ6_bitCount_0f7a4 1 = .ok (.iload_n 0, 1) := by decide +kernel
theorem dJ6_bitCount_0f7a4_2 : decode cJ6_bitCount_0f7a4 2 = .ok (.iconst 1, 1) := by decide +kernel
theorem dJ6_bitCount_0f7a4_3 : decode cJ6_bitCount_0f7a4 3 = .ok (.iushr, 1) := by decide +kernel
theorem dJ6_bitCount_0f7a4_4 : decode cJ6_bitCount_0f7a4 4 = .ok (.ldc_w 265, 3) := by decide +kernel
theorem dJ6_bitCount_0f7a4_7 : decode cJ6_bitCount_0f7a4 7 = .ok (.iand, 1) := by decide +kernel
theorem dJ6_bitCount_0f7a4_8 : decode cJ6_bitCount_0f7a4 8 = .ok (.isub, 1) := by decide +kernel
theorem dJ6_bitCount_0f7a4_9 : decode cJ6_bitCount_0f7a4 9 = .ok (.istore_n 0, 1) := by decide +kernel
theorem dJ6_bitCount_0f7a4_10 : decode cJ6_bitCount_0f7a4 10 = .ok (.iload_n 0, 1) := by decide +kernel
theorem dJ6_bitCount_0f7a4_11 : decode cJ6_bitCount_0f7a4 11 = .ok (.ldc_w 266, 3) := by decide +kernel
theorem dJ6_bitCount_0f7a4_14 : decode cJ6_bitCount_0f7a4 14 = .ok (.iand, 1) := by decide +kernel
theorem dJ6_bitCount_0f7a4_15 : decode cJ6_bitCount_0f7a4 15 = .ok (.iload_n 0, 1) := by decide +kernel
theorem dJ6_bitCount_0f7a4_16 : decode cJ6_bitCount_0f7a4 16 = .ok (.iconst 2, 1) := by decide +kernel
theorem dJ6_bitCount_0f7a4_17 : decode cJ6_bitCount_0f7a4 17 = .ok (.iushr, 1) := by decide +kernel
theorem dJ6_bitCount_0f7a4_18 : decode cJ6_bitCount_0f7a4 18 = .ok (.ldc_w 266, 3) := by decide +kernel
theorem dJ6_bitCount_0f7a4_21 : decode cJ6_bitCount_0f7a4 21 = .ok (.iand, 1) := by decide +kernel
theorem dJ6_bitCount_0f7a4_22 : decode cJ6_bitCount_0f7a4 22 = .ok (.iadd, 1) := by decide +kernel
theorem dJ6_bitCount_0f7a4_23 : decode cJ6_bitCount_0f7a4 23 = .ok (.istore_n 0, 1) := by decide +kernel
theorem dJ6_bitCount_0f7a4_24 : decode cJ6_bitCount_0f7a4 24 = .ok (.iload_n 0, 1) := by decide +kernel
theorem dJ6_bitCount_0f7a4_25 : decode cJ6_bitCount_0f7a4 25 = .ok (.iload_n 0, 1) := by decide +kernel
theorem dJ6_bitCount_0f7a4_26 : decode cJ6_bitCount_0f7a4 26 = .ok (.iconst 4, 1) := by decide +kernel
theorem dJ6_bitCount_0f7a4_27 : decode cJ6_bitCount_0f7a4 27 = .ok (.iushr, 1) := by decide +kernel
theorem dJ6_bitCount_0f7a4_28 : decode cJ6_bitCount_0f7a4 28 = .ok (.iadd, 1) := by decide +kernel
theorem dJ6_bitCount_0f7a4_29 : decode cJ6_bitCount_0f7a4 29 = .ok (.ldc_w 267, 3) := by decide +kernel
theorem dJ6_bitCount_0f7a4_32 : decode cJ6_bitCount_0f7a4 32 = .ok (.iand, 1) := by decide +kernel
theorem dJ6_bitCount_0f7a4_33 : decode cJ6_bitCount_0f7a4 33 = .ok (.istore_n 0, 1) := by decide +kernel
theorem dJ6_bitCount_0f7a4_34 : decode cJ6_bitCount_0f7a4 34 = .ok (.iload_n 0, 1) := by decide +kernel
theorem dJ6_bitCount_0f7a4_35 : decode cJ6_bitCount_0f7a4 35 = .ok (.iload_n 0, 1) := by decide +kernel
theorem dJ6_bitCount_0f7a4_36 : decode cJ6_bitCount_0f7a4 36 = .ok (.bipush 8, 2) := by decide +kernel
theorem dJ6_bitCount_0f7a4_38 : decode cJ6_bitCount_0f7a4 38 = .ok (.iushr, 1) := by decide +kernel
theorem dJ6_bitCount_0f7a4_39 : decode cJ6_bitCount_0f7a4 39 = .ok (.iadd, 1) := by decide +kernel
theorem dJ6_bitCount_0f7a4_40 : decode cJ6_bitCount_0f7a4 40 = .ok (.istore_n 0, 1) := by decide +kernel
theorem dJ6_bitCount_0f7a4_41 : decode cJ6_bitCount_0f7a4 41 = .ok (.iload_n 0, 1) := by decide +kernel
theorem dJ6_bitCount_0f7a4_42 : decode cJ6_bitCount_0f7a4 42 = .ok (.iload_n 0, 1) := by decide +kernel
theorem dJ6_bitCount_0f7a4_43 : decode cJ6_bitCount_0f7a4 43 = .ok (.bipush 16, 2) := by decide +kernel
theorem dJ6_bitCount_0f7a4_45 : decode cJ6_bitCount_0f7a4 45 = .ok (.iushr, 1) := by decide +kernel
theorem dJ6_bitCount_0f7a4_46 : decode cJ6_bitCount_0f7a4 46 = .ok (.iadd, 1) := by decide +kernel
theorem dJ6_bitCount_0f7a4_47 : decode cJ6_bitCount_0f7a4 47 = .ok (.istore_n 0, 1) := by decide +kernel
theorem dJ6_bitCount_0f7a4_48 : decode cJ6_bitCount_0f7a4 48 = .ok (.iload_n 0, 1) := by decide +kernel
theorem dJ6_bitCount_0f7a4_49 : decode cJ6_bitCount_0f7a4 49 = .ok (.bipush 63, 2) := by decide +kernel
theorem dJ6_bitCount_0f7a4_51 : decode cJ6_bitCount_0f7a4 51 = .ok (.iand, 1) := by decide +kernel
theorem dJ6_bitCount_0f7a4_52 : decode cJ6_bitCount_0f7a4 52 = .ok (.ireturn, 1) := by decide +kernel
theorem dJ9_max_7cf53_0 : decode cJ9_max_7cf53 0 = .ok (.iload_n 0, 1) := by decide +kernel
theorem dJ9_max_7cf53_1 : decode cJ9_max_7cf53 1 = .ok (.iload_n 1, 1) := by decide +kernel
theorem dJ9_max_7cf53_2 : decode cJ9_max_7cf53 2 = .ok (.if_icmp .lt 7, 3) := by decide +kernel
theorem dJ9_max_7cf53_5 : decode cJ9_max_7cf53 5 = .ok (.iload_n 0, 1) := by decide +kernel
theorem dJ9_max_7cf53_6 : decode cJ9_max_7cf53 6 = .ok (.goto 4, 3) := by decide +kernel
theorem dJ9_max_7cf53_9 : decode cJ9_max_7cf53 9 = .ok (.iload_n 1, 1) := by decide +kernel
theorem dJ9_max_7cf53_10 : decode cJ9_max_7cf53 10 = .ok (.ireturn, 1) := by decide +kernel
