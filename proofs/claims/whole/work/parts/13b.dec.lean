theorem dX5_aimAt_123 : decode cX5_aimAt 123 = .ok (.iload 7, 2) := by decide +kernel
theorem dX5_aimAt_125 : decode cX5_aimAt 125 = .ok (.iaload, 1) := by decide +kernel
theorem dX5_aimAt_126 : decode cX5_aimAt 126 = .ok (.iconst (-1), 1) := by decide +kernel
theorem dX5_aimAt_127 : decode cX5_aimAt 127 = .ok (.if_icmp .eq 20, 3) := by decide +kernel
theorem dX5_aimAt_130 : decode cX5_aimAt 130 = .ok (.aload_n 0, 1) := by decide +kernel
theorem dX5_aimAt_131 : decode cX5_aimAt 131 = .ok (.getfield 17, 3) := by decide +kernel
theorem dX5_aimAt_134 : decode cX5_aimAt 134 = .ok (.iload 4, 2) := by decide +kernel
theorem dX5_aimAt_136 : decode cX5_aimAt 136 = .ok (.aaload, 1) := by decide +kernel
theorem dX5_aimAt_137 : decode cX5_aimAt 137 = .ok (.iload 7, 2) := by decide +kernel
theorem dX5_aimAt_139 : decode cX5_aimAt 139 = .ok (.iaload, 1) := by decide +kernel
theorem dX5_aimAt_140 : decode cX5_aimAt 140 = .ok (.iload 6, 2) := by decide +kernel
theorem dX5_aimAt_142 : decode cX5_aimAt 142 = .ok (.if_icmp .eq 5, 3) := by decide +kernel
theorem dX5_aimAt_145 : decode cX5_aimAt 145 = .ok (.iconst 0, 1) := by decide +kernel
theorem dX5_aimAt_146 : decode cX5_aimAt 146 = .ok (.ireturn, 1) := by decide +kernel
theorem dX5_aimAt_147 : decode cX5_aimAt 147 = .ok (.aload_n 0, 1) := by decide +kernel
theorem dX5_aimAt_148 : decode cX5_aimAt 148 = .ok (.getfield 17, 3) := by decide +kernel
theorem dX5_aimAt_151 : decode cX5_aimAt 151 = .ok (.iload 4, 2) := by decide +kernel
theorem dX5_aimAt_153 : decode cX5_aimAt 153 = .ok (.aaload, 1) := by decide +kernel
theorem dX5_aimAt_154 : decode cX5_aimAt 154 = .ok (.iload 7, 2) := by decide +kernel
theorem dX5_aimAt_156 : decode cX5_aimAt 156 = .ok (.iload 6, 2) := by decide +kernel
theorem dX5_aimAt_158 : decode cX5_aimAt 158 = .ok (.iastore, 1) := by decide +kernel
theorem dX5_aimAt_159 : decode cX5_aimAt 159 = .ok (.aload_n 0, 1) := by decide +kernel
theorem dX5_aimAt_160 : decode cX5_aimAt 160 = .ok (.dup, 1) := by decide +kernel
theorem dX5_aimAt_161 : decode cX5_aimAt 161 = .ok (.getfield 20, 3) := by decide +kernel
theorem dX5_aimAt_164 : decode cX5_aimAt 164 = .ok (.iconst 1, 1) := by decide +kernel
theorem dX5_aimAt_165 : decode cX5_aimAt 165 = .ok (.iload 6, 2) := by decide +kernel
theorem dX5_aimAt_167 : decode cX5_aimAt 167 = .ok (.ishl, 1) := by decide +kernel
theorem dX5_aimAt_168 : decode cX5_aimAt 168 = .ok (.ior, 1) := by decide +kernel
theorem dX5_aimAt_169 : decode cX5_aimAt 169 = .ok (.putfield 20, 3) := by decide +kernel
theorem dX5_aimAt_172 : decode cX5_aimAt 172 = .ok (.iinc 5 1, 3) := by decide +kernel
theorem dX5_aimAt_175 : decode cX5_aimAt 175 = .ok (.goto (-87), 3) := by decide +kernel
theorem dX5_aimAt_178 : decode cX5_aimAt 178 = .ok (.iinc 3 1, 3) := by decide +kernel
theorem dX5_aimAt_181 : decode cX5_aimAt 181 = .ok (.goto (-111), 3) := by decide +kernel
theorem dX5_aimAt_184 : decode cX5_aimAt 184 = .ok (.iconst 1, 1) := by decide +kernel
theorem dX5_aimAt_185 : decode cX5_aimAt 185 = .ok (.ireturn, 1) := by decide +kernel
set_option maxRecDepth 20000 in
theorem ggX5_tryRow_X8_bathsOf : GoodIn wsX5_tryRow wsX8_bathsOf := goodIn_r _ [5, 6, 7, 4, 8] (by decide +kernel) (by decide +kernel)
set_option maxRecDepth 20000 in
theorem gX5_tryRow_X8_bathsOf_n73 : GoodIn wsX5_tryRow (wsX8_bathsOf) := ggX5_tryRow_X8_bathsOf
set_option maxRecDepth 20000 in
theorem ggX5_tryRow_X8_dyeOf : GoodIn wsX5_tryRow wsX8_dyeOf := goodIn_r _ [8] (by decide +kernel) (by decide +kernel)
set_option maxRecDepth 20000 in
theorem gX5_tryRow_X8_dyeOf_n76 : GoodIn wsX5_tryRow (wsX8_dyeOf) := ggX5_tryRow_X8_dyeOf
set_option maxRecDepth 20000 in
theorem ggX5_tryRow_X2_comesOf : GoodIn wsX5_tryRow wsX2_comesOf := goodIn_r _ [13, 14, 36] (by decide +kernel) (by decide +kernel)
set_option maxRecDepth 20000 in
theorem gX5_tryRow_X2_comesOf : GoodIn wsX5_tryRow (wsV RX5 79 RX2 yX2_comesOf wsX2_comesOf) := goodIn_app (goodIn_of _ (by decide +kernel)) ggX5_tryRow_X2_comesOf
set_option maxRecDepth 20000 in
theorem ggX5_tryRow_X5_gatherWays : GoodIn wsX5_tryRow wsX5_gatherWays := goodIn_r _ [19, 20, 21, 2, 22, 23, 24, 18, 25, 26, 27, 28, 29, 30, 31, 32, 33, 34, 35] (by decide +kernel) (by decide +kernel)
set_option maxRecDepth 20000 in
theorem gX5_tryRow_X5_gatherWays : GoodIn wsX5_tryRow (wsV RX5 84 RX5 yX5_gatherWays wsX5_gatherWays) := goodIn_app (goodIn_of _ (by decide +kernel)) ggX5_tryRow_X5_gatherWays
theorem dX5_tryRow_0 : decode cX5_tryRow 0 = .ok (.aload_n 0, 1) := by decide +kernel
theorem dX5_tryRow_1 : decode cX5_tryRow 1 = .ok (.iload_n 1, 1) := by decide +kernel
theorem dX5_tryRow_2 : decode cX5_tryRow 2 = .ok (.putfield 24, 3) := by decide +kernel
theorem dX5_tryRow_5 : decode cX5_tryRow 5 = .ok (.aload_n 0, 1) := by decide +kernel
theorem dX5_tryRow_6 : decode cX5_tryRow 6 = .ok (.getfield 24, 3) := by decide +kernel
theorem dX5_tryRow_9 : decode cX5_tryRow 9 = .ok (.invokestatic 73, 3) := by decide +kernel
theorem dX5_tryRow_12 : decode cX5_tryRow 12 = .ok (.istore_n 3, 1) := by decide +kernel
theorem dX5_tryRow_13 : decode cX5_tryRow 13 = .ok (.aload_n 0, 1) := by decide +kernel
theorem dX5_tryRow_14 : decode cX5_tryRow 14 = .ok (.getfield 27, 3) := by decide +kernel
theorem dX5_tryRow_17 : decode cX5_tryRow 17 = .ok (.iconst 0, 1) := by decide +kernel
theorem dX5_tryRow_18 : decode cX5_tryRow 18 = .ok (.iconst 0, 1) := by decide +kernel
theorem dX5_tryRow_19 : decode cX5_tryRow 19 = .ok (.iastore, 1) := by decide +kernel
theorem dX5_tryRow_20 : decode cX5_tryRow 20 = .ok (.iconst 0, 1) := by decide +kernel
theorem dX5_tryRow_21 : decode cX5_tryRow 21 = .ok (.istore 4, 2) := by decide +kernel
theorem dX5_tryRow_23 : decode cX5_tryRow 23 = .ok (.iload 4, 2) := by decide +kernel
theorem dX5_tryRow_25 : decode cX5_tryRow 25 = .ok (.iload_n 3, 1) := by decide +kernel
theorem dX5_tryRow_26 : decode cX5_tryRow 26 = .ok (.if_icmp .ge 79, 3) := by decide +kernel
theorem dX5_tryRow_29 : decode cX5_tryRow 29 = .ok (.iconst 1, 1) := by decide +kernel
theorem dX5_tryRow_30 : decode cX5_tryRow 30 = .ok (.iload 4, 2) := by decide +kernel
theorem dX5_tryRow_32 : decode cX5_tryRow 32 = .ok (.ishl, 1) := by decide +kernel
theorem dX5_tryRow_33 : decode cX5_tryRow 33 = .ok (.istore 5, 2) := by decide +kernel
theorem dX5_tryRow_35 : decode cX5_tryRow 35 = .ok (.aload_n 0, 1) := by decide +kernel
theorem dX5_tryRow_36 : decode cX5_tryRow 36 = .ok (.getfield 24, 3) := by decide +kernel
theorem dX5_tryRow_39 : decode cX5_tryRow 39 = .ok (.iload 4, 2) := by decide +kernel
theorem dX5_tryRow_41 : decode cX5_tryRow 41 = .ok (.invokestatic 76, 3) := by decide +kernel
theorem dX5_tryRow_44 : decode cX5_tryRow 44 = .ok (.istore 6, 2) := by decide +kernel
theorem dX5_tryRow_46 : decode cX5_tryRow 46 = .ok (.iconst 0, 1) := by decide +kernel
theorem dX5_tryRow_47 : decode cX5_tryRow 47 = .ok (.istore 7, 2) := by decide +kernel
theorem dX5_tryRow_49 : decode cX5_tryRow 49 = .ok (.iload 7, 2) := by decide +kernel
theorem dX5_tryRow_51 : decode cX5_tryRow 51 = .ok (.iload 5, 2) := by decide +kernel
theorem dX5_tryRow_53 : decode cX5_tryRow 53 = .ok (.if_icmp .ge 46, 3) := by decide +kernel
theorem dX5_tryRow_56 : decode cX5_tryRow 56 = .ok (.aload_n 0, 1) := by decide +kernel
theorem dX5_tryRow_57 : decode cX5_tryRow 57 = .ok (.getfield 27, 3) := by decide +kernel
theorem dX5_tryRow_60 : decode cX5_tryRow 60 = .ok (.iload 7, 2) := by decide +kernel
theorem dX5_tryRow_62 : decode cX5_tryRow 62 = .ok (.iload 5, 2) := by decide +kernel
theorem dX5_tryRow_64 : decode cX5_tryRow 64 = .ok (.ior, 1) := by decide +kernel
theorem dX5_tryRow_65 : decode cX5_tryRow 65 = .ok (.aload_n 0, 1) := by decide +kernel
theorem dX5_tryRow_66 : decode cX5_tryRow 66 = .ok (.getfield 27, 3) := by decide +kernel
theorem dX5_tryRow_69 : decode cX5_tryRow 69 = .ok (.iload 7, 2) := by decide +kernel
theorem dX5_tryRow_71 : decode cX5_tryRow 71 = .ok (.iaload, 1) := by decide +kernel
theorem dX5_tryRow_72 : decode cX5_tryRow 72 = .ok (.iastore, 1) := by decide +kernel
theorem dX5_tryRow_73 : decode cX5_tryRow 73 = .ok (.aload_n 0, 1) := by decide +kernel
theorem dX5_tryRow_74 : decode cX5_tryRow 74 = .ok (.getfield 27, 3) := by decide +kernel
theorem dX5_tryRow_77 : decode cX5_tryRow 77 = .ok (.iload 7, 2) := by decide +kernel
theorem dX5_tryRow_79 : decode cX5_tryRow 79 = .ok (.aload_n 2, 1) := by decide +kernel
theorem dX5_tryRow_80 : decode cX5_tryRow 80 = .ok (.aload_n 0, 1) := by decide +kernel
theorem dX5_tryRow_81 : decode cX5_tryRow 81 = .ok (.getfield 27, 3) := by decide +kernel
theorem dX5_tryRow_84 : decode cX5_tryRow 84 = .ok (.iload 7, 2) := by decide +kernel
theorem dX5_tryRow_86 : decode cX5_tryRow 86 = .ok (.iaload, 1) := by decide +kernel
theorem dX5_tryRow_87 : decode cX5_tryRow 87 = .ok (.iload 6, 2) := by decide +kernel
theorem dX5_tryRow_89 : decode cX5_tryRow 89 = .ok (.invokevirtual 79, 3) := by decide +kernel
theorem dX5_tryRow_92 : decode cX5_tryRow 92 = .ok (.iastore, 1) := by decide +kernel
theorem dX5_tryRow_93 : decode cX5_tryRow 93 = .ok (.iinc 7 1, 3) := by decide +kernel
theorem dX5_tryRow_96 : decode cX5_tryRow 96 = .ok (.goto (-47), 3) := by decide +kernel
theorem dX5_tryRow_99 : decode cX5_tryRow 99 = .ok (.iinc 4 1, 3) := by decide +kernel
theorem dX5_tryRow_102 : decode cX5_tryRow 102 = .ok (.goto (-79), 3) := by decide +kernel
theorem dX5_tryRow_105 : decode cX5_tryRow 105 = .ok (.aload_n 0, 1) := by decide +kernel
theorem dX5_tryRow_106 : decode cX5_tryRow 106 = .ok (.iconst 1, 1) := by decide +kernel
theorem dX5_tryRow_107 : decode cX5_tryRow 107 = .ok (.iload_n 3, 1) := by decide +kernel
theorem dX5_tryRow_108 : decode cX5_tryRow 108 = .ok (.ishl, 1) := by decide +kernel
theorem dX5_tryRow_109 : decode cX5_tryRow 109 = .ok (.invokevirtual 84, 3) := by decide +kernel
theorem dX5_tryRow_112 : decode cX5_tryRow 112 = .ok (.ireturn, 1) := by decide +kernel
set_option maxRecDepth 20000 in
theorem ggX5_gatherWays_X5_freshOf : GoodIn wsX5_gatherWays wsX5_freshOf := goodIn_r _ [8] (by decide +kernel) (by decide +kernel)
set_option maxRecDepth 20000 in
theorem gX5_gatherWays_X5_freshOf : GoodIn wsX5_gatherWays (va_wsS RX5 88 yX5_freshOf wsX5_freshOf) := goodIn_app (goodIn_of _ (by decide +kernel)) ggX5_gatherWays_X5_freshOf
theorem dX5_gatherWays_0 : decode cX5_gatherWays 0 = .ok (.iconst 0, 1) := by decide +kernel
theorem dX5_gatherWays_1 : decode cX5_gatherWays 1 = .ok (.istore_n 2, 1) := by decide +kernel
theorem dX5_gatherWays_2 : decode cX5_gatherWays 2 = .ok (.iload_n 2, 1) := by decide +kernel
theorem dX5_gatherWays_3 : decode cX5_gatherWays 3 = .ok (.bipush 16, 2) := by decide +kernel
theorem dX5_gatherWays_5 : decode cX5_gatherWays 5 = .ok (.if_icmp .ge 23, 3) := by decide +kernel
theorem dX5_gatherWays_8 : decode cX5_gatherWays 8 = .ok (.aload_n 0, 1) := by decide +kernel
theorem dX5_gatherWays_9 : decode cX5_gatherWays 9 = .ok (.getfield 30, 3) := by decide +kernel
theorem dX5_gatherWays_12 : decode cX5_gatherWays 12 = .ok (.iload_n 2, 1) := by decide +kernel
theorem dX5_gatherWays_13 : decode cX5_gatherWays 13 = .ok (.iconst 0, 1) := by decide +kernel
theorem dX5_gatherWays_14 : decode cX5_gatherWays 14 = .ok (.iastore, 1) := by decide +kernel
theorem dX5_gatherWays_15 : decode cX5_gatherWays 15 = .ok (.aload_n 0, 1) := by decide +kernel
theorem dX5_gatherWays_16 : decode cX5_gatherWays 16 = .ok (.getfield 33, 3) := by decide +kernel
theorem dX5_gatherWays_19 : decode cX5_gatherWays 19 = .ok (.iload_n 2, 1) := by decide +kernel
theorem dX5_gatherWays_20 : decode cX5_gatherWays 20 = .ok (.iconst 0, 1) := by decide +kernel
theorem dX5_gatherWays_21 : decode cX5_gatherWays 21 = .ok (.iastore, 1) := by decide +kernel
theorem dX5_gatherWays_22 : decode cX5_gatherWays 22 = .ok (.iinc 2 1, 3) := by decide +kernel
theorem dX5_gatherWays_25 : decode cX5_gatherWays 25 = .ok (.goto (-23), 3) := by decide +kernel
theorem dX5_gatherWays_28 : decode cX5_gatherWays 28 = .ok (.iconst 0, 1) := by decide +kernel
theorem dX5_gatherWays_29 : decode cX5_gatherWays 29 = .ok (.istore_n 2, 1) := by decide +kernel
theorem dX5_gatherWays_30 : decode cX5_gatherWays 30 = .ok (.iconst 0, 1) := by decide +kernel
theorem dX5_gatherWays_31 : decode cX5_gatherWays 31 = .ok (.istore_n 3, 1) := by decide +kernel
theorem dX5_gatherWays_32 : decode cX5_gatherWays 32 = .ok (.iload_n 3, 1) := by decide +kernel
theorem dX5_gatherWays_33 : decode cX5_gatherWays 33 = .ok (.iload_n 1, 1) := by decide +kernel
theorem dX5_gatherWays_34 : decode cX5_gatherWays 34 = .ok (.if_icmp .ge 53, 3) := by decide +kernel
theorem dX5_gatherWays_37 : decode cX5_gatherWays 37 = .ok (.aload_n 0, 1) := by decide +kernel
theorem dX5_gatherWays_38 : decode cX5_gatherWays 38 = .ok (.getfield 27, 3) := by decide +kernel
theorem dX5_gatherWays_41 : decode cX5_gatherWays 41 = .ok (.iload_n 3, 1) := by decide +kernel
theorem dX5_gatherWays_42 : decode cX5_gatherWays 42 = .ok (.iaload, 1) := by decide +kernel
theorem dX5_gatherWays_43 : decode cX5_gatherWays 43 = .ok (.istore 4, 2) := by decide +kernel
theorem dX5_gatherWays_45 : decode cX5_gatherWays 45 = .ok (.aload_n 0, 1) := by decide +kernel
theorem dX5_gatherWays_46 : decode cX5_gatherWays 46 = .ok (.getfield 30, 3) := by decide +kernel
theorem dX5_gatherWays_49 : decode cX5_gatherWays 49 = .ok (.iload 4, 2) := by decide +kernel
theorem dX5_gatherWays_51 : decode cX5_gatherWays 51 = .ok (.dup2, 1) := by decide +kernel
theorem dX5_gatherWays_52 : decode cX5_gatherWays 52 = .ok (.iaload, 1) := by decide +kernel
theorem dX5_gatherWays_53 : decode cX5_gatherWays 53 = .ok (.iconst 1, 1) := by decide +kernel
theorem dX5_gatherWays_54 : decode cX5_gatherWays 54 = .ok (.iload_n 3, 1) := by decide +kernel
theorem dX5_gatherWays_55 : decode cX5_gatherWays 55 = .ok (.ishl, 1) := by decide +kernel
theorem dX5_gatherWays_56 : decode cX5_gatherWays 56 = .ok (.ior, 1) := by decide +kernel
theorem dX5_gatherWays_57 : decode cX5_gatherWays 57 = .ok (.iastore, 1) := by decide +kernel
theorem dX5_gatherWays_58 : decode cX5_gatherWays 58 = .ok (.aload_n 0, 1) := by decide +kernel
theorem dX5_gatherWays_59 : decode cX5_gatherWays 59 = .ok (.getfield 33, 3) := by decide +kernel
theorem dX5_gatherWays_62 : decode cX5_gatherWays 62 = .ok (.iload 4, 2) := by decide +kernel
theorem dX5_gatherWays_64 : decode cX5_gatherWays 64 = .ok (.dup2, 1) := by decide +kernel
theorem dX5_gatherWays_65 : decode cX5_gatherWays 65 = .ok (.iaload, 1) := by decide +kernel
theorem dX5_gatherWays_66 : decode cX5_gatherWays 66 = .ok (.iconst 1, 1) := by decide +kernel
theorem dX5_gatherWays_67 : decode cX5_gatherWays 67 = .ok (.iload_n 3, 1) := by decide +kernel
theorem dX5_gatherWays_68 : decode cX5_gatherWays 68 = .ok (.invokestatic 88, 3) := by decide +kernel
theorem dX5_gatherWays_71 : decode cX5_gatherWays 71 = .ok (.ishl, 1) := by decide +kernel
theorem dX5_gatherWays_72 : decode cX5_gatherWays 72 = .ok (.ior, 1) := by decide +kernel
theorem dX5_gatherWays_73 : decode cX5_gatherWays 73 = .ok (.iastore, 1) := by decide +kernel
theorem dX5_gatherWays_74 : decode cX5_gatherWays 74 = .ok (.iload_n 2, 1) := by decide +kernel
theorem dX5_gatherWays_75 : decode cX5_gatherWays 75 = .ok (.iconst 1, 1) := by decide +kernel
theorem dX5_gatherWays_76 : decode cX5_gatherWays 76 = .ok (.iload 4, 2) := by decide +kernel
theorem dX5_gatherWays_78 : decode cX5_gatherWays 78 = .ok (.ishl, 1) := by decide +kernel
theorem dX5_gatherWays_79 : decode cX5_gatherWays 79 = .ok (.ior, 1) := by decide +kernel
theorem dX5_gatherWays_80 : decode cX5_gatherWays 80 = .ok (.istore_n 2, 1) := by decide +kernel
theorem dX5_gatherWays_81 : decode cX5_gatherWays 81 = .ok (.iinc 3 1, 3) := by decide +kernel
theorem dX5_gatherWays_84 : decode cX5_gatherWays 84 = .ok (.goto (-52), 3) := by decide +kernel
theorem dX5_gatherWays_87 : decode cX5_gatherWays 87 = .ok (.aload_n 0, 1) := by decide +kernel
theorem dX5_gatherWays_88 : decode cX5_gatherWays 88 = .ok (.getfield 20, 3) := by decide +kernel
theorem dX5_gatherWays_91 : decode cX5_gatherWays 91 = .ok (.iload_n 2, 1) := by decide +kernel
theorem dX5_gatherWays_92 : decode cX5_gatherWays 92 = .ok (.iconst (-1), 1) := by decide +kernel
theorem dX5_gatherWays_93 : decode cX5_gatherWays 93 = .ok (.ixor, 1) := by decide +kernel
theorem dX5_gatherWays_94 : decode cX5_gatherWays 94 = .ok (.iand, 1) := by decide +kernel
theorem dX5_gatherWays_95 : decode cX5_gatherWays 95 = .ok (.ifCond .ne 7, 3) := by decide +kernel
theorem dX5_gatherWays_98 : decode cX5_gatherWays 98 = .ok (.iconst 1, 1) := by decide +kernel
theorem dX5_gatherWays_99 : decode cX5_gatherWays 99 = .ok (.goto 4, 3) := by decide +kernel
theorem dX5_gatherWays_102 : decode cX5_gatherWays 102 = .ok (.iconst 0, 1) := by decide +kernel
theorem dX5_gatherWays_103 : decode cX5_gatherWays 103 = .ok (.ireturn, 1) := by decide +kernel
theorem dX5_freshOf_0 : decode cX5_freshOf 0 = .ok (.iload_n 0, 1) := by decide +kernel
theorem dX5_freshOf_1 : decode cX5_freshOf 1 = .ok (.iload_n 0, 1) := by decide +kernel
theorem dX5_freshOf_2 : decode cX5_freshOf 2 = .ok (.iconst 1, 1) := by decide +kernel
theorem dX5_freshOf_3 : decode cX5_freshOf 3 = .ok (.ishl, 1) := by decide +kernel
theorem dX5_freshOf_4 : decode cX5_freshOf 4 = .ok (.iconst (-1), 1) := by decide +kernel
theorem dX5_freshOf_5 : decode cX5_freshOf 5 = .ok (.ixor, 1) := by decide +kernel
theorem dX5_freshOf_6 : decode cX5_freshOf 6 = .ok (.iand, 1) := by decide +kernel
theorem dX5_freshOf_7 : decode cX5_freshOf 7 = .ok (.ireturn, 1) := by decide +kernel
set_option maxRecDepth 20000 in
theorem ggX5_bestRow_X5_rowOfTurn : GoodIn wsX5_bestRow wsX5_rowOfTurn := goodIn_r _ [5] (by decide +kernel) (by decide +kernel)
set_option maxRecDepth 20000 in
theorem gX5_bestRow_X5_rowOfTurn : GoodIn wsX5_bestRow (va_wsS RX5 92 yX5_rowOfTurn wsX5_rowOfTurn) := goodIn_app (goodIn_of _ (by decide +kernel)) ggX5_bestRow_X5_rowOfTurn
set_option maxRecDepth 20000 in
theorem ggX5_bestRow_X5_tryRow : GoodIn wsX5_bestRow wsX5_tryRow := goodIn_r _ [9, 10, 11, 12, 13, 14, 15, 16, 17, 18, 19, 20, 21, 22, 23, 24, 25, 26, 4, 27, 28, 29, 30, 31, 32, 33, 66, 67, 68, 69, 70, 71, 72, 73, 74, 75, 76] (by decide +kernel) (by decide +kernel)
set_option maxRecDepth 20000 in
theorem gX5_bestRow_X5_tryRow : GoodIn wsX5_bestRow (wsV RX5 95 RX5 yX5_tryRow wsX5_tryRow) := goodIn_app (goodIn_of _ (by decide +kernel)) ggX5_bestRow_X5_tryRow
set_option maxRecDepth 20000 in
theorem ggX5_bestRow_X5_tiesBelow : GoodIn wsX5_bestRow wsX5_tiesBelow := goodIn_r _ [37, 38, 39, 40, 4, 41, 42, 43, 44, 45, 46, 29, 47, 48, 49, 50, 51, 52, 53, 54, 55, 56, 57, 58, 59, 60, 61, 62, 63, 64, 65, 66, 67, 68, 69, 70, 71, 72, 73, 74, 75] (by decide +kernel) (by decide +kernel)
set_option maxRecDepth 20000 in
theorem gX5_bestRow_X5_tiesBelow : GoodIn wsX5_bestRow (wsV RX5 99 RX5 yX5_tiesBelow wsX5_tiesBelow) := goodIn_app (goodIn_of _ (by decide +kernel)) ggX5_bestRow_X5_tiesBelow
theorem dX5_bestRow_0 : decode cX5_bestRow 0 = .ok (.iconst (-1), 1) := by decide +kernel
theorem dX5_bestRow_1 : decode cX5_bestRow 1 = .ok (.istore_n 3, 1) := by decide +kernel
theorem dX5_bestRow_2 : decode cX5_bestRow 2 = .ok (.ldc 91, 2) := by decide +kernel
theorem dX5_bestRow_4 : decode cX5_bestRow 4 = .ok (.istore 4, 2) := by decide +kernel
theorem dX5_bestRow_6 : decode cX5_bestRow 6 = .ok (.iconst 0, 1) := by decide +kernel
theorem dX5_bestRow_7 : decode cX5_bestRow 7 = .ok (.istore 5, 2) := by decide +kernel
theorem dX5_bestRow_9 : decode cX5_bestRow 9 = .ok (.iload 5, 2) := by decide +kernel
theorem dX5_bestRow_11 : decode cX5_bestRow 11 = .ok (.iload_n 1, 1) := by decide +kernel
theorem dX5_bestRow_12 : decode cX5_bestRow 12 = .ok (.if_icmp .gt 84, 3) := by decide +kernel
theorem dX5_bestRow_15 : decode cX5_bestRow 15 = .ok (.iload 4, 2) := by decide +kernel
theorem dX5_bestRow_17 : decode cX5_bestRow 17 = .ok (.ifCond .le 79, 3) := by decide +kernel
theorem dX5_bestRow_20 : decode cX5_bestRow 20 = .ok (.iconst 1, 1) := by decide +kernel
theorem dX5_bestRow_21 : decode cX5_bestRow 21 = .ok (.iconst 2, 1) := by decide +kernel
theorem dX5_bestRow_22 : decode cX5_bestRow 22 = .ok (.iload 5, 2) := by decide +kernel
theorem dX5_bestRow_24 : decode cX5_bestRow 24 = .ok (.imul, 1) := by decide +kernel
theorem dX5_bestRow_25 : decode cX5_bestRow 25 = .ok (.ishl, 1) := by decide +kernel
theorem dX5_bestRow_26 : decode cX5_bestRow 26 = .ok (.istore 6, 2) := by decide +kernel
theorem dX5_bestRow_28 : decode cX5_bestRow 28 = .ok (.iconst 0, 1) := by decide +kernel
theorem dX5_bestRow_29 : decode cX5_bestRow 29 = .ok (.istore 7, 2) := by decide +kernel
theorem dX5_bestRow_31 : decode cX5_bestRow 31 = .ok (.iload 7, 2) := by decide +kernel
theorem dX5_bestRow_33 : decode cX5_bestRow 33 = .ok (.iload 6, 2) := by decide +kernel
theorem dX5_bestRow_35 : decode cX5_bestRow 35 = .ok (.if_icmp .ge 55, 3) := by decide +kernel
theorem dX5_bestRow_38 : decode cX5_bestRow 38 = .ok (.iload 4, 2) := by decide +kernel
theorem dX5_bestRow_40 : decode cX5_bestRow 40 = .ok (.ifCond .le 50, 3) := by decide +kernel
theorem dX5_bestRow_43 : decode cX5_bestRow 43 = .ok (.iload 7, 2) := by decide +kernel
theorem dX5_bestRow_45 : decode cX5_bestRow 45 = .ok (.iload 5, 2) := by decide +kernel
theorem dX5_bestRow_47 : decode cX5_bestRow 47 = .ok (.invokestatic 92, 3) := by decide +kernel
theorem dX5_bestRow_50 : decode cX5_bestRow 50 = .ok (.istore 8, 2) := by decide +kernel
theorem dX5_bestRow_52 : decode cX5_bestRow 52 = .ok (.aload_n 0, 1) := by decide +kernel
theorem dX5_bestRow_53 : decode cX5_bestRow 53 = .ok (.iload 8, 2) := by decide +kernel
theorem dX5_bestRow_55 : decode cX5_bestRow 55 = .ok (.aload_n 2, 1) := by decide +kernel
theorem dX5_bestRow_56 : decode cX5_bestRow 56 = .ok (.invokevirtual 95, 3) := by decide +kernel
theorem dX5_bestRow_59 : decode cX5_bestRow 59 = .ok (.ifCond .eq 25, 3) := by decide +kernel
theorem dX5_bestRow_62 : decode cX5_bestRow 62 = .ok (.aload_n 0, 1) := by decide +kernel
theorem dX5_bestRow_63 : decode cX5_bestRow 63 = .ok (.iload 4, 2) := by decide +kernel
theorem dX5_bestRow_65 : decode cX5_bestRow 65 = .ok (.invokevirtual 99, 3) := by decide +kernel
theorem dX5_bestRow_68 : decode cX5_bestRow 68 = .ok (.istore 9, 2) := by decide +kernel
theorem dX5_bestRow_70 : decode cX5_bestRow 70 = .ok (.iload 9, 2) := by decide +kernel
theorem dX5_bestRow_72 : decode cX5_bestRow 72 = .ok (.iload 4, 2) := by decide +kernel
theorem dX5_bestRow_74 : decode cX5_bestRow 74 = .ok (.if_icmp .ge 10, 3) := by decide +kernel
theorem dX5_bestRow_77 : decode cX5_bestRow 77 = .ok (.iload 9, 2) := by decide +kernel
theorem dX5_bestRow_79 : decode cX5_bestRow 79 = .ok (.istore 4, 2) := by decide +kernel
theorem dX5_bestRow_81 : decode cX5_bestRow 81 = .ok (.iload 8, 2) := by decide +kernel
theorem dX5_bestRow_83 : decode cX5_bestRow 83 = .ok (.istore_n 3, 1) := by decide +kernel
theorem dX5_bestRow_84 : decode cX5_bestRow 84 = .ok (.iinc 7 1, 3) := by decide +kernel
theorem dX5_bestRow_87 : decode cX5_bestRow 87 = .ok (.goto (-56), 3) := by decide +kernel
theorem dX5_bestRow_90 : decode cX5_bestRow 90 = .ok (.iinc 5 1, 3) := by decide +kernel
theorem dX5_bestRow_93 : decode cX5_bestRow 93 = .ok (.goto (-84), 3) := by decide +kernel
theorem dX5_bestRow_96 : decode cX5_bestRow 96 = .ok (.iload_n 3, 1) := by decide +kernel
theorem dX5_bestRow_97 : decode cX5_bestRow 97 = .ok (.ireturn, 1) := by decide +kernel
theorem dX5_rowOfTurn_0 : decode cX5_rowOfTurn 0 = .ok (.iconst 0, 1) := by decide +kernel
theorem dX5_rowOfTurn_1 : decode cX5_rowOfTurn 1 = .ok (.istore_n 2, 1) := by decide +kernel
theorem dX5_rowOfTurn_2 : decode cX5_rowOfTurn 2 = .ok (.iconst 0, 1) := by decide +kernel
theorem dX5_rowOfTurn_3 : decode cX5_rowOfTurn 3 = .ok (.istore_n 3, 1) := by decide +kernel
theorem dX5_rowOfTurn_4 : decode cX5_rowOfTurn 4 = .ok (.iload_n 3, 1) := by decide +kernel
theorem dX5_rowOfTurn_5 : decode cX5_rowOfTurn 5 = .ok (.iload_n 1, 1) := by decide +kernel
theorem dX5_rowOfTurn_6 : decode cX5_rowOfTurn 6 = .ok (.if_icmp .ge 33, 3) := by decide +kernel
theorem dX5_rowOfTurn_9 : decode cX5_rowOfTurn 9 = .ok (.iload_n 0, 1) := by decide +kernel
theorem dX5_rowOfTurn_10 : decode cX5_rowOfTurn 10 = .ok (.iconst 2, 1) := by decide +kernel
theorem dX5_rowOfTurn_11 : decode cX5_rowOfTurn 11 = .ok (.iload_n 1, 1) := by decide +kernel
theorem dX5_rowOfTurn_12 : decode cX5_rowOfTurn 12 = .ok (.iconst 1, 1) := by decide +kernel
theorem dX5_rowOfTurn_13 : decode cX5_rowOfTurn 13 = .ok (.isub, 1) := by decide +kernel
theorem dX5_rowOfTurn_14 : decode cX5_rowOfTurn 14 = .ok (.iload_n 3, 1) := by decide +kernel
theorem dX5_rowOfTurn_15 : decode cX5_rowOfTurn 15 = .ok (.isub, 1) := by decide +kernel
theorem dX5_rowOfTurn_16 : decode cX5_rowOfTurn 16 = .ok (.imul, 1) := by decide +kernel
theorem dX5_rowOfTurn_17 : decode cX5_rowOfTurn 17 = .ok (.ishr, 1) := by decide +kernel
theorem dX5_rowOfTurn_18 : decode cX5_rowOfTurn 18 = .ok (.iconst 3, 1) := by decide +kernel
theorem dX5_rowOfTurn_19 : decode cX5_rowOfTurn 19 = .ok (.iand, 1) := by decide +kernel
theorem dX5_rowOfTurn_20 : decode cX5_rowOfTurn 20 = .ok (.istore 4, 2) := by decide +kernel
theorem dX5_rowOfTurn_22 : decode cX5_rowOfTurn 22 = .ok (.iload_n 2, 1) := by decide +kernel
theorem dX5_rowOfTurn_23 : decode cX5_rowOfTurn 23 = .ok (.iload 4, 2) := by decide +kernel
theorem dX5_rowOfTurn_25 : decode cX5_rowOfTurn 25 = .ok (.iconst 1, 1) := by decide +kernel
theorem dX5_rowOfTurn_26 : decode cX5_rowOfTurn 26 = .ok (.iadd, 1) := by decide +kernel
theorem dX5_rowOfTurn_27 : decode cX5_rowOfTurn 27 = .ok (.iconst 3, 1) := by decide +kernel
theorem dX5_rowOfTurn_28 : decode cX5_rowOfTurn 28 = .ok (.iload_n 3, 1) := by decide +kernel
theorem dX5_rowOfTurn_29 : decode cX5_rowOfTurn 29 = .ok (.imul, 1) := by decide +kernel
theorem dX5_rowOfTurn_30 : decode cX5_rowOfTurn 30 = .ok (.ishl, 1) := by decide +kernel
theorem dX5_rowOfTurn_31 : decode cX5_rowOfTurn 31 = .ok (.ior, 1) := by decide +kernel
theorem dX5_rowOfTurn_32 : decode cX5_rowOfTurn 32 = .ok (.istore_n 2, 1) := by decide +kernel
theorem dX5_rowOfTurn_33 : decode cX5_rowOfTurn 33 = .ok (.iinc 3 1, 3) := by decide +kernel
theorem dX5_rowOfTurn_36 : decode cX5_rowOfTurn 36 = .ok (.goto (-32), 3) := by decide +kernel
theorem dX5_rowOfTurn_39 : decode cX5_rowOfTurn 39 = .ok (.iload_n 2, 1) := by decide +kernel
theorem dX5_rowOfTurn_40 : decode cX5_rowOfTurn 40 = .ok (.ireturn, 1) := by decide +kernel
set_option maxRecDepth 20000 in
theorem ggX5_tiesBelow_X5_tiesOf : GoodIn wsX5_tiesBelow wsX5_tiesOf := goodIn_r _ [5, 6, 7, 8, 9, 10, 11, 12, 13, 14, 15, 4, 16, 17, 18, 19, 20, 21, 22, 23, 24, 25, 26, 27, 28, 29, 30, 31, 32, 33, 34, 35, 36, 37, 38, 39, 40] (by decide +kernel) (by decide +kernel)
set_option maxRecDepth 20000 in
theorem gX5_tiesBelow_X5_tiesOf : GoodIn wsX5_tiesBelow (wsV RX5 102 RX5 yX5_tiesOf wsX5_tiesOf) := goodIn_app (goodIn_of _ (by decide +kernel)) ggX5_tiesBelow_X5_tiesOf
theorem dX5_tiesBelow_0 : decode cX5_tiesBelow 0 = .ok (.iconst 0, 1) := by decide +kernel
theorem dX5_tiesBelow_1 : decode cX5_tiesBelow 1 = .ok (.istore_n 2, 1) := by decide +kernel
theorem dX5_tiesBelow_2 : decode cX5_tiesBelow 2 = .ok (.iconst 0, 1) := by decide +kernel
theorem dX5_tiesBelow_3 : decode cX5_tiesBelow 3 = .ok (.istore_n 3, 1) := by decide +kernel
theorem dX5_tiesBelow_4 : decode cX5_tiesBelow 4 = .ok (.iload_n 3, 1) := by decide +kernel
theorem dX5_tiesBelow_5 : decode cX5_tiesBelow 5 = .ok (.bipush 8, 2) := by decide +kernel
theorem dX5_tiesBelow_7 : decode cX5_tiesBelow 7 = .ok (.if_icmp .ge 22, 3) := by decide +kernel
theorem dX5_tiesBelow_10 : decode cX5_tiesBelow 10 = .ok (.iload_n 2, 1) := by decide +kernel
theorem dX5_tiesBelow_11 : decode cX5_tiesBelow 11 = .ok (.iload_n 1, 1) := by decide +kernel
theorem dX5_tiesBelow_12 : decode cX5_tiesBelow 12 = .ok (.if_icmp .ge 17, 3) := by decide +kernel
theorem dX5_tiesBelow_15 : decode cX5_tiesBelow 15 = .ok (.iload_n 2, 1) := by decide +kernel
theorem dX5_tiesBelow_16 : decode cX5_tiesBelow 16 = .ok (.aload_n 0, 1) := by decide +kernel
theorem dX5_tiesBelow_17 : decode cX5_tiesBelow 17 = .ok (.iload_n 3, 1) := by decide +kernel
theorem dX5_tiesBelow_18 : decode cX5_tiesBelow 18 = .ok (.invokevirtual 102, 3) := by decide +kernel
theorem dX5_tiesBelow_21 : decode cX5_tiesBelow 21 = .ok (.iadd, 1) := by decide +kernel
theorem dX5_tiesBelow_22 : decode cX5_tiesBelow 22 = .ok (.istore_n 2, 1) := by decide +kernel
theorem dX5_tiesBelow_23 : decode cX5_tiesBelow 23 = .ok (.iinc 3 1, 3) := by decide +kernel
theorem dX5_tiesBelow_26 : decode cX5_tiesBelow 26 = .ok (.goto (-22), 3) := by decide +kernel
theorem dX5_tiesBelow_29 : decode cX5_tiesBelow 29 = .ok (.iload_n 2, 1) := by decide +kernel
theorem dX5_tiesBelow_30 : decode cX5_tiesBelow 30 = .ok (.ireturn, 1) := by decide +kernel
set_option maxRecDepth 20000 in
theorem ggX5_tiesOf_X5_weigh : GoodIn wsX5_tiesOf wsX5_weigh := goodIn_r _ [12, 2, 3, 5, 13, 14, 11, 15, 16, 17, 18, 19, 20, 21, 22, 27, 28, 29, 30, 31, 32, 33, 34, 35, 36] (by decide +kernel) (by decide +kernel)
set_option maxRecDepth 20000 in
theorem gX5_tiesOf_X5_weigh : GoodIn wsX5_tiesOf (wsV RX5 106 RX5 yX5_weigh wsX5_weigh) := goodIn_app (goodIn_of _ (by decide +kernel)) ggX5_tiesOf_X5_weigh
set_option maxRecDepth 20000 in
theorem ggX5_tiesOf_X5_tiesFrom : GoodIn wsX5_tiesOf wsX5_tiesFrom := goodIn_r _ [26, 3, 2, 5, 27, 28, 29, 30, 31, 32, 33, 34, 35, 36] (by decide +kernel) (by decide +kernel)
set_option maxRecDepth 20000 in
theorem gX5_tiesOf_X5_tiesFrom : GoodIn wsX5_tiesOf (wsV RX5 110 RX5 yX5_tiesFrom wsX5_tiesFrom) := goodIn_app (goodIn_of _ (by decide +kernel)) ggX5_tiesOf_X5_tiesFrom
theorem dX5_tiesOf_0 : decode cX5_tiesOf 0 = .ok (.aload_n 0, 1) := by decide +kernel
theorem dX5_tiesOf_1 : decode cX5_tiesOf 1 = .ok (.getfield 9, 3) := by decide +kernel
theorem dX5_tiesOf_4 : decode cX5_tiesOf 4 = .ok (.iload_n 1, 1) := by decide +kernel
theorem dX5_tiesOf_5 : decode cX5_tiesOf 5 = .ok (.iaload, 1) := by decide +kernel
theorem dX5_tiesOf_6 : decode cX5_tiesOf 6 = .ok (.istore_n 2, 1) := by decide +kernel
theorem dX5_tiesOf_7 : decode cX5_tiesOf 7 = .ok (.aload_n 0, 1) := by decide +kernel
theorem dX5_tiesOf_8 : decode cX5_tiesOf 8 = .ok (.getfield 36, 3) := by decide +kernel
theorem dX5_tiesOf_11 : decode cX5_tiesOf 11 = .ok (.iload_n 2, 1) := by decide +kernel
theorem dX5_tiesOf_12 : decode cX5_tiesOf 12 = .ok (.iconst 0, 1) := by decide +kernel
theorem dX5_tiesOf_13 : decode cX5_tiesOf 13 = .ok (.iastore, 1) := by decide +kernel
theorem dX5_tiesOf_14 : decode cX5_tiesOf 14 = .ok (.aload_n 0, 1) := by decide +kernel
theorem dX5_tiesOf_15 : decode cX5_tiesOf 15 = .ok (.getfield 39, 3) := by decide +kernel
theorem dX5_tiesOf_18 : decode cX5_tiesOf 18 = .ok (.iload_n 2, 1) := by decide +kernel
theorem dX5_tiesOf_19 : decode cX5_tiesOf 19 = .ok (.ldc 105, 2) := by decide +kernel
theorem dX5_tiesOf_21 : decode cX5_tiesOf 21 = .ok (.iastore, 1) := by decide +kernel
theorem dX5_tiesOf_22 : decode cX5_tiesOf 22 = .ok (.aload_n 0, 1) := by decide +kernel
theorem dX5_tiesOf_23 : decode cX5_tiesOf 23 = .ok (.getfield 42, 3) := by decide +kernel
theorem dX5_tiesOf_26 : decode cX5_tiesOf 26 = .ok (.iload_n 2, 1) := by decide +kernel
theorem dX5_tiesOf_27 : decode cX5_tiesOf 27 = .ok (.ldc 105, 2) := by decide +kernel
theorem dX5_tiesOf_29 : decode cX5_tiesOf 29 = .ok (.iastore, 1) := by decide +kernel
theorem dX5_tiesOf_30 : decode cX5_tiesOf 30 = .ok (.iload_n 2, 1) := by decide +kernel
theorem dX5_tiesOf_31 : decode cX5_tiesOf 31 = .ok (.iconst 1, 1) := by decide +kernel
theorem dX5_tiesOf_32 : decode cX5_tiesOf 32 = .ok (.isub, 1) := by decide +kernel
theorem dX5_tiesOf_33 : decode cX5_tiesOf 33 = .ok (.istore_n 3, 1) := by decide +kernel
theorem dX5_tiesOf_34 : decode cX5_tiesOf 34 = .ok (.iload_n 3, 1) := by decide +kernel
theorem dX5_tiesOf_35 : decode cX5_tiesOf 35 = .ok (.ifCond .lt 27, 3) := by decide +kernel
theorem dX5_tiesOf_38 : decode cX5_tiesOf 38 = .ok (.aload_n 0, 1) := by decide +kernel
theorem dX5_tiesOf_39 : decode cX5_tiesOf 39 = .ok (.iload_n 3, 1) := by decide +kernel
theorem dX5_tiesOf_40 : decode cX5_tiesOf 40 = .ok (.aload_n 0, 1) := by decide +kernel
theorem dX5_tiesOf_41 : decode cX5_tiesOf 41 = .ok (.getfield 33, 3) := by decide +kernel
theorem dX5_tiesOf_44 : decode cX5_tiesOf 44 = .ok (.aload_n 0, 1) := by decide +kernel
theorem dX5_tiesOf_45 : decode cX5_tiesOf 45 = .ok (.getfield 17, 3) := by decide +kernel
theorem dX5_tiesOf_48 : decode cX5_tiesOf 48 = .ok (.iload_n 1, 1) := by decide +kernel
theorem dX5_tiesOf_49 : decode cX5_tiesOf 49 = .ok (.aaload, 1) := by decide +kernel
theorem dX5_tiesOf_50 : decode cX5_tiesOf 50 = .ok (.iload_n 3, 1) := by decide +kernel
theorem dX5_tiesOf_51 : decode cX5_tiesOf 51 = .ok (.iaload, 1) := by decide +kernel
theorem dX5_tiesOf_52 : decode cX5_tiesOf 52 = .ok (.iaload, 1) := by decide +kernel
theorem dX5_tiesOf_53 : decode cX5_tiesOf 53 = .ok (.invokevirtual 106, 3) := by decide +kernel
theorem dX5_tiesOf_56 : decode cX5_tiesOf 56 = .ok (.iinc 3 (-1), 3) := by decide +kernel
theorem dX5_tiesOf_59 : decode cX5_tiesOf 59 = .ok (.goto (-25), 3) := by decide +kernel
theorem dX5_tiesOf_62 : decode cX5_tiesOf 62 = .ok (.aload_n 0, 1) := by decide +kernel
theorem dX5_tiesOf_63 : decode cX5_tiesOf 63 = .ok (.iconst 0, 1) := by decide +kernel
theorem dX5_tiesOf_64 : decode cX5_tiesOf 64 = .ok (.iconst 0, 1) := by decide +kernel
theorem dX5_tiesOf_65 : decode cX5_tiesOf 65 = .ok (.invokevirtual 110, 3) := by decide +kernel
theorem dX5_tiesOf_68 : decode cX5_tiesOf 68 = .ok (.ireturn, 1) := by decide +kernel
set_option maxRecDepth 20000 in
theorem ggX5_weigh_X5_withSupersets : GoodIn wsX5_weigh wsX5_withSupersets := goodIn_r _ [7] (by decide +kernel) (by decide +kernel)
set_option maxRecDepth 20000 in
theorem gX5_weigh_X5_withSupersets : GoodIn wsX5_weigh (va_wsS RX5 113 yX5_withSupersets wsX5_withSupersets) := goodIn_app (goodIn_of _ (by decide +kernel)) ggX5_weigh_X5_withSupersets
set_option maxRecDepth 20000 in
theorem ggX5_weigh_X5_lessOneBath : GoodIn wsX5_weigh wsX5_lessOneBath := goodIn_r _ [10, 11, 12, 13, 14] (by decide +kernel) (by decide +kernel)
set_option maxRecDepth 20000 in
theorem gX5_weigh_X5_lessOneBath : GoodIn wsX5_weigh (va_wsS RX5 116 yX5_lessOneBath wsX5_lessOneBath) := goodIn_app (goodIn_of _ (by decide +kernel)) ggX5_weigh_X5_lessOneBath
theorem dX5_weigh_0 : decode cX5_weigh 0 = .ok (.aload_n 0, 1) := by decide +kernel
theorem dX5_weigh_1 : decode cX5_weigh 1 = .ok (.getfield 36, 3) := by decide +kernel
theorem dX5_weigh_4 : decode cX5_weigh 4 = .ok (.iload_n 1, 1) := by decide +kernel
theorem dX5_weigh_5 : decode cX5_weigh 5 = .ok (.iconst 1, 1) := by decide +kernel
theorem dX5_weigh_6 : decode cX5_weigh 6 = .ok (.iadd, 1) := by decide +kernel
theorem dX5_weigh_7 : decode cX5_weigh 7 = .ok (.iaload, 1) := by decide +kernel
theorem dX5_weigh_8 : decode cX5_weigh 8 = .ok (.istore_n 3, 1) := by decide +kernel
theorem dX5_weigh_9 : decode cX5_weigh 9 = .ok (.iload_n 2, 1) := by decide +kernel
theorem dX5_weigh_10 : decode cX5_weigh 10 = .ok (.aload_n 0, 1) := by decide +kernel
theorem dX5_weigh_11 : decode cX5_weigh 11 = .ok (.getfield 39, 3) := by decide +kernel
theorem dX5_weigh_14 : decode cX5_weigh 14 = .ok (.iload_n 1, 1) := by decide +kernel
theorem dX5_weigh_15 : decode cX5_weigh 15 = .ok (.iconst 1, 1) := by decide +kernel
theorem dX5_weigh_16 : decode cX5_weigh 16 = .ok (.iadd, 1) := by decide +kernel
theorem dX5_weigh_17 : decode cX5_weigh 17 = .ok (.iaload, 1) := by decide +kernel
theorem dX5_weigh_18 : decode cX5_weigh 18 = .ok (.iand, 1) := by decide +kernel
theorem dX5_weigh_19 : decode cX5_weigh 19 = .ok (.istore 4, 2) := by decide +kernel
theorem dX5_weigh_21 : decode cX5_weigh 21 = .ok (.iload_n 2, 1) := by decide +kernel
theorem dX5_weigh_22 : decode cX5_weigh 22 = .ok (.aload_n 0, 1) := by decide +kernel
theorem dX5_weigh_23 : decode cX5_weigh 23 = .ok (.getfield 42, 3) := by decide +kernel
theorem dX5_weigh_26 : decode cX5_weigh 26 = .ok (.iload_n 1, 1) := by decide +kernel
theorem dX5_weigh_27 : decode cX5_weigh 27 = .ok (.iconst 1, 1) := by decide +kernel
theorem dX5_weigh_28 : decode cX5_weigh 28 = .ok (.iadd, 1) := by decide +kernel
theorem dX5_weigh_29 : decode cX5_weigh 29 = .ok (.iaload, 1) := by decide +kernel
theorem dX5_weigh_30 : decode cX5_weigh 30 = .ok (.iand, 1) := by decide +kernel
theorem dX5_weigh_31 : decode cX5_weigh 31 = .ok (.istore 5, 2) := by decide +kernel
theorem dX5_weigh_33 : decode cX5_weigh 33 = .ok (.iconst 1, 1) := by decide +kernel
theorem dX5_weigh_34 : decode cX5_weigh 34 = .ok (.istore 6, 2) := by decide +kernel
theorem dX5_weigh_36 : decode cX5_weigh 36 = .ok (.iload 6, 2) := by decide +kernel
theorem dX5_weigh_38 : decode cX5_weigh 38 = .ok (.iconst 2, 1) := by decide +kernel
theorem dX5_weigh_39 : decode cX5_weigh 39 = .ok (.if_icmp .gt 24, 3) := by decide +kernel
theorem dX5_weigh_42 : decode cX5_weigh 42 = .ok (.iload 4, 2) := by decide +kernel
theorem dX5_weigh_44 : decode cX5_weigh 44 = .ok (.ifCond .ne 19, 3) := by decide +kernel
theorem dX5_weigh_47 : decode cX5_weigh 47 = .ok (.iinc 3 1, 3) := by decide +kernel
theorem dX5_weigh_50 : decode cX5_weigh 50 = .ok (.iload 5, 2) := by decide +kernel
theorem dX5_weigh_52 : decode cX5_weigh 52 = .ok (.istore 4, 2) := by decide +kernel
theorem dX5_weigh_54 : decode cX5_weigh 54 = .ok (.iload_n 2, 1) := by decide +kernel
theorem dX5_weigh_55 : decode cX5_weigh 55 = .ok (.istore 5, 2) := by decide +kernel
theorem dX5_weigh_57 : decode cX5_weigh 57 = .ok (.iinc 6 1, 3) := by decide +kernel
theorem dX5_weigh_60 : decode cX5_weigh 60 = .ok (.goto (-24), 3) := by decide +kernel
theorem dX5_weigh_63 : decode cX5_weigh 63 = .ok (.aload_n 0, 1) := by decide +kernel
theorem dX5_weigh_64 : decode cX5_weigh 64 = .ok (.getfield 36, 3) := by decide +kernel
theorem dX5_weigh_67 : decode cX5_weigh 67 = .ok (.iload_n 1, 1) := by decide +kernel
theorem dX5_weigh_68 : decode cX5_weigh 68 = .ok (.iload_n 3, 1) := by decide +kernel
theorem dX5_weigh_69 : decode cX5_weigh 69 = .ok (.iastore, 1) := by decide +kernel
theorem dX5_weigh_70 : decode cX5_weigh 70 = .ok (.aload_n 0, 1) := by decide +kernel
theorem dX5_weigh_71 : decode cX5_weigh 71 = .ok (.getfield 39, 3) := by decide +kernel
theorem dX5_weigh_74 : decode cX5_weigh 74 = .ok (.iload_n 1, 1) := by decide +kernel
theorem dX5_weigh_75 : decode cX5_weigh 75 = .ok (.iload 4, 2) := by decide +kernel
theorem dX5_weigh_77 : decode cX5_weigh 77 = .ok (.invokestatic 113, 3) := by decide +kernel
theorem dX5_weigh_80 : decode cX5_weigh 80 = .ok (.iastore, 1) := by decide +kernel
theorem dX5_weigh_81 : decode cX5_weigh 81 = .ok (.aload_n 0, 1) := by decide +kernel
theorem dX5_weigh_82 : decode cX5_weigh 82 = .ok (.getfield 42, 3) := by decide +kernel
theorem dX5_weigh_85 : decode cX5_weigh 85 = .ok (.iload_n 1, 1) := by decide +kernel
theorem dX5_weigh_86 : decode cX5_weigh 86 = .ok (.iload 5, 2) := by decide +kernel
theorem dX5_weigh_88 : decode cX5_weigh 88 = .ok (.iload 4, 2) := by decide +kernel
theorem dX5_weigh_90 : decode cX5_weigh 90 = .ok (.invokestatic 116, 3) := by decide +kernel
theorem dX5_weigh_93 : decode cX5_weigh 93 = .ok (.ior, 1) := by decide +kernel
theorem dX5_weigh_94 : decode cX5_weigh 94 = .ok (.invokestatic 113, 3) := by decide +kernel
theorem dX5_weigh_97 : decode cX5_weigh 97 = .ok (.iastore, 1) := by decide +kernel
theorem dX5_weigh_98 : decode cX5_weigh 98 = .ok (.return_, 1) := by decide +kernel
theorem dX5_tiesFrom_0 : decode cX5_tiesFrom 0 = .ok (.aload_n 0, 1) := by decide +kernel
theorem dX5_tiesFrom_1 : decode cX5_tiesFrom 1 = .ok (.getfield 39, 3) := by decide +kernel
theorem dX5_tiesFrom_4 : decode cX5_tiesFrom 4 = .ok (.iload_n 1, 1) := by decide +kernel
theorem dX5_tiesFrom_5 : decode cX5_tiesFrom 5 = .ok (.iaload, 1) := by decide +kernel
theorem dX5_tiesFrom_6 : decode cX5_tiesFrom 6 = .ok (.iload_n 2, 1) := by decide +kernel
theorem dX5_tiesFrom_7 : decode cX5_tiesFrom 7 = .ok (.ishr, 1) := by decide +kernel
theorem dX5_tiesFrom_8 : decode cX5_tiesFrom 8 = .ok (.iconst 1, 1) := by decide +kernel
theorem dX5_tiesFrom_9 : decode cX5_tiesFrom 9 = .ok (.iand, 1) := by decide +kernel
theorem dX5_tiesFrom_10 : decode cX5_tiesFrom 10 = .ok (.ifCond .eq 10, 3) := by decide +kernel
theorem dX5_tiesFrom_13 : decode cX5_tiesFrom 13 = .ok (.aload_n 0, 1) := by decide +kernel
theorem dX5_tiesFrom_14 : decode cX5_tiesFrom 14 = .ok (.getfield 36, 3) := by decide +kernel
theorem dX5_tiesFrom_17 : decode cX5_tiesFrom 17 = .ok (.iload_n 1, 1) := by decide +kernel
theorem dX5_tiesFrom_18 : decode cX5_tiesFrom 18 = .ok (.iaload, 1) := by decide +kernel
theorem dX5_tiesFrom_19 : decode cX5_tiesFrom 19 = .ok (.ireturn, 1) := by decide +kernel
theorem dX5_tiesFrom_20 : decode cX5_tiesFrom 20 = .ok (.aload_n 0, 1) := by decide +kernel
theorem dX5_tiesFrom_21 : decode cX5_tiesFrom 21 = .ok (.getfield 36, 3) := by decide +kernel
theorem dX5_tiesFrom_24 : decode cX5_tiesFrom 24 = .ok (.iload_n 1, 1) := by decide +kernel
theorem dX5_tiesFrom_25 : decode cX5_tiesFrom 25 = .ok (.iaload, 1) := by decide +kernel
theorem dX5_tiesFrom_26 : decode cX5_tiesFrom 26 = .ok (.aload_n 0, 1) := by decide +kernel
theorem dX5_tiesFrom_27 : decode cX5_tiesFrom 27 = .ok (.getfield 42, 3) := by decide +kernel
theorem dX5_tiesFrom_30 : decode cX5_tiesFrom 30 = .ok (.iload_n 1, 1) := by decide +kernel
theorem dX5_tiesFrom_31 : decode cX5_tiesFrom 31 = .ok (.iaload, 1) := by decide +kernel
theorem dX5_tiesFrom_32 : decode cX5_tiesFrom 32 = .ok (.iload_n 2, 1) := by decide +kernel
theorem dX5_tiesFrom_33 : decode cX5_tiesFrom 33 = .ok (.ishr, 1) := by decide +kernel
theorem dX5_tiesFrom_34 : decode cX5_tiesFrom 34 = .ok (.iconst 1, 1) := by decide +kernel
theorem dX5_tiesFrom_35 : decode cX5_tiesFrom 35 = .ok (.iand, 1) := by decide +kernel
theorem dX5_tiesFrom_36 : decode cX5_tiesFrom 36 = .ok (.ifCond .eq 7, 3) := by decide +kernel
theorem dX5_tiesFrom_39 : decode cX5_tiesFrom 39 = .ok (.iconst 1, 1) := by decide +kernel
theorem dX5_tiesFrom_40 : decode cX5_tiesFrom 40 = .ok (.goto 4, 3) := by decide +kernel
theorem dX5_tiesFrom_43 : decode cX5_tiesFrom 43 = .ok (.iconst 2, 1) := by decide +kernel
theorem dX5_tiesFrom_44 : decode cX5_tiesFrom 44 = .ok (.iadd, 1) := by decide +kernel
theorem dX5_tiesFrom_45 : decode cX5_tiesFrom 45 = .ok (.ireturn, 1) := by decide +kernel
theorem dX5_withSupersets_0 : decode cX5_withSupersets 0 = .ok (.iload_n 0, 1) := by decide +kernel
theorem dX5_withSupersets_1 : decode cX5_withSupersets 1 = .ok (.iload_n 0, 1) := by decide +kernel
theorem dX5_withSupersets_2 : decode cX5_withSupersets 2 = .ok (.sipush 21845, 3) := by decide +kernel
theorem dX5_withSupersets_5 : decode cX5_withSupersets 5 = .ok (.iand, 1) := by decide +kernel
theorem dX5_withSupersets_6 : decode cX5_withSupersets 6 = .ok (.iconst 1, 1) := by decide +kernel
theorem dX5_withSupersets_7 : decode cX5_withSupersets 7 = .ok (.ishl, 1) := by decide +kernel
theorem dX5_withSupersets_8 : decode cX5_withSupersets 8 = .ok (.ior, 1) := by decide +kernel
theorem dX5_withSupersets_9 : decode cX5_withSupersets 9 = .ok (.istore_n 1, 1) := by decide +kernel
theorem dX5_withSupersets_10 : decode cX5_withSupersets 10 = .ok (.iload_n 1, 1) := by decide +kernel
theorem dX5_withSupersets_11 : decode cX5_withSupersets 11 = .ok (.iload_n 1, 1) := by decide +kernel
theorem dX5_withSupersets_12 : decode cX5_withSupersets 12 = .ok (.sipush 13107, 3) := by decide +kernel
theorem dX5_withSupersets_15 : decode cX5_withSupersets 15 = .ok (.iand, 1) := by decide +kernel
theorem dX5_withSupersets_16 : decode cX5_withSupersets 16 = .ok (.iconst 2, 1) := by decide +kernel
theorem dX5_withSupersets_17 : decode cX5_withSupersets 17 = .ok (.ishl, 1) := by decide +kernel
theorem dX5_withSupersets_18 : decode cX5_withSupersets 18 = .ok (.ior, 1) := by decide +kernel
theorem dX5_withSupersets_19 : decode cX5_withSupersets 19 = .ok (.istore_n 1, 1) := by decide +kernel
theorem dX5_withSupersets_20 : decode cX5_withSupersets 20 = .ok (.iload_n 1, 1) := by decide +kernel
theorem dX5_withSupersets_21 : decode cX5_withSupersets 21 = .ok (.iload_n 1, 1) := by decide +kernel
theorem dX5_withSupersets_22 : decode cX5_withSupersets 22 = .ok (.sipush 3855, 3) := by decide +kernel
theorem dX5_withSupersets_25 : decode cX5_withSupersets 25 = .ok (.iand, 1) := by decide +kernel
theorem dX5_withSupersets_26 : decode cX5_withSupersets 26 = .ok (.iconst 4, 1) := by decide +kernel
theorem dX5_withSupersets_27 : decode cX5_withSupersets 27 = .ok (.ishl, 1) := by decide +kernel
theorem dX5_withSupersets_28 : decode cX5_withSupersets 28 = .ok (.ior, 1) := by decide +kernel
theorem dX5_withSupersets_29 : decode cX5_withSupersets 29 = .ok (.istore_n 1, 1) := by decide +kernel
theorem dX5_withSupersets_30 : decode cX5_withSupersets 30 = .ok (.iload_n 1, 1) := by decide +kernel
theorem dX5_withSupersets_31 : decode cX5_withSupersets 31 = .ok (.iload_n 1, 1) := by decide +kernel
theorem dX5_withSupersets_32 : decode cX5_withSupersets 32 = .ok (.sipush 255, 3) := by decide +kernel
theorem dX5_withSupersets_35 : decode cX5_withSupersets 35 = .ok (.iand, 1) := by decide +kernel
theorem dX5_withSupersets_36 : decode cX5_withSupersets 36 = .ok (.bipush 8, 2) := by decide +kernel
theorem dX5_withSupersets_38 : decode cX5_withSupersets 38 = .ok (.ishl, 1) := by decide +kernel
theorem dX5_withSupersets_39 : decode cX5_withSupersets 39 = .ok (.ior, 1) := by decide +kernel
theorem dX5_withSupersets_40 : decode cX5_withSupersets 40 = .ok (.ireturn, 1) := by decide +kernel
theorem dX5_lessOneBath_0 : decode cX5_lessOneBath 0 = .ok (.iload_n 0, 1) := by decide +kernel
theorem dX5_lessOneBath_1 : decode cX5_lessOneBath 1 = .ok (.ldc 119, 2) := by decide +kernel
theorem dX5_lessOneBath_3 : decode cX5_lessOneBath 3 = .ok (.iand, 1) := by decide +kernel
theorem dX5_lessOneBath_4 : decode cX5_lessOneBath 4 = .ok (.iconst 1, 1) := by decide +kernel
theorem dX5_lessOneBath_5 : decode cX5_lessOneBath 5 = .ok (.ishr, 1) := by decide +kernel
theorem dX5_lessOneBath_6 : decode cX5_lessOneBath 6 = .ok (.iload_n 0, 1) := by decide +kernel
theorem dX5_lessOneBath_7 : decode cX5_lessOneBath 7 = .ok (.ldc 120, 2) := by decide +kernel
theorem dX5_lessOneBath_9 : decode cX5_lessOneBath 9 = .ok (.iand, 1) := by decide +kernel
theorem dX5_lessOneBath_10 : decode cX5_lessOneBath 10 = .ok (.iconst 2, 1) := by decide +kernel
theorem dX5_lessOneBath_11 : decode cX5_lessOneBath 11 = .ok (.ishr, 1) := by decide +kernel
theorem dX5_lessOneBath_12 : decode cX5_lessOneBath 12 = .ok (.ior, 1) := by decide +kernel
theorem dX5_lessOneBath_13 : decode cX5_lessOneBath 13 = .ok (.iload_n 0, 1) := by decide +kernel
theorem dX5_lessOneBath_14 : decode cX5_lessOneBath 14 = .ok (.ldc 121, 2) := by decide +kernel
theorem dX5_lessOneBath_16 : decode cX5_lessOneBath 16 = .ok (.iand, 1) := by decide +kernel
theorem dX5_lessOneBath_17 : decode cX5_lessOneBath 17 = .ok (.iconst 4, 1) := by decide +kernel
theorem dX5_lessOneBath_18 : decode cX5_lessOneBath 18 = .ok (.ishr, 1) := by decide +kernel
theorem dX5_lessOneBath_19 : decode cX5_lessOneBath 19 = .ok (.ior, 1) := by decide +kernel
theorem dX5_lessOneBath_20 : decode cX5_lessOneBath 20 = .ok (.iload_n 0, 1) := by decide +kernel
theorem dX5_lessOneBath_21 : decode cX5_lessOneBath 21 = .ok (.ldc 122, 2) := by decide +kernel
theorem dX5_lessOneBath_23 : decode cX5_lessOneBath 23 = .ok (.iand, 1) := by decide +kernel
theorem dX5_lessOneBath_24 : decode cX5_lessOneBath 24 = .ok (.bipush 8, 2) := by decide +kernel
theorem dX5_lessOneBath_26 : decode cX5_lessOneBath 26 = .ok (.ishr, 1) := by decide +kernel
theorem dX5_lessOneBath_27 : decode cX5_lessOneBath 27 = .ok (.ior, 1) := by decide +kernel
theorem dX5_lessOneBath_28 : decode cX5_lessOneBath 28 = .ok (.ireturn, 1) := by decide +kernel
set_option maxRecDepth 20000 in
theorem ggX5_writeInto_X4_begin : GoodIn wsX5_writeInto wsX4_begin := goodIn_r _ [9, 10, 11, 12, 97, 98, 99, 100] (by decide +kernel) (by decide +kernel)
set_option maxRecDepth 20000 in
theorem gX5_writeInto_X4_begin : GoodIn wsX5_writeInto (wsV RX5 123 RX4 yX4_begin wsX4_begin) := goodIn_app (goodIn_of _ (by decide +kernel)) ggX5_writeInto_X4_begin
set_option maxRecDepth 20000 in
theorem ggX5_writeInto_X5_tiesOf : GoodIn wsX5_writeInto wsX5_tiesOf := goodIn_r _ [17, 2, 18, 19, 20, 21, 22, 4, 23, 24, 25, 16, 26, 27, 28, 29, 30, 31, 32, 33, 34, 35, 36, 37, 38, 39, 40, 87, 88, 89, 90, 91, 92, 93, 94, 95, 96] (by decide +kernel) (by decide +kernel)
set_option maxRecDepth 20000 in
theorem gX5_writeInto_X5_tiesOf : GoodIn wsX5_writeInto (wsV RX5 102 RX5 yX5_tiesOf wsX5_tiesOf) := goodIn_app (goodIn_of _ (by decide +kernel)) ggX5_writeInto_X5_tiesOf
set_option maxRecDepth 20000 in
theorem ggX5_writeInto_X4_addTies : GoodIn wsX5_writeInto wsX4_addTies := goodIn_r _ [44, 12, 97, 98, 99, 100] (by decide +kernel) (by decide +kernel)
set_option maxRecDepth 20000 in
theorem gX5_writeInto_X4_addTies : GoodIn wsX5_writeInto (wsV RX5 129 RX4 yX4_addTies wsX4_addTies) := goodIn_app (goodIn_of _ (by decide +kernel)) ggX5_writeInto_X4_addTies
set_option maxRecDepth 20000 in
theorem ggX5_writeInto_X5_leastBits : GoodIn wsX5_writeInto wsX5_leastBits := goodIn_r _ [48, 49, 50, 51, 16, 52, 53, 54, 55, 56, 57, 58, 59, 60, 61, 62, 37, 38, 39, 40, 19, 18, 21, 87, 88, 89, 90, 91, 92, 93, 94, 95, 96] (by decide +kernel) (by decide +kernel)
set_option maxRecDepth 20000 in
theorem gX5_writeInto_X5_leastBits : GoodIn wsX5_writeInto (wsV RX5 132 RX5 yX5_leastBits wsX5_leastBits) := goodIn_app (goodIn_of _ (by decide +kernel)) ggX5_writeInto_X5_leastBits
set_option maxRecDepth 20000 in
theorem ggX5_writeInto_X4_write : GoodIn wsX5_writeInto wsX4_write := goodIn_r _ [66, 67, 97, 98, 99, 100] (by decide +kernel) (by decide +kernel)
set_option maxRecDepth 20000 in
theorem gX5_writeInto_X4_write : GoodIn wsX5_writeInto (wsV RX5 136 RX4 yX4_write wsX4_write) := goodIn_app (goodIn_of _ (by decide +kernel)) ggX5_writeInto_X4_write
set_option maxRecDepth 20000 in
theorem ggX5_writeInto_X5_freshOf : GoodIn wsX5_writeInto wsX5_freshOf := goodIn_r _ [55] (by decide +kernel) (by decide +kernel)
set_option maxRecDepth 20000 in
theorem gX5_writeInto_X5_freshOf : GoodIn wsX5_writeInto (va_wsS RX5 88 yX5_freshOf wsX5_freshOf) := goodIn_app (goodIn_of _ (by decide +kernel)) ggX5_writeInto_X5_freshOf
set_option maxRecDepth 20000 in
theorem ggX5_writeInto_X0_places : GoodIn wsX5_writeInto wsX0_places := goodIn_r _ [72, 73, 101, 102, 103, 104, 105, 106, 107] (by decide +kernel) (by decide +kernel)
set_option maxRecDepth 20000 in
theorem gX5_writeInto_X0_places : GoodIn wsX5_writeInto (wsV RX5 61 RX0 yX0_places wsX0_places) := goodIn_app (goodIn_of _ (by decide +kernel)) ggX5_writeInto_X0_places
set_option maxRecDepth 20000 in
theorem ggX5_writeInto_X0_underFold : GoodIn wsX5_writeInto wsX0_underFold := goodIn_r _ [77, 73, 78, 79, 80, 71, 81, 82, 101, 102, 103, 104, 105, 106, 107] (by decide +kernel) (by decide +kernel)
set_option maxRecDepth 20000 in
theorem gX5_writeInto_X0_underFold : GoodIn wsX5_writeInto (wsV RX5 70 RX0 yX0_underFold wsX0_underFold) := goodIn_app (goodIn_of _ (by decide +kernel)) ggX5_writeInto_X0_underFold
set_option maxRecDepth 20000 in
theorem ggX5_writeInto_X4_bitsAt : GoodIn wsX5_writeInto wsX4_bitsAt := goodIn_r _ [86, 67, 97, 98, 99, 100] (by decide +kernel) (by decide +kernel)
set_option maxRecDepth 20000 in
theorem gX5_writeInto_X4_bitsAt : GoodIn wsX5_writeInto (wsV RX5 140 RX4 yX4_bitsAt wsX4_bitsAt) := goodIn_app (goodIn_of _ (by decide +kernel)) ggX5_writeInto_X4_bitsAt
theorem dX5_writeInto_0 : decode cX5_writeInto 0 = .ok (.aload_n 1, 1) := by decide +kernel
theorem dX5_writeInto_1 : decode cX5_writeInto 1 = .ok (.aload_n 0, 1) := by decide +kernel
theorem dX5_writeInto_2 : decode cX5_writeInto 2 = .ok (.getfield 24, 3) := by decide +kernel
theorem dX5_writeInto_5 : decode cX5_writeInto 5 = .ok (.invokevirtual 123, 3) := by decide +kernel
theorem dX5_writeInto_8 : decode cX5_writeInto 8 = .ok (.iconst 0, 1) := by decide +kernel
theorem dX5_writeInto_9 : decode cX5_writeInto 9 = .ok (.istore_n 3, 1) := by decide +kernel
theorem dX5_writeInto_10 : decode cX5_writeInto 10 = .ok (.iload_n 3, 1) := by decide +kernel
theorem dX5_writeInto_11 : decode cX5_writeInto 11 = .ok (.bipush 8, 2) := by decide +kernel
theorem dX5_writeInto_13 : decode cX5_writeInto 13 = .ok (.if_icmp .ge 136, 3) := by decide +kernel
theorem dX5_writeInto_16 : decode cX5_writeInto 16 = .ok (.aload_n 1, 1) := by decide +kernel
theorem dX5_writeInto_17 : decode cX5_writeInto 17 = .ok (.aload_n 0, 1) := by decide +kernel
theorem dX5_writeInto_18 : decode cX5_writeInto 18 = .ok (.iload_n 3, 1) := by decide +kernel
theorem dX5_writeInto_19 : decode cX5_writeInto 19 = .ok (.invokevirtual 102, 3) := by decide +kernel
theorem dX5_writeInto_22 : decode cX5_writeInto 22 = .ok (.invokevirtual 129, 3) := by decide +kernel
theorem dX5_writeInto_25 : decode cX5_writeInto 25 = .ok (.iconst 0, 1) := by decide +kernel
theorem dX5_writeInto_26 : decode cX5_writeInto 26 = .ok (.istore 4, 2) := by decide +kernel
theorem dX5_writeInto_28 : decode cX5_writeInto 28 = .ok (.iconst 0, 1) := by decide +kernel
theorem dX5_writeInto_29 : decode cX5_writeInto 29 = .ok (.istore 5, 2) := by decide +kernel
theorem dX5_writeInto_31 : decode cX5_writeInto 31 = .ok (.iload 5, 2) := by decide +kernel
theorem dX5_writeInto_33 : decode cX5_writeInto 33 = .ok (.aload_n 0, 1) := by decide +kernel
theorem dX5_writeInto_34 : decode cX5_writeInto 34 = .ok (.getfield 9, 3) := by decide +kernel
theorem dX5_writeInto_37 : decode cX5_writeInto 37 = .ok (.iload_n 3, 1) := by decide +kernel
theorem dX5_writeInto_38 : decode cX5_writeInto 38 = .ok (.iaload, 1) := by decide +kernel
theorem dX5_writeInto_39 : decode cX5_writeInto 39 = .ok (.if_icmp .ge 49, 3) := by decide +kernel
theorem dX5_writeInto_42 : decode cX5_writeInto 42 = .ok (.aload_n 0, 1) := by decide +kernel
theorem dX5_writeInto_43 : decode cX5_writeInto 43 = .ok (.iload 5, 2) := by decide +kernel
theorem dX5_writeInto_45 : decode cX5_writeInto 45 = .ok (.iload 4, 2) := by decide +kernel
theorem dX5_writeInto_47 : decode cX5_writeInto 47 = .ok (.aload_n 0, 1) := by decide +kernel
theorem dX5_writeInto_48 : decode cX5_writeInto 48 = .ok (.getfield 30, 3) := by decide +kernel
theorem dX5_writeInto_51 : decode cX5_writeInto 51 = .ok (.aload_n 0, 1) := by decide +kernel
theorem dX5_writeInto_52 : decode cX5_writeInto 52 = .ok (.getfield 17, 3) := by decide +kernel
theorem dX5_writeInto_55 : decode cX5_writeInto 55 = .ok (.iload_n 3, 1) := by decide +kernel
theorem dX5_writeInto_56 : decode cX5_writeInto 56 = .ok (.aaload, 1) := by decide +kernel
theorem dX5_writeInto_57 : decode cX5_writeInto 57 = .ok (.iload 5, 2) := by decide +kernel
theorem dX5_writeInto_59 : decode cX5_writeInto 59 = .ok (.iaload, 1) := by decide +kernel
theorem dX5_writeInto_60 : decode cX5_writeInto 60 = .ok (.iaload, 1) := by decide +kernel
theorem dX5_writeInto_61 : decode cX5_writeInto 61 = .ok (.invokevirtual 132, 3) := by decide +kernel
theorem dX5_writeInto_64 : decode cX5_writeInto 64 = .ok (.istore 6, 2) := by decide +kernel
theorem dX5_writeInto_66 : decode cX5_writeInto 66 = .ok (.aload_n 1, 1) := by decide +kernel
theorem dX5_writeInto_67 : decode cX5_writeInto 67 = .ok (.iload_n 3, 1) := by decide +kernel
theorem dX5_writeInto_68 : decode cX5_writeInto 68 = .ok (.iload 5, 2) := by decide +kernel
theorem dX5_writeInto_70 : decode cX5_writeInto 70 = .ok (.iload 6, 2) := by decide +kernel
theorem dX5_writeInto_72 : decode cX5_writeInto 72 = .ok (.invokevirtual 136, 3) := by decide +kernel
theorem dX5_writeInto_75 : decode cX5_writeInto 75 = .ok (.iload 6, 2) := by decide +kernel
theorem dX5_writeInto_77 : decode cX5_writeInto 77 = .ok (.invokestatic 88, 3) := by decide +kernel
theorem dX5_writeInto_80 : decode cX5_writeInto 80 = .ok (.istore 4, 2) := by decide +kernel
theorem dX5_writeInto_82 : decode cX5_writeInto 82 = .ok (.iinc 5 1, 3) := by decide +kernel
theorem dX5_writeInto_85 : decode cX5_writeInto 85 = .ok (.goto (-54), 3) := by decide +kernel
theorem dX5_writeInto_88 : decode cX5_writeInto 88 = .ok (.aload_n 0, 1) := by decide +kernel
theorem dX5_writeInto_89 : decode cX5_writeInto 89 = .ok (.getfield 9, 3) := by decide +kernel
theorem dX5_writeInto_92 : decode cX5_writeInto 92 = .ok (.iload_n 3, 1) := by decide +kernel
theorem dX5_writeInto_93 : decode cX5_writeInto 93 = .ok (.iaload, 1) := by decide +kernel
theorem dX5_writeInto_94 : decode cX5_writeInto 94 = .ok (.istore 5, 2) := by decide +kernel
theorem dX5_writeInto_96 : decode cX5_writeInto 96 = .ok (.iload 5, 2) := by decide +kernel
theorem dX5_writeInto_98 : decode cX5_writeInto 98 = .ok (.aload_n 2, 1) := by decide +kernel
theorem dX5_writeInto_99 : decode cX5_writeInto 99 = .ok (.invokevirtual 61, 3) := by decide +kernel
theorem dX5_writeInto_102 : decode cX5_writeInto 102 = .ok (.if_icmp .ge 41, 3) := by decide +kernel
theorem dX5_writeInto_105 : decode cX5_writeInto 105 = .ok (.aload_n 1, 1) := by decide +kernel
theorem dX5_writeInto_106 : decode cX5_writeInto 106 = .ok (.iload_n 3, 1) := by decide +kernel
theorem dX5_writeInto_107 : decode cX5_writeInto 107 = .ok (.iload 5, 2) := by decide +kernel
theorem dX5_writeInto_109 : decode cX5_writeInto 109 = .ok (.aload_n 0, 1) := by decide +kernel
theorem dX5_writeInto_110 : decode cX5_writeInto 110 = .ok (.getfield 9, 3) := by decide +kernel
theorem dX5_writeInto_113 : decode cX5_writeInto 113 = .ok (.iload_n 3, 1) := by decide +kernel
theorem dX5_writeInto_114 : decode cX5_writeInto 114 = .ok (.iaload, 1) := by decide +kernel
theorem dX5_writeInto_115 : decode cX5_writeInto 115 = .ok (.ifCond .ne 7, 3) := by decide +kernel
theorem dX5_writeInto_118 : decode cX5_writeInto 118 = .ok (.iconst 0, 1) := by decide +kernel
theorem dX5_writeInto_119 : decode cX5_writeInto 119 = .ok (.goto 15, 3) := by decide +kernel
theorem dX5_writeInto_122 : decode cX5_writeInto 122 = .ok (.aload_n 1, 1) := by decide +kernel
theorem dX5_writeInto_123 : decode cX5_writeInto 123 = .ok (.iload_n 3, 1) := by decide +kernel
theorem dX5_writeInto_124 : decode cX5_writeInto 124 = .ok (.aload_n 2, 1) := by decide +kernel
theorem dX5_writeInto_125 : decode cX5_writeInto 125 = .ok (.iload_n 3, 1) := by decide +kernel
theorem dX5_writeInto_126 : decode cX5_writeInto 126 = .ok (.iload 5, 2) := by decide +kernel
theorem dX5_writeInto_128 : decode cX5_writeInto 128 = .ok (.invokevirtual 70, 3) := by decide +kernel
theorem dX5_writeInto_131 : decode cX5_writeInto 131 = .ok (.invokevirtual 140, 3) := by decide +kernel
theorem dX5_writeInto_134 : decode cX5_writeInto 134 = .ok (.invokevirtual 136, 3) := by decide +kernel
theorem dX5_writeInto_137 : decode cX5_writeInto 137 = .ok (.iinc 5 1, 3) := by decide +kernel
theorem dX5_writeInto_140 : decode cX5_writeInto 140 = .ok (.goto (-44), 3) := by decide +kernel
theorem dX5_writeInto_143 : decode cX5_writeInto 143 = .ok (.iinc 3 1, 3) := by decide +kernel
theorem dX5_writeInto_146 : decode cX5_writeInto 146 = .ok (.goto (-136), 3) := by decide +kernel
theorem dX5_writeInto_149 : decode cX5_writeInto 149 = .ok (.return_, 1) := by decide +kernel
set_option maxRecDepth 20000 in
theorem ggX5_leastBits_X5_keepsFewest : GoodIn wsX5_leastBits wsX5_keepsFewest := goodIn_r _ [5, 6, 7, 4, 8, 9, 10, 11, 12, 13, 14, 15, 16, 17, 18, 19, 20, 21, 22, 23, 24, 25, 26, 27, 28, 29, 30, 31, 32] (by decide +kernel) (by decide +kernel)
set_option maxRecDepth 20000 in
theorem gX5_leastBits_X5_keepsFewest : GoodIn wsX5_leastBits (wsV RX5 143 RX5 yX5_keepsFewest wsX5_keepsFewest) := goodIn_app (goodIn_of _ (by decide +kernel)) ggX5_leastBits_X5_keepsFewest
theorem dX5_leastBits_0 : decode cX5_leastBits 0 = .ok (.iconst 0, 1) := by decide +kernel
theorem dX5_leastBits_1 : decode cX5_leastBits 1 = .ok (.istore 4, 2) := by decide +kernel
theorem dX5_leastBits_3 : decode cX5_leastBits 3 = .ok (.iload 4, 2) := by decide +kernel
theorem dX5_leastBits_5 : decode cX5_leastBits 5 = .ok (.bipush 15, 2) := by decide +kernel
theorem dX5_leastBits_7 : decode cX5_leastBits 7 = .ok (.if_icmp .ge 21, 3) := by decide +kernel
theorem dX5_leastBits_10 : decode cX5_leastBits 10 = .ok (.aload_n 0, 1) := by decide +kernel
theorem dX5_leastBits_11 : decode cX5_leastBits 11 = .ok (.iload_n 1, 1) := by decide +kernel
theorem dX5_leastBits_12 : decode cX5_leastBits 12 = .ok (.iload_n 2, 1) := by decide +kernel
theorem dX5_leastBits_13 : decode cX5_leastBits 13 = .ok (.iload_n 3, 1) := by decide +kernel
theorem dX5_leastBits_14 : decode cX5_leastBits 14 = .ok (.iload 4, 2) := by decide +kernel
theorem dX5_leastBits_16 : decode cX5_leastBits 16 = .ok (.invokevirtual 143, 3) := by decide +kernel
theorem dX5_leastBits_19 : decode cX5_leastBits 19 = .ok (.ifCond .ne 9, 3) := by decide +kernel
theorem dX5_leastBits_22 : decode cX5_leastBits 22 = .ok (.iinc 4 1, 3) := by decide +kernel
theorem dX5_leastBits_25 : decode cX5_leastBits 25 = .ok (.goto (-22), 3) := by decide +kernel
theorem dX5_leastBits_28 : decode cX5_leastBits 28 = .ok (.iload 4, 2) := by decide +kernel
theorem dX5_leastBits_30 : decode cX5_leastBits 30 = .ok (.ireturn, 1) := by decide +kernel
set_option maxRecDepth 20000 in
theorem ggX5_keepsFewest_X5_freshOf : GoodIn wsX5_keepsFewest wsX5_freshOf := goodIn_r _ [4] (by decide +kernel) (by decide +kernel)
set_option maxRecDepth 20000 in
theorem gX5_keepsFewest_X5_freshOf : GoodIn wsX5_keepsFewest (va_wsS RX5 88 yX5_freshOf wsX5_freshOf) := goodIn_app (goodIn_of _ (by decide +kernel)) ggX5_keepsFewest_X5_freshOf
set_option maxRecDepth 20000 in
theorem ggX5_keepsFewest_J6_bitCount_0f7a4 : GoodIn wsX5_keepsFewest wsJ6_bitCount_0f7a4 := goodIn_r _ [8, 9, 10, 11] (by decide +kernel) (by decide +kernel)
set_option maxRecDepth 20000 in
theorem gX5_keepsFewest_J6_bitCount_0f7a4 : GoodIn wsX5_keepsFewest (va_wsS RX5 147 yJ6_bitCount_0f7a4 wsJ6_bitCount_0f7a4) := goodIn_app (goodIn_of _ (by decide +kernel)) ggX5_keepsFewest_J6_bitCount_0f7a4
set_option maxRecDepth 20000 in
theorem ggX5_keepsFewest_X5_tiesFrom : GoodIn wsX5_keepsFewest wsX5_tiesFrom := goodIn_r _ [15, 16, 17, 18, 19, 20, 21, 22, 23, 24, 25, 26, 27, 28] (by decide +kernel) (by decide +kernel)
set_option maxRecDepth 20000 in
theorem gX5_keepsFewest_X5_tiesFrom : GoodIn wsX5_keepsFewest (wsV RX5 110 RX5 yX5_tiesFrom wsX5_tiesFrom) := goodIn_app (goodIn_of _ (by decide +kernel)) ggX5_keepsFewest_X5_tiesFrom
theorem dX5_keepsFewest_0 : decode cX5_keepsFewest 0 = .ok (.iload 4, 2) := by decide +kernel
theorem dX5_keepsFewest_2 : decode cX5_keepsFewest 2 = .ok (.invokestatic 88, 3) := by decide +kernel
theorem dX5_keepsFewest_5 : decode cX5_keepsFewest 5 = .ok (.istore 5, 2) := by decide +kernel
theorem dX5_keepsFewest_7 : decode cX5_keepsFewest 7 = .ok (.iload_n 3, 1) := by decide +kernel
theorem dX5_keepsFewest_8 : decode cX5_keepsFewest 8 = .ok (.iload 4, 2) := by decide +kernel
theorem dX5_keepsFewest_10 : decode cX5_keepsFewest 10 = .ok (.ishr, 1) := by decide +kernel
theorem dX5_keepsFewest_11 : decode cX5_keepsFewest 11 = .ok (.iconst 1, 1) := by decide +kernel
theorem dX5_keepsFewest_12 : decode cX5_keepsFewest 12 = .ok (.iand, 1) := by decide +kernel
theorem dX5_keepsFewest_13 : decode cX5_keepsFewest 13 = .ok (.ifCond .eq 35, 3) := by decide +kernel
theorem dX5_keepsFewest_16 : decode cX5_keepsFewest 16 = .ok (.iload 5, 2) := by decide +kernel
theorem dX5_keepsFewest_18 : decode cX5_keepsFewest 18 = .ok (.iload_n 2, 1) := by decide +kernel
theorem dX5_keepsFewest_19 : decode cX5_keepsFewest 19 = .ok (.iconst (-1), 1) := by decide +kernel
theorem dX5_keepsFewest_20 : decode cX5_keepsFewest 20 = .ok (.ixor, 1) := by decide +kernel
theorem dX5_keepsFewest_21 : decode cX5_keepsFewest 21 = .ok (.iand, 1) := by decide +kernel
theorem dX5_keepsFewest_22 : decode cX5_keepsFewest 22 = .ok (.invokestatic 147, 3) := by decide +kernel
theorem dX5_keepsFewest_25 : decode cX5_keepsFewest 25 = .ok (.aload_n 0, 1) := by decide +kernel
theorem dX5_keepsFewest_26 : decode cX5_keepsFewest 26 = .ok (.iload_n 1, 1) := by decide +kernel
theorem dX5_keepsFewest_27 : decode cX5_keepsFewest 27 = .ok (.iconst 1, 1) := by decide +kernel
theorem dX5_keepsFewest_28 : decode cX5_keepsFewest 28 = .ok (.iadd, 1) := by decide +kernel
theorem dX5_keepsFewest_29 : decode cX5_keepsFewest 29 = .ok (.iload 5, 2) := by decide +kernel
theorem dX5_keepsFewest_31 : decode cX5_keepsFewest 31 = .ok (.invokevirtual 110, 3) := by decide +kernel
theorem dX5_keepsFewest_34 : decode cX5_keepsFewest 34 = .ok (.iadd, 1) := by decide +kernel
theorem dX5_keepsFewest_35 : decode cX5_keepsFewest 35 = .ok (.aload_n 0, 1) := by decide +kernel
theorem dX5_keepsFewest_36 : decode cX5_keepsFewest 36 = .ok (.iload_n 1, 1) := by decide +kernel
theorem dX5_keepsFewest_37 : decode cX5_keepsFewest 37 = .ok (.iload_n 2, 1) := by decide +kernel
theorem dX5_keepsFewest_38 : decode cX5_keepsFewest 38 = .ok (.invokevirtual 110, 3) := by decide +kernel
theorem dX5_keepsFewest_41 : decode cX5_keepsFewest 41 = .ok (.if_icmp .ne 7, 3) := by decide +kernel
theorem dX5_keepsFewest_44 : decode cX5_keepsFewest 44 = .ok (.iconst 1, 1) := by decide +kernel
theorem dX5_keepsFewest_45 : decode cX5_keepsFewest 45 = .ok (.goto 4, 3) := by decide +kernel
theorem dX5_keepsFewest_48 : decode cX5_keepsFewest 48 = .ok (.iconst 0, 1) := by decide +kernel
theorem dX5_keepsFewest_49 : decode cX5_keepsFewest 49 = .ok (.ireturn, 1) := by decide +kernel
theorem dX6_init_0 : decode cX6_init 0 = .ok (.aload_n 0, 1) := by decide +kernel
theorem dX6_init_1 : decode cX6_init 1 = .ok (.invokespecial 3, 3) := by decide +kernel
theorem dX6_init_4 : decode cX6_init 4 = .ok (.aload_n 0, 1) := by decide +kernel
theorem dX6_init_5 : decode cX6_init 5 = .ok (.bipush 16, 2) := by decide +kernel
theorem dX6_init_7 : decode cX6_init 7 = .ok (.newarray .int, 2) := by decide +kernel
theorem dX6_init_9 : decode cX6_init 9 = .ok (.putfield 9, 3) := by decide +kernel
theorem dX6_init_12 : decode cX6_init 12 = .ok (.aload_n 0, 1) := by decide +kernel
theorem dX6_init_13 : decode cX6_init 13 = .ok (.bipush 16, 2) := by decide +kernel
theorem dX6_init_15 : decode cX6_init 15 = .ok (.newarray .int, 2) := by decide +kernel
theorem dX6_init_17 : decode cX6_init 17 = .ok (.putfield 15, 3) := by decide +kernel
theorem dX6_init_20 : decode cX6_init 20 = .ok (.return_, 1) := by decide +kernel
set_option maxRecDepth 20000 in
theorem ggX6_clear_X6_let : GoodIn wsX6_clear wsX6_let := goodIn_r _ [5, 6, 7, 8, 9] (by decide +kernel) (by decide +kernel)
set_option maxRecDepth 20000 in
theorem gX6_clear_X6_let : GoodIn wsX6_clear (wsV RX6 18 RX6 yX6_let wsX6_let) := goodIn_app (goodIn_of _ (by decide +kernel)) ggX6_clear_X6_let
theorem dX6_clear_0 : decode cX6_clear 0 = .ok (.iconst 0, 1) := by decide +kernel
theorem dX6_clear_1 : decode cX6_clear 1 = .ok (.istore_n 1, 1) := by decide +kernel
theorem dX6_clear_2 : decode cX6_clear 2 = .ok (.iload_n 1, 1) := by decide +kernel
theorem dX6_clear_3 : decode cX6_clear 3 = .ok (.bipush 16, 2) := by decide +kernel
theorem dX6_clear_5 : decode cX6_clear 5 = .ok (.if_icmp .ge 16, 3) := by decide +kernel
theorem dX6_clear_8 : decode cX6_clear 8 = .ok (.aload_n 0, 1) := by decide +kernel
theorem dX6_clear_9 : decode cX6_clear 9 = .ok (.iload_n 1, 1) := by decide +kernel
theorem dX6_clear_10 : decode cX6_clear 10 = .ok (.iconst 0, 1) := by decide +kernel
theorem dX6_clear_11 : decode cX6_clear 11 = .ok (.iconst 0, 1) := by decide +kernel
theorem dX6_clear_12 : decode cX6_clear 12 = .ok (.invokevirtual 18, 3) := by decide +kernel
theorem dX6_clear_15 : decode cX6_clear 15 = .ok (.iinc 1 1, 3) := by decide +kernel
theorem dX6_clear_18 : decode cX6_clear 18 = .ok (.goto (-16), 3) := by decide +kernel
theorem dX6_clear_21 : decode cX6_clear 21 = .ok (.return_, 1) := by decide +kernel
theorem dX6_let_0 : decode cX6_let 0 = .ok (.aload_n 0, 1) := by decide +kernel
theorem dX6_let_1 : decode cX6_let 1 = .ok (.getfield 9, 3) := by decide +kernel
theorem dX6_let_4 : decode cX6_let 4 = .ok (.iload_n 1, 1) := by decide +kernel
theorem dX6_let_5 : decode cX6_let 5 = .ok (.iload_n 2, 1) := by decide +kernel
theorem dX6_let_6 : decode cX6_let 6 = .ok (.iastore, 1) := by decide +kernel
theorem dX6_let_7 : decode cX6_let 7 = .ok (.aload_n 0, 1) := by decide +kernel
theorem dX6_let_8 : decode cX6_let 8 = .ok (.getfield 15, 3) := by decide +kernel
theorem dX6_let_11 : decode cX6_let 11 = .ok (.iload_n 1, 1) := by decide +kernel
theorem dX6_let_12 : decode cX6_let 12 = .ok (.iload_n 3, 1) := by decide +kernel
theorem dX6_let_13 : decode cX6_let 13 = .ok (.iastore, 1) := by decide +kernel
theorem dX6_let_14 : decode cX6_let 14 = .ok (.return_, 1) := by decide +kernel
set_option maxRecDepth 20000 in
theorem ggX6_showsAt_X0_places : GoodIn wsX6_showsAt wsX0_places := goodIn_r _ [7, 8, 17, 18, 19, 20, 21, 22, 23] (by decide +kernel) (by decide +kernel)
set_option maxRecDepth 20000 in
theorem gX6_showsAt_X0_places : GoodIn wsX6_showsAt (wsV RX6 22 RX0 yX0_places wsX0_places) := goodIn_app (goodIn_of _ (by decide +kernel)) ggX6_showsAt_X0_places
set_option maxRecDepth 20000 in
theorem ggX6_showsAt_X0_colourAt : GoodIn wsX6_showsAt wsX0_colourAt := goodIn_r _ [12, 13, 14, 17, 18, 19, 20, 21, 22, 23] (by decide +kernel) (by decide +kernel)
set_option maxRecDepth 20000 in
theorem gX6_showsAt_X0_colourAt : GoodIn wsX6_showsAt (wsV RX6 28 RX0 yX0_colourAt wsX0_colourAt) := goodIn_app (goodIn_of _ (by decide +kernel)) ggX6_showsAt_X0_colourAt
theorem dX6_showsAt_0 : decode cX6_showsAt 0 = .ok (.iconst 0, 1) := by decide +kernel
theorem dX6_showsAt_1 : decode cX6_showsAt 1 = .ok (.istore 4, 2) := by decide +kernel
theorem dX6_showsAt_3 : decode cX6_showsAt 3 = .ok (.aload_n 0, 1) := by decide +kernel
theorem dX6_showsAt_4 : decode cX6_showsAt 4 = .ok (.getfield 9, 3) := by decide +kernel
theorem dX6_showsAt_7 : decode cX6_showsAt 7 = .ok (.iload_n 1, 1) := by decide +kernel
theorem dX6_showsAt_8 : decode cX6_showsAt 8 = .ok (.iaload, 1) := by decide +kernel
theorem dX6_showsAt_9 : decode cX6_showsAt 9 = .ok (.istore 5, 2) := by decide +kernel
theorem dX6_showsAt_11 : decode cX6_showsAt 11 = .ok (.iload 5, 2) := by decide +kernel
theorem dX6_showsAt_13 : decode cX6_showsAt 13 = .ok (.aload_n 0, 1) := by decide +kernel
theorem dX6_showsAt_14 : decode cX6_showsAt 14 = .ok (.getfield 15, 3) := by decide +kernel
theorem dX6_showsAt_17 : decode cX6_showsAt 17 = .ok (.iload_n 1, 1) := by decide +kernel
theorem dX6_showsAt_18 : decode cX6_showsAt 18 = .ok (.iaload, 1) := by decide +kernel
theorem dX6_showsAt_19 : decode cX6_showsAt 19 = .ok (.if_icmp .gt 43, 3) := by decide +kernel
theorem dX6_showsAt_22 : decode cX6_showsAt 22 = .ok (.iload_n 2, 1) := by decide +kernel
theorem dX6_showsAt_23 : decode cX6_showsAt 23 = .ok (.iload 5, 2) := by decide +kernel
theorem dX6_showsAt_25 : decode cX6_showsAt 25 = .ok (.isub, 1) := by decide +kernel
theorem dX6_showsAt_26 : decode cX6_showsAt 26 = .ok (.istore 6, 2) := by decide +kernel
theorem dX6_showsAt_28 : decode cX6_showsAt 28 = .ok (.iload 6, 2) := by decide +kernel
theorem dX6_showsAt_30 : decode cX6_showsAt 30 = .ok (.ifCond .lt 26, 3) := by decide +kernel
theorem dX6_showsAt_33 : decode cX6_showsAt 33 = .ok (.iload 6, 2) := by decide +kernel
theorem dX6_showsAt_35 : decode cX6_showsAt 35 = .ok (.aload_n 3, 1) := by decide +kernel
theorem dX6_showsAt_36 : decode cX6_showsAt 36 = .ok (.invokevirtual 22, 3) := by decide +kernel
theorem dX6_showsAt_39 : decode cX6_showsAt 39 = .ok (.if_icmp .ge 17, 3) := by decide +kernel
theorem dX6_showsAt_42 : decode cX6_showsAt 42 = .ok (.iload 4, 2) := by decide +kernel
theorem dX6_showsAt_44 : decode cX6_showsAt 44 = .ok (.iconst 1, 1) := by decide +kernel
theorem dX6_showsAt_45 : decode cX6_showsAt 45 = .ok (.aload_n 3, 1) := by decide +kernel
theorem dX6_showsAt_46 : decode cX6_showsAt 46 = .ok (.iload_n 1, 1) := by decide +kernel
theorem dX6_showsAt_47 : decode cX6_showsAt 47 = .ok (.iload 6, 2) := by decide +kernel
theorem dX6_showsAt_49 : decode cX6_showsAt 49 = .ok (.invokevirtual 28, 3) := by decide +kernel
theorem dX6_showsAt_52 : decode cX6_showsAt 52 = .ok (.ishl, 1) := by decide +kernel
theorem dX6_showsAt_53 : decode cX6_showsAt 53 = .ok (.ior, 1) := by decide +kernel
theorem dX6_showsAt_54 : decode cX6_showsAt 54 = .ok (.istore 4, 2) := by decide +kernel
theorem dX6_showsAt_56 : decode cX6_showsAt 56 = .ok (.iinc 5 1, 3) := by decide +kernel
theorem dX6_showsAt_59 : decode cX6_showsAt 59 = .ok (.goto (-48), 3) := by decide +kernel
theorem dX6_showsAt_62 : decode cX6_showsAt 62 = .ok (.iload 4, 2) := by decide +kernel
theorem dX6_showsAt_64 : decode cX6_showsAt 64 = .ok (.ireturn, 1) := by decide +kernel
theorem dX7_init_0 : decode cX7_init 0 = .ok (.aload_n 0, 1) := by decide +kernel
theorem dX7_init_1 : decode cX7_init 1 = .ok (.invokespecial 3, 3) := by decide +kernel
theorem dX7_init_4 : decode cX7_init 4 = .ok (.aload_n 0, 1) := by decide +kernel
theorem dX7_init_5 : decode cX7_init 5 = .ok (.iconst 4, 1) := by decide +kernel
theorem dX7_init_6 : decode cX7_init 6 = .ok (.newarray .int, 2) := by decide +kernel
theorem dX7_init_8 : decode cX7_init 8 = .ok (.putfield 9, 3) := by decide +kernel
theorem dX7_init_11 : decode cX7_init 11 = .ok (.aload_n 0, 1) := by decide +kernel
theorem dX7_init_12 : decode cX7_init 12 = .ok (.iconst 4, 1) := by decide +kernel
theorem dX7_init_13 : decode cX7_init 13 = .ok (.newarray .int, 2) := by decide +kernel
theorem dX7_init_15 : decode cX7_init 15 = .ok (.putfield 15, 3) := by decide +kernel
theorem dX7_init_18 : decode cX7_init 18 = .ok (.return_, 1) := by decide +kernel
theorem dX7_strengthOf_0 : decode cX7_strengthOf 0 = .ok (.aload_n 0, 1) := by decide +kernel
theorem dX7_strengthOf_1 : decode cX7_strengthOf 1 = .ok (.getfield 9, 3) := by decide +kernel
theorem dX7_strengthOf_4 : decode cX7_strengthOf 4 = .ok (.iload_n 1, 1) := by decide +kernel
theorem dX7_strengthOf_5 : decode cX7_strengthOf 5 = .ok (.iaload, 1) := by decide +kernel
theorem dX7_strengthOf_6 : decode cX7_strengthOf 6 = .ok (.ireturn, 1) := by decide +kernel
theorem dX7_fill_0 : decode cX7_fill 0 = .ok (.aload_n 0, 1) := by decide +kernel
theorem dX7_fill_1 : decode cX7_fill 1 = .ok (.getfield 9, 3) := by decide +kernel
theorem dX7_fill_4 : decode cX7_fill 4 = .ok (.iload_n 1, 1) := by decide +kernel
theorem dX7_fill_5 : decode cX7_fill 5 = .ok (.dup2, 1) := by decide +kernel
theorem dX7_fill_6 : decode cX7_fill 6 = .ok (.iaload, 1) := by decide +kernel
theorem dX7_fill_7 : decode cX7_fill 7 = .ok (.iload_n 2, 1) := by decide +kernel
theorem dX7_fill_8 : decode cX7_fill 8 = .ok (.iadd, 1) := by decide +kernel
theorem dX7_fill_9 : decode cX7_fill 9 = .ok (.iastore, 1) := by decide +kernel
theorem dX7_fill_10 : decode cX7_fill 10 = .ok (.return_, 1) := by decide +kernel
theorem dX7_lose_0 : decode cX7_lose 0 = .ok (.aload_n 0, 1) := by decide +kernel
theorem dX7_lose_1 : decode cX7_lose 1 = .ok (.getfield 9, 3) := by decide +kernel
theorem dX7_lose_4 : decode cX7_lose 4 = .ok (.iload_n 1, 1) := by decide +kernel
theorem dX7_lose_5 : decode cX7_lose 5 = .ok (.dup2, 1) := by decide +kernel
theorem dX7_lose_6 : decode cX7_lose 6 = .ok (.iaload, 1) := by decide +kernel
theorem dX7_lose_7 : decode cX7_lose 7 = .ok (.iload_n 2, 1) := by decide +kernel
theorem dX7_lose_8 : decode cX7_lose 8 = .ok (.isub, 1) := by decide +kernel
theorem dX7_lose_9 : decode cX7_lose 9 = .ok (.iastore, 1) := by decide +kernel
theorem dX7_lose_10 : decode cX7_lose 10 = .ok (.return_, 1) := by decide +kernel
set_option maxRecDepth 20000 in
theorem ggX7_sufficeFor_X4_row : GoodIn wsX7_sufficeFor wsX4_row := goodIn_r _ [7, 8, 44, 45, 46, 47] (by decide +kernel) (by decide +kernel)
set_option maxRecDepth 20000 in
theorem gX7_sufficeFor_X4_row : GoodIn wsX7_sufficeFor (wsV RX7 18 RX4 yX4_row wsX4_row) := goodIn_app (goodIn_of _ (by decide +kernel)) ggX7_sufficeFor_X4_row
set_option maxRecDepth 20000 in
theorem ggX7_sufficeFor_X8_bathsOf : GoodIn wsX7_sufficeFor wsX8_bathsOf := goodIn_r _ [11, 12, 13, 10, 14] (by decide +kernel) (by decide +kernel)
set_option maxRecDepth 20000 in
theorem gX7_sufficeFor_X8_bathsOf_n24 : GoodIn wsX7_sufficeFor (wsX8_bathsOf) := ggX7_sufficeFor_X8_bathsOf
set_option maxRecDepth 20000 in
theorem ggX7_sufficeFor_X8_dyeOf : GoodIn wsX7_sufficeFor wsX8_dyeOf := goodIn_r _ [14] (by decide +kernel) (by decide +kernel)
set_option maxRecDepth 20000 in
theorem gX7_sufficeFor_X8_dyeOf_n28 : GoodIn wsX7_sufficeFor (wsX8_dyeOf) := ggX7_sufficeFor_X8_dyeOf
set_option maxRecDepth 20000 in
theorem ggX7_sufficeFor_X0_wouldTakeUp : GoodIn wsX7_sufficeFor wsX0_wouldTakeUp := goodIn_r _ [19, 20, 21, 22, 18, 23, 24, 25, 26, 27, 6, 28, 29, 30, 31, 32, 33, 34, 35, 36, 37, 38, 39, 40, 41, 48, 49, 50, 51, 52, 53, 54, 44, 45, 46, 47] (by decide +kernel) (by decide +kernel)
set_option maxRecDepth 20000 in
theorem gX7_sufficeFor_X0_wouldTakeUp : GoodIn wsX7_sufficeFor (wsV RX7 32 RX0 yX0_wouldTakeUp wsX0_wouldTakeUp) := goodIn_app (goodIn_of _ (by decide +kernel)) ggX7_sufficeFor_X0_wouldTakeUp
theorem dX7_sufficeFor_0 : decode cX7_sufficeFor 0 = .ok (.iconst 0, 1) := by decide +kernel
theorem dX7_sufficeFor_1 : decode cX7_sufficeFor 1 = .ok (.istore_n 3, 1) := by decide +kernel
theorem dX7_sufficeFor_2 : decode cX7_sufficeFor 2 = .ok (.iload_n 3, 1) := by decide +kernel
theorem dX7_sufficeFor_3 : decode cX7_sufficeFor 3 = .ok (.iconst 4, 1) := by decide +kernel
theorem dX7_sufficeFor_4 : decode cX7_sufficeFor 4 = .ok (.if_icmp .ge 16, 3) := by decide +kernel
theorem dX7_sufficeFor_7 : decode cX7_sufficeFor 7 = .ok (.aload_n 0, 1) := by decide +kernel
theorem dX7_sufficeFor_8 : decode cX7_sufficeFor 8 = .ok (.getfield 15, 3) := by decide +kernel
theorem dX7_sufficeFor_11 : decode cX7_sufficeFor 11 = .ok (.iload_n 3, 1) := by decide +kernel
theorem dX7_sufficeFor_12 : decode cX7_sufficeFor 12 = .ok (.iconst 0, 1) := by decide +kernel
theorem dX7_sufficeFor_13 : decode cX7_sufficeFor 13 = .ok (.iastore, 1) := by decide +kernel
theorem dX7_sufficeFor_14 : decode cX7_sufficeFor 14 = .ok (.iinc 3 1, 3) := by decide +kernel
theorem dX7_sufficeFor_17 : decode cX7_sufficeFor 17 = .ok (.goto (-15), 3) := by decide +kernel
theorem dX7_sufficeFor_20 : decode cX7_sufficeFor 20 = .ok (.aload_n 1, 1) := by decide +kernel
theorem dX7_sufficeFor_21 : decode cX7_sufficeFor 21 = .ok (.invokevirtual 18, 3) := by decide +kernel
theorem dX7_sufficeFor_24 : decode cX7_sufficeFor 24 = .ok (.invokestatic 24, 3) := by decide +kernel
theorem dX7_sufficeFor_27 : decode cX7_sufficeFor 27 = .ok (.istore_n 3, 1) := by decide +kernel
theorem dX7_sufficeFor_28 : decode cX7_sufficeFor 28 = .ok (.iconst 0, 1) := by decide +kernel
theorem dX7_sufficeFor_29 : decode cX7_sufficeFor 29 = .ok (.istore 4, 2) := by decide +kernel
theorem dX7_sufficeFor_31 : decode cX7_sufficeFor 31 = .ok (.iload 4, 2) := by decide +kernel
theorem dX7_sufficeFor_33 : decode cX7_sufficeFor 33 = .ok (.iload_n 3, 1) := by decide +kernel
theorem dX7_sufficeFor_34 : decode cX7_sufficeFor 34 = .ok (.if_icmp .ge 33, 3) := by decide +kernel
theorem dX7_sufficeFor_37 : decode cX7_sufficeFor 37 = .ok (.aload_n 0, 1) := by decide +kernel
theorem dX7_sufficeFor_38 : decode cX7_sufficeFor 38 = .ok (.getfield 15, 3) := by decide +kernel
theorem dX7_sufficeFor_41 : decode cX7_sufficeFor 41 = .ok (.aload_n 1, 1) := by decide +kernel
theorem dX7_sufficeFor_42 : decode cX7_sufficeFor 42 = .ok (.invokevirtual 18, 3) := by decide +kernel
theorem dX7_sufficeFor_45 : decode cX7_sufficeFor 45 = .ok (.iload 4, 2) := by decide +kernel
theorem dX7_sufficeFor_47 : decode cX7_sufficeFor 47 = .ok (.invokestatic 28, 3) := by decide +kernel
theorem dX7_sufficeFor_50 : decode cX7_sufficeFor 50 = .ok (.dup2, 1) := by decide +kernel
theorem dX7_sufficeFor_51 : decode cX7_sufficeFor 51 = .ok (.iaload, 1) := by decide +kernel
theorem dX7_sufficeFor_52 : decode cX7_sufficeFor 52 = .ok (.aload_n 2, 1) := by decide +kernel
theorem dX7_sufficeFor_53 : decode cX7_sufficeFor 53 = .ok (.aload_n 1, 1) := by decide +kernel
theorem dX7_sufficeFor_54 : decode cX7_sufficeFor 54 = .ok (.iload 4, 2) := by decide +kernel
theorem dX7_sufficeFor_56 : decode cX7_sufficeFor 56 = .ok (.invokevirtual 32, 3) := by decide +kernel
theorem dX7_sufficeFor_59 : decode cX7_sufficeFor 59 = .ok (.iadd, 1) := by decide +kernel
theorem dX7_sufficeFor_60 : decode cX7_sufficeFor 60 = .ok (.iastore, 1) := by decide +kernel
theorem dX7_sufficeFor_61 : decode cX7_sufficeFor 61 = .ok (.iinc 4 1, 3) := by decide +kernel
theorem dX7_sufficeFor_64 : decode cX7_sufficeFor 64 = .ok (.goto (-33), 3) := by decide +kernel
theorem dX7_sufficeFor_67 : decode cX7_sufficeFor 67 = .ok (.iconst 0, 1) := by decide +kernel
theorem dX7_sufficeFor_68 : decode cX7_sufficeFor 68 = .ok (.istore 4, 2) := by decide +kernel
theorem dX7_sufficeFor_70 : decode cX7_sufficeFor 70 = .ok (.iload 4, 2) := by decide +kernel
theorem dX7_sufficeFor_72 : decode cX7_sufficeFor 72 = .ok (.iconst 4, 1) := by decide +kernel
theorem dX7_sufficeFor_73 : decode cX7_sufficeFor 73 = .ok (.if_icmp .ge 28, 3) := by decide +kernel
theorem dX7_sufficeFor_76 : decode cX7_sufficeFor 76 = .ok (.aload_n 0, 1) := by decide +kernel
theorem dX7_sufficeFor_77 : decode cX7_sufficeFor 77 = .ok (.getfield 15, 3) := by decide +kernel
theorem dX7_sufficeFor_80 : decode cX7_sufficeFor 80 = .ok (.iload 4, 2) := by decide +kernel
theorem dX7_sufficeFor_82 : decode cX7_sufficeFor 82 = .ok (.iaload, 1) := by decide +kernel
theorem dX7_sufficeFor_83 : decode cX7_sufficeFor 83 = .ok (.aload_n 0, 1) := by decide +kernel
theorem dX7_sufficeFor_84 : decode cX7_sufficeFor 84 = .ok (.getfield 9, 3) := by decide +kernel
theorem dX7_sufficeFor_87 : decode cX7_sufficeFor 87 = .ok (.iload 4, 2) := by decide +kernel
theorem dX7_sufficeFor_89 : decode cX7_sufficeFor 89 = .ok (.iaload, 1) := by decide +kernel
theorem dX7_sufficeFor_90 : decode cX7_sufficeFor 90 = .ok (.if_icmp .le 5, 3) := by decide +kernel
theorem dX7_sufficeFor_93 : decode cX7_sufficeFor 93 = .ok (.iconst 0, 1) := by decide +kernel
theorem dX7_sufficeFor_94 : decode cX7_sufficeFor 94 = .ok (.ireturn, 1) := by decide +kernel
theorem dX7_sufficeFor_95 : decode cX7_sufficeFor 95 = .ok (.iinc 4 1, 3) := by decide +kernel
theorem dX7_sufficeFor_98 : decode cX7_sufficeFor 98 = .ok (.goto (-28), 3) := by decide +kernel
theorem dX7_sufficeFor_101 : decode cX7_sufficeFor 101 = .ok (.iconst 1, 1) := by decide +kernel
theorem dX7_sufficeFor_102 : decode cX7_sufficeFor 102 = .ok (.ireturn, 1) := by decide +kernel
set_option maxRecDepth 20000 in
theorem ggX8_init_X2_init : GoodIn wsX8_init wsX2_init := goodIn_r _ [39, 40, 2, 3, 41, 42, 107] (by decide +kernel) (by decide +kernel)
set_option maxRecDepth 20000 in
theorem gX8_init_X2_init : GoodIn wsX8_init (wsX2_init) := ggX8_init_X2_init
set_option maxRecDepth 20000 in
theorem ggX8_init_X7_init : GoodIn wsX8_init wsX7_init := goodIn_r _ [44, 45, 2, 3, 41, 46, 47, 117, 118] (by decide +kernel) (by decide +kernel)
set_option maxRecDepth 20000 in
theorem gX8_init_X7_init_n18 : GoodIn wsX8_init (wsX7_init) := ggX8_init_X7_init
