theorem dL_vat_3 : decode cL_vat 3 = .ok (.iload_n 1, 1) := by decide +kernel
theorem dL_vat_4 : decode cL_vat 4 = .ok (.iload_n 2, 1) := by decide +kernel
theorem dL_vat_5 : decode cL_vat 5 = .ok (.invokevirtual 29, 3) := by decide +kernel
theorem dL_vat_8 : decode cL_vat 8 = .ok (.i2l, 1) := by decide +kernel
theorem dL_vat_9 : decode cL_vat 9 = .ok (.lastore, 1) := by decide +kernel
theorem dL_vat_10 : decode cL_vat 10 = .ok (.goto 7, 3) := by decide +kernel
theorem dL_vat_13 : decode cL_vat 13 = .ok (.astore 4, 2) := by decide +kernel
theorem dL_vat_15 : decode cL_vat 15 = .ok (.iconst 1, 1) := by decide +kernel
theorem dL_vat_16 : decode cL_vat 16 = .ok (.ireturn, 1) := by decide +kernel
theorem dL_vat_17 : decode cL_vat 17 = .ok (.iconst 0, 1) := by decide +kernel
theorem dL_vat_18 : decode cL_vat 18 = .ok (.ireturn, 1) := by decide +kernel
set_option maxRecDepth 20000 in
theorem ggL_tie_X8_tie : GoodIn wsL_tie wsX8_tie := goodIn_ca (goodIn_ca (goodIn_r _ [7, 8, 9, 10, 11, 6, 12, 13, 14, 15, 16, 17, 18, 19, 20, 21, 22, 23, 24, 25, 26, 27, 28, 29, 30, 31, 32, 33, 34, 35, 36, 37, 38, 39, 40, 41, 42, 43, 44, 45, 46, 47, 48, 49, 50, 51, 52, 53, 54, 55, 56, 57, 58, 59, 60, 61, 62] (by decide +kernel) (by decide +kernel)) (goodIn_sub (fun _ h => List.mem_cons_of_mem _ (List.mem_append_left _ (List.mem_append_right _ h))) (by decide +kernel))) (goodIn_sub (fun _ h => List.mem_cons_of_mem _ (List.mem_append_right _ h)) (by decide +kernel))
set_option maxRecDepth 20000 in
theorem gL_tie_X8_tie : GoodIn wsL_tie (wsV RL 32 RX8 yX8_tie wsX8_tie) := goodIn_app (goodIn_of _ (by decide +kernel)) ggL_tie_X8_tie
theorem dL_tie_0 : decode cL_tie 0 = .ok (.aload 4, 2) := by decide +kernel
theorem dL_tie_2 : decode cL_tie 2 = .ok (.iconst 0, 1) := by decide +kernel
theorem dL_tie_3 : decode cL_tie 3 = .ok (.aload_n 0, 1) := by decide +kernel
theorem dL_tie_4 : decode cL_tie 4 = .ok (.iload_n 1, 1) := by decide +kernel
theorem dL_tie_5 : decode cL_tie 5 = .ok (.iload_n 2, 1) := by decide +kernel
theorem dL_tie_6 : decode cL_tie 6 = .ok (.iload_n 3, 1) := by decide +kernel
theorem dL_tie_7 : decode cL_tie 7 = .ok (.invokevirtual 32, 3) := by decide +kernel
theorem dL_tie_10 : decode cL_tie 10 = .ok (.i2l, 1) := by decide +kernel
theorem dL_tie_11 : decode cL_tie 11 = .ok (.lastore, 1) := by decide +kernel
theorem dL_tie_12 : decode cL_tie 12 = .ok (.goto 11, 3) := by decide +kernel
theorem dL_tie_15 : decode cL_tie 15 = .ok (.astore 5, 2) := by decide +kernel
theorem dL_tie_17 : decode cL_tie 17 = .ok (.iconst 1, 1) := by decide +kernel
theorem dL_tie_18 : decode cL_tie 18 = .ok (.ireturn, 1) := by decide +kernel
theorem dL_tie_19 : decode cL_tie 19 = .ok (.astore 5, 2) := by decide +kernel
theorem dL_tie_21 : decode cL_tie 21 = .ok (.iconst 2, 1) := by decide +kernel
theorem dL_tie_22 : decode cL_tie 22 = .ok (.ireturn, 1) := by decide +kernel
theorem dL_tie_23 : decode cL_tie 23 = .ok (.iconst 0, 1) := by decide +kernel
theorem dL_tie_24 : decode cL_tie 24 = .ok (.ireturn, 1) := by decide +kernel
set_option maxRecDepth 20000 in
theorem ggL_untie_X8_untie : GoodIn wsL_untie wsX8_untie := goodIn_ca (goodIn_ca (goodIn_r _ [7, 8, 9, 10, 11, 6, 12, 13, 14, 15, 16, 17, 18, 19, 20, 21, 22, 23, 24, 25, 26, 27, 28, 29, 30, 31, 32, 33, 34, 35, 36, 37, 38, 39, 40, 41, 42, 43, 44, 45, 46, 47, 48, 49, 50, 51, 52, 53, 54, 55, 56, 57, 58, 59, 60, 61, 62] (by decide +kernel) (by decide +kernel)) (goodIn_sub (fun _ h => List.mem_cons_of_mem _ (List.mem_append_left _ (List.mem_append_right _ h))) (by decide +kernel))) (goodIn_sub (fun _ h => List.mem_cons_of_mem _ (List.mem_append_right _ h)) (by decide +kernel))
set_option maxRecDepth 20000 in
theorem gL_untie_X8_untie : GoodIn wsL_untie (wsV RL 35 RX8 yX8_untie wsX8_untie) := goodIn_app (goodIn_of _ (by decide +kernel)) ggL_untie_X8_untie
theorem dL_untie_0 : decode cL_untie 0 = .ok (.aload 4, 2) := by decide +kernel
theorem dL_untie_2 : decode cL_untie 2 = .ok (.iconst 0, 1) := by decide +kernel
theorem dL_untie_3 : decode cL_untie 3 = .ok (.aload_n 0, 1) := by decide +kernel
theorem dL_untie_4 : decode cL_untie 4 = .ok (.iload_n 1, 1) := by decide +kernel
theorem dL_untie_5 : decode cL_untie 5 = .ok (.iload_n 2, 1) := by decide +kernel
theorem dL_untie_6 : decode cL_untie 6 = .ok (.iload_n 3, 1) := by decide +kernel
theorem dL_untie_7 : decode cL_untie 7 = .ok (.invokevirtual 35, 3) := by decide +kernel
theorem dL_untie_10 : decode cL_untie 10 = .ok (.i2l, 1) := by decide +kernel
theorem dL_untie_11 : decode cL_untie 11 = .ok (.lastore, 1) := by decide +kernel
theorem dL_untie_12 : decode cL_untie 12 = .ok (.goto 11, 3) := by decide +kernel
theorem dL_untie_15 : decode cL_untie 15 = .ok (.astore 5, 2) := by decide +kernel
theorem dL_untie_17 : decode cL_untie 17 = .ok (.iconst 1, 1) := by decide +kernel
theorem dL_untie_18 : decode cL_untie 18 = .ok (.ireturn, 1) := by decide +kernel
theorem dL_untie_19 : decode cL_untie 19 = .ok (.astore 5, 2) := by decide +kernel
theorem dL_untie_21 : decode cL_untie 21 = .ok (.iconst 2, 1) := by decide +kernel
theorem dL_untie_22 : decode cL_untie 22 = .ok (.ireturn, 1) := by decide +kernel
theorem dL_untie_23 : decode cL_untie 23 = .ok (.iconst 0, 1) := by decide +kernel
theorem dL_untie_24 : decode cL_untie 24 = .ok (.ireturn, 1) := by decide +kernel
set_option maxRecDepth 20000 in
theorem ggL_bath_X8_bath : GoodIn wsL_bath wsX8_bath := goodIn_ca (goodIn_r _ [6, 7, 8, 9, 10, 11, 12, 5, 13, 14, 15, 16, 17, 18, 19, 20, 21, 22, 23, 24, 25, 26, 27, 28, 29, 30, 31, 32, 33, 34, 35, 36, 37, 38, 39, 40, 41, 42, 43, 44, 45, 46, 47, 48, 49, 50, 51, 52, 53, 54, 55, 56, 57, 58, 59, 60, 61, 62, 63, 64, 65, 66, 67, 68, 69, 70, 71, 72, 73, 74, 75, 76, 77, 78] (by decide +kernel) (by decide +kernel)) (goodIn_sub (fun _ h => List.mem_cons_of_mem _ (List.mem_append_right _ h)) (by decide +kernel))
set_option maxRecDepth 20000 in
theorem gL_bath_X8_bath : GoodIn wsL_bath (wsV RL 38 RX8 yX8_bath wsX8_bath) := goodIn_app (goodIn_of _ (by decide +kernel)) ggL_bath_X8_bath
theorem dL_bath_0 : decode cL_bath 0 = .ok (.aload_n 2, 1) := by decide +kernel
theorem dL_bath_1 : decode cL_bath 1 = .ok (.iconst 0, 1) := by decide +kernel
theorem dL_bath_2 : decode cL_bath 2 = .ok (.aload_n 0, 1) := by decide +kernel
theorem dL_bath_3 : decode cL_bath 3 = .ok (.iload_n 1, 1) := by decide +kernel
theorem dL_bath_4 : decode cL_bath 4 = .ok (.invokevirtual 38, 3) := by decide +kernel
theorem dL_bath_7 : decode cL_bath 7 = .ok (.i2l, 1) := by decide +kernel
theorem dL_bath_8 : decode cL_bath 8 = .ok (.lastore, 1) := by decide +kernel
theorem dL_bath_9 : decode cL_bath 9 = .ok (.goto 6, 3) := by decide +kernel
theorem dL_bath_12 : decode cL_bath 12 = .ok (.astore_n 3, 1) := by decide +kernel
theorem dL_bath_13 : decode cL_bath 13 = .ok (.iconst 1, 1) := by decide +kernel
theorem dL_bath_14 : decode cL_bath 14 = .ok (.ireturn, 1) := by decide +kernel
theorem dL_bath_15 : decode cL_bath 15 = .ok (.iconst 0, 1) := by decide +kernel
theorem dL_bath_16 : decode cL_bath 16 = .ok (.ireturn, 1) := by decide +kernel
set_option maxRecDepth 20000 in
theorem ggL_colour_X8_colour : GoodIn wsL_colour wsX8_colour := goodIn_ca (goodIn_r _ [6, 7, 8, 9, 10, 5, 11, 12, 13, 14, 15, 16, 17, 18, 19, 20, 21, 22, 23, 24, 25, 26, 27, 28, 29, 30, 31, 32, 33, 34, 35, 36, 37, 38, 39, 40, 41, 42, 43, 44, 45, 46, 47, 48, 49, 50] (by decide +kernel) (by decide +kernel)) (goodIn_sub (fun _ h => List.mem_cons_of_mem _ (List.mem_append_right _ h)) (by decide +kernel))
set_option maxRecDepth 20000 in
theorem gL_colour_X8_colour : GoodIn wsL_colour (wsV RL 42 RX8 yX8_colour wsX8_colour) := goodIn_app (goodIn_of _ (by decide +kernel)) ggL_colour_X8_colour
theorem dL_colour_0 : decode cL_colour 0 = .ok (.aload_n 3, 1) := by decide +kernel
theorem dL_colour_1 : decode cL_colour 1 = .ok (.iconst 0, 1) := by decide +kernel
theorem dL_colour_2 : decode cL_colour 2 = .ok (.aload_n 0, 1) := by decide +kernel
theorem dL_colour_3 : decode cL_colour 3 = .ok (.iload_n 1, 1) := by decide +kernel
theorem dL_colour_4 : decode cL_colour 4 = .ok (.iload_n 2, 1) := by decide +kernel
theorem dL_colour_5 : decode cL_colour 5 = .ok (.invokevirtual 42, 3) := by decide +kernel
theorem dL_colour_8 : decode cL_colour 8 = .ok (.i2l, 1) := by decide +kernel
theorem dL_colour_9 : decode cL_colour 9 = .ok (.lastore, 1) := by decide +kernel
theorem dL_colour_10 : decode cL_colour 10 = .ok (.goto 7, 3) := by decide +kernel
theorem dL_colour_13 : decode cL_colour 13 = .ok (.astore 4, 2) := by decide +kernel
theorem dL_colour_15 : decode cL_colour 15 = .ok (.iconst 1, 1) := by decide +kernel
theorem dL_colour_16 : decode cL_colour 16 = .ok (.ireturn, 1) := by decide +kernel
theorem dL_colour_17 : decode cL_colour 17 = .ok (.iconst 0, 1) := by decide +kernel
theorem dL_colour_18 : decode cL_colour 18 = .ok (.ireturn, 1) := by decide +kernel
set_option maxRecDepth 20000 in
theorem ggL_bound_X8_bound : GoodIn wsL_bound wsX8_bound := goodIn_ca (goodIn_r _ [6, 7, 8, 9, 5, 10, 11, 12, 13, 14, 15, 16, 17, 18, 19, 20, 21, 22, 23, 24, 25, 26, 27, 28, 29, 30, 31, 32, 33, 34, 35, 36, 37, 38, 39, 40, 41, 42, 43] (by decide +kernel) (by decide +kernel)) (goodIn_sub (fun _ h => List.mem_cons_of_mem _ (List.mem_append_right _ h)) (by decide +kernel))
set_option maxRecDepth 20000 in
theorem gL_bound_X8_bound : GoodIn wsL_bound (wsV RL 45 RX8 yX8_bound wsX8_bound) := goodIn_app (goodIn_of _ (by decide +kernel)) ggL_bound_X8_bound
theorem dL_bound_0 : decode cL_bound 0 = .ok (.aload_n 3, 1) := by decide +kernel
theorem dL_bound_1 : decode cL_bound 1 = .ok (.iconst 0, 1) := by decide +kernel
theorem dL_bound_2 : decode cL_bound 2 = .ok (.aload_n 0, 1) := by decide +kernel
theorem dL_bound_3 : decode cL_bound 3 = .ok (.iload_n 1, 1) := by decide +kernel
theorem dL_bound_4 : decode cL_bound 4 = .ok (.iload_n 2, 1) := by decide +kernel
theorem dL_bound_5 : decode cL_bound 5 = .ok (.invokevirtual 45, 3) := by decide +kernel
theorem dL_bound_8 : decode cL_bound 8 = .ok (.ifCond .eq 7, 3) := by decide +kernel
theorem dL_bound_11 : decode cL_bound 11 = .ok (.lconst 1, 1) := by decide +kernel
theorem dL_bound_12 : decode cL_bound 12 = .ok (.goto 4, 3) := by decide +kernel
theorem dL_bound_15 : decode cL_bound 15 = .ok (.lconst 0, 1) := by decide +kernel
theorem dL_bound_16 : decode cL_bound 16 = .ok (.lastore, 1) := by decide +kernel
theorem dL_bound_17 : decode cL_bound 17 = .ok (.goto 7, 3) := by decide +kernel
theorem dL_bound_20 : decode cL_bound 20 = .ok (.astore 4, 2) := by decide +kernel
theorem dL_bound_22 : decode cL_bound 22 = .ok (.iconst 1, 1) := by decide +kernel
theorem dL_bound_23 : decode cL_bound 23 = .ok (.ireturn, 1) := by decide +kernel
theorem dL_bound_24 : decode cL_bound 24 = .ok (.iconst 0, 1) := by decide +kernel
theorem dL_bound_25 : decode cL_bound 25 = .ok (.ireturn, 1) := by decide +kernel
set_option maxRecDepth 20000 in
theorem ggL_want_X8_want : GoodIn wsL_want wsX8_want := goodIn_ca (goodIn_ca (goodIn_r _ [7, 8, 9, 10, 11, 12, 13, 14, 6, 15, 16, 17, 18, 19, 20, 21, 22, 23, 24, 25, 26, 27, 28, 29, 30, 31, 32, 33, 34, 35, 36, 37, 38, 39, 40, 41, 42, 43, 44, 45, 46, 47, 48, 49, 50, 51, 52, 53, 54, 55, 56, 57, 58, 59, 60, 61, 62, 63, 64, 65, 66, 67, 68, 69, 70, 71, 72, 73] (by decide +kernel) (by decide +kernel)) (goodIn_sub (fun _ h => List.mem_cons_of_mem _ (List.mem_append_left _ (List.mem_append_right _ h))) (by decide +kernel))) (goodIn_sub (fun _ h => List.mem_cons_of_mem _ (List.mem_append_right _ h)) (by decide +kernel))
set_option maxRecDepth 20000 in
theorem gL_want_X8_want : GoodIn wsL_want (wsV RL 49 RX8 yX8_want wsX8_want) := goodIn_app (goodIn_of _ (by decide +kernel)) ggL_want_X8_want
theorem dL_want_0 : decode cL_want 0 = .ok (.aload 4, 2) := by decide +kernel
theorem dL_want_2 : decode cL_want 2 = .ok (.iconst 0, 1) := by decide +kernel
theorem dL_want_3 : decode cL_want 3 = .ok (.aload_n 0, 1) := by decide +kernel
theorem dL_want_4 : decode cL_want 4 = .ok (.iload_n 1, 1) := by decide +kernel
theorem dL_want_5 : decode cL_want 5 = .ok (.iload_n 2, 1) := by decide +kernel
theorem dL_want_6 : decode cL_want 6 = .ok (.iload_n 3, 1) := by decide +kernel
theorem dL_want_7 : decode cL_want 7 = .ok (.invokevirtual 49, 3) := by decide +kernel
theorem dL_want_10 : decode cL_want 10 = .ok (.i2l, 1) := by decide +kernel
theorem dL_want_11 : decode cL_want 11 = .ok (.lastore, 1) := by decide +kernel
theorem dL_want_12 : decode cL_want 12 = .ok (.goto 11, 3) := by decide +kernel
theorem dL_want_15 : decode cL_want 15 = .ok (.astore 5, 2) := by decide +kernel
theorem dL_want_17 : decode cL_want 17 = .ok (.iconst 1, 1) := by decide +kernel
theorem dL_want_18 : decode cL_want 18 = .ok (.ireturn, 1) := by decide +kernel
theorem dL_want_19 : decode cL_want 19 = .ok (.astore 5, 2) := by decide +kernel
theorem dL_want_21 : decode cL_want 21 = .ok (.iconst 2, 1) := by decide +kernel
theorem dL_want_22 : decode cL_want 22 = .ok (.ireturn, 1) := by decide +kernel
theorem dL_want_23 : decode cL_want 23 = .ok (.iconst 0, 1) := by decide +kernel
theorem dL_want_24 : decode cL_want 24 = .ok (.ireturn, 1) := by decide +kernel
set_option maxRecDepth 20000 in
theorem ggL_plan_X8_plan : GoodIn wsL_plan wsX8_plan := goodIn_ca (goodIn_r _ [6, 7, 8, 9, 10, 11, 12, 13, 14, 15, 5, 16, 17, 18, 19, 20, 21, 22, 23, 24, 25, 26, 27, 28, 29, 30, 31, 32, 33, 34, 35, 36, 37, 38, 39, 40, 41, 42, 43, 44, 45, 46, 47, 48, 49, 50, 51, 52, 53, 54, 55, 56, 57, 58, 59, 60, 61, 62, 63, 64, 65, 66, 67, 68, 69, 70, 71, 72, 73, 74, 75, 76, 77, 78, 79, 80, 81, 82, 83, 84, 85, 86, 87, 88, 89, 90, 91, 92, 93, 94, 95, 96, 97, 98, 99, 100, 101, 102, 103, 104, 105, 106, 107, 108, 109, 110, 111, 112, 113, 114, 115, 116, 117, 118, 119, 120, 121, 122, 123, 124, 125, 126, 127, 128, 129, 130, 131, 132, 133, 134, 135, 136, 137, 138, 139, 140, 141, 142, 143, 144, 145, 146, 147, 148, 149, 150, 151, 152, 153, 154, 155, 156, 157, 158, 159, 160, 161, 162, 163, 164, 165, 166, 167, 168, 169, 170, 171, 172] (by decide +kernel) (by decide +kernel)) (goodIn_sub (fun _ h => List.mem_cons_of_mem _ (List.mem_append_right _ h)) (by decide +kernel))
set_option maxRecDepth 20000 in
theorem gL_plan_X8_plan : GoodIn wsL_plan (wsV RL 52 RX8 yX8_plan wsX8_plan) := goodIn_app (goodIn_of _ (by decide +kernel)) ggL_plan_X8_plan
theorem dL_plan_0 : decode cL_plan 0 = .ok (.aload_n 2, 1) := by decide +kernel
theorem dL_plan_1 : decode cL_plan 1 = .ok (.iconst 0, 1) := by decide +kernel
theorem dL_plan_2 : decode cL_plan 2 = .ok (.aload_n 0, 1) := by decide +kernel
theorem dL_plan_3 : decode cL_plan 3 = .ok (.iload_n 1, 1) := by decide +kernel
theorem dL_plan_4 : decode cL_plan 4 = .ok (.invokevirtual 52, 3) := by decide +kernel
theorem dL_plan_7 : decode cL_plan 7 = .ok (.i2l, 1) := by decide +kernel
theorem dL_plan_8 : decode cL_plan 8 = .ok (.lastore, 1) := by decide +kernel
theorem dL_plan_9 : decode cL_plan 9 = .ok (.goto 6, 3) := by decide +kernel
theorem dL_plan_12 : decode cL_plan 12 = .ok (.astore_n 3, 1) := by decide +kernel
theorem dL_plan_13 : decode cL_plan 13 = .ok (.iconst 1, 1) := by decide +kernel
theorem dL_plan_14 : decode cL_plan 14 = .ok (.ireturn, 1) := by decide +kernel
theorem dL_plan_15 : decode cL_plan 15 = .ok (.iconst 0, 1) := by decide +kernel
theorem dL_plan_16 : decode cL_plan 16 = .ok (.ireturn, 1) := by decide +kernel
set_option maxRecDepth 20000 in
theorem ggL_best_X8_best : GoodIn wsL_best wsX8_best := goodIn_ca (goodIn_r _ [6, 7, 8, 9, 10, 11, 12, 13, 14, 15, 16, 17, 18, 19, 20, 21, 22, 23, 24, 25, 26, 27, 28, 29, 30, 31, 32, 33, 34, 35, 36, 37, 38, 39, 40, 41, 42, 43, 44, 45, 46, 47, 48, 49, 50, 51, 52, 53, 54, 55, 56, 57, 58, 59, 60, 61, 62, 63, 64, 65, 66, 67, 68, 69, 70, 71, 72, 73, 5, 74, 75, 76, 77, 78, 79, 80, 81, 82, 83, 84, 85, 86, 87, 88, 89, 90, 91, 92, 93, 94, 95, 96, 97, 98, 99, 100, 101, 102, 103, 104, 105, 106, 107, 108, 109, 110, 111, 112, 113, 114, 115, 116, 117, 118, 119, 120, 121, 122, 123, 124, 125, 126, 127, 128, 129, 130, 131, 132, 133, 134, 135, 136, 137, 138, 139, 140, 141, 142, 143, 144, 145, 146, 147, 148, 149, 150, 151, 152, 153, 154, 155, 156, 157, 158, 159, 160, 161, 162, 163, 164, 165, 166, 167, 168, 169, 170, 171, 172, 173, 174, 175, 176, 177, 178, 179, 180] (by decide +kernel) (by decide +kernel)) (goodIn_sub (fun _ h => List.mem_cons_of_mem _ (List.mem_append_right _ h)) (by decide +kernel))
set_option maxRecDepth 20000 in
theorem gL_best_X8_best : GoodIn wsL_best (wsV RL 55 RX8 yX8_best wsX8_best) := goodIn_app (goodIn_of _ (by decide +kernel)) ggL_best_X8_best
theorem dL_best_0 : decode cL_best 0 = .ok (.aload_n 2, 1) := by decide +kernel
theorem dL_best_1 : decode cL_best 1 = .ok (.iconst 0, 1) := by decide +kernel
theorem dL_best_2 : decode cL_best 2 = .ok (.aload_n 0, 1) := by decide +kernel
theorem dL_best_3 : decode cL_best 3 = .ok (.iload_n 1, 1) := by decide +kernel
theorem dL_best_4 : decode cL_best 4 = .ok (.invokevirtual 55, 3) := by decide +kernel
theorem dL_best_7 : decode cL_best 7 = .ok (.i2l, 1) := by decide +kernel
theorem dL_best_8 : decode cL_best 8 = .ok (.lastore, 1) := by decide +kernel
theorem dL_best_9 : decode cL_best 9 = .ok (.goto 6, 3) := by decide +kernel
theorem dL_best_12 : decode cL_best 12 = .ok (.astore_n 3, 1) := by decide +kernel
theorem dL_best_13 : decode cL_best 13 = .ok (.iconst 1, 1) := by decide +kernel
theorem dL_best_14 : decode cL_best 14 = .ok (.ireturn, 1) := by decide +kernel
theorem dL_best_15 : decode cL_best 15 = .ok (.iconst 0, 1) := by decide +kernel
theorem dL_best_16 : decode cL_best 16 = .ok (.ireturn, 1) := by decide +kernel
set_option maxRecDepth 20000 in
theorem ggL_kept_X8_kept : GoodIn wsL_kept wsX8_kept := goodIn_ca (goodIn_r _ [6, 7, 8, 9, 10, 11, 12, 13, 14, 15, 16, 17, 18, 19, 20, 21, 22, 5, 23, 24, 25, 26, 27, 28, 29, 30, 31, 32, 33, 34, 35, 36, 37, 38, 39, 40, 41, 42, 43, 44] (by decide +kernel) (by decide +kernel)) (goodIn_sub (fun _ h => List.mem_cons_of_mem _ (List.mem_append_right _ h)) (by decide +kernel))
set_option maxRecDepth 20000 in
theorem gL_kept_X8_kept : GoodIn wsL_kept (wsV RL 58 RX8 yX8_kept wsX8_kept) := goodIn_app (goodIn_of _ (by decide +kernel)) ggL_kept_X8_kept
theorem dL_kept_0 : decode cL_kept 0 = .ok (.aload_n 2, 1) := by decide +kernel
theorem dL_kept_1 : decode cL_kept 1 = .ok (.iconst 0, 1) := by decide +kernel
theorem dL_kept_2 : decode cL_kept 2 = .ok (.aload_n 0, 1) := by decide +kernel
theorem dL_kept_3 : decode cL_kept 3 = .ok (.iload_n 1, 1) := by decide +kernel
theorem dL_kept_4 : decode cL_kept 4 = .ok (.invokevirtual 58, 3) := by decide +kernel
theorem dL_kept_7 : decode cL_kept 7 = .ok (.i2l, 1) := by decide +kernel
theorem dL_kept_8 : decode cL_kept 8 = .ok (.lastore, 1) := by decide +kernel
theorem dL_kept_9 : decode cL_kept 9 = .ok (.goto 6, 3) := by decide +kernel
theorem dL_kept_12 : decode cL_kept 12 = .ok (.astore_n 3, 1) := by decide +kernel
theorem dL_kept_13 : decode cL_kept 13 = .ok (.iconst 1, 1) := by decide +kernel
theorem dL_kept_14 : decode cL_kept 14 = .ok (.ireturn, 1) := by decide +kernel
theorem dL_kept_15 : decode cL_kept 15 = .ok (.iconst 0, 1) := by decide +kernel
theorem dL_kept_16 : decode cL_kept 16 = .ok (.ireturn, 1) := by decide +kernel
set_option maxRecDepth 20000 in
theorem ggL_bits_X8_bits : GoodIn wsL_bits wsX8_bits := goodIn_ca (goodIn_r _ [6, 7, 8, 9, 5, 10, 11, 12, 13, 14, 15, 16, 17, 18, 19, 20, 21, 22, 23, 24, 25, 26, 27, 28, 29, 30, 31, 32, 33, 34, 35, 36, 37, 38, 39, 40, 41, 42, 43, 44, 45, 46, 47, 48, 49, 50, 51, 52, 53, 54] (by decide +kernel) (by decide +kernel)) (goodIn_sub (fun _ h => List.mem_cons_of_mem _ (List.mem_append_right _ h)) (by decide +kernel))
set_option maxRecDepth 20000 in
theorem gL_bits_X8_bits : GoodIn wsL_bits (wsV RL 63 RX8 yX8_bits wsX8_bits) := goodIn_app (goodIn_of _ (by decide +kernel)) ggL_bits_X8_bits
theorem dL_bits_0 : decode cL_bits 0 = .ok (.aload_n 3, 1) := by decide +kernel
theorem dL_bits_1 : decode cL_bits 1 = .ok (.iconst 0, 1) := by decide +kernel
theorem dL_bits_2 : decode cL_bits 2 = .ok (.aload_n 0, 1) := by decide +kernel
theorem dL_bits_3 : decode cL_bits 3 = .ok (.iload_n 1, 1) := by decide +kernel
theorem dL_bits_4 : decode cL_bits 4 = .ok (.iload_n 2, 1) := by decide +kernel
theorem dL_bits_5 : decode cL_bits 5 = .ok (.invokevirtual 63, 3) := by decide +kernel
theorem dL_bits_8 : decode cL_bits 8 = .ok (.i2l, 1) := by decide +kernel
theorem dL_bits_9 : decode cL_bits 9 = .ok (.lastore, 1) := by decide +kernel
theorem dL_bits_10 : decode cL_bits 10 = .ok (.goto 7, 3) := by decide +kernel
theorem dL_bits_13 : decode cL_bits 13 = .ok (.astore 4, 2) := by decide +kernel
theorem dL_bits_15 : decode cL_bits 15 = .ok (.iconst 1, 1) := by decide +kernel
theorem dL_bits_16 : decode cL_bits 16 = .ok (.ireturn, 1) := by decide +kernel
theorem dL_bits_17 : decode cL_bits 17 = .ok (.iconst 0, 1) := by decide +kernel
theorem dL_bits_18 : decode cL_bits 18 = .ok (.ireturn, 1) := by decide +kernel
set_option maxRecDepth 20000 in
theorem ggL_slip_X8_slip : GoodIn wsL_slip wsX8_slip := goodIn_ca (goodIn_ca (goodIn_r _ [7, 8, 9, 10, 11, 12, 13, 6, 14, 15, 16, 17, 18, 19, 20, 21, 22, 23, 24, 25, 26, 27, 28, 29, 30, 31, 32, 33, 34, 35, 36, 37, 38, 39, 40, 41, 42, 43, 44, 45, 46, 47, 48] (by decide +kernel) (by decide +kernel)) (goodIn_sub (fun _ h => List.mem_cons_of_mem _ (List.mem_append_left _ (List.mem_append_right _ h))) (by decide +kernel))) (goodIn_sub (fun _ h => List.mem_cons_of_mem _ (List.mem_append_right _ h)) (by decide +kernel))
set_option maxRecDepth 20000 in
theorem gL_slip_X8_slip : GoodIn wsL_slip (wsV RL 66 RX8 yX8_slip wsX8_slip) := goodIn_app (goodIn_of _ (by decide +kernel)) ggL_slip_X8_slip
theorem dL_slip_0 : decode cL_slip 0 = .ok (.aload_n 0, 1) := by decide +kernel
theorem dL_slip_1 : decode cL_slip 1 = .ok (.iload_n 1, 1) := by decide +kernel
theorem dL_slip_2 : decode cL_slip 2 = .ok (.iload_n 2, 1) := by decide +kernel
theorem dL_slip_3 : decode cL_slip 3 = .ok (.iload_n 3, 1) := by decide +kernel
theorem dL_slip_4 : decode cL_slip 4 = .ok (.invokevirtual 66, 3) := by decide +kernel
theorem dL_slip_7 : decode cL_slip 7 = .ok (.goto 11, 3) := by decide +kernel
theorem dL_slip_10 : decode cL_slip 10 = .ok (.astore 4, 2) := by decide +kernel
theorem dL_slip_12 : decode cL_slip 12 = .ok (.iconst 1, 1) := by decide +kernel
theorem dL_slip_13 : decode cL_slip 13 = .ok (.ireturn, 1) := by decide +kernel
theorem dL_slip_14 : decode cL_slip 14 = .ok (.astore 4, 2) := by decide +kernel
theorem dL_slip_16 : decode cL_slip 16 = .ok (.iconst 2, 1) := by decide +kernel
theorem dL_slip_17 : decode cL_slip 17 = .ok (.ireturn, 1) := by decide +kernel
theorem dL_slip_18 : decode cL_slip 18 = .ok (.iconst 0, 1) := by decide +kernel
theorem dL_slip_19 : decode cL_slip 19 = .ok (.ireturn, 1) := by decide +kernel
set_option maxRecDepth 20000 in
theorem ggL_seen_X8_seen : GoodIn wsL_seen wsX8_seen := goodIn_ca (goodIn_r _ [6, 7, 8, 9, 10, 11, 5, 12, 13, 14, 15, 16, 17, 18, 19, 20, 21, 22, 23, 24, 25, 26, 27, 28, 29, 30, 31, 32, 33, 34, 35, 36, 37, 38, 39, 40, 41, 42, 43, 44, 45, 46, 47, 48, 49, 50, 51, 52, 53, 54, 55, 56, 57, 58, 59, 60, 61] (by decide +kernel) (by decide +kernel)) (goodIn_sub (fun _ h => List.mem_cons_of_mem _ (List.mem_append_right _ h)) (by decide +kernel))
set_option maxRecDepth 20000 in
theorem gL_seen_X8_seen : GoodIn wsL_seen (wsV RL 70 RX8 yX8_seen wsX8_seen) := goodIn_app (goodIn_of _ (by decide +kernel)) ggL_seen_X8_seen
theorem dL_seen_0 : decode cL_seen 0 = .ok (.aload_n 3, 1) := by decide +kernel
theorem dL_seen_1 : decode cL_seen 1 = .ok (.iconst 0, 1) := by decide +kernel
theorem dL_seen_2 : decode cL_seen 2 = .ok (.aload_n 0, 1) := by decide +kernel
theorem dL_seen_3 : decode cL_seen 3 = .ok (.iload_n 1, 1) := by decide +kernel
theorem dL_seen_4 : decode cL_seen 4 = .ok (.iload_n 2, 1) := by decide +kernel
theorem dL_seen_5 : decode cL_seen 5 = .ok (.invokevirtual 70, 3) := by decide +kernel
theorem dL_seen_8 : decode cL_seen 8 = .ok (.i2l, 1) := by decide +kernel
theorem dL_seen_9 : decode cL_seen 9 = .ok (.lastore, 1) := by decide +kernel
theorem dL_seen_10 : decode cL_seen 10 = .ok (.goto 7, 3) := by decide +kernel
theorem dL_seen_13 : decode cL_seen 13 = .ok (.astore 4, 2) := by decide +kernel
theorem dL_seen_15 : decode cL_seen 15 = .ok (.iconst 1, 1) := by decide +kernel
theorem dL_seen_16 : decode cL_seen 16 = .ok (.ireturn, 1) := by decide +kernel
theorem dL_seen_17 : decode cL_seen 17 = .ok (.iconst 0, 1) := by decide +kernel
theorem dL_seen_18 : decode cL_seen 18 = .ok (.ireturn, 1) := by decide +kernel
set_option maxRecDepth 20000 in
theorem ggL_rank_X8_rank : GoodIn wsL_rank wsX8_rank := goodIn_ca (goodIn_r _ [6, 7, 8, 9, 10, 11, 12, 13, 14, 15, 16, 5, 17, 18, 19, 20, 21, 22, 23, 24, 25, 26, 27, 28, 29, 30, 31, 32, 33, 34, 35, 36, 37, 38, 39, 40, 41, 42, 43, 44, 45, 46, 47, 48, 49, 50, 51, 52, 53, 54] (by decide +kernel) (by decide +kernel)) (goodIn_sub (fun _ h => List.mem_cons_of_mem _ (List.mem_append_right _ h)) (by decide +kernel))
set_option maxRecDepth 20000 in
theorem gL_rank_X8_rank : GoodIn wsL_rank (wsV RL 73 RX8 yX8_rank wsX8_rank) := goodIn_app (goodIn_of _ (by decide +kernel)) ggL_rank_X8_rank
theorem dL_rank_0 : decode cL_rank 0 = .ok (.aload_n 2, 1) := by decide +kernel
theorem dL_rank_1 : decode cL_rank 1 = .ok (.iconst 0, 1) := by decide +kernel
theorem dL_rank_2 : decode cL_rank 2 = .ok (.aload_n 0, 1) := by decide +kernel
theorem dL_rank_3 : decode cL_rank 3 = .ok (.iload_n 1, 1) := by decide +kernel
theorem dL_rank_4 : decode cL_rank 4 = .ok (.invokevirtual 73, 3) := by decide +kernel
theorem dL_rank_7 : decode cL_rank 7 = .ok (.i2l, 1) := by decide +kernel
theorem dL_rank_8 : decode cL_rank 8 = .ok (.lastore, 1) := by decide +kernel
theorem dL_rank_9 : decode cL_rank 9 = .ok (.goto 6, 3) := by decide +kernel
theorem dL_rank_12 : decode cL_rank 12 = .ok (.astore_n 3, 1) := by decide +kernel
theorem dL_rank_13 : decode cL_rank 13 = .ok (.iconst 1, 1) := by decide +kernel
theorem dL_rank_14 : decode cL_rank 14 = .ok (.ireturn, 1) := by decide +kernel
theorem dL_rank_15 : decode cL_rank 15 = .ok (.iconst 0, 1) := by decide +kernel
theorem dL_rank_16 : decode cL_rank 16 = .ok (.ireturn, 1) := by decide +kernel
set_option maxRecDepth 20000 in
theorem ggL_count_X8_count : GoodIn wsL_count wsX8_count := goodIn_ca (goodIn_r _ [6, 7, 8, 9, 10, 11, 12, 13, 14, 15, 16, 17, 18, 19, 20, 21, 22, 23, 24, 25, 26, 27, 28, 29, 30, 31, 32, 33, 34, 35, 36, 37, 38, 39, 40, 41, 42, 43, 44, 45, 46, 47, 48, 49, 50, 51, 52, 53, 54, 55, 56, 57, 58, 59, 60, 61, 62] (by decide +kernel) (by decide +kernel)) (goodIn_sub (fun _ h => List.mem_cons_of_mem _ (List.mem_append_right _ h)) (by decide +kernel))
set_option maxRecDepth 20000 in
theorem gL_count_X8_count : GoodIn wsL_count (wsV RL 76 RX8 yX8_count wsX8_count) := goodIn_app (goodIn_of _ (by decide +kernel)) ggL_count_X8_count
theorem dL_count_0 : decode cL_count 0 = .ok (.aload_n 2, 1) := by decide +kernel
theorem dL_count_1 : decode cL_count 1 = .ok (.iconst 0, 1) := by decide +kernel
theorem dL_count_2 : decode cL_count 2 = .ok (.aload_n 0, 1) := by decide +kernel
theorem dL_count_3 : decode cL_count 3 = .ok (.iload_n 1, 1) := by decide +kernel
theorem dL_count_4 : decode cL_count 4 = .ok (.invokevirtual 76, 3) := by decide +kernel
theorem dL_count_7 : decode cL_count 7 = .ok (.i2l, 1) := by decide +kernel
theorem dL_count_8 : decode cL_count 8 = .ok (.lastore, 1) := by decide +kernel
theorem dL_count_9 : decode cL_count 9 = .ok (.goto 6, 3) := by decide +kernel
theorem dL_count_12 : decode cL_count 12 = .ok (.astore_n 3, 1) := by decide +kernel
theorem dL_count_13 : decode cL_count 13 = .ok (.iconst 1, 1) := by decide +kernel
theorem dL_count_14 : decode cL_count 14 = .ok (.ireturn, 1) := by decide +kernel
theorem dL_count_15 : decode cL_count 15 = .ok (.iconst 0, 1) := by decide +kernel
theorem dL_count_16 : decode cL_count 16 = .ok (.ireturn, 1) := by decide +kernel
set_option maxRecDepth 20000 in
theorem ggL_law_X8_init : GoodIn wsL_law wsX8_init := goodIn_r _ [9, 10, 11, 12, 13, 14, 15, 16, 17, 18, 19, 20, 21, 22, 23, 24, 25, 26, 27, 28, 29, 30, 31, 32, 33, 34, 35, 36, 37, 38, 39, 40, 41, 42, 43, 44, 45, 46, 47, 48, 49, 50, 51, 52, 53, 54, 55, 56, 57, 58, 59, 60, 61, 62, 63, 64, 65, 66, 67, 68, 69, 70, 71, 72, 73, 74, 75, 76, 77, 78, 79, 80, 81, 82, 83, 84, 85, 86, 87, 88, 89, 90, 91, 92, 93, 94, 95, 96, 97, 98, 99, 100, 101, 102, 103, 104, 105, 106, 107, 108, 109, 110, 111, 112, 113, 114, 115, 116, 117, 118, 119, 120, 121, 122, 808, 775, 776, 777, 778, 779, 780, 781, 782, 783, 809, 810, 811, 812, 813, 814, 815, 816, 817, 818, 819, 820, 821, 822, 823, 824, 825, 826, 827, 828, 829, 830, 831, 832, 833, 834, 835, 836, 837] (by decide +kernel) (by decide +kernel)
set_option maxRecDepth 20000 in
theorem gL_law_X8_init : GoodIn wsL_law (wsX8_init) := ggL_law_X8_init
set_option maxRecDepth 20000 in
theorem ggL_law_X9_init : GoodIn wsL_law wsX9_init := goodIn_r _ [125, 126, 11, 12, 127, 128, 50, 129, 130, 131, 132, 133, 134, 135, 62, 136, 137, 138, 139, 140, 141, 142, 143, 144, 784, 785, 786, 787, 788, 789, 790, 791, 792, 793, 794, 795, 796, 797, 798, 799, 800, 801, 802, 803, 804, 805, 806, 807] (by decide +kernel) (by decide +kernel)
set_option maxRecDepth 20000 in
theorem gL_law_X9_init : GoodIn wsL_law (wsX9_init) := ggL_law_X9_init
set_option maxRecDepth 20000 in
theorem ggL_law_L_frame : GoodIn wsL_law wsL_frame := goodIn_ca (goodIn_r _ [148, 149, 150, 151, 152, 2, 153, 154, 155, 24, 28, 40, 36, 113, 114, 115, 23, 116, 117, 118, 60, 61, 63, 119, 120, 121, 122, 64, 66, 156, 157, 158, 27, 159, 71, 160, 161, 162, 39, 163, 164, 165, 166, 167, 104, 105, 168, 169, 170, 35, 171, 96, 775, 776, 777, 778, 779, 780, 781, 782, 783, 811, 812, 813, 814, 815, 816, 817, 818, 832, 833, 828, 829, 830, 831] (by decide +kernel) (by decide +kernel)) (goodIn_sub (fun _ h => List.mem_append_left _ (List.mem_append_left _ (List.mem_append_right _ h))) (by decide +kernel))
set_option maxRecDepth 20000 in
theorem gL_law_L_frame : GoodIn wsL_law (va_wsS RL 83 yL_frame wsL_frame) := goodIn_app (goodIn_of _ (by decide +kernel)) ggL_law_L_frame
set_option maxRecDepth 20000 in
theorem ggL_law_X9_frame : GoodIn wsL_law wsX9_frame := goodIn_r _ [175, 176, 127, 128, 133, 129, 134, 135, 136, 177, 178, 179, 180, 5, 181, 182, 183, 184, 185, 130, 137, 784, 785, 786, 787, 788, 789, 790, 791, 792, 793, 794, 795, 796, 797, 798, 799, 800, 801, 802, 803, 804, 805, 806, 807] (by decide +kernel) (by decide +kernel)
set_option maxRecDepth 20000 in
theorem gL_law_X9_frame : GoodIn wsL_law (wsV RL 88 RX9 yX9_frame wsX9_frame) := goodIn_app (goodIn_of _ (by decide +kernel)) ggL_law_X9_frame
set_option maxRecDepth 20000 in
theorem ggL_law_X9_thrown : GoodIn wsL_law wsX9_thrown := goodIn_r _ [189, 176, 784, 785, 786, 787, 788, 789, 790, 791, 792, 793, 794, 795, 796, 797, 798, 799, 800, 801, 802, 803, 804, 805, 806, 807] (by decide +kernel) (by decide +kernel)
set_option maxRecDepth 20000 in
theorem gL_law_X9_thrown : GoodIn wsL_law (wsV RL 89 RX9 yX9_thrown wsX9_thrown) := goodIn_app (goodIn_of _ (by decide +kernel)) ggL_law_X9_thrown
set_option maxRecDepth 20000 in
theorem ggL_law_L_into : GoodIn wsL_law wsL_into := goodIn_ca (goodIn_r _ [192, 193, 194, 195, 196, 2, 197, 24, 36, 198, 199, 200, 201, 202, 203, 204, 205, 206, 23, 207, 117, 208, 209, 210, 211, 212, 213, 214, 60, 215, 216, 217, 218, 61, 119, 120, 121, 122, 64, 66, 168, 169, 170, 35, 171, 96, 775, 776, 777, 778, 779, 780, 781, 782, 783, 811, 812, 813, 814, 815, 816, 817, 828, 829, 830, 831] (by decide +kernel) (by decide +kernel)) (goodIn_sub (fun _ h => List.mem_append_left _ (List.mem_append_right _ h)) (by decide +kernel))
set_option maxRecDepth 20000 in
theorem gL_law_L_into : GoodIn wsL_law (va_wsS RL 93 yL_into wsL_into) := goodIn_app (goodIn_of _ (by decide +kernel)) ggL_law_L_into
set_option maxRecDepth 20000 in
theorem ggL_law_X9_into : GoodIn wsL_law wsX9_into := goodIn_r _ [222, 176, 129, 177, 223, 224, 225, 5, 226, 127, 178, 179, 180, 181, 227, 228, 229, 230, 182, 183, 184, 185, 130, 137, 784, 785, 786, 787, 788, 789, 790, 791, 792, 793, 794, 795, 796, 797, 798, 799, 800, 801, 802, 803, 804, 805, 806, 807] (by decide +kernel) (by decide +kernel)
set_option maxRecDepth 20000 in
theorem gL_law_X9_into : GoodIn wsL_law (wsV RL 96 RX9 yX9_into wsX9_into) := goodIn_app (goodIn_of _ (by decide +kernel)) ggL_law_X9_into
set_option maxRecDepth 20000 in
theorem ggL_law_L_fold : GoodIn wsL_law wsL_fold := goodIn_ca (goodIn_r _ [233, 193, 234, 235, 236, 2, 237, 24, 36, 208, 209, 210, 202, 203, 238, 239, 240, 23, 241, 63, 242, 243, 244, 245, 119, 120, 121, 122, 64, 66, 168, 169, 170, 35, 171, 96, 775, 776, 777, 778, 779, 780, 781, 782, 783, 811, 812, 813, 814, 815, 816, 817, 828, 829, 830, 831] (by decide +kernel) (by decide +kernel)) (goodIn_sub (fun _ h => List.mem_append_left _ (List.mem_append_right _ h)) (by decide +kernel))
set_option maxRecDepth 20000 in
theorem gL_law_L_fold : GoodIn wsL_law (va_wsS RL 97 yL_fold wsL_fold) := goodIn_app (goodIn_of _ (by decide +kernel)) ggL_law_L_fold
set_option maxRecDepth 20000 in
theorem ggL_law_X9_fold : GoodIn wsL_law wsX9_fold := goodIn_r _ [249, 176, 136, 177, 227, 228, 229, 5, 230, 178, 179, 180, 181, 182, 183, 184, 185, 130, 137, 784, 785, 786, 787, 788, 789, 790, 791, 792, 793, 794, 795, 796, 797, 798, 799, 800, 801, 802, 803, 804, 805, 806, 807] (by decide +kernel) (by decide +kernel)
set_option maxRecDepth 20000 in
theorem gL_law_X9_fold : GoodIn wsL_law (wsV RL 100 RX9 yX9_fold wsX9_fold) := goodIn_app (goodIn_of _ (by decide +kernel)) ggL_law_X9_fold
set_option maxRecDepth 20000 in
theorem ggL_law_L_table : GoodIn wsL_law wsL_table := goodIn_ca (goodIn_ca (goodIn_r _ [252, 193, 149, 253, 254, 255, 2, 256, 202, 203, 154, 155, 16, 36, 257, 258, 259, 260, 261, 262, 263, 264, 265, 15, 266, 51, 267, 268, 269, 270, 168, 169, 170, 35, 171, 96, 775, 776, 777, 778, 779, 780, 781, 782, 783, 808, 828, 829, 830, 831] (by decide +kernel) (by decide +kernel)) (goodIn_sub (fun _ h => List.mem_append_left _ (List.mem_append_right _ h)) (by decide +kernel))) (goodIn_sub (fun _ h => List.mem_append_left _ (List.mem_append_left _ (List.mem_append_right _ h))) (by decide +kernel))
set_option maxRecDepth 20000 in
theorem gL_law_L_table : GoodIn wsL_law (va_wsS RL 101 yL_table wsL_table) := goodIn_app (goodIn_of _ (by decide +kernel)) ggL_law_L_table
set_option maxRecDepth 20000 in
theorem ggL_law_X9_table : GoodIn wsL_law wsX9_table := goodIn_r _ [274, 176, 131, 177, 178, 179, 180, 5, 181, 784, 785, 786, 787, 788, 789, 790, 791, 792, 793, 794, 795, 796, 797, 798, 799, 800, 801, 802, 803, 804, 805, 806, 807] (by decide +kernel) (by decide +kernel)
set_option maxRecDepth 20000 in
theorem gL_law_X9_table : GoodIn wsL_law (wsV RL 104 RX9 yX9_table wsX9_table) := goodIn_app (goodIn_of _ (by decide +kernel)) ggL_law_X9_table
set_option maxRecDepth 20000 in
theorem ggL_law_L_vat : GoodIn wsL_law wsL_vat := goodIn_ca (goodIn_r _ [277, 193, 278, 279, 280, 2, 281, 282, 20, 260, 261, 262, 202, 203, 283, 284, 285, 19, 286, 55, 287, 288, 289, 290, 775, 776, 777, 778, 779, 780, 781, 782, 783, 809, 810] (by decide +kernel) (by decide +kernel)) (goodIn_sub (fun _ h => List.mem_append_left _ (List.mem_append_right _ h)) (by decide +kernel))
set_option maxRecDepth 20000 in
theorem gL_law_L_vat : GoodIn wsL_law (va_wsS RL 105 yL_vat wsL_vat) := goodIn_app (goodIn_of _ (by decide +kernel)) ggL_law_L_vat
set_option maxRecDepth 20000 in
theorem ggL_law_X9_vat : GoodIn wsL_law wsX9_vat := goodIn_r _ [294, 176, 295, 132, 178, 179, 180, 5, 181, 784, 785, 786, 787, 788, 789, 790, 791, 792, 793, 794, 795, 796, 797, 798, 799, 800, 801, 802, 803, 804, 805, 806, 807] (by decide +kernel) (by decide +kernel)
set_option maxRecDepth 20000 in
theorem gL_law_X9_vat : GoodIn wsL_law (wsV RL 107 RX9 yX9_vat wsX9_vat) := goodIn_app (goodIn_of _ (by decide +kernel)) ggL_law_X9_vat
set_option maxRecDepth 20000 in
theorem ggL_law_L_tie : GoodIn wsL_law wsL_tie := goodIn_ca (goodIn_ca (goodIn_r _ [298, 193, 149, 299, 300, 301, 2, 302, 24, 303, 304, 305, 306, 154, 155, 208, 209, 210, 202, 203, 307, 308, 309, 310, 311, 312, 313, 23, 314, 118, 315, 316, 317, 318, 64, 319, 320, 321, 322, 63, 323, 87, 88, 89, 90, 91, 92, 775, 776, 777, 778, 779, 780, 781, 782, 783, 811, 812, 813, 814, 815, 816, 817] (by decide +kernel) (by decide +kernel)) (goodIn_sub (fun _ h => List.mem_append_left _ (List.mem_append_left _ (List.mem_append_right _ h))) (by decide +kernel))) (goodIn_sub (fun _ h => List.mem_append_left _ (List.mem_append_right _ h)) (by decide +kernel))
set_option maxRecDepth 20000 in
theorem gL_law_L_tie : GoodIn wsL_law (va_wsS RL 108 yL_tie wsL_tie) := goodIn_app (goodIn_of _ (by decide +kernel)) ggL_law_L_tie
set_option maxRecDepth 20000 in
theorem ggL_law_X9_tie : GoodIn wsL_law wsX9_tie := goodIn_r _ [327, 328, 329, 330, 5, 331, 176, 136, 128, 227, 228, 229, 230, 178, 179, 180, 181, 332, 333, 334, 335, 336, 337, 338, 339, 137, 784, 785, 786, 787, 788, 789, 790, 791, 792, 793, 794, 795, 796, 797, 798, 799, 800, 801, 802, 803, 804, 805, 806, 807] (by decide +kernel) (by decide +kernel)
set_option maxRecDepth 20000 in
theorem gL_law_X9_tie : GoodIn wsL_law (wsV RL 110 RX9 yX9_tie wsX9_tie) := goodIn_app (goodIn_of _ (by decide +kernel)) ggL_law_X9_tie
set_option maxRecDepth 20000 in
theorem ggL_law_L_untie : GoodIn wsL_law wsL_untie := goodIn_ca (goodIn_ca (goodIn_r _ [342, 193, 149, 343, 344, 345, 2, 346, 24, 303, 304, 305, 306, 154, 155, 208, 209, 210, 202, 203, 307, 308, 309, 310, 311, 312, 313, 23, 314, 118, 347, 348, 349, 350, 64, 319, 320, 321, 322, 63, 323, 87, 88, 89, 90, 91, 92, 775, 776, 777, 778, 779, 780, 781, 782, 783, 811, 812, 813, 814, 815, 816, 817] (by decide +kernel) (by decide +kernel)) (goodIn_sub (fun _ h => List.mem_append_left _ (List.mem_append_left _ (List.mem_append_right _ h))) (by decide +kernel))) (goodIn_sub (fun _ h => List.mem_append_left _ (List.mem_append_right _ h)) (by decide +kernel))
set_option maxRecDepth 20000 in
theorem gL_law_L_untie : GoodIn wsL_law (va_wsS RL 111 yL_untie wsL_untie) := goodIn_app (goodIn_of _ (by decide +kernel)) ggL_law_L_untie
set_option maxRecDepth 20000 in
theorem ggL_law_X9_untie : GoodIn wsL_law wsX9_untie := goodIn_r _ [354, 328, 329, 330, 5, 331, 176, 136, 128, 227, 228, 229, 230, 178, 179, 180, 181, 332, 333, 334, 335, 336, 337, 338, 339, 137, 784, 785, 786, 787, 788, 789, 790, 791, 792, 793, 794, 795, 796, 797, 798, 799, 800, 801, 802, 803, 804, 805, 806, 807] (by decide +kernel) (by decide +kernel)
set_option maxRecDepth 20000 in
theorem gL_law_X9_untie : GoodIn wsL_law (wsV RL 113 RX9 yX9_untie wsX9_untie) := goodIn_app (goodIn_of _ (by decide +kernel)) ggL_law_X9_untie
set_option maxRecDepth 20000 in
theorem ggL_law_L_bath : GoodIn wsL_law wsL_bath := goodIn_ca (goodIn_r _ [357, 193, 358, 359, 360, 2, 361, 24, 20, 16, 45, 260, 261, 262, 202, 203, 362, 363, 364, 23, 365, 64, 366, 367, 368, 369, 61, 118, 323, 87, 88, 89, 90, 91, 92, 283, 284, 285, 19, 286, 55, 370, 371, 372, 373, 374, 375, 376, 377, 66, 378, 379, 380, 381, 382, 264, 265, 15, 266, 51, 775, 776, 777, 778, 779, 780, 781, 782, 783, 811, 812, 813, 814, 815, 816, 817, 809, 810, 808] (by decide +kernel) (by decide +kernel)) (goodIn_sub (fun _ h => List.mem_append_left _ (List.mem_append_right _ h)) (by decide +kernel))
set_option maxRecDepth 20000 in
theorem gL_law_L_bath : GoodIn wsL_law (va_wsS RL 114 yL_bath wsL_bath) := goodIn_app (goodIn_of _ (by decide +kernel)) ggL_law_L_bath
set_option maxRecDepth 20000 in
theorem ggL_law_X9_bath : GoodIn wsL_law wsX9_bath := goodIn_r _ [386, 176, 132, 178, 179, 180, 5, 181, 387, 388, 389, 390, 128, 137, 391, 392, 393, 394, 127, 129, 395, 396, 397, 398, 130, 131, 399, 784, 785, 786, 787, 788, 789, 790, 791, 792, 793, 794, 795, 796, 797, 798, 799, 800, 801, 802, 803, 804, 805, 806, 807] (by decide +kernel) (by decide +kernel)
set_option maxRecDepth 20000 in
theorem gL_law_X9_bath : GoodIn wsL_law (wsV RL 117 RX9 yX9_bath wsX9_bath) := goodIn_app (goodIn_of _ (by decide +kernel)) ggL_law_X9_bath
set_option maxRecDepth 20000 in
theorem ggL_law_L_colour : GoodIn wsL_law wsL_colour := goodIn_ca (goodIn_r _ [402, 193, 403, 404, 405, 2, 406, 24, 198, 199, 200, 201, 202, 203, 204, 205, 206, 23, 207, 117, 307, 308, 309, 310, 311, 312, 313, 314, 118, 407, 408, 409, 410, 66, 60, 775, 776, 777, 778, 779, 780, 781, 782, 783, 811, 812, 813, 814, 815, 816, 817] (by decide +kernel) (by decide +kernel)) (goodIn_sub (fun _ h => List.mem_append_left _ (List.mem_append_right _ h)) (by decide +kernel))
set_option maxRecDepth 20000 in
theorem gL_law_L_colour : GoodIn wsL_law (va_wsS RL 118 yL_colour wsL_colour) := goodIn_app (goodIn_of _ (by decide +kernel)) ggL_law_L_colour
set_option maxRecDepth 20000 in
theorem ggL_law_X9_colour : GoodIn wsL_law wsX9_colour := goodIn_r _ [414, 176, 223, 224, 225, 5, 226, 127, 178, 179, 180, 181, 332, 333, 334, 335, 128, 415, 416, 417, 418, 130, 129, 784, 785, 786, 787, 788, 789, 790, 791, 792, 793, 794, 795, 796, 797, 798, 799, 800, 801, 802, 803, 804, 805, 806, 807] (by decide +kernel) (by decide +kernel)
set_option maxRecDepth 20000 in
theorem gL_law_X9_colour : GoodIn wsL_law (wsV RL 120 RX9 yX9_colour wsX9_colour) := goodIn_app (goodIn_of _ (by decide +kernel)) ggL_law_X9_colour
set_option maxRecDepth 20000 in
theorem ggL_law_L_bound : GoodIn wsL_law wsL_bound := goodIn_ca (goodIn_r _ [421, 193, 422, 423, 424, 2, 425, 24, 208, 209, 210, 202, 203, 307, 308, 309, 310, 311, 312, 313, 23, 314, 118, 426, 379, 380, 381, 64, 775, 776, 777, 778, 779, 780, 781, 782, 783, 811, 812, 813, 814, 815, 816, 817] (by decide +kernel) (by decide +kernel)) (goodIn_sub (fun _ h => List.mem_append_left _ (List.mem_append_right _ h)) (by decide +kernel))
set_option maxRecDepth 20000 in
theorem gL_law_L_bound : GoodIn wsL_law (va_wsS RL 121 yL_bound wsL_bound) := goodIn_app (goodIn_of _ (by decide +kernel)) ggL_law_L_bound
set_option maxRecDepth 20000 in
theorem ggL_law_X9_bound : GoodIn wsL_law wsX9_bound := goodIn_r _ [430, 176, 137, 227, 228, 229, 5, 230, 178, 179, 180, 181, 332, 333, 334, 335, 128, 784, 785, 786, 787, 788, 789, 790, 791, 792, 793, 794, 795, 796, 797, 798, 799, 800, 801, 802, 803, 804, 805, 806, 807] (by decide +kernel) (by decide +kernel)
set_option maxRecDepth 20000 in
theorem gL_law_X9_bound : GoodIn wsL_law (wsV RL 123 RX9 yX9_bound wsX9_bound) := goodIn_app (goodIn_of _ (by decide +kernel)) ggL_law_X9_bound
set_option maxRecDepth 20000 in
theorem ggL_law_L_want : GoodIn wsL_law wsL_want := goodIn_ca (goodIn_ca (goodIn_r _ [433, 193, 149, 434, 435, 436, 2, 437, 154, 155, 28, 36, 198, 199, 200, 201, 202, 203, 24, 204, 205, 206, 23, 207, 117, 307, 308, 309, 310, 311, 312, 313, 314, 118, 257, 258, 259, 438, 439, 440, 27, 441, 71, 442, 443, 444, 445, 168, 169, 170, 35, 171, 96, 775, 776, 777, 778, 779, 780, 781, 782, 783, 811, 812, 813, 814, 815, 816, 817, 818, 828, 829, 830, 831] (by decide +kernel) (by decide +kernel)) (goodIn_sub (fun _ h => List.mem_append_left _ (List.mem_append_left _ (List.mem_append_right _ h))) (by decide +kernel))) (goodIn_sub (fun _ h => List.mem_append_left _ (List.mem_append_right _ h)) (by decide +kernel))
set_option maxRecDepth 20000 in
theorem gL_law_L_want : GoodIn wsL_law (va_wsS RL 124 yL_want wsL_want) := goodIn_app (goodIn_of _ (by decide +kernel)) ggL_law_L_want
set_option maxRecDepth 20000 in
theorem ggL_law_X9_want : GoodIn wsL_law wsX9_want := goodIn_r _ [449, 176, 133, 177, 223, 224, 225, 5, 226, 127, 178, 179, 180, 181, 332, 333, 334, 335, 128, 784, 785, 786, 787, 788, 789, 790, 791, 792, 793, 794, 795, 796, 797, 798, 799, 800, 801, 802, 803, 804, 805, 806, 807] (by decide +kernel) (by decide +kernel)
set_option maxRecDepth 20000 in
theorem gL_law_X9_want : GoodIn wsL_law (wsV RL 126 RX9 yX9_want wsX9_want) := goodIn_app (goodIn_of _ (by decide +kernel)) ggL_law_X9_want
set_option maxRecDepth 20000 in
theorem ggL_law_L_plan : GoodIn wsL_law wsL_plan := goodIn_ca (goodIn_r _ [452, 149, 453, 454, 455, 2, 456, 154, 155, 32, 24, 28, 16, 36, 457, 458, 459, 460, 461, 462, 463, 464, 465, 466, 467, 468, 31, 469, 76, 78, 79, 470, 471, 472, 23, 473, 61, 474, 475, 476, 477, 63, 118, 478, 205, 206, 207, 117, 479, 212, 213, 214, 60, 480, 312, 313, 314, 481, 439, 440, 27, 441, 71, 482, 483, 484, 485, 486, 487, 488, 489, 490, 80, 81, 491, 264, 265, 15, 266, 51, 492, 493, 494, 495, 82, 83, 496, 497, 498, 499, 500, 501, 502, 503, 504, 505, 35, 506, 96, 97, 98, 507, 508, 509, 510, 511, 84, 512, 513, 514, 515, 516, 517, 518, 519, 520, 85, 521, 522, 523, 524, 525, 526, 527, 528, 529, 530, 531, 532, 533, 534, 535, 536, 100, 537, 538, 539, 540, 541, 542, 543, 544, 775, 776, 777, 778, 779, 780, 781, 782, 783, 819, 820, 821, 822, 823, 824, 825, 826, 827, 811, 812, 813, 814, 815, 816, 817, 818, 808, 828, 829, 830, 831] (by decide +kernel) (by decide +kernel)) (goodIn_sub (fun _ h => List.mem_append_left _ (List.mem_append_left _ (List.mem_append_right _ h))) (by decide +kernel))
set_option maxRecDepth 20000 in
theorem gL_law_L_plan : GoodIn wsL_law (va_wsS RL 127 yL_plan wsL_plan) := goodIn_app (goodIn_of _ (by decide +kernel)) ggL_law_L_plan
set_option maxRecDepth 20000 in
theorem ggL_law_X9_plan : GoodIn wsL_law wsX9_plan := goodIn_r _ [548, 176, 549, 550, 5, 551, 552, 553, 554, 178, 179, 180, 181, 555, 556, 557, 558, 142, 136, 128, 143, 295, 391, 392, 393, 394, 127, 129, 559, 560, 561, 562, 131, 563, 564, 565, 566, 133, 567, 568, 569, 570, 571, 572, 573, 574, 575, 576, 177, 577, 578, 141, 784, 785, 786, 787, 788, 789, 790, 791, 792, 793, 794, 795, 796, 797, 798, 799, 800, 801, 802, 803, 804, 805, 806, 807] (by decide +kernel) (by decide +kernel)
set_option maxRecDepth 20000 in
theorem gL_law_X9_plan : GoodIn wsL_law (wsV RL 129 RX9 yX9_plan wsX9_plan) := goodIn_app (goodIn_of _ (by decide +kernel)) ggL_law_X9_plan
set_option maxRecDepth 20000 in
theorem ggL_law_L_best : GoodIn wsL_law wsL_best := goodIn_ca (goodIn_r _ [581, 149, 582, 583, 584, 2, 585, 154, 155, 32, 24, 28, 16, 36, 466, 467, 468, 31, 469, 76, 78, 79, 470, 471, 472, 23, 473, 61, 474, 475, 476, 477, 63, 118, 478, 205, 206, 207, 117, 479, 212, 213, 214, 60, 480, 312, 313, 314, 481, 439, 440, 27, 441, 71, 482, 483, 484, 485, 486, 586, 587, 588, 589, 520, 590, 591, 592, 593, 488, 489, 490, 80, 81, 461, 462, 463, 464, 465, 491, 264, 265, 15, 266, 51, 492, 493, 494, 495, 82, 83, 496, 497, 498, 594, 595, 596, 597, 507, 508, 509, 510, 511, 84, 512, 513, 514, 515, 516, 517, 518, 519, 85, 487, 499, 500, 501, 502, 503, 504, 505, 35, 506, 96, 97, 98, 521, 522, 523, 524, 525, 526, 527, 528, 529, 530, 531, 532, 533, 534, 535, 536, 100, 537, 538, 539, 540, 541, 542, 543, 544, 775, 776, 777, 778, 779, 780, 781, 782, 783, 819, 820, 821, 822, 823, 824, 825, 826, 827, 811, 812, 813, 814, 815, 816, 817, 818, 808, 828, 829, 830, 831] (by decide +kernel) (by decide +kernel)) (goodIn_sub (fun _ h => List.mem_append_left _ (List.mem_append_left _ (List.mem_append_right _ h))) (by decide +kernel))
set_option maxRecDepth 20000 in
theorem gL_law_L_best : GoodIn wsL_law (va_wsS RL 130 yL_best wsL_best) := goodIn_app (goodIn_of _ (by decide +kernel)) ggL_law_L_best
set_option maxRecDepth 20000 in
theorem ggL_law_X9_best : GoodIn wsL_law wsX9_best := goodIn_r _ [601, 176, 178, 179, 180, 5, 181, 555, 556, 557, 558, 142, 136, 128, 143, 295, 552, 553, 554, 391, 392, 393, 394, 127, 129, 559, 560, 561, 562, 131, 563, 564, 565, 566, 133, 567, 568, 569, 570, 571, 572, 573, 574, 575, 576, 177, 577, 578, 141, 784, 785, 786, 787, 788, 789, 790, 791, 792, 793, 794, 795, 796, 797, 798, 799, 800, 801, 802, 803, 804, 805, 806, 807] (by decide +kernel) (by decide +kernel)
set_option maxRecDepth 20000 in
theorem gL_law_X9_best : GoodIn wsL_law (wsV RL 132 RX9 yX9_best wsX9_best) := goodIn_app (goodIn_of _ (by decide +kernel)) ggL_law_X9_best
set_option maxRecDepth 20000 in
theorem ggL_law_L_kept : GoodIn wsL_law wsL_kept := goodIn_ca (goodIn_r _ [604, 605, 606, 607, 608, 2, 609, 610, 611, 36, 612, 613, 614, 35, 615, 96, 616, 617, 618, 619, 97, 460, 461, 462, 463, 464, 465, 541, 542, 543, 544, 98, 775, 776, 777, 778, 779, 780, 781, 782, 783, 828, 829, 830, 831] (by decide +kernel) (by decide +kernel)) (goodIn_sub (fun _ h => List.mem_append_right _ h) (by decide +kernel))
set_option maxRecDepth 20000 in
theorem gL_law_L_kept : GoodIn wsL_law (va_wsS RL 133 yL_kept wsL_kept) := goodIn_app (goodIn_of _ (by decide +kernel)) ggL_law_L_kept
set_option maxRecDepth 20000 in
theorem ggL_law_X9_kept : GoodIn wsL_law wsX9_kept := goodIn_r _ [623, 176, 177, 577, 578, 178, 179, 180, 5, 181, 552, 553, 554, 784, 785, 786, 787, 788, 789, 790, 791, 792, 793, 794, 795, 796, 797, 798, 799, 800, 801, 802, 803, 804, 805, 806, 807] (by decide +kernel) (by decide +kernel)
set_option maxRecDepth 20000 in
theorem gL_law_X9_kept : GoodIn wsL_law (wsV RL 135 RX9 yX9_kept wsX9_kept) := goodIn_app (goodIn_of _ (by decide +kernel)) ggL_law_X9_kept
set_option maxRecDepth 20000 in
theorem ggL_law_L_bits : GoodIn wsL_law wsL_bits := goodIn_ca (goodIn_r _ [626, 193, 627, 628, 629, 2, 630, 36, 208, 209, 210, 202, 203, 307, 308, 309, 310, 24, 311, 312, 313, 23, 314, 118, 612, 613, 614, 35, 615, 96, 631, 538, 539, 540, 100, 775, 776, 777, 778, 779, 780, 781, 782, 783, 811, 812, 813, 814, 815, 816, 817, 828, 829, 830, 831] (by decide +kernel) (by decide +kernel)) (goodIn_sub (fun _ h => List.mem_append_left _ (List.mem_append_right _ h)) (by decide +kernel))
set_option maxRecDepth 20000 in
theorem gL_law_L_bits : GoodIn wsL_law (va_wsS RL 136 yL_bits wsL_bits) := goodIn_app (goodIn_of _ (by decide +kernel)) ggL_law_L_bits
set_option maxRecDepth 20000 in
theorem ggL_law_X9_bits : GoodIn wsL_law wsX9_bits := goodIn_r _ [635, 176, 177, 141, 227, 228, 229, 5, 230, 178, 179, 180, 181, 332, 333, 334, 335, 128, 784, 785, 786, 787, 788, 789, 790, 791, 792, 793, 794, 795, 796, 797, 798, 799, 800, 801, 802, 803, 804, 805, 806, 807] (by decide +kernel) (by decide +kernel)
set_option maxRecDepth 20000 in
theorem gL_law_X9_bits : GoodIn wsL_law (wsV RL 138 RX9 yX9_bits wsX9_bits) := goodIn_app (goodIn_of _ (by decide +kernel)) ggL_law_X9_bits
set_option maxRecDepth 20000 in
theorem ggL_law_X8_dye : GoodIn wsL_law wsX8_dye := goodIn_r _ [639, 36, 20, 24, 16, 45, 612, 613, 614, 35, 615, 96, 640, 641, 642, 19, 643, 56, 55, 644, 617, 618, 619, 97, 461, 2, 462, 463, 464, 465, 645, 646, 647, 23, 648, 649, 650, 651, 652, 118, 653, 538, 539, 540, 100, 366, 367, 368, 369, 61, 323, 87, 88, 89, 90, 91, 92, 616, 460, 654, 120, 121, 122, 64, 66, 655, 656, 657, 658, 362, 363, 364, 365, 370, 371, 372, 373, 374, 375, 376, 377, 378, 379, 380, 381, 382, 264, 265, 15, 266, 51, 775, 776, 777, 778, 779, 780, 781, 782, 783, 828, 829, 830, 831, 809, 810, 811, 812, 813, 814, 815, 816, 817, 808] (by decide +kernel) (by decide +kernel)
set_option maxRecDepth 20000 in
theorem gL_law_X8_dye : GoodIn wsL_law (wsV RL 139 RX8 yX8_dye wsX8_dye) := goodIn_app (goodIn_of _ (by decide +kernel)) ggL_law_X8_dye
set_option maxRecDepth 20000 in
theorem ggL_law_X9_dye : GoodIn wsL_law wsX9_dye := goodIn_r _ [662, 176, 177, 577, 144, 132, 552, 553, 5, 554, 663, 664, 665, 666, 128, 141, 391, 392, 393, 394, 127, 129, 182, 183, 184, 185, 130, 137, 667, 668, 669, 670, 387, 388, 389, 390, 395, 396, 397, 398, 131, 399, 784, 785, 786, 787, 788, 789, 790, 791, 792, 793, 794, 795, 796, 797, 798, 799, 800, 801, 802, 803, 804, 805, 806, 807] (by decide +kernel) (by decide +kernel)
set_option maxRecDepth 20000 in
theorem gL_law_X9_dye : GoodIn wsL_law (wsV RL 142 RX9 yX9_dye wsX9_dye) := goodIn_app (goodIn_of _ (by decide +kernel)) ggL_law_X9_dye
set_option maxRecDepth 20000 in
theorem ggL_law_L_slip : GoodIn wsL_law wsL_slip := goodIn_ca (goodIn_ca (goodIn_r _ [673, 193, 149, 674, 675, 676, 2, 677, 154, 155, 40, 198, 199, 200, 201, 202, 203, 24, 204, 205, 206, 23, 207, 117, 678, 165, 166, 39, 167, 104, 105, 775, 776, 777, 778, 779, 780, 781, 782, 783, 811, 812, 813, 814, 815, 816, 817, 832, 833] (by decide +kernel) (by decide +kernel)) (goodIn_sub (fun _ h => List.mem_append_left _ (List.mem_append_left _ (List.mem_append_right _ h))) (by decide +kernel))) (goodIn_sub (fun _ h => List.mem_append_left _ (List.mem_append_right _ h)) (by decide +kernel))
set_option maxRecDepth 20000 in
theorem gL_law_L_slip : GoodIn wsL_law (va_wsS RL 143 yL_slip wsL_slip) := goodIn_app (goodIn_of _ (by decide +kernel)) ggL_law_L_slip
set_option maxRecDepth 20000 in
theorem ggL_law_X9_slip : GoodIn wsL_law wsX9_slip := goodIn_r _ [682, 176, 134, 135, 223, 224, 225, 5, 226, 127, 178, 179, 180, 181, 784, 785, 786, 787, 788, 789, 790, 791, 792, 793, 794, 795, 796, 797, 798, 799, 800, 801, 802, 803, 804, 805, 806, 807] (by decide +kernel) (by decide +kernel)
set_option maxRecDepth 20000 in
theorem gL_law_X9_slip : GoodIn wsL_law (wsV RL 146 RX9 yX9_slip wsX9_slip) := goodIn_app (goodIn_of _ (by decide +kernel)) ggL_law_X9_slip
set_option maxRecDepth 20000 in
theorem ggL_law_L_seen : GoodIn wsL_law wsL_seen := goodIn_ca (goodIn_r _ [685, 193, 686, 687, 688, 2, 689, 40, 24, 198, 199, 200, 201, 202, 203, 204, 205, 206, 23, 207, 117, 307, 308, 309, 310, 311, 312, 313, 314, 118, 690, 691, 692, 39, 693, 104, 105, 694, 695, 408, 409, 410, 66, 60, 775, 776, 777, 778, 779, 780, 781, 782, 783, 811, 812, 813, 814, 815, 816, 817, 832, 833] (by decide +kernel) (by decide +kernel)) (goodIn_sub (fun _ h => List.mem_append_left _ (List.mem_append_right _ h)) (by decide +kernel))
set_option maxRecDepth 20000 in
theorem gL_law_L_seen : GoodIn wsL_law (va_wsS RL 147 yL_seen wsL_seen) := goodIn_app (goodIn_of _ (by decide +kernel)) ggL_law_L_seen
set_option maxRecDepth 20000 in
theorem ggL_law_X9_seen : GoodIn wsL_law wsX9_seen := goodIn_r _ [699, 176, 223, 224, 225, 5, 226, 127, 178, 179, 180, 181, 332, 333, 334, 335, 128, 700, 701, 702, 703, 134, 135, 415, 416, 417, 418, 130, 129, 784, 785, 786, 787, 788, 789, 790, 791, 792, 793, 794, 795, 796, 797, 798, 799, 800, 801, 802, 803, 804, 805, 806, 807] (by decide +kernel) (by decide +kernel)
set_option maxRecDepth 20000 in
theorem gL_law_X9_seen : GoodIn wsL_law (wsV RL 149 RX9 yX9_seen wsX9_seen) := goodIn_app (goodIn_of _ (by decide +kernel)) ggL_law_X9_seen
set_option maxRecDepth 20000 in
theorem ggL_law_X8_blurred : GoodIn wsL_law wsX8_blurred := goodIn_r _ [707, 24, 40, 28, 204, 205, 206, 23, 207, 117, 311, 312, 313, 314, 118, 690, 691, 692, 39, 693, 104, 105, 694, 695, 408, 409, 410, 66, 60, 438, 439, 440, 27, 441, 71, 775, 776, 777, 778, 779, 780, 781, 782, 783, 811, 812, 813, 814, 815, 816, 817, 832, 833, 818] (by decide +kernel) (by decide +kernel)
set_option maxRecDepth 20000 in
theorem gL_law_X8_blurred : GoodIn wsL_law (wsV RL 150 RX8 yX8_blurred wsX8_blurred) := goodIn_app (goodIn_of _ (by decide +kernel)) ggL_law_X8_blurred
set_option maxRecDepth 20000 in
theorem ggL_law_X9_blurred : GoodIn wsL_law wsX9_blurred := goodIn_r _ [711, 176, 127, 128, 133, 700, 701, 702, 5, 703, 134, 135, 415, 416, 417, 418, 130, 129, 784, 785, 786, 787, 788, 789, 790, 791, 792, 793, 794, 795, 796, 797, 798, 799, 800, 801, 802, 803, 804, 805, 806, 807] (by decide +kernel) (by decide +kernel)
set_option maxRecDepth 20000 in
theorem gL_law_X9_blurred : GoodIn wsL_law (wsV RL 153 RX9 yX9_blurred wsX9_blurred) := goodIn_app (goodIn_of _ (by decide +kernel)) ggL_law_X9_blurred
set_option maxRecDepth 20000 in
theorem ggL_law_X8_law : GoodIn wsL_law wsX8_law := goodIn_r _ [715, 44, 716, 717, 718, 43, 719, 112, 720, 721, 2, 722, 257, 258, 259, 723, 724, 725, 726, 109, 110, 111, 775, 776, 777, 778, 779, 780, 781, 782, 783, 834, 835, 836, 837] (by decide +kernel) (by decide +kernel)
set_option maxRecDepth 20000 in
theorem gL_law_X8_law : GoodIn wsL_law (wsV RL 154 RX8 yX8_law wsX8_law) := goodIn_app (goodIn_of _ (by decide +kernel)) ggL_law_X8_law
set_option maxRecDepth 20000 in
theorem ggL_law_X9_law : GoodIn wsL_law wsX9_law := goodIn_r _ [730, 176, 731, 138, 139, 140, 784, 785, 786, 787, 788, 789, 790, 791, 792, 793, 794, 795, 796, 797, 798, 799, 800, 801, 802, 803, 804, 805, 806, 807] (by decide +kernel) (by decide +kernel)
set_option maxRecDepth 20000 in
theorem gL_law_X9_law : GoodIn wsL_law (wsV RL 157 RX9 yX9_law wsX9_law) := goodIn_app (goodIn_of _ (by decide +kernel)) ggL_law_X9_law
set_option maxRecDepth 20000 in
theorem ggL_law_L_rank : GoodIn wsL_law wsL_rank := goodIn_ca (goodIn_r _ [734, 149, 735, 736, 737, 2, 738, 154, 155, 24, 44, 739, 740, 741, 742, 720, 721, 722, 743, 744, 745, 23, 746, 118, 61, 66, 747, 748, 749, 43, 750, 112, 110, 109, 111, 775, 776, 777, 778, 779, 780, 781, 782, 783, 811, 812, 813, 814, 815, 816, 817, 834, 835, 836, 837] (by decide +kernel) (by decide +kernel)) (goodIn_sub (fun _ h => List.mem_append_left _ (List.mem_append_left _ (List.mem_append_right _ h))) (by decide +kernel))
set_option maxRecDepth 20000 in
theorem gL_law_L_rank : GoodIn wsL_law (va_wsS RL 158 yL_rank wsL_rank) := goodIn_app (goodIn_of _ (by decide +kernel)) ggL_law_L_rank
set_option maxRecDepth 20000 in
theorem ggL_law_X9_rank : GoodIn wsL_law wsX9_rank := goodIn_r _ [754, 176, 127, 128, 178, 179, 180, 5, 181, 415, 416, 417, 418, 130, 129, 755, 756, 757, 758, 731, 139, 138, 140, 784, 785, 786, 787, 788, 789, 790, 791, 792, 793, 794, 795, 796, 797, 798, 799, 800, 801, 802, 803, 804, 805, 806, 807] (by decide +kernel) (by decide +kernel)
set_option maxRecDepth 20000 in
theorem gL_law_X9_rank : GoodIn wsL_law (wsV RL 160 RX9 yX9_rank wsX9_rank) := goodIn_app (goodIn_of _ (by decide +kernel)) ggL_law_X9_rank
set_option maxRecDepth 20000 in
theorem ggL_law_L_count : GoodIn wsL_law wsL_count := goodIn_ca (goodIn_r _ [761, 605, 762, 763, 764, 2, 765, 610, 611, 24, 20, 45, 44, 766, 471, 472, 23, 473, 61, 283, 284, 285, 19, 286, 55, 204, 205, 206, 207, 117, 311, 312, 313, 314, 118, 716, 717, 718, 43, 719, 112, 775, 776, 777, 778, 779, 780, 781, 782, 783, 811, 812, 813, 814, 815, 816, 817, 809, 810, 834, 835, 836, 837] (by decide +kernel) (by decide +kernel)) (goodIn_sub (fun _ h => List.mem_append_right _ h) (by decide +kernel))
set_option maxRecDepth 20000 in
theorem gL_law_L_count : GoodIn wsL_law (va_wsS RL 161 yL_count wsL_count) := goodIn_app (goodIn_of _ (by decide +kernel)) ggL_law_L_count
set_option maxRecDepth 20000 in
theorem ggL_law_X9_count : GoodIn wsL_law wsX9_count := goodIn_r _ [770, 176, 127, 128, 399, 731, 178, 179, 180, 5, 181, 391, 392, 393, 394, 129, 771, 772, 773, 774, 132, 784, 785, 786, 787, 788, 789, 790, 791, 792, 793, 794, 795, 796, 797, 798, 799, 800, 801, 802, 803, 804, 805, 806, 807] (by decide +kernel) (by decide +kernel)
set_option maxRecDepth 20000 in
theorem gL_law_X9_count : GoodIn wsL_law (wsV RL 163 RX9 yX9_count wsX9_count) := goodIn_app (goodIn_of _ (by decide +kernel)) ggL_law_X9_count
theorem dL_law_0 : decode cL_law 0 = .ok (.new 8, 3) := by decide +kernel
theorem dL_law_3 : decode cL_law 3 = .ok (.dup, 1) := by decide +kernel
theorem dL_law_4 : decode cL_law 4 = .ok (.invokespecial 79, 3) := by decide +kernel
theorem dL_law_7 : decode cL_law 7 = .ok (.astore_n 1, 1) := by decide +kernel
theorem dL_law_8 : decode cL_law 8 = .ok (.new 80, 3) := by decide +kernel
theorem dL_law_11 : decode cL_law 11 = .ok (.dup, 1) := by decide +kernel
theorem dL_law_12 : decode cL_law 12 = .ok (.invokespecial 82, 3) := by decide +kernel
theorem dL_law_15 : decode cL_law 15 = .ok (.astore_n 2, 1) := by decide +kernel
theorem dL_law_16 : decode cL_law 16 = .ok (.iconst 1, 1) := by decide +kernel
theorem dL_law_17 : decode cL_law 17 = .ok (.newarray .long, 2) := by decide +kernel
theorem dL_law_19 : decode cL_law 19 = .ok (.astore_n 3, 1) := by decide +kernel
theorem dL_law_20 : decode cL_law 20 = .ok (.iconst 0, 1) := by decide +kernel
theorem dL_law_21 : decode cL_law 21 = .ok (.istore 4, 2) := by decide +kernel
theorem dL_law_23 : decode cL_law 23 = .ok (.iload 4, 2) := by decide +kernel
theorem dL_law_25 : decode cL_law 25 = .ok (.aload_n 0, 1) := by decide +kernel
theorem dL_law_26 : decode cL_law 26 = .ok (.arraylength, 1) := by decide +kernel
theorem dL_law_27 : decode cL_law 27 = .ok (.iconst 4, 1) := by decide +kernel
theorem dL_law_28 : decode cL_law 28 = .ok (.isub, 1) := by decide +kernel
theorem dL_law_29 : decode cL_law 29 = .ok (.if_icmp .gt 1462, 3) := by decide +kernel
theorem dL_law_32 : decode cL_law 32 = .ok (.aload_n 0, 1) := by decide +kernel
theorem dL_law_33 : decode cL_law 33 = .ok (.iload 4, 2) := by decide +kernel
theorem dL_law_35 : decode cL_law 35 = .ok (.iaload, 1) := by decide +kernel
theorem dL_law_36 : decode cL_law 36 = .ok (.bipush 31, 2) := by decide +kernel
theorem dL_law_38 : decode cL_law 38 = .ok (.iand, 1) := by decide +kernel
theorem dL_law_39 : decode cL_law 39 = .ok (.tableswitch 1446 0 21 #[101, 149, 217, 308, 388, 456, 536, 616, 672, 740, 815, 895, 951, 1007, 1063, 1131, 1144, 1204, 1272, 1285, 1334, 1390], 101) := by decide +kernel
theorem dL_law_140 : decode cL_law 140 = .ok (.aload_n 1, 1) := by decide +kernel
theorem dL_law_141 : decode cL_law 141 = .ok (.aload_n 0, 1) := by decide +kernel
theorem dL_law_142 : decode cL_law 142 = .ok (.iload 4, 2) := by decide +kernel
theorem dL_law_144 : decode cL_law 144 = .ok (.iconst 1, 1) := by decide +kernel
theorem dL_law_145 : decode cL_law 145 = .ok (.iadd, 1) := by decide +kernel
theorem dL_law_146 : decode cL_law 146 = .ok (.iaload, 1) := by decide +kernel
theorem dL_law_147 : decode cL_law 147 = .ok (.aload_n 0, 1) := by decide +kernel
theorem dL_law_148 : decode cL_law 148 = .ok (.iload 4, 2) := by decide +kernel
theorem dL_law_150 : decode cL_law 150 = .ok (.iconst 2, 1) := by decide +kernel
theorem dL_law_151 : decode cL_law 151 = .ok (.iadd, 1) := by decide +kernel
theorem dL_law_152 : decode cL_law 152 = .ok (.iaload, 1) := by decide +kernel
theorem dL_law_153 : decode cL_law 153 = .ok (.invokestatic 83, 3) := by decide +kernel
theorem dL_law_156 : decode cL_law 156 = .ok (.istore 5, 2) := by decide +kernel
theorem dL_law_158 : decode cL_law 158 = .ok (.aload_n 2, 1) := by decide +kernel
theorem dL_law_159 : decode cL_law 159 = .ok (.aload_n 0, 1) := by decide +kernel
theorem dL_law_160 : decode cL_law 160 = .ok (.iload 4, 2) := by decide +kernel
theorem dL_law_162 : decode cL_law 162 = .ok (.iconst 1, 1) := by decide +kernel
theorem dL_law_163 : decode cL_law 163 = .ok (.iadd, 1) := by decide +kernel
theorem dL_law_164 : decode cL_law 164 = .ok (.iaload, 1) := by decide +kernel
theorem dL_law_165 : decode cL_law 165 = .ok (.aload_n 0, 1) := by decide +kernel
theorem dL_law_166 : decode cL_law 166 = .ok (.iload 4, 2) := by decide +kernel
theorem dL_law_168 : decode cL_law 168 = .ok (.iconst 2, 1) := by decide +kernel
theorem dL_law_169 : decode cL_law 169 = .ok (.iadd, 1) := by decide +kernel
theorem dL_law_170 : decode cL_law 170 = .ok (.iaload, 1) := by decide +kernel
theorem dL_law_171 : decode cL_law 171 = .ok (.invokevirtual 88, 3) := by decide +kernel
theorem dL_law_174 : decode cL_law 174 = .ok (.aload_n 2, 1) := by decide +kernel
theorem dL_law_175 : decode cL_law 175 = .ok (.invokevirtual 89, 3) := by decide +kernel
theorem dL_law_178 : decode cL_law 178 = .ok (.iload 5, 2) := by decide +kernel
theorem dL_law_180 : decode cL_law 180 = .ok (.if_icmp .eq 5, 3) := by decide +kernel
theorem dL_law_183 : decode cL_law 183 = .ok (.iconst 0, 1) := by decide +kernel
theorem dL_law_184 : decode cL_law 184 = .ok (.ireturn, 1) := by decide +kernel
theorem dL_law_185 : decode cL_law 185 = .ok (.goto 1300, 3) := by decide +kernel
theorem dL_law_188 : decode cL_law 188 = .ok (.aload_n 1, 1) := by decide +kernel
theorem dL_law_189 : decode cL_law 189 = .ok (.aload_n 0, 1) := by decide +kernel
theorem dL_law_190 : decode cL_law 190 = .ok (.iload 4, 2) := by decide +kernel
theorem dL_law_192 : decode cL_law 192 = .ok (.iconst 1, 1) := by decide +kernel
theorem dL_law_193 : decode cL_law 193 = .ok (.iadd, 1) := by decide +kernel
theorem dL_law_194 : decode cL_law 194 = .ok (.iaload, 1) := by decide +kernel
theorem dL_law_195 : decode cL_law 195 = .ok (.aload_n 0, 1) := by decide +kernel
theorem dL_law_196 : decode cL_law 196 = .ok (.iload 4, 2) := by decide +kernel
theorem dL_law_198 : decode cL_law 198 = .ok (.iconst 2, 1) := by decide +kernel
theorem dL_law_199 : decode cL_law 199 = .ok (.iadd, 1) := by decide +kernel
theorem dL_law_200 : decode cL_law 200 = .ok (.iaload, 1) := by decide +kernel
theorem dL_law_201 : decode cL_law 201 = .ok (.aload_n 3, 1) := by decide +kernel
theorem dL_law_202 : decode cL_law 202 = .ok (.invokestatic 93, 3) := by decide +kernel
theorem dL_law_205 : decode cL_law 205 = .ok (.istore 5, 2) := by decide +kernel
theorem dL_law_207 : decode cL_law 207 = .ok (.aload_n 2, 1) := by decide +kernel
theorem dL_law_208 : decode cL_law 208 = .ok (.aload_n 0, 1) := by decide +kernel
theorem dL_law_209 : decode cL_law 209 = .ok (.iload 4, 2) := by decide +kernel
theorem dL_law_211 : decode cL_law 211 = .ok (.iconst 1, 1) := by decide +kernel
theorem dL_law_212 : decode cL_law 212 = .ok (.iadd, 1) := by decide +kernel
theorem dL_law_213 : decode cL_law 213 = .ok (.iaload, 1) := by decide +kernel
theorem dL_law_214 : decode cL_law 214 = .ok (.aload_n 0, 1) := by decide +kernel
theorem dL_law_215 : decode cL_law 215 = .ok (.iload 4, 2) := by decide +kernel
theorem dL_law_217 : decode cL_law 217 = .ok (.iconst 2, 1) := by decide +kernel
theorem dL_law_218 : decode cL_law 218 = .ok (.iadd, 1) := by decide +kernel
theorem dL_law_219 : decode cL_law 219 = .ok (.iaload, 1) := by decide +kernel
theorem dL_law_220 : decode cL_law 220 = .ok (.invokevirtual 96, 3) := by decide +kernel
theorem dL_law_223 : decode cL_law 223 = .ok (.istore 6, 2) := by decide +kernel
theorem dL_law_225 : decode cL_law 225 = .ok (.aload_n 2, 1) := by decide +kernel
theorem dL_law_226 : decode cL_law 226 = .ok (.invokevirtual 89, 3) := by decide +kernel
theorem dL_law_229 : decode cL_law 229 = .ok (.iload 5, 2) := by decide +kernel
theorem dL_law_231 : decode cL_law 231 = .ok (.if_icmp .eq 5, 3) := by decide +kernel
theorem dL_law_234 : decode cL_law 234 = .ok (.iconst 0, 1) := by decide +kernel
theorem dL_law_235 : decode cL_law 235 = .ok (.ireturn, 1) := by decide +kernel
theorem dL_law_236 : decode cL_law 236 = .ok (.iload 5, 2) := by decide +kernel
theorem dL_law_238 : decode cL_law 238 = .ok (.ifCond .ne 15, 3) := by decide +kernel
theorem dL_law_241 : decode cL_law 241 = .ok (.aload_n 3, 1) := by decide +kernel
theorem dL_law_242 : decode cL_law 242 = .ok (.iconst 0, 1) := by decide +kernel
theorem dL_law_243 : decode cL_law 243 = .ok (.laload, 1) := by decide +kernel
theorem dL_law_244 : decode cL_law 244 = .ok (.iload 6, 2) := by decide +kernel
theorem dL_law_246 : decode cL_law 246 = .ok (.i2l, 1) := by decide +kernel
theorem dL_law_247 : decode cL_law 247 = .ok (.lcmp, 1) := by decide +kernel
theorem dL_law_248 : decode cL_law 248 = .ok (.ifCond .eq 5, 3) := by decide +kernel
theorem dL_law_251 : decode cL_law 251 = .ok (.iconst 0, 1) := by decide +kernel
theorem dL_law_252 : decode cL_law 252 = .ok (.ireturn, 1) := by decide +kernel
theorem dL_law_253 : decode cL_law 253 = .ok (.goto 1232, 3) := by decide +kernel
theorem dL_law_256 : decode cL_law 256 = .ok (.aload_n 1, 1) := by decide +kernel
theorem dL_law_257 : decode cL_law 257 = .ok (.aload_n 0, 1) := by decide +kernel
theorem dL_law_258 : decode cL_law 258 = .ok (.iload 4, 2) := by decide +kernel
theorem dL_law_260 : decode cL_law 260 = .ok (.iconst 1, 1) := by decide +kernel
theorem dL_law_261 : decode cL_law 261 = .ok (.iadd, 1) := by decide +kernel
theorem dL_law_262 : decode cL_law 262 = .ok (.iaload, 1) := by decide +kernel
theorem dL_law_263 : decode cL_law 263 = .ok (.aload_n 0, 1) := by decide +kernel
theorem dL_law_264 : decode cL_law 264 = .ok (.iload 4, 2) := by decide +kernel
theorem dL_law_266 : decode cL_law 266 = .ok (.iconst 2, 1) := by decide +kernel
theorem dL_law_267 : decode cL_law 267 = .ok (.iadd, 1) := by decide +kernel
theorem dL_law_268 : decode cL_law 268 = .ok (.iaload, 1) := by decide +kernel
theorem dL_law_269 : decode cL_law 269 = .ok (.ifCond .eq 7, 3) := by decide +kernel
theorem dL_law_272 : decode cL_law 272 = .ok (.iconst 1, 1) := by decide +kernel
theorem dL_law_273 : decode cL_law 273 = .ok (.goto 4, 3) := by decide +kernel
theorem dL_law_276 : decode cL_law 276 = .ok (.iconst 0, 1) := by decide +kernel
theorem dL_law_277 : decode cL_law 277 = .ok (.aload_n 3, 1) := by decide +kernel
theorem dL_law_278 : decode cL_law 278 = .ok (.invokestatic 97, 3) := by decide +kernel
theorem dL_law_281 : decode cL_law 281 = .ok (.istore 5, 2) := by decide +kernel
theorem dL_law_283 : decode cL_law 283 = .ok (.aload_n 2, 1) := by decide +kernel
theorem dL_law_284 : decode cL_law 284 = .ok (.aload_n 0, 1) := by decide +kernel
theorem dL_law_285 : decode cL_law 285 = .ok (.iload 4, 2) := by decide +kernel
theorem dL_law_287 : decode cL_law 287 = .ok (.iconst 1, 1) := by decide +kernel
theorem dL_law_288 : decode cL_law 288 = .ok (.iadd, 1) := by decide +kernel
theorem dL_law_289 : decode cL_law 289 = .ok (.iaload, 1) := by decide +kernel
theorem dL_law_290 : decode cL_law 290 = .ok (.aload_n 0, 1) := by decide +kernel
theorem dL_law_291 : decode cL_law 291 = .ok (.iload 4, 2) := by decide +kernel
theorem dL_law_293 : decode cL_law 293 = .ok (.iconst 2, 1) := by decide +kernel
theorem dL_law_294 : decode cL_law 294 = .ok (.iadd, 1) := by decide +kernel
theorem dL_law_295 : decode cL_law 295 = .ok (.iaload, 1) := by decide +kernel
theorem dL_law_296 : decode cL_law 296 = .ok (.ifCond .eq 7, 3) := by decide +kernel
theorem dL_law_299 : decode cL_law 299 = .ok (.iconst 1, 1) := by decide +kernel
theorem dL_law_300 : decode cL_law 300 = .ok (.goto 4, 3) := by decide +kernel
theorem dL_law_303 : decode cL_law 303 = .ok (.iconst 0, 1) := by decide +kernel
theorem dL_law_304 : decode cL_law 304 = .ok (.invokevirtual 100, 3) := by decide +kernel
theorem dL_law_307 : decode cL_law 307 = .ok (.istore 6, 2) := by decide +kernel
theorem dL_law_309 : decode cL_law 309 = .ok (.aload_n 2, 1) := by decide +kernel
theorem dL_law_310 : decode cL_law 310 = .ok (.invokevirtual 89, 3) := by decide +kernel
theorem dL_law_313 : decode cL_law 313 = .ok (.iload 5, 2) := by decide +kernel
theorem dL_law_315 : decode cL_law 315 = .ok (.if_icmp .eq 5, 3) := by decide +kernel
theorem dL_law_318 : decode cL_law 318 = .ok (.iconst 0, 1) := by decide +kernel
theorem dL_law_319 : decode cL_law 319 = .ok (.ireturn, 1) := by decide +kernel
theorem dL_law_320 : decode cL_law 320 = .ok (.iload 5, 2) := by decide +kernel
theorem dL_law_322 : decode cL_law 322 = .ok (.ifCond .ne 22, 3) := by decide +kernel
theorem dL_law_325 : decode cL_law 325 = .ok (.aload_n 3, 1) := by decide +kernel
theorem dL_law_326 : decode cL_law 326 = .ok (.iconst 0, 1) := by decide +kernel
theorem dL_law_327 : decode cL_law 327 = .ok (.laload, 1) := by decide +kernel
theorem dL_law_328 : decode cL_law 328 = .ok (.iload 6, 2) := by decide +kernel
theorem dL_law_330 : decode cL_law 330 = .ok (.ifCond .eq 7, 3) := by decide +kernel
theorem dL_law_333 : decode cL_law 333 = .ok (.lconst 1, 1) := by decide +kernel
theorem dL_law_334 : decode cL_law 334 = .ok (.goto 4, 3) := by decide +kernel
theorem dL_law_337 : decode cL_law 337 = .ok (.lconst 0, 1) := by decide +kernel
theorem dL_law_338 : decode cL_law 338 = .ok (.lcmp, 1) := by decide +kernel
theorem dL_law_339 : decode cL_law 339 = .ok (.ifCond .eq 5, 3) := by decide +kernel
theorem dL_law_342 : decode cL_law 342 = .ok (.iconst 0, 1) := by decide +kernel
theorem dL_law_343 : decode cL_law 343 = .ok (.ireturn, 1) := by decide +kernel
theorem dL_law_344 : decode cL_law 344 = .ok (.goto 1141, 3) := by decide +kernel
theorem dL_law_347 : decode cL_law 347 = .ok (.aload_n 1, 1) := by decide +kernel
theorem dL_law_348 : decode cL_law 348 = .ok (.aload_n 0, 1) := by decide +kernel
theorem dL_law_349 : decode cL_law 349 = .ok (.iload 4, 2) := by decide +kernel
theorem dL_law_351 : decode cL_law 351 = .ok (.iconst 1, 1) := by decide +kernel
theorem dL_law_352 : decode cL_law 352 = .ok (.iadd, 1) := by decide +kernel
theorem dL_law_353 : decode cL_law 353 = .ok (.iaload, 1) := by decide +kernel
theorem dL_law_354 : decode cL_law 354 = .ok (.aload_n 0, 1) := by decide +kernel
theorem dL_law_355 : decode cL_law 355 = .ok (.iload 4, 2) := by decide +kernel
theorem dL_law_357 : decode cL_law 357 = .ok (.iconst 2, 1) := by decide +kernel
theorem dL_law_358 : decode cL_law 358 = .ok (.iadd, 1) := by decide +kernel
theorem dL_law_359 : decode cL_law 359 = .ok (.iaload, 1) := by decide +kernel
theorem dL_law_360 : decode cL_law 360 = .ok (.aload_n 0, 1) := by decide +kernel
theorem dL_law_361 : decode cL_law 361 = .ok (.iload 4, 2) := by decide +kernel
theorem dL_law_363 : decode cL_law 363 = .ok (.iconst 3, 1) := by decide +kernel
theorem dL_law_364 : decode cL_law 364 = .ok (.iadd, 1) := by decide +kernel
theorem dL_law_365 : decode cL_law 365 = .ok (.iaload, 1) := by decide +kernel
theorem dL_law_366 : decode cL_law 366 = .ok (.aload_n 3, 1) := by decide +kernel
theorem dL_law_367 : decode cL_law 367 = .ok (.invokestatic 101, 3) := by decide +kernel
theorem dL_law_370 : decode cL_law 370 = .ok (.istore 5, 2) := by decide +kernel
theorem dL_law_372 : decode cL_law 372 = .ok (.aload_n 2, 1) := by decide +kernel
theorem dL_law_373 : decode cL_law 373 = .ok (.aload_n 0, 1) := by decide +kernel
theorem dL_law_374 : decode cL_law 374 = .ok (.iload 4, 2) := by decide +kernel
theorem dL_law_376 : decode cL_law 376 = .ok (.iconst 1, 1) := by decide +kernel
theorem dL_law_377 : decode cL_law 377 = .ok (.iadd, 1) := by decide +kernel
theorem dL_law_378 : decode cL_law 378 = .ok (.iaload, 1) := by decide +kernel
theorem dL_law_379 : decode cL_law 379 = .ok (.aload_n 0, 1) := by decide +kernel
theorem dL_law_380 : decode cL_law 380 = .ok (.iload 4, 2) := by decide +kernel
theorem dL_law_382 : decode cL_law 382 = .ok (.iconst 2, 1) := by decide +kernel
theorem dL_law_383 : decode cL_law 383 = .ok (.iadd, 1) := by decide +kernel
theorem dL_law_384 : decode cL_law 384 = .ok (.iaload, 1) := by decide +kernel
theorem dL_law_385 : decode cL_law 385 = .ok (.aload_n 0, 1) := by decide +kernel
theorem dL_law_386 : decode cL_law 386 = .ok (.iload 4, 2) := by decide +kernel
theorem dL_law_388 : decode cL_law 388 = .ok (.iconst 3, 1) := by decide +kernel
theorem dL_law_389 : decode cL_law 389 = .ok (.iadd, 1) := by decide +kernel
theorem dL_law_390 : decode cL_law 390 = .ok (.iaload, 1) := by decide +kernel
theorem dL_law_391 : decode cL_law 391 = .ok (.invokevirtual 104, 3) := by decide +kernel
theorem dL_law_394 : decode cL_law 394 = .ok (.istore 6, 2) := by decide +kernel
theorem dL_law_396 : decode cL_law 396 = .ok (.aload_n 2, 1) := by decide +kernel
theorem dL_law_397 : decode cL_law 397 = .ok (.invokevirtual 89, 3) := by decide +kernel
theorem dL_law_400 : decode cL_law 400 = .ok (.iload 5, 2) := by decide +kernel
theorem dL_law_402 : decode cL_law 402 = .ok (.if_icmp .eq 5, 3) := by decide +kernel
theorem dL_law_405 : decode cL_law 405 = .ok (.iconst 0, 1) := by decide +kernel
theorem dL_law_406 : decode cL_law 406 = .ok (.ireturn, 1) := by decide +kernel
theorem dL_law_407 : decode cL_law 407 = .ok (.iload 5, 2) := by decide +kernel
theorem dL_law_409 : decode cL_law 409 = .ok (.ifCond .ne 15, 3) := by decide +kernel
theorem dL_law_412 : decode cL_law 412 = .ok (.aload_n 3, 1) := by decide +kernel
theorem dL_law_413 : decode cL_law 413 = .ok (.iconst 0, 1) := by decide +kernel
theorem dL_law_414 : decode cL_law 414 = .ok (.laload, 1) := by decide +kernel
theorem dL_law_415 : decode cL_law 415 = .ok (.iload 6, 2) := by decide +kernel
theorem dL_law_417 : decode cL_law 417 = .ok (.i2l, 1) := by decide +kernel
theorem dL_law_418 : decode cL_law 418 = .ok (.lcmp, 1) := by decide +kernel
theorem dL_law_419 : decode cL_law 419 = .ok (.ifCond .eq 5, 3) := by decide +kernel
theorem dL_law_422 : decode cL_law 422 = .ok (.iconst 0, 1) := by decide +kernel
theorem dL_law_423 : decode cL_law 423 = .ok (.ireturn, 1) := by decide +kernel
theorem dL_law_424 : decode cL_law 424 = .ok (.goto 1061, 3) := by decide +kernel
theorem dL_law_427 : decode cL_law 427 = .ok (.aload_n 1, 1) := by decide +kernel
theorem dL_law_428 : decode cL_law 428 = .ok (.aload_n 0, 1) := by decide +kernel
theorem dL_law_429 : decode cL_law 429 = .ok (.iload 4, 2) := by decide +kernel
theorem dL_law_431 : decode cL_law 431 = .ok (.iconst 1, 1) := by decide +kernel
theorem dL_law_432 : decode cL_law 432 = .ok (.iadd, 1) := by decide +kernel
theorem dL_law_433 : decode cL_law 433 = .ok (.iaload, 1) := by decide +kernel
theorem dL_law_434 : decode cL_law 434 = .ok (.aload_n 0, 1) := by decide +kernel
theorem dL_law_435 : decode cL_law 435 = .ok (.iload 4, 2) := by decide +kernel
theorem dL_law_437 : decode cL_law 437 = .ok (.iconst 2, 1) := by decide +kernel
theorem dL_law_438 : decode cL_law 438 = .ok (.iadd, 1) := by decide +kernel
theorem dL_law_439 : decode cL_law 439 = .ok (.iaload, 1) := by decide +kernel
theorem dL_law_440 : decode cL_law 440 = .ok (.aload_n 3, 1) := by decide +kernel
theorem dL_law_441 : decode cL_law 441 = .ok (.invokestatic 105, 3) := by decide +kernel
theorem dL_law_444 : decode cL_law 444 = .ok (.istore 5, 2) := by decide +kernel
theorem dL_law_446 : decode cL_law 446 = .ok (.aload_n 2, 1) := by decide +kernel
theorem dL_law_447 : decode cL_law 447 = .ok (.aload_n 0, 1) := by decide +kernel
theorem dL_law_448 : decode cL_law 448 = .ok (.iload 4, 2) := by decide +kernel
theorem dL_law_450 : decode cL_law 450 = .ok (.iconst 1, 1) := by decide +kernel
theorem dL_law_451 : decode cL_law 451 = .ok (.iadd, 1) := by decide +kernel
theorem dL_law_452 : decode cL_law 452 = .ok (.iaload, 1) := by decide +kernel
theorem dL_law_453 : decode cL_law 453 = .ok (.aload_n 0, 1) := by decide +kernel
theorem dL_law_454 : decode cL_law 454 = .ok (.iload 4, 2) := by decide +kernel
theorem dL_law_456 : decode cL_law 456 = .ok (.iconst 2, 1) := by decide +kernel
theorem dL_law_457 : decode cL_law 457 = .ok (.iadd, 1) := by decide +kernel
theorem dL_law_458 : decode cL_law 458 = .ok (.iaload, 1) := by decide +kernel
theorem dL_law_459 : decode cL_law 459 = .ok (.invokevirtual 107, 3) := by decide +kernel
theorem dL_law_462 : decode cL_law 462 = .ok (.istore 6, 2) := by decide +kernel
theorem dL_law_464 : decode cL_law 464 = .ok (.aload_n 2, 1) := by decide +kernel
theorem dL_law_465 : decode cL_law 465 = .ok (.invokevirtual 89, 3) := by decide +kernel
theorem dL_law_468 : decode cL_law 468 = .ok (.iload 5, 2) := by decide +kernel
theorem dL_law_470 : decode cL_law 470 = .ok (.if_icmp .eq 5, 3) := by decide +kernel
theorem dL_law_473 : decode cL_law 473 = .ok (.iconst 0, 1) := by decide +kernel
theorem dL_law_474 : decode cL_law 474 = .ok (.ireturn, 1) := by decide +kernel
theorem dL_law_475 : decode cL_law 475 = .ok (.iload 5, 2) := by decide +kernel
theorem dL_law_477 : decode cL_law 477 = .ok (.ifCond .ne 15, 3) := by decide +kernel
theorem dL_law_480 : decode cL_law 480 = .ok (.aload_n 3, 1) := by decide +kernel
theorem dL_law_481 : decode cL_law 481 = .ok (.iconst 0, 1) := by decide +kernel
theorem dL_law_482 : decode cL_law 482 = .ok (.laload, 1) := by decide +kernel
theorem dL_law_483 : decode cL_law 483 = .ok (.iload 6, 2) := by decide +kernel
theorem dL_law_485 : decode cL_law 485 = .ok (.i2l, 1) := by decide +kernel
theorem dL_law_486 : decode cL_law 486 = .ok (.lcmp, 1) := by decide +kernel
theorem dL_law_487 : decode cL_law 487 = .ok (.ifCond .eq 5, 3) := by decide +kernel
theorem dL_law_490 : decode cL_law 490 = .ok (.iconst 0, 1) := by decide +kernel
theorem dL_law_491 : decode cL_law 491 = .ok (.ireturn, 1) := by decide +kernel
theorem dL_law_492 : decode cL_law 492 = .ok (.goto 993, 3) := by decide +kernel
theorem dL_law_495 : decode cL_law 495 = .ok (.aload_n 1, 1) := by decide +kernel
theorem dL_law_496 : decode cL_law 496 = .ok (.aload_n 0, 1) := by decide +kernel
theorem dL_law_497 : decode cL_law 497 = .ok (.iload 4, 2) := by decide +kernel
theorem dL_law_499 : decode cL_law 499 = .ok (.iconst 1, 1) := by decide +kernel
theorem dL_law_500 : decode cL_law 500 = .ok (.iadd, 1) := by decide +kernel
theorem dL_law_501 : decode cL_law 501 = .ok (.iaload, 1) := by decide +kernel
theorem dL_law_502 : decode cL_law 502 = .ok (.aload_n 0, 1) := by decide +kernel
theorem dL_law_503 : decode cL_law 503 = .ok (.iload 4, 2) := by decide +kernel
theorem dL_law_505 : decode cL_law 505 = .ok (.iconst 2, 1) := by decide +kernel
theorem dL_law_506 : decode cL_law 506 = .ok (.iadd, 1) := by decide +kernel
theorem dL_law_507 : decode cL_law 507 = .ok (.iaload, 1) := by decide +kernel
theorem dL_law_508 : decode cL_law 508 = .ok (.aload_n 0, 1) := by decide +kernel
theorem dL_law_509 : decode cL_law 509 = .ok (.iload 4, 2) := by decide +kernel
theorem dL_law_511 : decode cL_law 511 = .ok (.iconst 3, 1) := by decide +kernel
theorem dL_law_512 : decode cL_law 512 = .ok (.iadd, 1) := by decide +kernel
theorem dL_law_513 : decode cL_law 513 = .ok (.iaload, 1) := by decide +kernel
theorem dL_law_514 : decode cL_law 514 = .ok (.aload_n 3, 1) := by decide +kernel
theorem dL_law_515 : decode cL_law 515 = .ok (.invokestatic 108, 3) := by decide +kernel
theorem dL_law_518 : decode cL_law 518 = .ok (.istore 5, 2) := by decide +kernel
theorem dL_law_520 : decode cL_law 520 = .ok (.aload_n 2, 1) := by decide +kernel
theorem dL_law_521 : decode cL_law 521 = .ok (.aload_n 0, 1) := by decide +kernel
theorem dL_law_522 : decode cL_law 522 = .ok (.iload 4, 2) := by decide +kernel
theorem dL_law_524 : decode cL_law 524 = .ok (.iconst 1, 1) := by decide +kernel
theorem dL_law_525 : decode cL_law 525 = .ok (.iadd, 1) := by decide +kernel
theorem dL_law_526 : decode cL_law 526 = .ok (.iaload, 1) := by decide +kernel
theorem dL_law_527 : decode cL_law 527 = .ok (.aload_n 0, 1) := by decide +kernel
theorem dL_law_528 : decode cL_law 528 = .ok (.iload 4, 2) := by decide +kernel
theorem dL_law_530 : decode cL_law 530 = .ok (.iconst 2, 1) := by decide +kernel
theorem dL_law_531 : decode cL_law 531 = .ok (.iadd, 1) := by decide +kernel
theorem dL_law_532 : decode cL_law 532 = .ok (.iaload, 1) := by decide +kernel
theorem dL_law_533 : decode cL_law 533 = .ok (.aload_n 0, 1) := by decide +kernel
theorem dL_law_534 : decode cL_law 534 = .ok (.iload 4, 2) := by decide +kernel
theorem dL_law_536 : decode cL_law 536 = .ok (.iconst 3, 1) := by decide +kernel
theorem dL_law_537 : decode cL_law 537 = .ok (.iadd, 1) := by decide +kernel
theorem dL_law_538 : decode cL_law 538 = .ok (.iaload, 1) := by decide +kernel
theorem dL_law_539 : decode cL_law 539 = .ok (.invokevirtual 110, 3) := by decide +kernel
theorem dL_law_542 : decode cL_law 542 = .ok (.istore 6, 2) := by decide +kernel
theorem dL_law_544 : decode cL_law 544 = .ok (.aload_n 2, 1) := by decide +kernel
theorem dL_law_545 : decode cL_law 545 = .ok (.invokevirtual 89, 3) := by decide +kernel
theorem dL_law_548 : decode cL_law 548 = .ok (.iload 5, 2) := by decide +kernel
theorem dL_law_550 : decode cL_law 550 = .ok (.if_icmp .eq 5, 3) := by decide +kernel
theorem dL_law_553 : decode cL_law 553 = .ok (.iconst 0, 1) := by decide +kernel
theorem dL_law_554 : decode cL_law 554 = .ok (.ireturn, 1) := by decide +kernel
theorem dL_law_555 : decode cL_law 555 = .ok (.iload 5, 2) := by decide +kernel
theorem dL_law_557 : decode cL_law 557 = .ok (.ifCond .ne 15, 3) := by decide +kernel
theorem dL_law_560 : decode cL_law 560 = .ok (.aload_n 3, 1) := by decide +kernel
theorem dL_law_561 : decode cL_law 561 = .ok (.iconst 0, 1) := by decide +kernel
theorem dL_law_562 : decode cL_law 562 = .ok (.laload, 1) := by decide +kernel
theorem dL_law_563 : decode cL_law 563 = .ok (.iload 6, 2) := by decide +kernel
theorem dL_law_565 : decode cL_law 565 = .ok (.i2l, 1) := by decide +kernel
theorem dL_law_566 : decode cL_law 566 = .ok (.lcmp, 1) := by decide +kernel
theorem dL_law_567 : decode cL_law 567 = .ok (.ifCond .eq 5, 3) := by decide +kernel
theorem dL_law_570 : decode cL_law 570 = .ok (.iconst 0, 1) := by decide +kernel
theorem dL_law_571 : decode cL_law 571 = .ok (.ireturn, 1) := by decide +kernel
theorem dL_law_572 : decode cL_law 572 = .ok (.goto 913, 3) := by decide +kernel
theorem dL_law_575 : decode cL_law 575 = .ok (.aload_n 1, 1) := by decide +kernel
theorem dL_law_576 : decode cL_law 576 = .ok (.aload_n 0, 1) := by decide +kernel
theorem dL_law_577 : decode cL_law 577 = .ok (.iload 4, 2) := by decide +kernel
theorem dL_law_579 : decode cL_law 579 = .ok (.iconst 1, 1) := by decide +kernel
theorem dL_law_580 : decode cL_law 580 = .ok (.iadd, 1) := by decide +kernel
theorem dL_law_581 : decode cL_law 581 = .ok (.iaload, 1) := by decide +kernel
theorem dL_law_582 : decode cL_law 582 = .ok (.aload_n 0, 1) := by decide +kernel
theorem dL_law_583 : decode cL_law 583 = .ok (.iload 4, 2) := by decide +kernel
theorem dL_law_585 : decode cL_law 585 = .ok (.iconst 2, 1) := by decide +kernel
theorem dL_law_586 : decode cL_law 586 = .ok (.iadd, 1) := by decide +kernel
theorem dL_law_587 : decode cL_law 587 = .ok (.iaload, 1) := by decide +kernel
theorem dL_law_588 : decode cL_law 588 = .ok (.aload_n 0, 1) := by decide +kernel
theorem dL_law_589 : decode cL_law 589 = .ok (.iload 4, 2) := by decide +kernel
theorem dL_law_591 : decode cL_law 591 = .ok (.iconst 3, 1) := by decide +kernel
theorem dL_law_592 : decode cL_law 592 = .ok (.iadd, 1) := by decide +kernel
theorem dL_law_593 : decode cL_law 593 = .ok (.iaload, 1) := by decide +kernel
theorem dL_law_594 : decode cL_law 594 = .ok (.aload_n 3, 1) := by decide +kernel
theorem dL_law_595 : decode cL_law 595 = .ok (.invokestatic 111, 3) := by decide +kernel
theorem dL_law_598 : decode cL_law 598 = .ok (.istore 5, 2) := by decide +kernel
theorem dL_law_600 : decode cL_law 600 = .ok (.aload_n 2, 1) := by decide +kernel
theorem dL_law_601 : decode cL_law 601 = .ok (.aload_n 0, 1) := by decide +kernel
theorem dL_law_602 : decode cL_law 602 = .ok (.iload 4, 2) := by decide +kernel
theorem dL_law_604 : decode cL_law 604 = .ok (.iconst 1, 1) := by decide +kernel
theorem dL_law_605 : decode cL_law 605 = .ok (.iadd, 1) := by decide +kernel
theorem dL_law_606 : decode cL_law 606 = .ok (.iaload, 1) := by decide +kernel
theorem dL_law_607 : decode cL_law 607 = .ok (.aload_n 0, 1) := by decide +kernel
theorem dL_law_608 : decode cL_law 608 = .ok (.iload 4, 2) := by decide +kernel
theorem dL_law_610 : decode cL_law 610 = .ok (.iconst 2, 1) := by decide +kernel
theorem dL_law_611 : decode cL_law 611 = .ok (.iadd, 1) := by decide +kernel
theorem dL_law_612 : decode cL_law 612 = .ok (.iaload, 1) := by decide +kernel
theorem dL_law_613 : decode cL_law 613 = .ok (.aload_n 0, 1) := by decide +kernel
theorem dL_law_614 : decode cL_law 614 = .ok (.iload 4, 2) := by decide +kernel
theorem dL_law_616 : decode cL_law 616 = .ok (.iconst 3, 1) := by decide +kernel
theorem dL_law_617 : decode cL_law 617 = .ok (.iadd, 1) := by decide +kernel
theorem dL_law_618 : decode cL_law 618 = .ok (.iaload, 1) := by decide +kernel
theorem dL_law_619 : decode cL_law 619 = .ok (.invokevirtual 113, 3) := by decide +kernel
theorem dL_law_622 : decode cL_law 622 = .ok (.istore 6, 2) := by decide +kernel
theorem dL_law_624 : decode cL_law 624 = .ok (.aload_n 2, 1) := by decide +kernel
theorem dL_law_625 : decode cL_law 625 = .ok (.invokevirtual 89, 3) := by decide +kernel
theorem dL_law_628 : decode cL_law 628 = .ok (.iload 5, 2) := by decide +kernel
theorem dL_law_630 : decode cL_law 630 = .ok (.if_icmp .eq 5, 3) := by decide +kernel
theorem dL_law_633 : decode cL_law 633 = .ok (.iconst 0, 1) := by decide +kernel
theorem dL_law_634 : decode cL_law 634 = .ok (.ireturn, 1) := by decide +kernel
theorem dL_law_635 : decode cL_law 635 = .ok (.iload 5, 2) := by decide +kernel
theorem dL_law_637 : decode cL_law 637 = .ok (.ifCond .ne 15, 3) := by decide +kernel
theorem dL_law_640 : decode cL_law 640 = .ok (.aload_n 3, 1) := by decide +kernel
theorem dL_law_641 : decode cL_law 641 = .ok (.iconst 0, 1) := by decide +kernel
theorem dL_law_642 : decode cL_law 642 = .ok (.laload, 1) := by decide +kernel
theorem dL_law_643 : decode cL_law 643 = .ok (.iload 6, 2) := by decide +kernel
theorem dL_law_645 : decode cL_law 645 = .ok (.i2l, 1) := by decide +kernel
theorem dL_law_646 : decode cL_law 646 = .ok (.lcmp, 1) := by decide +kernel
theorem dL_law_647 : decode cL_law 647 = .ok (.ifCond .eq 5, 3) := by decide +kernel
theorem dL_law_650 : decode cL_law 650 = .ok (.iconst 0, 1) := by decide +kernel
theorem dL_law_651 : decode cL_law 651 = .ok (.ireturn, 1) := by decide +kernel
theorem dL_law_652 : decode cL_law 652 = .ok (.goto 833, 3) := by decide +kernel
theorem dL_law_655 : decode cL_law 655 = .ok (.aload_n 1, 1) := by decide +kernel
theorem dL_law_656 : decode cL_law 656 = .ok (.aload_n 0, 1) := by decide +kernel
theorem dL_law_657 : decode cL_law 657 = .ok (.iload 4, 2) := by decide +kernel
theorem dL_law_659 : decode cL_law 659 = .ok (.iconst 1, 1) := by decide +kernel
theorem dL_law_660 : decode cL_law 660 = .ok (.iadd, 1) := by decide +kernel
theorem dL_law_661 : decode cL_law 661 = .ok (.iaload, 1) := by decide +kernel
theorem dL_law_662 : decode cL_law 662 = .ok (.aload_n 3, 1) := by decide +kernel
theorem dL_law_663 : decode cL_law 663 = .ok (.invokestatic 114, 3) := by decide +kernel
theorem dL_law_666 : decode cL_law 666 = .ok (.istore 5, 2) := by decide +kernel
theorem dL_law_668 : decode cL_law 668 = .ok (.aload_n 2, 1) := by decide +kernel
theorem dL_law_669 : decode cL_law 669 = .ok (.aload_n 0, 1) := by decide +kernel
theorem dL_law_670 : decode cL_law 670 = .ok (.iload 4, 2) := by decide +kernel
theorem dL_law_672 : decode cL_law 672 = .ok (.iconst 1, 1) := by decide +kernel
theorem dL_law_673 : decode cL_law 673 = .ok (.iadd, 1) := by decide +kernel
theorem dL_law_674 : decode cL_law 674 = .ok (.iaload, 1) := by decide +kernel
theorem dL_law_675 : decode cL_law 675 = .ok (.invokevirtual 117, 3) := by decide +kernel
theorem dL_law_678 : decode cL_law 678 = .ok (.istore 6, 2) := by decide +kernel
theorem dL_law_680 : decode cL_law 680 = .ok (.aload_n 2, 1) := by decide +kernel
theorem dL_law_681 : decode cL_law 681 = .ok (.invokevirtual 89, 3) := by decide +kernel
theorem dL_law_684 : decode cL_law 684 = .ok (.iload 5, 2) := by decide +kernel
theorem dL_law_686 : decode cL_law 686 = .ok (.if_icmp .eq 5, 3) := by decide +kernel
theorem dL_law_689 : decode cL_law 689 = .ok (.iconst 0, 1) := by decide +kernel
theorem dL_law_690 : decode cL_law 690 = .ok (.ireturn, 1) := by decide +kernel
theorem dL_law_691 : decode cL_law 691 = .ok (.iload 5, 2) := by decide +kernel
theorem dL_law_693 : decode cL_law 693 = .ok (.ifCond .ne 15, 3) := by decide +kernel
theorem dL_law_696 : decode cL_law 696 = .ok (.aload_n 3, 1) := by decide +kernel
theorem dL_law_697 : decode cL_law 697 = .ok (.iconst 0, 1) := by decide +kernel
theorem dL_law_698 : decode cL_law 698 = .ok (.laload, 1) := by decide +kernel
theorem dL_law_699 : decode cL_law 699 = .ok (.iload 6, 2) := by decide +kernel
theorem dL_law_701 : decode cL_law 701 = .ok (.i2l, 1) := by decide +kernel
theorem dL_law_702 : decode cL_law 702 = .ok (.lcmp, 1) := by decide +kernel
theorem dL_law_703 : decode cL_law 703 = .ok (.ifCond .eq 5, 3) := by decide +kernel
theorem dL_law_706 : decode cL_law 706 = .ok (.iconst 0, 1) := by decide +kernel
theorem dL_law_707 : decode cL_law 707 = .ok (.ireturn, 1) := by decide +kernel
theorem dL_law_708 : decode cL_law 708 = .ok (.goto 777, 3) := by decide +kernel
theorem dL_law_711 : decode cL_law 711 = .ok (.aload_n 1, 1) := by decide +kernel
theorem dL_law_712 : decode cL_law 712 = .ok (.aload_n 0, 1) := by decide +kernel
theorem dL_law_713 : decode cL_law 713 = .ok (.iload 4, 2) := by decide +kernel
theorem dL_law_715 : decode cL_law 715 = .ok (.iconst 1, 1) := by decide +kernel
theorem dL_law_716 : decode cL_law 716 = .ok (.iadd, 1) := by decide +kernel
theorem dL_law_717 : decode cL_law 717 = .ok (.iaload, 1) := by decide +kernel
theorem dL_law_718 : decode cL_law 718 = .ok (.aload_n 0, 1) := by decide +kernel
theorem dL_law_719 : decode cL_law 719 = .ok (.iload 4, 2) := by decide +kernel
theorem dL_law_721 : decode cL_law 721 = .ok (.iconst 2, 1) := by decide +kernel
theorem dL_law_722 : decode cL_law 722 = .ok (.iadd, 1) := by decide +kernel
theorem dL_law_723 : decode cL_law 723 = .ok (.iaload, 1) := by decide +kernel
theorem dL_law_724 : decode cL_law 724 = .ok (.aload_n 3, 1) := by decide +kernel
theorem dL_law_725 : decode cL_law 725 = .ok (.invokestatic 118, 3) := by decide +kernel
theorem dL_law_728 : decode cL_law 728 = .ok (.istore 5, 2) := by decide +kernel
theorem dL_law_730 : decode cL_law 730 = .ok (.aload_n 2, 1) := by decide +kernel
theorem dL_law_731 : decode cL_law 731 = .ok (.aload_n 0, 1) := by decide +kernel
theorem dL_law_732 : decode cL_law 732 = .ok (.iload 4, 2) := by decide +kernel
theorem dL_law_734 : decode cL_law 734 = .ok (.iconst 1, 1) := by decide +kernel
theorem dL_law_735 : decode cL_law 735 = .ok (.iadd, 1) := by decide +kernel
theorem dL_law_736 : decode cL_law 736 = .ok (.iaload, 1) := by decide +kernel
theorem dL_law_737 : decode cL_law 737 = .ok (.aload_n 0, 1) := by decide +kernel
theorem dL_law_738 : decode cL_law 738 = .ok (.iload 4, 2) := by decide +kernel
theorem dL_law_740 : decode cL_law 740 = .ok (.iconst 2, 1) := by decide +kernel
theorem dL_law_741 : decode cL_law 741 = .ok (.iadd, 1) := by decide +kernel
theorem dL_law_742 : decode cL_law 742 = .ok (.iaload, 1) := by decide +kernel
theorem dL_law_743 : decode cL_law 743 = .ok (.invokevirtual 120, 3) := by decide +kernel
theorem dL_law_746 : decode cL_law 746 = .ok (.istore 6, 2) := by decide +kernel
theorem dL_law_748 : decode cL_law 748 = .ok (.aload_n 2, 1) := by decide +kernel
theorem dL_law_749 : decode cL_law 749 = .ok (.invokevirtual 89, 3) := by decide +kernel
theorem dL_law_752 : decode cL_law 752 = .ok (.iload 5, 2) := by decide +kernel
theorem dL_law_754 : decode cL_law 754 = .ok (.if_icmp .eq 5, 3) := by decide +kernel
theorem dL_law_757 : decode cL_law 757 = .ok (.iconst 0, 1) := by decide +kernel
theorem dL_law_758 : decode cL_law 758 = .ok (.ireturn, 1) := by decide +kernel
theorem dL_law_759 : decode cL_law 759 = .ok (.iload 5, 2) := by decide +kernel
theorem dL_law_761 : decode cL_law 761 = .ok (.ifCond .ne 15, 3) := by decide +kernel
theorem dL_law_764 : decode cL_law 764 = .ok (.aload_n 3, 1) := by decide +kernel
theorem dL_law_765 : decode cL_law 765 = .ok (.iconst 0, 1) := by decide +kernel
