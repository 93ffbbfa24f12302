set_option maxRecDepth 20000 in
theorem ggL_frame_X8_frame : GoodIn wsL_frame wsX8_frame := goodIn_ca (goodIn_r _ [6, 7, 8, 9, 10, 11, 12, 13, 14, 15, 16, 17, 18, 19, 20, 21, 22, 23, 24, 25, 26, 27, 28, 29, 30, 31, 32, 33, 34, 35, 36, 37, 38, 39, 40, 41, 42, 43, 44, 45, 46, 47, 48, 49, 50, 51, 52, 53, 54, 55, 56, 57, 58, 59, 60, 61, 62, 63, 64, 65, 66, 67, 68, 69, 70, 71, 72, 73, 74] (by decide +kernel) (by decide +kernel)) (goodIn_sub (fun _ h => List.mem_cons_of_mem _ (List.mem_append_right _ h)) (by decide +kernel))
set_option maxRecDepth 20000 in
theorem gL_frame_X8_frame : GoodIn wsL_frame (wsV RL 7 RX8 yX8_frame wsX8_frame) := goodIn_app (goodIn_of _ (by decide +kernel)) ggL_frame_X8_frame
theorem dL_frame_0 : decode cL_frame 0 = .ok (.aload_n 0, 1) := by decide +kernel
theorem dL_frame_1 : decode cL_frame 1 = .ok (.iload_n 1, 1) := by decide +kernel
theorem dL_frame_2 : decode cL_frame 2 = .ok (.iload_n 2, 1) := by decide +kernel
theorem dL_frame_3 : decode cL_frame 3 = .ok (.invokevirtual 7, 3) := by decide +kernel
theorem dL_frame_6 : decode cL_frame 6 = .ok (.goto 6, 3) := by decide +kernel
theorem dL_frame_9 : decode cL_frame 9 = .ok (.astore_n 3, 1) := by decide +kernel
theorem dL_frame_10 : decode cL_frame 10 = .ok (.iconst 1, 1) := by decide +kernel
theorem dL_frame_11 : decode cL_frame 11 = .ok (.ireturn, 1) := by decide +kernel
theorem dL_frame_12 : decode cL_frame 12 = .ok (.iconst 0, 1) := by decide +kernel
theorem dL_frame_13 : decode cL_frame 13 = .ok (.ireturn, 1) := by decide +kernel
set_option maxRecDepth 20000 in
theorem ggL_into_X8_into : GoodIn wsL_into wsX8_into := goodIn_ca (goodIn_r _ [6, 7, 8, 9, 10, 11, 5, 12, 13, 14, 15, 16, 17, 18, 19, 20, 21, 22, 23, 24, 25, 26, 27, 28, 29, 30, 31, 32, 33, 34, 35, 36, 37, 38, 39, 40, 41, 42, 43, 44, 45, 46, 47, 48, 49, 50, 51, 52, 53, 54, 55, 56, 57, 58, 59, 60, 61, 62, 63, 64, 65] (by decide +kernel) (by decide +kernel)) (goodIn_sub (fun _ h => List.mem_cons_of_mem _ (List.mem_append_right _ h)) (by decide +kernel))
set_option maxRecDepth 20000 in
theorem gL_into_X8_into : GoodIn wsL_into (wsV RL 15 RX8 yX8_into wsX8_into) := goodIn_app (goodIn_of _ (by decide +kernel)) ggL_into_X8_into
theorem dL_into_0 : decode cL_into 0 = .ok (.aload_n 3, 1) := by decide +kernel
theorem dL_into_1 : decode cL_into 1 = .ok (.iconst 0, 1) := by decide +kernel
theorem dL_into_2 : decode cL_into 2 = .ok (.aload_n 0, 1) := by decide +kernel
theorem dL_into_3 : decode cL_into 3 = .ok (.iload_n 1, 1) := by decide +kernel
theorem dL_into_4 : decode cL_into 4 = .ok (.iload_n 2, 1) := by decide +kernel
theorem dL_into_5 : decode cL_into 5 = .ok (.invokevirtual 15, 3) := by decide +kernel
theorem dL_into_8 : decode cL_into 8 = .ok (.i2l, 1) := by decide +kernel
theorem dL_into_9 : decode cL_into 9 = .ok (.lastore, 1) := by decide +kernel
theorem dL_into_10 : decode cL_into 10 = .ok (.goto 7, 3) := by decide +kernel
theorem dL_into_13 : decode cL_into 13 = .ok (.astore 4, 2) := by decide +kernel
theorem dL_into_15 : decode cL_into 15 = .ok (.iconst 1, 1) := by decide +kernel
theorem dL_into_16 : decode cL_into 16 = .ok (.ireturn, 1) := by decide +kernel
theorem dL_into_17 : decode cL_into 17 = .ok (.iconst 0, 1) := by decide +kernel
theorem dL_into_18 : decode cL_into 18 = .ok (.ireturn, 1) := by decide +kernel
set_option maxRecDepth 20000 in
theorem ggL_fold_X8_fold : GoodIn wsL_fold wsX8_fold := goodIn_ca (goodIn_r _ [6, 7, 8, 9, 10, 5, 11, 12, 13, 14, 15, 16, 17, 18, 19, 20, 21, 22, 23, 24, 25, 26, 27, 28, 29, 30, 31, 32, 33, 34, 35, 36, 37, 38, 39, 40, 41, 42, 43, 44, 45, 46, 47, 48, 49, 50, 51, 52, 53, 54, 55] (by decide +kernel) (by decide +kernel)) (goodIn_sub (fun _ h => List.mem_cons_of_mem _ (List.mem_append_right _ h)) (by decide +kernel))
set_option maxRecDepth 20000 in
theorem gL_fold_X8_fold : GoodIn wsL_fold (wsV RL 21 RX8 yX8_fold wsX8_fold) := goodIn_app (goodIn_of _ (by decide +kernel)) ggL_fold_X8_fold
theorem dL_fold_0 : decode cL_fold 0 = .ok (.aload_n 3, 1) := by decide +kernel
theorem dL_fold_1 : decode cL_fold 1 = .ok (.iconst 0, 1) := by decide +kernel
theorem dL_fold_2 : decode cL_fold 2 = .ok (.aload_n 0, 1) := by decide +kernel
theorem dL_fold_3 : decode cL_fold 3 = .ok (.iload_n 1, 1) := by decide +kernel
theorem dL_fold_4 : decode cL_fold 4 = .ok (.iload_n 2, 1) := by decide +kernel
theorem dL_fold_5 : decode cL_fold 5 = .ok (.invokevirtual 21, 3) := by decide +kernel
theorem dL_fold_8 : decode cL_fold 8 = .ok (.ifCond .eq 7, 3) := by decide +kernel
theorem dL_fold_11 : decode cL_fold 11 = .ok (.lconst 1, 1) := by decide +kernel
theorem dL_fold_12 : decode cL_fold 12 = .ok (.goto 4, 3) := by decide +kernel
theorem dL_fold_15 : decode cL_fold 15 = .ok (.lconst 0, 1) := by decide +kernel
theorem dL_fold_16 : decode cL_fold 16 = .ok (.lastore, 1) := by decide +kernel
theorem dL_fold_17 : decode cL_fold 17 = .ok (.goto 7, 3) := by decide +kernel
theorem dL_fold_20 : decode cL_fold 20 = .ok (.astore 4, 2) := by decide +kernel
theorem dL_fold_22 : decode cL_fold 22 = .ok (.iconst 1, 1) := by decide +kernel
theorem dL_fold_23 : decode cL_fold 23 = .ok (.ireturn, 1) := by decide +kernel
theorem dL_fold_24 : decode cL_fold 24 = .ok (.iconst 0, 1) := by decide +kernel
theorem dL_fold_25 : decode cL_fold 25 = .ok (.ireturn, 1) := by decide +kernel
set_option maxRecDepth 20000 in
theorem ggL_table_X8_table : GoodIn wsL_table wsX8_table := goodIn_ca (goodIn_ca (goodIn_r _ [7, 8, 9, 10, 11, 12, 13, 14, 15, 6, 16, 17, 18, 19, 20, 21, 22, 23, 24, 25, 26, 27, 28, 29, 30, 31, 32, 33, 34, 35, 36, 37, 38, 39, 40, 41, 42, 43, 44, 45, 46, 47, 48, 49] (by decide +kernel) (by decide +kernel)) (goodIn_sub (fun _ h => List.mem_cons_of_mem _ (List.mem_append_left _ (List.mem_append_right _ h))) (by decide +kernel))) (goodIn_sub (fun _ h => List.mem_cons_of_mem _ (List.mem_append_right _ h)) (by decide +kernel))
set_option maxRecDepth 20000 in
theorem gL_table_X8_table : GoodIn wsL_table (wsV RL 25 RX8 yX8_table wsX8_table) := goodIn_app (goodIn_of _ (by decide +kernel)) ggL_table_X8_table
theorem dL_table_0 : decode cL_table 0 = .ok (.aload 4, 2) := by decide +kernel
theorem dL_table_2 : decode cL_table 2 = .ok (.iconst 0, 1) := by decide +kernel
theorem dL_table_3 : decode cL_table 3 = .ok (.aload_n 0, 1) := by decide +kernel
theorem dL_table_4 : decode cL_table 4 = .ok (.iload_n 1, 1) := by decide +kernel
theorem dL_table_5 : decode cL_table 5 = .ok (.iload_n 2, 1) := by decide +kernel
theorem dL_table_6 : decode cL_table 6 = .ok (.iload_n 3, 1) := by decide +kernel
theorem dL_table_7 : decode cL_table 7 = .ok (.invokevirtual 25, 3) := by decide +kernel
theorem dL_table_10 : decode cL_table 10 = .ok (.i2l, 1) := by decide +kernel
theorem dL_table_11 : decode cL_table 11 = .ok (.lastore, 1) := by decide +kernel
theorem dL_table_12 : decode cL_table 12 = .ok (.goto 11, 3) := by decide +kernel
theorem dL_table_15 : decode cL_table 15 = .ok (.astore 5, 2) := by decide +kernel
theorem dL_table_17 : decode cL_table 17 = .ok (.iconst 1, 1) := by decide +kernel
theorem dL_table_18 : decode cL_table 18 = .ok (.ireturn, 1) := by decide +kernel
theorem dL_table_19 : decode cL_table 19 = .ok (.astore 5, 2) := by decide +kernel
theorem dL_table_21 : decode cL_table 21 = .ok (.iconst 2, 1) := by decide +kernel
theorem dL_table_22 : decode cL_table 22 = .ok (.ireturn, 1) := by decide +kernel
theorem dL_table_23 : decode cL_table 23 = .ok (.iconst 0, 1) := by decide +kernel
theorem dL_table_24 : decode cL_table 24 = .ok (.ireturn, 1) := by decide +kernel
set_option maxRecDepth 20000 in
theorem ggL_vat_X8_vat : GoodIn wsL_vat wsX8_vat := goodIn_ca (goodIn_r _ [6, 7, 8, 9, 10, 5, 11, 12, 13, 14, 15, 16, 17, 18, 19, 20, 21, 22, 23, 24, 25, 26, 27, 28, 29, 30, 31, 32, 33, 34] (by decide +kernel) (by decide +kernel)) (goodIn_sub (fun _ h => List.mem_cons_of_mem _ (List.mem_append_right _ h)) (by decide +kernel))
set_option maxRecDepth 20000 in
theorem gL_vat_X8_vat : GoodIn wsL_vat (wsV RL 29 RX8 yX8_vat wsX8_vat) := goodIn_app (goodIn_of _ (by decide +kernel)) ggL_vat_X8_vat
theorem dL_vat_0 : decode cL_vat 0 = .ok (.aload_n 3, 1) := by decide +kernel
theorem dL_vat_1 : decode cL_vat 1 = .ok (.iconst 0, 1) := by decide +kernel
theorem dL_vat_2 : decode cL_vat 2 = .ok (.aload_n 0, 1) := by decide +kernel
theorem dL_vat_3 : decode cL_vat 3 = .ok (.iload_n 1, 1) := by decide +kernel
theorem dL_vat_4 : decode cL_vat 4 = .ok (.iload_n 2, 1) := by decide +kernel
theorem dL_vat_5 : decode cL_vat 5 = .ok (.invokevirtual 29, 3) := by decide +kernel
theorem dL_vat_8 : decode cL_vat 8 = .ok (.i2l, 1) := by decide +kernel
theorem dL_vat_9 : decode cL_vat 9 = .ok (.lastore, 1) := by decide +kernel
theorem dL_vat_10 : decode cL_vat 10 = .ok (.goto 7, 3) := by decide +kernel
theorem dL_vat_13 : decode cL_vat 13 = .ok (.astore 4, 2) := by decide +kernel
theorem dL_vat_15 : decode cL_vat 15 = .ok (.iconst 1, 1) := by decide +kernel
theorem dL_vat_16 : decode cL_vat 16 = .ok (.ireturn, 1) := by decide +kernel
theorem dL_vat_17 : decode cL_vat 17 = .ok (.iconst 0, 1) := by decide +kernel
theorem dL_vat_18 : decode cL_vat 18 = .ok (.ireturn, 1) := by decide +kernel
set_option maxRecDepth 20000 in
theorem ggL_tie_X8_tie : GoodIn wsL_tie wsX8_tie := goodIn_ca (goodIn_ca (goodIn_r _ [7, 8, 9, 10, 11, 6, 12, 13, 14, 15, 16, 17, 18, 19, 20, 21, 22, 23, 24, 25, 26, 27, 28, 29, 30, 31, 32, 33, 34, 35, 36, 37, 38, 39, 40, 41, 42, 43, 44, 45, 46, 47, 48, 49, 50, 51, 52, 53, 54, 55, 56, 57, 58, 59, 60, 61, 62] (by decide +kernel) (by decide +kernel)) (goodIn_sub (fun _ h => List.mem_cons_of_mem _ (List.mem_append_left _ (List.mem_append_right _ h))) (by decide +kernel))) (goodIn_sub (fun _ h => List.mem_cons_of_mem _ (List.mem_append_right _ h)) (by decide +kernel))
set_option maxRecDepth 20000 in
theorem gL_tie_X8_tie : GoodIn wsL_tie (wsV RL 32 RX8 yX8_tie wsX8_tie) := goodIn_app (goodIn_of _ (by decide +kernel)) ggL_tie_X8_tie
theorem dL_tie_0 : decode cL_tie 0 = .ok (.aload 4, 2) := by decide +kernel
theorem dL_tie_2 : decode cL_tie 2 = .ok (.iconst 0, 1) := by decide +kernel
theorem dL_tie_3 : decode cL_tie 3 = .ok (.aload_n 0, 1) := by decide +kernel
theorem dL_tie_4 : decode cL_tie 4 = .ok (.iload_n 1, 1) := by decide +kernel
theorem dL_tie_5 : decode cL_tie 5 = .ok (.iload_n 2, 1) := by decide +kernel
theorem dL_tie_6 : decode cL_tie 6 = .ok (.iload_n 3, 1) := by decide +kernel
theorem dL_tie_7 : decode cL_tie 7 = .ok (.invokevirtual 32, 3) := by decide +kernel
theorem dL_tie_10 : decode cL_tie 10 = .ok (.i2l, 1) := by decide +kernel
theorem dL_tie_11 : decode cL_tie 11 = .ok (.lastore, 1) := by decide +kernel
theorem dL_tie_12 : decode cL_tie 12 = .ok (.goto 11, 3) := by decide +kernel
theorem dL_tie_15 : decode cL_tie 15 = .ok (.astore 5, 2) := by decide +kernel
theorem dL_tie_17 : decode cL_tie 17 = .ok (.iconst 1, 1) := by decide +kernel
theorem dL_tie_18 : decode cL_tie 18 = .ok (.ireturn, 1) := by decide +kernel
theorem dL_tie_19 : decode cL_tie 19 = .ok (.astore 5, 2) := by decide +kernel
theorem dL_tie_21 : decode cL_tie 21 = .ok (.iconst 2, 1) := by decide +kernel
theorem dL_tie_22 : decode cL_tie 22 = .ok (.ireturn, 1) := by decide +kernel
theorem dL_tie_23 : decode cL_tie 23 = .ok (.iconst 0, 1) := by decide +kernel
theorem dL_tie_24 : decode cL_tie 24 = .ok (.ireturn, 1) := by decide +kernel
set_option maxRecDepth 20000 in
theorem ggL_untie_X8_untie : GoodIn wsL_untie wsX8_untie := goodIn_ca (goodIn_ca (goodIn_r _ [7, 8, 9, 10, 11, 6, 12, 13, 14, 15, 16, 17, 18, 19, 20, 21, 22, 23, 24, 25, 26, 27, 28, 29, 30, 31, 32, 33, 34, 35, 36, 37, 38, 39, 40, 41, 42, 43, 44, 45, 46, 47, 48, 49, 50, 51, 52, 53, 54, 55, 56, 57, 58, 59, 60, 61, 62] (by decide +kernel) (by decide +kernel)) (goodIn_sub (fun _ h => List.mem_cons_of_mem _ (List.mem_append_left _ (List.mem_append_right _ h))) (by decide +kernel))) (goodIn_sub (fun _ h => List.mem_cons_of_mem _ (List.mem_append_right _ h)) (by decide +kernel))
set_option maxRecDepth 20000 in
theorem gL_untie_X8_untie : GoodIn wsL_untie (wsV RL 35 RX8 yX8_untie wsX8_untie) := goodIn_app (goodIn_of _ (by decide +kernel)) ggL_untie_X8_untie
theorem dL_untie_0 : decode cL_untie 0 = .ok (.aload 4, 2) := by decide +kernel
theorem dL_untie_2 : decode cL_untie 2 = .ok (.iconst 0, 1) := by decide +kernel
theorem dL_untie_3 : decode cL_untie 3 = .ok (.aload_n 0, 1) := by decide +kernel
theorem dL_untie_4 : decode cL_untie 4 = .ok (.iload_n 1, 1) := by decide +kernel
theorem dL_untie_5 : decode cL_untie 5 = .ok (.iload_n 2, 1) := by decide +kernel
theorem dL_untie_6 : decode cL_untie 6 = .ok (.iload_n 3, 1) := by decide +kernel
theorem dL_untie_7 : decode cL_untie 7 = .ok (.invokevirtual 35, 3) := by decide +kernel
theorem dL_untie_10 : decode cL_untie 10 = .ok (.i2l, 1) := by decide +kernel
theorem dL_untie_11 : decode cL_untie 11 = .ok (.lastore, 1) := by decide +kernel
theorem dL_untie_12 : decode cL_untie 12 = .ok (.goto 11, 3) := by decide +kernel
theorem dL_untie_15 : decode cL_untie 15 = .ok (.astore 5, 2) := by decide +kernel
theorem dL_untie_17 : decode cL_untie 17 = .ok (.iconst 1, 1) := by decide +kernel
theorem dL_untie_18 : decode cL_untie 18 = .ok (.ireturn, 1) := by decide +kernel
theorem dL_untie_19 : decode cL_untie 19 = .ok (.astore 5, 2) := by decide +kernel
theorem dL_untie_21 : decode cL_untie 21 = .ok (.iconst 2, 1) := by decide +kernel
theorem dL_untie_22 : decode cL_untie 22 = .ok (.ireturn, 1) := by decide +kernel
theorem dL_untie_23 : decode cL_untie 23 = .ok (.iconst 0, 1) := by decide +kernel
theorem dL_untie_24 : decode cL_untie 24 = .ok (.ireturn, 1) := by decide +kernel
set_option maxRecDepth 20000 in
theorem ggL_bath_X8_bath : GoodIn wsL_bath wsX8_bath := goodIn_ca (goodIn_r _ [6, 7, 8, 9, 10, 11, 12, 5, 13, 14, 15, 16, 17, 18, 19, 20, 21, 22, 23, 24, 25, 26, 27, 28, 29, 30, 31, 32, 33, 34, 35, 36, 37, 38, 39, 40, 41, 42, 43, 44, 45, 46, 47, 48, 49, 50, 51, 52, 53, 54, 55, 56, 57, 58, 59, 60, 61, 62, 63, 64, 65, 66, 67, 68, 69, 70, 71, 72, 73, 74, 75, 76, 77, 78] (by decide +kernel) (by decide +kernel)) (goodIn_sub (fun _ h => List.mem_cons_of_mem _ (List.mem_append_right _ h)) (by decide +kernel))
set_option maxRecDepth 20000 in
theorem gL_bath_X8_bath : GoodIn wsL_bath (wsV RL 38 RX8 yX8_bath wsX8_bath) := goodIn_app (goodIn_of _ (by decide +kernel)) ggL_bath_X8_bath
theorem dL_bath_0 : decode cL_bath 0 = .ok (.aload_n 2, 1) := by decide +kernel
theorem dL_bath_1 : decode cL_bath 1 = .ok (.iconst 0, 1) := by decide +kernel
theorem dL_bath_2 : decode cL_bath 2 = .ok (.aload_n 0, 1) := by decide +kernel
theorem dL_bath_3 : decode cL_bath 3 = .ok (.iload_n 1, 1) := by decide +kernel
theorem dL_bath_4 : decode cL_bath 4 = .ok (.invokevirtual 38, 3) := by decide +kernel
theorem dL_bath_7 : decode cL_bath 7 = .ok (.i2l, 1) := by decide +kernel
theorem dL_bath_8 : decode cL_bath 8 = .ok (.lastore, 1) := by decide +kernel
theorem dL_bath_9 : decode cL_bath 9 = .ok (.goto 6, 3) := by decide +kernel
theorem dL_bath_12 : decode cL_bath 12 = .ok (.astore_n 3, 1) := by decide +kernel
theorem dL_bath_13 : decode cL_bath 13 = .ok (.iconst 1, 1) := by decide +kernel
theorem dL_bath_14 : decode cL_bath 14 = .ok (.ireturn, 1) := by decide +kernel
theorem dL_bath_15 : decode cL_bath 15 = .ok (.iconst 0, 1) := by decide +kernel
theorem dL_bath_16 : decode cL_bath 16 = .ok (.ireturn, 1) := by decide +kernel
set_option maxRecDepth 20000 in
theorem ggL_colour_X8_colour : GoodIn wsL_colour wsX8_colour := goodIn_ca (goodIn_r _ [6, 7, 8, 9, 10, 5, 11, 12, 13, 14, 15, 16, 17, 18, 19, 20, 21, 22, 23, 24, 25, 26, 27, 28, 29, 30, 31, 32, 33, 34, 35, 36, 37, 38, 39, 40, 41, 42, 43, 44, 45, 46, 47, 48, 49, 50] (by decide +kernel) (by decide +kernel)) (goodIn_sub (fun _ h => List.mem_cons_of_mem _ (List.mem_append_right _ h)) (by decide +kernel))
set_option maxRecDepth 20000 in
theorem gL_colour_X8_colour : GoodIn wsL_colour (wsV RL 42 RX8 yX8_colour wsX8_colour) := goodIn_app (goodIn_of _ (by decide +kernel)) ggL_colour_X8_colour
theorem dL_colour_0 : decode cL_colour 0 = .ok (.aload_n 3, 1) := by decide +kernel
theorem dL_colour_1 : decode cL_colour 1 = .ok (.iconst 0, 1) := by decide +kernel
theorem dL_colour_2 : decode cL_colour 2 = .ok (.aload_n 0, 1) := by decide +kernel
theorem dL_colour_3 : decode cL_colour 3 = .ok (.iload_n 1, 1) := by decide +kernel
theorem dL_colour_4 : decode cL_colour 4 = .ok (.iload_n 2, 1) := by decide +kernel
theorem dL_colour_5 : decode cL_colour 5 = .ok (.invokevirtual 42, 3) := by decide +kernel
theorem dL_colour_8 : decode cL_colour 8 = .ok (.i2l, 1) := by decide +kernel
theorem dL_colour_9 : decode cL_colour 9 = .ok (.lastore, 1) := by decide +kernel
theorem dL_colour_10 : decode cL_colour 10 = .ok (.goto 7, 3) := by decide +kernel
theorem dL_colour_13 : decode cL_colour 13 = .ok (.astore 4, 2) := by decide +kernel
theorem dL_colour_15 : decode cL_colour 15 = .ok (.iconst 1, 1) := by decide +kernel
theorem dL_colour_16 : decode cL_colour 16 = .ok (.ireturn, 1) := by decide +kernel
theorem dL_colour_17 : decode cL_colour 17 = .ok (.iconst 0, 1) := by decide +kernel
theorem dL_colour_18 : decode cL_colour 18 = .ok (.ireturn, 1) := by decide +kernel
set_option maxRecDepth 20000 in
theorem ggL_bound_X8_bound : GoodIn wsL_bound wsX8_bound := goodIn_ca (goodIn_r _ [6, 7, 8, 9, 5, 10, 11, 12, 13, 14, 15, 16, 17, 18, 19, 20, 21, 22, 23, 24, 25, 26, 27, 28, 29, 30, 31, 32, 33, 34, 35, 36, 37, 38, 39, 40, 41, 42, 43] (by decide +kernel) (by decide +kernel)) (goodIn_sub (fun _ h => List.mem_cons_of_mem _ (List.mem_append_right _ h)) (by decide +kernel))
set_option maxRecDepth 20000 in
theorem gL_bound_X8_bound : GoodIn wsL_bound (wsV RL 45 RX8 yX8_bound wsX8_bound) := goodIn_app (goodIn_of _ (by decide +kernel)) ggL_bound_X8_bound
theorem dL_bound_0 : decode cL_bound 0 = .ok (.aload_n 3, 1) := by decide +kernel
theorem dL_bound_1 : decode cL_bound 1 = .ok (.iconst 0, 1) := by decide +kernel
theorem dL_bound_2 : decode cL_bound 2 = .ok (.aload_n 0, 1) := by decide +kernel
theorem dL_bound_3 : decode cL_bound 3 = .ok (.iload_n 1, 1) := by decide +kernel
theorem dL_bound_4 : decode cL_bound 4 = .ok (.iload_n 2, 1) := by decide +kernel
theorem dL_bound_5 : decode cL_bound 5 = .ok (.invokevirtual 45, 3) := by decide +kernel
theorem dL_bound_8 : decode cL_bound 8 = .ok (.ifCond .eq 7, 3) := by decide +kernel
theorem dL_bound_11 : decode cL_bound 11 = .ok (.lconst 1, 1) := by decide +kernel
theorem dL_bound_12 : decode cL_bound 12 = .ok (.goto 4, 3) := by decide +kernel
theorem dL_bound_15 : decode cL_bound 15 = .ok (.lconst 0, 1) := by decide +kernel
theorem dL_bound_16 : decode cL_bound 16 = .ok (.lastore, 1) := by decide +kernel
theorem dL_bound_17 : decode cL_bound 17 = .ok (.goto 7, 3) := by decide +kernel
theorem dL_bound_20 : decode cL_bound 20 = .ok (.astore 4, 2) := by decide +kernel
theorem dL_bound_22 : decode cL_bound 22 = .ok (.iconst 1, 1) := by decide +kernel
theorem dL_bound_23 : decode cL_bound 23 = .ok (.ireturn, 1) := by decide +kernel
theorem dL_bound_24 : decode cL_bound 24 = .ok (.iconst 0, 1) := by decide +kernel
theorem dL_bound_25 : decode cL_bound 25 = .ok (.ireturn, 1) := by decide +kernel
set_option maxRecDepth 20000 in
theorem ggL_want_X8_want : GoodIn wsL_want wsX8_want := goodIn_ca (goodIn_ca (goodIn_r _ [7, 8, 9, 10, 11, 12, 13, 14, 6, 15, 16, 17, 18, 19, 20, 21, 22, 23, 24, 25, 26, 27, 28, 29, 30, 31, 32, 33, 34, 35, 36, 37, 38, 39, 40, 41, 42, 43, 44, 45, 46, 47, 48, 49, 50, 51, 52, 53, 54, 55, 56, 57, 58, 59, 60, 61, 62, 63, 64, 65, 66, 67, 68, 69, 70, 71, 72, 73] (by decide +kernel) (by decide +kernel)) (goodIn_sub (fun _ h => List.mem_cons_of_mem _ (List.mem_append_left _ (List.mem_append_right _ h))) (by decide +kernel))) (goodIn_sub (fun _ h => List.mem_cons_of_mem _ (List.mem_append_right _ h)) (by decide +kernel))
set_option maxRecDepth 20000 in
theorem gL_want_X8_want : GoodIn wsL_want (wsV RL 49 RX8 yX8_want wsX8_want) := goodIn_app (goodIn_of _ (by decide +kernel)) ggL_want_X8_want
theorem dL_want_0 : decode cL_want 0 = .ok (.aload 4, 2) := by decide +kernel
theorem dL_want_2 : decode cL_want 2 = .ok (.iconst 0, 1) := by decide +kernel
theorem dL_want_3 : decode cL_want 3 = .ok (.aload_n 0, 1) := by decide +kernel
theorem dL_want_4 : decode cL_want 4 = .ok (.iload_n 1, 1) := by decide +kernel
theorem dL_want_5 : decode cL_want 5 = .ok (.iload_n 2, 1) := by decide +kernel
theorem dL_want_6 : decode cL_want 6 = .ok (.iload_n 3, 1) := by decide +kernel
theorem dL_want_7 : decode cL_want 7 = .ok (.invokevirtual 49, 3) := by decide +kernel
theorem dL_want_10 : decode cL_want 10 = .ok (.i2l, 1) := by decide +kernel
theorem dL_want_11 : decode cL_want 11 = .ok (.lastore, 1) := by decide +kernel
theorem dL_want_12 : decode cL_want 12 = .ok (.goto 11, 3) := by decide +kernel
theorem dL_want_15 : decode cL_want 15 = .ok (.astore 5, 2) := by decide +kernel
theorem dL_want_17 : decode cL_want 17 = .ok (.iconst 1, 1) := by decide +kernel
theorem dL_want_18 : decode cL_want 18 = .ok (.ireturn, 1) := by decide +kernel
theorem dL_want_19 : decode cL_want 19 = .ok (.astore 5, 2) := by decide +kernel
theorem dL_want_21 : decode cL_want 21 = .ok (.iconst 2, 1) := by decide +kernel
theorem dL_want_22 : decode cL_want 22 = .ok (.ireturn, 1) := by decide +kernel
theorem dL_want_23 : decode cL_want 23 = .ok (.iconst 0, 1) := by decide +kernel
theorem dL_want_24 : decode cL_want 24 = .ok (.ireturn, 1) := by decide +kernel
set_option maxRecDepth 20000 in
theorem ggL_plan_X8_plan : GoodIn wsL_plan wsX8_plan := goodIn_ca (goodIn_r _ [6, 7, 8, 9, 10, 11, 12, 13, 14, 15, 5, 16, 17, 18, 19, 20, 21, 22, 23, 24, 25, 26, 27, 28, 29, 30, 31, 32, 33, 34, 35, 36, 37, 38, 39, 40, 41, 42, 43, 44, 45, 46, 47, 48, 49, 50, 51, 52, 53, 54, 55, 56, 57, 58, 59, 60, 61, 62, 63, 64, 65, 66, 67, 68, 69, 70, 71, 72, 73, 74, 75, 76, 77, 78, 79, 80, 81, 82, 83, 84, 85, 86, 87, 88, 89, 90, 91, 92, 93, 94, 95, 96, 97, 98, 99, 100, 101, 102, 103, 104, 105, 106, 107, 108, 109, 110, 111, 112, 113, 114, 115, 116, 117, 118, 119, 120, 121, 122, 123, 124, 125, 126, 127, 128, 129, 130, 131, 132, 133, 134, 135, 136, 137, 138, 139, 140, 141, 142, 143, 144, 145, 146, 147, 148, 149, 150, 151, 152, 153, 154, 155, 156, 157, 158, 159, 160, 161, 162, 163, 164, 165, 166, 167, 168, 169, 170, 171, 172, 173, 174, 175, 176, 177, 178, 179, 180, 181, 182, 183, 184, 185, 186, 187, 188, 189, 190] (by decide +kernel) (by decide +kernel)) (goodIn_sub (fun _ h => List.mem_cons_of_mem _ (List.mem_append_right _ h)) (by decide +kernel))
set_option maxRecDepth 20000 in
theorem gL_plan_X8_plan : GoodIn wsL_plan (wsV RL 52 RX8 yX8_plan wsX8_plan) := goodIn_app (goodIn_of _ (by decide +kernel)) ggL_plan_X8_plan
theorem dL_plan_0 : decode cL_plan 0 = .ok (.aload_n 2, 1) := by decide +kernel
theorem dL_plan_1 : decode cL_plan 1 = .ok (.iconst 0, 1) := by decide +kernel
theorem dL_plan_2 : decode cL_plan 2 = .ok (.aload_n 0, 1) := by decide +kernel
theorem dL_plan_3 : decode cL_plan 3 = .ok (.iload_n 1, 1) := by decide +kernel
theorem dL_plan_4 : decode cL_plan 4 = .ok (.invokevirtual 52, 3) := by decide +kernel
theorem dL_plan_7 : decode cL_plan 7 = .ok (.i2l, 1) := by decide +kernel
theorem dL_plan_8 : decode cL_plan 8 = .ok (.lastore, 1) := by decide +kernel
theorem dL_plan_9 : decode cL_plan 9 = .ok (.goto 6, 3) := by decide +kernel
theorem dL_plan_12 : decode cL_plan 12 = .ok (.astore_n 3, 1) := by decide +kernel
theorem dL_plan_13 : decode cL_plan 13 = .ok (.iconst 1, 1) := by decide +kernel
theorem dL_plan_14 : decode cL_plan 14 = .ok (.ireturn, 1) := by decide +kernel
theorem dL_plan_15 : decode cL_plan 15 = .ok (.iconst 0, 1) := by decide +kernel
theorem dL_plan_16 : decode cL_plan 16 = .ok (.ireturn, 1) := by decide +kernel
set_option maxRecDepth 20000 in
theorem ggL_best_X8_best : GoodIn wsL_best wsX8_best := goodIn_ca (goodIn_r _ [6, 7, 8, 9, 10, 11, 12, 13, 14, 15, 16, 17, 18, 19, 20, 21, 22, 23, 24, 25, 26, 27, 28, 29, 30, 31, 32, 33, 34, 35, 36, 37, 38, 39, 40, 41, 42, 43, 44, 45, 46, 47, 48, 49, 50, 51, 52, 53, 54, 55, 56, 57, 58, 59, 60, 61, 62, 63, 64, 65, 66, 67, 68, 69, 70, 71, 72, 73, 5, 74, 75, 76, 77, 78, 79, 80, 81, 82, 83, 84, 85, 86, 87, 88, 89, 90, 91, 92, 93, 94, 95, 96, 97, 98, 99, 100, 101, 102, 103, 104, 105, 106, 107, 108, 109, 110, 111, 112, 113, 114, 115, 116, 117, 118, 119, 120, 121, 122, 123, 124, 125, 126, 127, 128, 129, 130, 131, 132, 133, 134, 135, 136, 137, 138, 139, 140, 141, 142, 143, 144, 145, 146, 147, 148, 149, 150, 151, 152, 153, 154, 155, 156, 157, 158, 159, 160, 161, 162, 163, 164, 165, 166, 167, 168, 169, 170, 171, 172, 173, 174, 175, 176, 177, 178, 179, 180, 181, 182, 183, 184, 185, 186, 187, 188, 189, 190, 191, 192, 193, 194, 195, 196, 197, 198, 199] (by decide +kernel) (by decide +kernel)) (goodIn_sub (fun _ h => List.mem_cons_of_mem _ (List.mem_append_right _ h)) (by decide +kernel))
set_option maxRecDepth 20000 in
theorem gL_best_X8_best : GoodIn wsL_best (wsV RL 55 RX8 yX8_best wsX8_best) := goodIn_app (goodIn_of _ (by decide +kernel)) ggL_best_X8_best
theorem dL_best_0 : decode cL_best 0 = .ok (.aload_n 2, 1) := by decide +kernel
theorem dL_best_1 : decode cL_best 1 = .ok (.iconst 0, 1) := by decide +kernel
theorem dL_best_2 : decode cL_best 2 = .ok (.aload_n 0, 1) := by decide +kernel
theorem dL_best_3 : decode cL_best 3 = .ok (.iload_n 1, 1) := by decide +kernel
theorem dL_best_4 : decode cL_best 4 = .ok (.invokevirtual 55, 3) := by decide +kernel
theorem dL_best_7 : decode cL_best 7 = .ok (.i2l, 1) := by decide +kernel
theorem dL_best_8 : decode cL_best 8 = .ok (.lastore, 1) := by decide +kernel
theorem dL_best_9 : decode cL_best 9 = .ok (.goto 6, 3) := by decide +kernel
theorem dL_best_12 : decode cL_best 12 = .ok (.astore_n 3, 1) := by decide +kernel
theorem dL_best_13 : decode cL_best 13 = .ok (.iconst 1, 1) := by decide +kernel
theorem dL_best_14 : decode cL_best 14 = .ok (.ireturn, 1) := by decide +kernel
theorem dL_best_15 : decode cL_best 15 = .ok (.iconst 0, 1) := by decide +kernel
theorem dL_best_16 : decode cL_best 16 = .ok (.ireturn, 1) := by decide +kernel
set_option maxRecDepth 20000 in
theorem ggL_kept_X8_kept : GoodIn wsL_kept wsX8_kept := goodIn_ca (goodIn_r _ [6, 7, 8, 9, 10, 11, 12, 13, 14, 15, 16, 17, 18, 19, 20, 21, 22, 5, 23, 24, 25, 26, 27, 28, 29, 30, 31, 32, 33, 34, 35, 36, 37, 38, 39, 40, 41, 42, 43, 44] (by decide +kernel) (by decide +kernel)) (goodIn_sub (fun _ h => List.mem_cons_of_mem _ (List.mem_append_right _ h)) (by decide +kernel))
set_option maxRecDepth 20000 in
theorem gL_kept_X8_kept : GoodIn wsL_kept (wsV RL 58 RX8 yX8_kept wsX8_kept) := goodIn_app (goodIn_of _ (by decide +kernel)) ggL_kept_X8_kept
theorem dL_kept_0 : decode cL_kept 0 = .ok (.aload_n 2, 1) := by decide +kernel
theorem dL_kept_1 : decode cL_kept 1 = .ok (.iconst 0, 1) := by decide +kernel
theorem dL_kept_2 : decode cL_kept 2 = .ok (.aload_n 0, 1) := by decide +kernel
theorem dL_kept_3 : decode cL_kept 3 = .ok (.iload_n 1, 1) := by decide +kernel
theorem dL_kept_4 : decode cL_kept 4 = .ok (.invokevirtual 58, 3) := by decide +kernel
theorem dL_kept_7 : decode cL_kept 7 = .ok (.i2l, 1) := by decide +kernel
theorem dL_kept_8 : decode cL_kept 8 = .ok (.lastore, 1) := by decide +kernel
theorem dL_kept_9 : decode cL_kept 9 = .ok (.goto 6, 3) := by decide +kernel
theorem dL_kept_12 : decode cL_kept 12 = .ok (.astore_n 3, 1) := by decide +kernel
theorem dL_kept_13 : decode cL_kept 13 = .ok (.iconst 1, 1) := by decide +kernel
theorem dL_kept_14 : decode cL_kept 14 = .ok (.ireturn, 1) := by decide +kernel
theorem dL_kept_15 : decode cL_kept 15 = .ok (.iconst 0, 1) := by decide +kernel
theorem dL_kept_16 : decode cL_kept 16 = .ok (.ireturn, 1) := by decide +kernel
set_option maxRecDepth 20000 in
theorem ggL_bits_X8_bits : GoodIn wsL_bits wsX8_bits := goodIn_ca (goodIn_r _ [6, 7, 8, 9, 5, 10, 11, 12, 13, 14, 15, 16, 17, 18, 19, 20, 21, 22, 23, 24, 25, 26, 27, 28, 29, 30, 31, 32, 33, 34, 35, 36, 37, 38, 39, 40, 41, 42, 43, 44, 45, 46, 47, 48, 49, 50, 51, 52, 53, 54] (by decide +kernel) (by decide +kernel)) (goodIn_sub (fun _ h => List.mem_cons_of_mem _ (List.mem_append_right _ h)) (by decide +kernel))
set_option maxRecDepth 20000 in
theorem gL_bits_X8_bits : GoodIn wsL_bits (wsV RL 63 RX8 yX8_bits wsX8_bits) := goodIn_app (goodIn_of _ (by decide +kernel)) ggL_bits_X8_bits
theorem dL_bits_0 : decode cL_bits 0 = .ok (.aload_n 3, 1) := by decide +kernel
theorem dL_bits_1 : decode cL_bits 1 = .ok (.iconst 0, 1) := by decide +kernel
theorem dL_bits_2 : decode cL_bits 2 = .ok (.aload_n 0, 1) := by decide +kernel
theorem dL_bits_3 : decode cL_bits 3 = .ok (.iload_n 1, 1) := by decide +kernel
theorem dL_bits_4 : decode cL_bits 4 = .ok (.iload_n 2, 1) := by decide +kernel
theorem dL_bits_5 : decode cL_bits 5 = .ok (.invokevirtual 63, 3) := by decide +kernel
theorem dL_bits_8 : decode cL_bits 8 = .ok (.i2l, 1) := by decide +kernel
theorem dL_bits_9 : decode cL_bits 9 = .ok (.lastore, 1) := by decide +kernel
theorem dL_bits_10 : decode cL_bits 10 = .ok (.goto 7, 3) := by decide +kernel
theorem dL_bits_13 : decode cL_bits 13 = .ok (.astore 4, 2) := by decide +kernel
theorem dL_bits_15 : decode cL_bits 15 = .ok (.iconst 1, 1) := by decide +kernel
theorem dL_bits_16 : decode cL_bits 16 = .ok (.ireturn, 1) := by decide +kernel
theorem dL_bits_17 : decode cL_bits 17 = .ok (.iconst 0, 1) := by decide +kernel
theorem dL_bits_18 : decode cL_bits 18 = .ok (.ireturn, 1) := by decide +kernel
set_option maxRecDepth 20000 in
theorem ggL_slip_X8_slip : GoodIn wsL_slip wsX8_slip := goodIn_ca (goodIn_ca (goodIn_r _ [7, 8, 9, 10, 11, 12, 13, 6, 14, 15, 16, 17, 18, 19, 20, 21, 22, 23, 24, 25, 26, 27, 28, 29, 30, 31, 32, 33, 34, 35, 36, 37, 38, 39, 40, 41, 42, 43, 44, 45, 46, 47, 48] (by decide +kernel) (by decide +kernel)) (goodIn_sub (fun _ h => List.mem_cons_of_mem _ (List.mem_append_left _ (List.mem_append_right _ h))) (by decide +kernel))) (goodIn_sub (fun _ h => List.mem_cons_of_mem _ (List.mem_append_right _ h)) (by decide +kernel))
set_option maxRecDepth 20000 in
theorem gL_slip_X8_slip : GoodIn wsL_slip (wsV RL 66 RX8 yX8_slip wsX8_slip) := goodIn_app (goodIn_of _ (by decide +kernel)) ggL_slip_X8_slip
theorem dL_slip_0 : decode cL_slip 0 = .ok (.aload_n 0, 1) := by decide +kernel
theorem dL_slip_1 : decode cL_slip 1 = .ok (.iload_n 1, 1) := by decide +kernel
theorem dL_slip_2 : decode cL_slip 2 = .ok (.iload_n 2, 1) := by decide +kernel
theorem dL_slip_3 : decode cL_slip 3 = .ok (.iload_n 3, 1) := by decide +kernel
theorem dL_slip_4 : decode cL_slip 4 = .ok (.invokevirtual 66, 3) := by decide +kernel
theorem dL_slip_7 : decode cL_slip 7 = .ok (.goto 11, 3) := by decide +kernel
theorem dL_slip_10 : decode cL_slip 10 = .ok (.astore 4, 2) := by decide +kernel
theorem dL_slip_12 : decode cL_slip 12 = .ok (.iconst 1, 1) := by decide +kernel
theorem dL_slip_13 : decode cL_slip 13 = .ok (.ireturn, 1) := by decide +kernel
theorem dL_slip_14 : decode cL_slip 14 = .ok (.astore 4, 2) := by decide +kernel
theorem dL_slip_16 : decode cL_slip 16 = .ok (.iconst 2, 1) := by decide +kernel
theorem dL_slip_17 : decode cL_slip 17 = .ok (.ireturn, 1) := by decide +kernel
theorem dL_slip_18 : decode cL_slip 18 = .ok (.iconst 0, 1) := by decide +kernel
theorem dL_slip_19 : decode cL_slip 19 = .ok (.ireturn, 1) := by decide +kernel
set_option maxRecDepth 20000 in
theorem ggL_seen_X8_seen : GoodIn wsL_seen wsX8_seen := goodIn_ca (goodIn_r _ [6, 7, 8, 9, 10, 11, 5, 12, 13, 14, 15, 16, 17, 18, 19, 20, 21, 22, 23, 24, 25, 26, 27, 28, 29, 30, 31, 32, 33, 34, 35, 36, 37, 38, 39, 40, 41, 42, 43, 44, 45, 46, 47, 48, 49, 50, 51, 52, 53, 54, 55, 56, 57, 58, 59, 60, 61] (by decide +kernel) (by decide +kernel)) (goodIn_sub (fun _ h => List.mem_cons_of_mem _ (List.mem_append_right _ h)) (by decide +kernel))
set_option maxRecDepth 20000 in
theorem gL_seen_X8_seen : GoodIn wsL_seen (wsV RL 70 RX8 yX8_seen wsX8_seen) := goodIn_app (goodIn_of _ (by decide +kernel)) ggL_seen_X8_seen
theorem dL_seen_0 : decode cL_seen 0 = .ok (.aload_n 3, 1) := by decide +kernel
theorem dL_seen_1 : decode cL_seen 1 = .ok (.iconst 0, 1) := by decide +kernel
theorem dL_seen_2 : decode cL_seen 2 = .ok (.aload_n 0, 1) := by decide +kernel
theorem dL_seen_3 : decode cL_seen 3 = .ok (.iload_n 1, 1) := by decide +kernel
theorem dL_seen_4 : decode cL_seen 4 = .ok (.iload_n 2, 1) := by decide +kernel
theorem dL_seen_5 : decode cL_seen 5 = .ok (.invokevirtual 70, 3) := by decide +kernel
theorem dL_seen_8 : decode cL_seen 8 = .ok (.i2l, 1) := by decide +kernel
theorem dL_seen_9 : decode cL_seen 9 = .ok (.lastore, 1) := by decide +kernel
theorem dL_seen_10 : decode cL_seen 10 = .ok (.goto 7, 3) := by decide +kernel
theorem dL_seen_13 : decode cL_seen 13 = .ok (.astore 4, 2) := by decide +kernel
theorem dL_seen_15 : decode cL_seen 15 = .ok (.iconst 1, 1) := by decide +kernel
theorem dL_seen_16 : decode cL_seen 16 = .ok (.ireturn, 1) := by decide +kernel
theorem dL_seen_17 : decode cL_seen 17 = .ok (.iconst 0, 1) := by decide +kernel
theorem dL_seen_18 : decode cL_seen 18 = .ok (.ireturn, 1) := by decide +kernel
set_option maxRecDepth 20000 in
theorem ggL_rank_X8_rank : GoodIn wsL_rank wsX8_rank := goodIn_ca (goodIn_r _ [6, 7, 8, 9, 10, 11, 12, 13, 14, 15, 16, 5, 17, 18, 19, 20, 21, 22, 23, 24, 25, 26, 27, 28, 29, 30, 31, 32, 33, 34, 35, 36, 37, 38, 39, 40, 41, 42, 43, 44, 45, 46, 47, 48, 49, 50, 51, 52, 53, 54] (by decide +kernel) (by decide +kernel)) (goodIn_sub (fun _ h => List.mem_cons_of_mem _ (List.mem_append_right _ h)) (by decide +kernel))
set_option maxRecDepth 20000 in
theorem gL_rank_X8_rank : GoodIn wsL_rank (wsV RL 73 RX8 yX8_rank wsX8_rank) := goodIn_app (goodIn_of _ (by decide +kernel)) ggL_rank_X8_rank
theorem dL_rank_0 : decode cL_rank 0 = .ok (.aload_n 2, 1) := by decide +kernel
theorem dL_rank_1 : decode cL_rank 1 = .ok (.iconst 0, 1) := by decide +kernel
theorem dL_rank_2 : decode cL_rank 2 = .ok (.aload_n 0, 1) := by decide +kernel
theorem dL_rank_3 : decode cL_rank 3 = .ok (.iload_n 1, 1) := by decide +kernel
theorem dL_rank_4 : decode cL_rank 4 = .ok (.invokevirtual 73, 3) := by decide +kernel
theorem dL_rank_7 : decode cL_rank 7 = .ok (.i2l, 1) := by decide +kernel
theorem dL_rank_8 : decode cL_rank 8 = .ok (.lastore, 1) := by decide +kernel
theorem dL_rank_9 : decode cL_rank 9 = .ok (.goto 6, 3) := by decide +kernel
theorem dL_rank_12 : decode cL_rank 12 = .ok (.astore_n 3, 1) := by decide +kernel
theorem dL_rank_13 : decode cL_rank 13 = .ok (.iconst 1, 1) := by decide +kernel
theorem dL_rank_14 : decode cL_rank 14 = .ok (.ireturn, 1) := by decide +kernel
theorem dL_rank_15 : decode cL_rank 15 = .ok (.iconst 0, 1) := by decide +kernel
theorem dL_rank_16 : decode cL_rank 16 = .ok (.ireturn, 1) := by decide +kernel
set_option maxRecDepth 20000 in
theorem ggL_count_X8_count : GoodIn wsL_count wsX8_count := goodIn_ca (goodIn_r _ [6, 7, 8, 9, 10, 11, 12, 13, 14, 15, 16, 17, 18, 19, 20, 21, 22, 23, 24, 25, 26, 27, 28, 29, 30, 31, 32, 33, 34, 35, 36, 37, 38, 39, 40, 41, 42, 43, 44, 45, 46, 47, 48, 49, 50, 51, 52, 53, 54, 55, 56, 57, 58, 59, 60, 61, 62] (by decide +kernel) (by decide +kernel)) (goodIn_sub (fun _ h => List.mem_cons_of_mem _ (List.mem_append_right _ h)) (by decide +kernel))
set_option maxRecDepth 20000 in
theorem gL_count_X8_count : GoodIn wsL_count (wsV RL 76 RX8 yX8_count wsX8_count) := goodIn_app (goodIn_of _ (by decide +kernel)) ggL_count_X8_count
theorem dL_count_0 : decode cL_count 0 = .ok (.aload_n 2, 1) := by decide +kernel
theorem dL_count_1 : decode cL_count 1 = .ok (.iconst 0, 1) := by decide +kernel
theorem dL_count_2 : decode cL_count 2 = .ok (.aload_n 0, 1) := by decide +kernel
theorem dL_count_3 : decode cL_count 3 = .ok (.iload_n 1, 1) := by decide +kernel
theorem dL_count_4 : decode cL_count 4 = .ok (.invokevirtual 76, 3) := by decide +kernel
theorem dL_count_7 : decode cL_count 7 = .ok (.i2l, 1) := by decide +kernel
theorem dL_count_8 : decode cL_count 8 = .ok (.lastore, 1) := by decide +kernel
theorem dL_count_9 : decode cL_count 9 = .ok (.goto 6, 3) := by decide +kernel
theorem dL_count_12 : decode cL_count 12 = .ok (.astore_n 3, 1) := by decide +kernel
theorem dL_count_13 : decode cL_count 13 = .ok (.iconst 1, 1) := by decide +kernel
theorem dL_count_14 : decode cL_count 14 = .ok (.ireturn, 1) := by decide +kernel
theorem dL_count_15 : decode cL_count 15 = .ok (.iconst 0, 1) := by decide +kernel
theorem dL_count_16 : decode cL_count 16 = .ok (.ireturn, 1) := by decide +kernel
