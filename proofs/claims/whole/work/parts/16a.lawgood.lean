set_option maxRecDepth 20000 in
theorem ggL_law_X8_init : GoodIn wsL_law wsX8_init := goodIn_r _ [9, 10, 11, 12, 13, 14, 15, 16, 17, 18, 19, 20, 21, 22, 23, 24, 25, 26, 27, 28, 29, 30, 31, 32, 33, 34, 35, 36, 37, 38, 39, 40, 41, 42, 43, 44, 45, 46, 47, 48, 49, 50, 51, 52, 53, 54, 55, 56, 57, 58, 59, 60, 61, 62, 63, 64, 65, 66, 67, 68, 69, 70, 71, 72, 73, 74, 75, 76, 77, 78, 79, 80, 81, 82, 83, 84, 85, 86, 87, 88, 89, 90, 91, 92, 93, 94, 95, 96, 97, 98, 99, 100, 101, 102, 103, 104, 105, 106, 107, 108, 109, 110, 111, 112, 113, 114, 115, 116, 117, 118, 119, 120, 121, 122, 808, 775, 776, 777, 778, 779, 780, 781, 782, 783, 809, 810, 811, 812, 813, 814, 815, 816, 817, 818, 819, 820, 821, 822, 823, 824, 825, 826, 827, 828, 829, 830, 831, 832, 833, 834, 835, 836, 837] (by decide +kernel) (by decide +kernel)
set_option maxRecDepth 20000 in
theorem gL_law_X8_init : GoodIn wsL_law (wsX8_init) := ggL_law_X8_init
set_option maxRecDepth 20000 in
theorem ggL_law_X9_init : GoodIn wsL_law wsX9_init := goodIn_r _ [125, 126, 11, 12, 127, 128, 50, 129, 130, 131, 132, 133, 134, 135, 62, 136, 137, 138, 139, 140, 141, 142, 143, 144, 784, 785, 786, 787, 788, 789, 790, 791, 792, 793, 794, 795, 796, 797, 798, 799, 800, 801, 802, 803, 804, 805, 806, 807] (by decide +kernel) (by decide +kernel)
set_option maxRecDepth 20000 in
theorem gL_law_X9_init : GoodIn wsL_law (wsX9_init) := ggL_law_X9_init
set_option maxRecDepth 20000 in
theorem ggL_law_L_frame : GoodIn wsL_law wsL_frame := goodIn_ca (goodIn_r _ [148, 149, 150, 151, 152, 2, 153, 154, 155, 24, 28, 40, 36, 113, 114, 115, 23, 116, 117, 118, 60, 61, 63, 119, 120, 121, 122, 64, 66, 156, 157, 158, 27, 159, 71, 160, 161, 162, 39, 163, 164, 165, 166, 167, 104, 105, 168, 169, 170, 35, 171, 96, 775, 776, 777, 778, 779, 780, 781, 782, 783, 811, 812, 813, 814, 815, 816, 817, 818, 832, 833, 828, 829, 830, 831] (by decide +kernel) (by decide +kernel)) (goodIn_sub (fun _ h => List.mem_append_left _ (List.mem_append_left _ (List.mem_append_right _ h))) (by decide +kernel))
set_option maxRecDepth 20000 in
theorem gL_law_L_frame : GoodIn wsL_law (va_wsS RL 83 yL_frame wsL_frame) := goodIn_app (goodIn_of _ (by decide +kernel)) ggL_law_L_frame
set_option maxRecDepth 20000 in
theorem ggL_law_X9_frame : GoodIn wsL_law wsX9_frame := goodIn_r _ [175, 176, 127, 128, 133, 129, 134, 135, 136, 177, 178, 179, 180, 5, 181, 182, 183, 184, 185, 130, 137, 784, 785, 786, 787, 788, 789, 790, 791, 792, 793, 794, 795, 796, 797, 798, 799, 800, 801, 802, 803, 804, 805, 806, 807] (by decide +kernel) (by decide +kernel)
set_option maxRecDepth 20000 in
theorem gL_law_X9_frame : GoodIn wsL_law (wsV RL 88 RX9 yX9_frame wsX9_frame) := goodIn_app (goodIn_of _ (by decide +kernel)) ggL_law_X9_frame
set_option maxRecDepth 20000 in
theorem ggL_law_X9_thrown : GoodIn wsL_law wsX9_thrown := goodIn_r _ [189, 176, 784, 785, 786, 787, 788, 789, 790, 791, 792, 793, 794, 795, 796, 797, 798, 799, 800, 801, 802, 803, 804, 805, 806, 807] (by decide +kernel) (by decide +kernel)
set_option maxRecDepth 20000 in
theorem gL_law_X9_thrown : GoodIn wsL_law (wsV RL 89 RX9 yX9_thrown wsX9_thrown) := goodIn_app (goodIn_of _ (by decide +kernel)) ggL_law_X9_thrown
set_option maxRecDepth 20000 in
theorem ggL_law_L_into : GoodIn wsL_law wsL_into := goodIn_ca (goodIn_r _ [192, 193, 194, 195, 196, 2, 197, 24, 36, 198, 199, 200, 201, 202, 203, 204, 205, 206, 23, 207, 117, 208, 209, 210, 211, 212, 213, 214, 60, 215, 216, 217, 218, 61, 119, 120, 121, 122, 64, 66, 168, 169, 170, 35, 171, 96, 775, 776, 777, 778, 779, 780, 781, 782, 783, 811, 812, 813, 814, 815, 816, 817, 828, 829, 830, 831] (by decide +kernel) (by decide +kernel)) (goodIn_sub (fun _ h => List.mem_append_left _ (List.mem_append_right _ h)) (by decide +kernel))
set_option maxRecDepth 20000 in
theorem gL_law_L_into : GoodIn wsL_law (va_wsS RL 93 yL_into wsL_into) := goodIn_app (goodIn_of _ (by decide +kernel)) ggL_law_L_into
set_option maxRecDepth 20000 in
theorem ggL_law_X9_into : GoodIn wsL_law wsX9_into := goodIn_r _ [222, 176, 129, 177, 223, 224, 225, 5, 226, 127, 178, 179, 180, 181, 227, 228, 229, 230, 182, 183, 184, 185, 130, 137, 784, 785, 786, 787, 788, 789, 790, 791, 792, 793, 794, 795, 796, 797, 798, 799, 800, 801, 802, 803, 804, 805, 806, 807] (by decide +kernel) (by decide +kernel)
set_option maxRecDepth 20000 in
theorem gL_law_X9_into : GoodIn wsL_law (wsV RL 96 RX9 yX9_into wsX9_into) := goodIn_app (goodIn_of _ (by decide +kernel)) ggL_law_X9_into
set_option maxRecDepth 20000 in
theorem ggL_law_L_fold : GoodIn wsL_law wsL_fold := goodIn_ca (goodIn_r _ [233, 193, 234, 235, 236, 2, 237, 24, 36, 208, 209, 210, 202, 203, 238, 239, 240, 23, 241, 63, 242, 243, 244, 245, 119, 120, 121, 122, 64, 66, 168, 169, 170, 35, 171, 96, 775, 776, 777, 778, 779, 780, 781, 782, 783, 811, 812, 813, 814, 815, 816, 817, 828, 829, 830, 831] (by decide +kernel) (by decide +kernel)) (goodIn_sub (fun _ h => List.mem_append_left _ (List.mem_append_right _ h)) (by decide +kernel))
set_option maxRecDepth 20000 in
theorem gL_law_L_fold : GoodIn wsL_law (va_wsS RL 97 yL_fold wsL_fold) := goodIn_app (goodIn_of _ (by decide +kernel)) ggL_law_L_fold
set_option maxRecDepth 20000 in
theorem ggL_law_X9_fold : GoodIn wsL_law wsX9_fold := goodIn_r _ [249, 176, 136, 177, 227, 228, 229, 5, 230, 178, 179, 180, 181, 182, 183, 184, 185, 130, 137, 784, 785, 786, 787, 788, 789, 790, 791, 792, 793, 794, 795, 796, 797, 798, 799, 800, 801, 802, 803, 804, 805, 806, 807] (by decide +kernel) (by decide +kernel)
set_option maxRecDepth 20000 in
theorem gL_law_X9_fold : GoodIn wsL_law (wsV RL 100 RX9 yX9_fold wsX9_fold) := goodIn_app (goodIn_of _ (by decide +kernel)) ggL_law_X9_fold
set_option maxRecDepth 20000 in
theorem ggL_law_L_table : GoodIn wsL_law wsL_table := goodIn_ca (goodIn_ca (goodIn_r _ [252, 193, 149, 253, 254, 255, 2, 256, 202, 203, 154, 155, 16, 36, 257, 258, 259, 260, 261, 262, 263, 264, 265, 15, 266, 51, 267, 268, 269, 270, 168, 169, 170, 35, 171, 96, 775, 776, 777, 778, 779, 780, 781, 782, 783, 808, 828, 829, 830, 831] (by decide +kernel) (by decide +kernel)) (goodIn_sub (fun _ h => List.mem_append_left _ (List.mem_append_right _ h)) (by decide +kernel))) (goodIn_sub (fun _ h => List.mem_append_left _ (List.mem_append_left _ (List.mem_append_right _ h))) (by decide +kernel))
set_option maxRecDepth 20000 in
theorem gL_law_L_table : GoodIn wsL_law (va_wsS RL 101 yL_table wsL_table) := goodIn_app (goodIn_of _ (by decide +kernel)) ggL_law_L_table
set_option maxRecDepth 20000 in
theorem ggL_law_X9_table : GoodIn wsL_law wsX9_table := goodIn_r _ [274, 176, 131, 177, 178, 179, 180, 5, 181, 784, 785, 786, 787, 788, 789, 790, 791, 792, 793, 794, 795, 796, 797, 798, 799, 800, 801, 802, 803, 804, 805, 806, 807] (by decide +kernel) (by decide +kernel)
set_option maxRecDepth 20000 in
theorem gL_law_X9_table : GoodIn wsL_law (wsV RL 104 RX9 yX9_table wsX9_table) := goodIn_app (goodIn_of _ (by decide +kernel)) ggL_law_X9_table
set_option maxRecDepth 20000 in
theorem ggL_law_L_vat : GoodIn wsL_law wsL_vat := goodIn_ca (goodIn_r _ [277, 193, 278, 279, 280, 2, 281, 282, 20, 260, 261, 262, 202, 203, 283, 284, 285, 19, 286, 55, 287, 288, 289, 290, 775, 776, 777, 778, 779, 780, 781, 782, 783, 809, 810] (by decide +kernel) (by decide +kernel)) (goodIn_sub (fun _ h => List.mem_append_left _ (List.mem_append_right _ h)) (by decide +kernel))
set_option maxRecDepth 20000 in
theorem gL_law_L_vat : GoodIn wsL_law (va_wsS RL 105 yL_vat wsL_vat) := goodIn_app (goodIn_of _ (by decide +kernel)) ggL_law_L_vat
