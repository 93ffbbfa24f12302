set_option maxRecDepth 20000 in
theorem ggL_law_X9_vat : GoodIn wsL_law wsX9_vat := goodIn_r _ [294, 176, 295, 132, 178, 179, 180, 5, 181, 784, 785, 786, 787, 788, 789, 790, 791, 792, 793, 794, 795, 796, 797, 798, 799, 800, 801, 802, 803, 804, 805, 806, 807] (by decide +kernel) (by decide +kernel)
set_option maxRecDepth 20000 in
theorem gL_law_X9_vat : GoodIn wsL_law (wsV RL 107 RX9 yX9_vat wsX9_vat) := goodIn_app (goodIn_of _ (by decide +kernel)) ggL_law_X9_vat
set_option maxRecDepth 20000 in
theorem ggL_law_L_tie : GoodIn wsL_law wsL_tie := goodIn_ca (goodIn_ca (goodIn_r _ [298, 193, 149, 299, 300, 301, 2, 302, 24, 303, 304, 305, 306, 154, 155, 208, 209, 210, 202, 203, 307, 308, 309, 310, 311, 312, 313, 23, 314, 118, 315, 316, 317, 318, 64, 319, 320, 321, 322, 63, 323, 87, 88, 89, 90, 91, 92, 775, 776, 777, 778, 779, 780, 781, 782, 783, 811, 812, 813, 814, 815, 816, 817] (by decide +kernel) (by decide +kernel)) (goodIn_sub (fun _ h => List.mem_append_left _ (List.mem_append_left _ (List.mem_append_right _ h))) (by decide +kernel))) (goodIn_sub (fun _ h => List.mem_append_left _ (List.mem_append_right _ h)) (by decide +kernel))
set_option maxRecDepth 20000 in
theorem gL_law_L_tie : GoodIn wsL_law (va_wsS RL 108 yL_tie wsL_tie) := goodIn_app (goodIn_of _ (by decide +kernel)) ggL_law_L_tie
set_option maxRecDepth 20000 in
theorem ggL_law_X9_tie : GoodIn wsL_law wsX9_tie := goodIn_r _ [327, 328, 329, 330, 5, 331, 176, 136, 128, 227, 228, 229, 230, 178, 179, 180, 181, 332, 333, 334, 335, 336, 337, 338, 339, 137, 784, 785, 786, 787, 788, 789, 790, 791, 792, 793, 794, 795, 796, 797, 798, 799, 800, 801, 802, 803, 804, 805, 806, 807] (by decide +kernel) (by decide +kernel)
set_option maxRecDepth 20000 in
theorem gL_law_X9_tie : GoodIn wsL_law (wsV RL 110 RX9 yX9_tie wsX9_tie) := goodIn_app (goodIn_of _ (by decide +kernel)) ggL_law_X9_tie
set_option maxRecDepth 20000 in
theorem ggL_law_L_untie : GoodIn wsL_law wsL_untie := goodIn_ca (goodIn_ca (goodIn_r _ [342, 193, 149, 343, 344, 345, 2, 346, 24, 303, 304, 305, 306, 154, 155, 208, 209, 210, 202, 203, 307, 308, 309, 310, 311, 312, 313, 23, 314, 118, 347, 348, 349, 350, 64, 319, 320, 321, 322, 63, 323, 87, 88, 89, 90, 91, 92, 775, 776, 777, 778, 779, 780, 781, 782, 783, 811, 812, 813, 814, 815, 816, 817] (by decide +kernel) (by decide +kernel)) (goodIn_sub (fun _ h => List.mem_append_left _ (List.mem_append_left _ (List.mem_append_right _ h))) (by decide +kernel))) (goodIn_sub (fun _ h => List.mem_append_left _ (List.mem_append_right _ h)) (by decide +kernel))
set_option maxRecDepth 20000 in
theorem gL_law_L_untie : GoodIn wsL_law (va_wsS RL 111 yL_untie wsL_untie) := goodIn_app (goodIn_of _ (by decide +kernel)) ggL_law_L_untie
set_option maxRecDepth 20000 in
theorem ggL_law_X9_untie : GoodIn wsL_law wsX9_untie := goodIn_r _ [354, 328, 329, 330, 5, 331, 176, 136, 128, 227, 228, 229, 230, 178, 179, 180, 181, 332, 333, 334, 335, 336, 337, 338, 339, 137, 784, 785, 786, 787, 788, 789, 790, 791, 792, 793, 794, 795, 796, 797, 798, 799, 800, 801, 802, 803, 804, 805, 806, 807] (by decide +kernel) (by decide +kernel)
set_option maxRecDepth 20000 in
theorem gL_law_X9_untie : GoodIn wsL_law (wsV RL 113 RX9 yX9_untie wsX9_untie) := goodIn_app (goodIn_of _ (by decide +kernel)) ggL_law_X9_untie
set_option maxRecDepth 20000 in
theorem ggL_law_L_bath : GoodIn wsL_law wsL_bath := goodIn_ca (goodIn_r _ [357, 193, 358, 359, 360, 2, 361, 24, 20, 16, 45, 260, 261, 262, 202, 203, 362, 363, 364, 23, 365, 64, 366, 367, 368, 369, 61, 118, 323, 87, 88, 89, 90, 91, 92, 283, 284, 285, 19, 286, 55, 370, 371, 372, 373, 374, 375, 376, 377, 66, 378, 379, 380, 381, 382, 264, 265, 15, 266, 51, 775, 776, 777, 778, 779, 780, 781, 782, 783, 811, 812, 813, 814, 815, 816, 817, 809, 810, 808] (by decide +kernel) (by decide +kernel)) (goodIn_sub (fun _ h => List.mem_append_left _ (List.mem_append_right _ h)) (by decide +kernel))
set_option maxRecDepth 20000 in
theorem gL_law_L_bath : GoodIn wsL_law (va_wsS RL 114 yL_bath wsL_bath) := goodIn_app (goodIn_of _ (by decide +kernel)) ggL_law_L_bath
set_option maxRecDepth 20000 in
theorem ggL_law_X9_bath : GoodIn wsL_law wsX9_bath := goodIn_r _ [386, 176, 132, 178, 179, 180, 5, 181, 387, 388, 389, 390, 128, 137, 391, 392, 393, 394, 127, 129, 395, 396, 397, 398, 130, 131, 399, 784, 785, 786, 787, 788, 789, 790, 791, 792, 793, 794, 795, 796, 797, 798, 799, 800, 801, 802, 803, 804, 805, 806, 807] (by decide +kernel) (by decide +kernel)
set_option maxRecDepth 20000 in
theorem gL_law_X9_bath : GoodIn wsL_law (wsV RL 117 RX9 yX9_bath wsX9_bath) := goodIn_app (goodIn_of _ (by decide +kernel)) ggL_law_X9_bath
set_option maxRecDepth 20000 in
theorem ggL_law_L_colour : GoodIn wsL_law wsL_colour := goodIn_ca (goodIn_r _ [402, 193, 403, 404, 405, 2, 406, 24, 198, 199, 200, 201, 202, 203, 204, 205, 206, 23, 207, 117, 307, 308, 309, 310, 311, 312, 313, 314, 118, 407, 408, 409, 410, 66, 60, 775, 776, 777, 778, 779, 780, 781, 782, 783, 811, 812, 813, 814, 815, 816, 817] (by decide +kernel) (by decide +kernel)) (goodIn_sub (fun _ h => List.mem_append_left _ (List.mem_append_right _ h)) (by decide +kernel))
set_option maxRecDepth 20000 in
theorem gL_law_L_colour : GoodIn wsL_law (va_wsS RL 118 yL_colour wsL_colour) := goodIn_app (goodIn_of _ (by decide +kernel)) ggL_law_L_colour
set_option maxRecDepth 20000 in
theorem ggL_law_X9_colour : GoodIn wsL_law wsX9_colour := goodIn_r _ [414, 176, 223, 224, 225, 5, 226, 127, 178, 179, 180, 181, 332, 333, 334, 335, 128, 415, 416, 417, 418, 130, 129, 784, 785, 786, 787, 788, 789, 790, 791, 792, 793, 794, 795, 796, 797, 798, 799, 800, 801, 802, 803, 804, 805, 806, 807] (by decide +kernel) (by decide +kernel)
set_option maxRecDepth 20000 in
theorem gL_law_X9_colour : GoodIn wsL_law (wsV RL 120 RX9 yX9_colour wsX9_colour) := goodIn_app (goodIn_of _ (by decide +kernel)) ggL_law_X9_colour
set_option maxRecDepth 20000 in
theorem ggL_law_L_bound : GoodIn wsL_law wsL_bound := goodIn_ca (goodIn_r _ [421, 193, 422, 423, 424, 2, 425, 24, 208, 209, 210, 202, 203, 307, 308, 309, 310, 311, 312, 313, 23, 314, 118, 426, 379, 380, 381, 64, 775, 776, 777, 778, 779, 780, 781, 782, 783, 811, 812, 813, 814, 815, 816, 817] (by decide +kernel) (by decide +kernel)) (goodIn_sub (fun _ h => List.mem_append_left _ (List.mem_append_right _ h)) (by decide +kernel))
set_option maxRecDepth 20000 in
theorem gL_law_L_bound : GoodIn wsL_law (va_wsS RL 121 yL_bound wsL_bound) := goodIn_app (goodIn_of _ (by decide +kernel)) ggL_law_L_bound
set_option maxRecDepth 20000 in
theorem ggL_law_X9_bound : GoodIn wsL_law wsX9_bound := goodIn_r _ [430, 176, 137, 227, 228, 229, 5, 230, 178, 179, 180, 181, 332, 333, 334, 335, 128, 784, 785, 786, 787, 788, 789, 790, 791, 792, 793, 794, 795, 796, 797, 798, 799, 800, 801, 802, 803, 804, 805, 806, 807] (by decide +kernel) (by decide +kernel)
set_option maxRecDepth 20000 in
theorem gL_law_X9_bound : GoodIn wsL_law (wsV RL 123 RX9 yX9_bound wsX9_bound) := goodIn_app (goodIn_of _ (by decide +kernel)) ggL_law_X9_bound
set_option maxRecDepth 20000 in
theorem ggL_law_L_want : GoodIn wsL_law wsL_want := goodIn_ca (goodIn_ca (goodIn_r _ [433, 193, 149, 434, 435, 436, 2, 437, 154, 155, 28, 36, 198, 199, 200, 201, 202, 203, 24, 204, 205, 206, 23, 207, 117, 307, 308, 309, 310, 311, 312, 313, 314, 118, 257, 258, 259, 438, 439, 440, 27, 441, 71, 442, 443, 444, 445, 168, 169, 170, 35, 171, 96, 775, 776, 777, 778, 779, 780, 781, 782, 783, 811, 812, 813, 814, 815, 816, 817, 818, 828, 829, 830, 831] (by decide +kernel) (by decide +kernel)) (goodIn_sub (fun _ h => List.mem_append_left _ (List.mem_append_left _ (List.mem_append_right _ h))) (by decide +kernel))) (goodIn_sub (fun _ h => List.mem_append_left _ (List.mem_append_right _ h)) (by decide +kernel))
set_option maxRecDepth 20000 in
theorem gL_law_L_want : GoodIn wsL_law (va_wsS RL 124 yL_want wsL_want) := goodIn_app (goodIn_of _ (by decide +kernel)) ggL_law_L_want
