set_option maxRecDepth 20000 in
theorem ggL_law_X9_want : GoodIn wsL_law wsX9_want := goodIn_r _ [449, 176, 133, 177, 223, 224, 225, 5, 226, 127, 178, 179, 180, 181, 332, 333, 334, 335, 128, 784, 785, 786, 787, 788, 789, 790, 791, 792, 793, 794, 795, 796, 797, 798, 799, 800, 801, 802, 803, 804, 805, 806, 807] (by decide +kernel) (by decide +kernel)
set_option maxRecDepth 20000 in
theorem gL_law_X9_want : GoodIn wsL_law (wsV RL 126 RX9 yX9_want wsX9_want) := goodIn_app (goodIn_of _ (by decide +kernel)) ggL_law_X9_want
set_option maxRecDepth 20000 in
theorem ggL_law_L_plan : GoodIn wsL_law wsL_plan := goodIn_ca (goodIn_r _ [452, 149, 453, 454, 455, 2, 456, 154, 155, 32, 24, 28, 16, 36, 457, 458, 459, 460, 461, 462, 463, 464, 465, 466, 467, 468, 31, 469, 76, 78, 79, 470, 471, 472, 23, 473, 61, 474, 475, 476, 477, 63, 118, 478, 205, 206, 207, 117, 479, 212, 213, 214, 60, 480, 312, 313, 314, 481, 439, 440, 27, 441, 71, 482, 483, 484, 485, 486, 487, 488, 489, 490, 80, 81, 491, 264, 265, 15, 266, 51, 492, 493, 494, 495, 82, 83, 496, 497, 498, 499, 500, 501, 502, 503, 504, 505, 35, 506, 96, 97, 98, 507, 508, 509, 510, 511, 84, 512, 513, 514, 515, 516, 517, 518, 519, 520, 85, 521, 522, 523, 524, 525, 526, 527, 528, 529, 530, 531, 532, 533, 534, 535, 536, 100, 537, 538, 539, 540, 541, 542, 543, 544, 775, 776, 777, 778, 779, 780, 781, 782, 783, 819, 820, 821, 822, 823, 824, 825, 826, 827, 811, 812, 813, 814, 815, 816, 817, 818, 808, 828, 829, 830, 831] (by decide +kernel) (by decide +kernel)) (goodIn_sub (fun _ h => List.mem_append_left _ (List.mem_append_left _ (List.mem_append_right _ h))) (by decide +kernel))
set_option maxRecDepth 20000 in
theorem gL_law_L_plan : GoodIn wsL_law (va_wsS RL 127 yL_plan wsL_plan) := goodIn_app (goodIn_of _ (by decide +kernel)) ggL_law_L_plan
set_option maxRecDepth 20000 in
theorem ggL_law_X9_plan : GoodIn wsL_law wsX9_plan := goodIn_r _ [548, 176, 549, 550, 5, 551, 552, 553, 554, 178, 179, 180, 181, 555, 556, 557, 558, 142, 136, 128, 143, 295, 391, 392, 393, 394, 127, 129, 559, 560, 561, 562, 131, 563, 564, 565, 566, 133, 567, 568, 569, 570, 571, 572, 573, 574, 575, 576, 177, 577, 578, 141, 784, 785, 786, 787, 788, 789, 790, 791, 792, 793, 794, 795, 796, 797, 798, 799, 800, 801, 802, 803, 804, 805, 806, 807] (by decide +kernel) (by decide +kernel)
set_option maxRecDepth 20000 in
theorem gL_law_X9_plan : GoodIn wsL_law (wsV RL 129 RX9 yX9_plan wsX9_plan) := goodIn_app (goodIn_of _ (by decide +kernel)) ggL_law_X9_plan
set_option maxRecDepth 20000 in
theorem ggL_law_L_best : GoodIn wsL_law wsL_best := goodIn_ca (goodIn_r _ [581, 149, 582, 583, 584, 2, 585, 154, 155, 32, 24, 28, 16, 36, 466, 467, 468, 31, 469, 76, 78, 79, 470, 471, 472, 23, 473, 61, 474, 475, 476, 477, 63, 118, 478, 205, 206, 207, 117, 479, 212, 213, 214, 60, 480, 312, 313, 314, 481, 439, 440, 27, 441, 71, 482, 483, 484, 485, 486, 586, 587, 588, 589, 520, 590, 591, 592, 593, 488, 489, 490, 80, 81, 461, 462, 463, 464, 465, 491, 264, 265, 15, 266, 51, 492, 493, 494, 495, 82, 83, 496, 497, 498, 594, 595, 596, 597, 507, 508, 509, 510, 511, 84, 512, 513, 514, 515, 516, 517, 518, 519, 85, 487, 499, 500, 501, 502, 503, 504, 505, 35, 506, 96, 97, 98, 521, 522, 523, 524, 525, 526, 527, 528, 529, 530, 531, 532, 533, 534, 535, 536, 100, 537, 538, 539, 540, 541, 542, 543, 544, 775, 776, 777, 778, 779, 780, 781, 782, 783, 819, 820, 821, 822, 823, 824, 825, 826, 827, 811, 812, 813, 814, 815, 816, 817, 818, 808, 828, 829, 830, 831] (by decide +kernel) (by decide +kernel)) (goodIn_sub (fun _ h => List.mem_append_left _ (List.mem_append_left _ (List.mem_append_right _ h))) (by decide +kernel))
set_option maxRecDepth 20000 in
theorem gL_law_L_best : GoodIn wsL_law (va_wsS RL 130 yL_best wsL_best) := goodIn_app (goodIn_of _ (by decide +kernel)) ggL_law_L_best
set_option maxRecDepth 20000 in
theorem ggL_law_X9_best : GoodIn wsL_law wsX9_best := goodIn_r _ [601, 176, 178, 179, 180, 5, 181, 555, 556, 557, 558, 142, 136, 128, 143, 295, 552, 553, 554, 391, 392, 393, 394, 127, 129, 559, 560, 561, 562, 131, 563, 564, 565, 566, 133, 567, 568, 569, 570, 571, 572, 573, 574, 575, 576, 177, 577, 578, 141, 784, 785, 786, 787, 788, 789, 790, 791, 792, 793, 794, 795, 796, 797, 798, 799, 800, 801, 802, 803, 804, 805, 806, 807] (by decide +kernel) (by decide +kernel)
set_option maxRecDepth 20000 in
theorem gL_law_X9_best : GoodIn wsL_law (wsV RL 132 RX9 yX9_best wsX9_best) := goodIn_app (goodIn_of _ (by decide +kernel)) ggL_law_X9_best
set_option maxRecDepth 20000 in
theorem ggL_law_L_kept : GoodIn wsL_law wsL_kept := goodIn_ca (goodIn_r _ [604, 605, 606, 607, 608, 2, 609, 610, 611, 36, 612, 613, 614, 35, 615, 96, 616, 617, 618, 619, 97, 460, 461, 462, 463, 464, 465, 541, 542, 543, 544, 98, 775, 776, 777, 778, 779, 780, 781, 782, 783, 828, 829, 830, 831] (by decide +kernel) (by decide +kernel)) (goodIn_sub (fun _ h => List.mem_append_right _ h) (by decide +kernel))
set_option maxRecDepth 20000 in
theorem gL_law_L_kept : GoodIn wsL_law (va_wsS RL 133 yL_kept wsL_kept) := goodIn_app (goodIn_of _ (by decide +kernel)) ggL_law_L_kept
set_option maxRecDepth 20000 in
theorem ggL_law_X9_kept : GoodIn wsL_law wsX9_kept := goodIn_r _ [623, 176, 177, 577, 578, 178, 179, 180, 5, 181, 552, 553, 554, 784, 785, 786, 787, 788, 789, 790, 791, 792, 793, 794, 795, 796, 797, 798, 799, 800, 801, 802, 803, 804, 805, 806, 807] (by decide +kernel) (by decide +kernel)
set_option maxRecDepth 20000 in
theorem gL_law_X9_kept : GoodIn wsL_law (wsV RL 135 RX9 yX9_kept wsX9_kept) := goodIn_app (goodIn_of _ (by decide +kernel)) ggL_law_X9_kept
set_option maxRecDepth 20000 in
theorem ggL_law_L_bits : GoodIn wsL_law wsL_bits := goodIn_ca (goodIn_r _ [626, 193, 627, 628, 629, 2, 630, 36, 208, 209, 210, 202, 203, 307, 308, 309, 310, 24, 311, 312, 313, 23, 314, 118, 612, 613, 614, 35, 615, 96, 631, 538, 539, 540, 100, 775, 776, 777, 778, 779, 780, 781, 782, 783, 811, 812, 813, 814, 815, 816, 817, 828, 829, 830, 831] (by decide +kernel) (by decide +kernel)) (goodIn_sub (fun _ h => List.mem_append_left _ (List.mem_append_right _ h)) (by decide +kernel))
set_option maxRecDepth 20000 in
theorem gL_law_L_bits : GoodIn wsL_law (va_wsS RL 136 yL_bits wsL_bits) := goodIn_app (goodIn_of _ (by decide +kernel)) ggL_law_L_bits
set_option maxRecDepth 20000 in
theorem ggL_law_X9_bits : GoodIn wsL_law wsX9_bits := goodIn_r _ [635, 176, 177, 141, 227, 228, 229, 5, 230, 178, 179, 180, 181, 332, 333, 334, 335, 128, 784, 785, 786, 787, 788, 789, 790, 791, 792, 793, 794, 795, 796, 797, 798, 799, 800, 801, 802, 803, 804, 805, 806, 807] (by decide +kernel) (by decide +kernel)
set_option maxRecDepth 20000 in
theorem gL_law_X9_bits : GoodIn wsL_law (wsV RL 138 RX9 yX9_bits wsX9_bits) := goodIn_app (goodIn_of _ (by decide +kernel)) ggL_law_X9_bits
set_option maxRecDepth 20000 in
theorem ggL_law_X8_dye : GoodIn wsL_law wsX8_dye := goodIn_r _ [639, 36, 20, 24, 16, 45, 612, 613, 614, 35, 615, 96, 640, 641, 642, 19, 643, 56, 55, 644, 617, 618, 619, 97, 461, 2, 462, 463, 464, 465, 645, 646, 647, 23, 648, 649, 650, 651, 652, 118, 653, 538, 539, 540, 100, 366, 367, 368, 369, 61, 323, 87, 88, 89, 90, 91, 92, 616, 460, 654, 120, 121, 122, 64, 66, 655, 656, 657, 658, 362, 363, 364, 365, 370, 371, 372, 373, 374, 375, 376, 377, 378, 379, 380, 381, 382, 264, 265, 15, 266, 51, 775, 776, 777, 778, 779, 780, 781, 782, 783, 828, 829, 830, 831, 809, 810, 811, 812, 813, 814, 815, 816, 817, 808] (by decide +kernel) (by decide +kernel)
set_option maxRecDepth 20000 in
theorem gL_law_X8_dye : GoodIn wsL_law (wsV RL 139 RX8 yX8_dye wsX8_dye) := goodIn_app (goodIn_of _ (by decide +kernel)) ggL_law_X8_dye
set_option maxRecDepth 20000 in
theorem ggL_law_X9_dye : GoodIn wsL_law wsX9_dye := goodIn_r _ [662, 176, 177, 577, 144, 132, 552, 553, 5, 554, 663, 664, 665, 666, 128, 141, 391, 392, 393, 394, 127, 129, 182, 183, 184, 185, 130, 137, 667, 668, 669, 670, 387, 388, 389, 390, 395, 396, 397, 398, 131, 399, 784, 785, 786, 787, 788, 789, 790, 791, 792, 793, 794, 795, 796, 797, 798, 799, 800, 801, 802, 803, 804, 805, 806, 807] (by decide +kernel) (by decide +kernel)
set_option maxRecDepth 20000 in
theorem gL_law_X9_dye : GoodIn wsL_law (wsV RL 142 RX9 yX9_dye wsX9_dye) := goodIn_app (goodIn_of _ (by decide +kernel)) ggL_law_X9_dye
set_option maxRecDepth 20000 in
theorem ggL_law_L_slip : GoodIn wsL_law wsL_slip := goodIn_ca (goodIn_ca (goodIn_r _ [673, 193, 149, 674, 675, 676, 2, 677, 154, 155, 40, 198, 199, 200, 201, 202, 203, 24, 204, 205, 206, 23, 207, 117, 678, 165, 166, 39, 167, 104, 105, 775, 776, 777, 778, 779, 780, 781, 782, 783, 811, 812, 813, 814, 815, 816, 817, 832, 833] (by decide +kernel) (by decide +kernel)) (goodIn_sub (fun _ h => List.mem_append_left _ (List.mem_append_left _ (List.mem_append_right _ h))) (by decide +kernel))) (goodIn_sub (fun _ h => List.mem_append_left _ (List.mem_append_right _ h)) (by decide +kernel))
set_option maxRecDepth 20000 in
theorem gL_law_L_slip : GoodIn wsL_law (va_wsS RL 143 yL_slip wsL_slip) := goodIn_app (goodIn_of _ (by decide +kernel)) ggL_law_L_slip
