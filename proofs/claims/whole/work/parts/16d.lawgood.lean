set_option maxRecDepth 20000 in
theorem ggL_law_X9_slip : GoodIn wsL_law wsX9_slip := goodIn_r _ [682, 176, 134, 135, 223, 224, 225, 5, 226, 127, 178, 179, 180, 181, 784, 785, 786, 787, 788, 789, 790, 791, 792, 793, 794, 795, 796, 797, 798, 799, 800, 801, 802, 803, 804, 805, 806, 807] (by decide +kernel) (by decide +kernel)
set_option maxRecDepth 20000 in
theorem gL_law_X9_slip : GoodIn wsL_law (wsV RL 146 RX9 yX9_slip wsX9_slip) := goodIn_app (goodIn_of _ (by decide +kernel)) ggL_law_X9_slip
set_option maxRecDepth 20000 in
theorem ggL_law_L_seen : GoodIn wsL_law wsL_seen := goodIn_ca (goodIn_r _ [685, 193, 686, 687, 688, 2, 689, 40, 24, 198, 199, 200, 201, 202, 203, 204, 205, 206, 23, 207, 117, 307, 308, 309, 310, 311, 312, 313, 314, 118, 690, 691, 692, 39, 693, 104, 105, 694, 695, 408, 409, 410, 66, 60, 775, 776, 777, 778, 779, 780, 781, 782, 783, 811, 812, 813, 814, 815, 816, 817, 832, 833] (by decide +kernel) (by decide +kernel)) (goodIn_sub (fun _ h => List.mem_append_left _ (List.mem_append_right _ h)) (by decide +kernel))
set_option maxRecDepth 20000 in
theorem gL_law_L_seen : GoodIn wsL_law (va_wsS RL 147 yL_seen wsL_seen) := goodIn_app (goodIn_of _ (by decide +kernel)) ggL_law_L_seen
set_option maxRecDepth 20000 in
theorem ggL_law_X9_seen : GoodIn wsL_law wsX9_seen := goodIn_r _ [699, 176, 223, 224, 225, 5, 226, 127, 178, 179, 180, 181, 332, 333, 334, 335, 128, 700, 701, 702, 703, 134, 135, 415, 416, 417, 418, 130, 129, 784, 785, 786, 787, 788, 789, 790, 791, 792, 793, 794, 795, 796, 797, 798, 799, 800, 801, 802, 803, 804, 805, 806, 807] (by decide +kernel) (by decide +kernel)
set_option maxRecDepth 20000 in
theorem gL_law_X9_seen : GoodIn wsL_law (wsV RL 149 RX9 yX9_seen wsX9_seen) := goodIn_app (goodIn_of _ (by decide +kernel)) ggL_law_X9_seen
set_option maxRecDepth 20000 in
theorem ggL_law_X8_blurred : GoodIn wsL_law wsX8_blurred := goodIn_r _ [707, 24, 40, 28, 204, 205, 206, 23, 207, 117, 311, 312, 313, 314, 118, 690, 691, 692, 39, 693, 104, 105, 694, 695, 408, 409, 410, 66, 60, 438, 439, 440, 27, 441, 71, 775, 776, 777, 778, 779, 780, 781, 782, 783, 811, 812, 813, 814, 815, 816, 817, 832, 833, 818] (by decide +kernel) (by decide +kernel)
set_option maxRecDepth 20000 in
theorem gL_law_X8_blurred : GoodIn wsL_law (wsV RL 150 RX8 yX8_blurred wsX8_blurred) := goodIn_app (goodIn_of _ (by decide +kernel)) ggL_law_X8_blurred
set_option maxRecDepth 20000 in
theorem ggL_law_X9_blurred : GoodIn wsL_law wsX9_blurred := goodIn_r _ [711, 176, 127, 128, 133, 700, 701, 702, 5, 703, 134, 135, 415, 416, 417, 418, 130, 129, 784, 785, 786, 787, 788, 789, 790, 791, 792, 793, 794, 795, 796, 797, 798, 799, 800, 801, 802, 803, 804, 805, 806, 807] (by decide +kernel) (by decide +kernel)
set_option maxRecDepth 20000 in
theorem gL_law_X9_blurred : GoodIn wsL_law (wsV RL 153 RX9 yX9_blurred wsX9_blurred) := goodIn_app (goodIn_of _ (by decide +kernel)) ggL_law_X9_blurred
set_option maxRecDepth 20000 in
theorem ggL_law_X8_law : GoodIn wsL_law wsX8_law := goodIn_r _ [715, 44, 716, 717, 718, 43, 719, 112, 720, 721, 2, 722, 257, 258, 259, 723, 724, 725, 726, 109, 110, 111, 775, 776, 777, 778, 779, 780, 781, 782, 783, 834, 835, 836, 837] (by decide +kernel) (by decide +kernel)
set_option maxRecDepth 20000 in
theorem gL_law_X8_law : GoodIn wsL_law (wsV RL 154 RX8 yX8_law wsX8_law) := goodIn_app (goodIn_of _ (by decide +kernel)) ggL_law_X8_law
set_option maxRecDepth 20000 in
theorem ggL_law_X9_law : GoodIn wsL_law wsX9_law := goodIn_r _ [730, 176, 731, 138, 139, 140, 784, 785, 786, 787, 788, 789, 790, 791, 792, 793, 794, 795, 796, 797, 798, 799, 800, 801, 802, 803, 804, 805, 806, 807] (by decide +kernel) (by decide +kernel)
set_option maxRecDepth 20000 in
theorem gL_law_X9_law : GoodIn wsL_law (wsV RL 157 RX9 yX9_law wsX9_law) := goodIn_app (goodIn_of _ (by decide +kernel)) ggL_law_X9_law
set_option maxRecDepth 20000 in
theorem ggL_law_L_rank : GoodIn wsL_law wsL_rank := goodIn_ca (goodIn_r _ [734, 149, 735, 736, 737, 2, 738, 154, 155, 24, 44, 739, 740, 741, 742, 720, 721, 722, 743, 744, 745, 23, 746, 118, 61, 66, 747, 748, 749, 43, 750, 112, 110, 109, 111, 775, 776, 777, 778, 779, 780, 781, 782, 783, 811, 812, 813, 814, 815, 816, 817, 834, 835, 836, 837] (by decide +kernel) (by decide +kernel)) (goodIn_sub (fun _ h => List.mem_append_left _ (List.mem_append_left _ (List.mem_append_right _ h))) (by decide +kernel))
set_option maxRecDepth 20000 in
theorem gL_law_L_rank : GoodIn wsL_law (va_wsS RL 158 yL_rank wsL_rank) := goodIn_app (goodIn_of _ (by decide +kernel)) ggL_law_L_rank
set_option maxRecDepth 20000 in
theorem ggL_law_X9_rank : GoodIn wsL_law wsX9_rank := goodIn_r _ [754, 176, 127, 128, 178, 179, 180, 5, 181, 415, 416, 417, 418, 130, 129, 755, 756, 757, 758, 731, 139, 138, 140, 784, 785, 786, 787, 788, 789, 790, 791, 792, 793, 794, 795, 796, 797, 798, 799, 800, 801, 802, 803, 804, 805, 806, 807] (by decide +kernel) (by decide +kernel)
set_option maxRecDepth 20000 in
theorem gL_law_X9_rank : GoodIn wsL_law (wsV RL 160 RX9 yX9_rank wsX9_rank) := goodIn_app (goodIn_of _ (by decide +kernel)) ggL_law_X9_rank
set_option maxRecDepth 20000 in
theorem ggL_law_L_count : GoodIn wsL_law wsL_count := goodIn_ca (goodIn_r _ [761, 605, 762, 763, 764, 2, 765, 610, 611, 24, 20, 45, 44, 766, 471, 472, 23, 473, 61, 283, 284, 285, 19, 286, 55, 204, 205, 206, 207, 117, 311, 312, 313, 314, 118, 716, 717, 718, 43, 719, 112, 775, 776, 777, 778, 779, 780, 781, 782, 783, 811, 812, 813, 814, 815, 816, 817, 809, 810, 834, 835, 836, 837] (by decide +kernel) (by decide +kernel)) (goodIn_sub (fun _ h => List.mem_append_right _ h) (by decide +kernel))
set_option maxRecDepth 20000 in
theorem gL_law_L_count : GoodIn wsL_law (va_wsS RL 161 yL_count wsL_count) := goodIn_app (goodIn_of _ (by decide +kernel)) ggL_law_L_count
set_option maxRecDepth 20000 in
theorem ggL_law_X9_count : GoodIn wsL_law wsX9_count := goodIn_r _ [770, 176, 127, 128, 399, 731, 178, 179, 180, 5, 181, 391, 392, 393, 394, 129, 771, 772, 773, 774, 132, 784, 785, 786, 787, 788, 789, 790, 791, 792, 793, 794, 795, 796, 797, 798, 799, 800, 801, 802, 803, 804, 805, 806, 807] (by decide +kernel) (by decide +kernel)
set_option maxRecDepth 20000 in
theorem gL_law_X9_count : GoodIn wsL_law (wsV RL 163 RX9 yX9_count wsX9_count) := goodIn_app (goodIn_of _ (by decide +kernel)) ggL_law_X9_count
