theorem ltw_X0 : ∀ w ∈ wsX00, w ∈ lw_tbl := fun w h => (goodIn_r (big := lw_tbl) wsX00 [100, 102, 104, 106, 108, 110, 112] (by decide +kernel) (by decide +kernel) w h).1
theorem ltw_X1 : ∀ w ∈ wsX10, w ∈ lw_tbl := fun w h => (goodIn_r (big := lw_tbl) wsX10 [211, 213, 215, 217] (by decide +kernel) (by decide +kernel) w h).1
theorem ltw_X2 : ∀ w ∈ wsX20, w ∈ lw_tbl := fun w h => (goodIn_r (big := lw_tbl) wsX20 [68] (by decide +kernel) (by decide +kernel) w h).1
theorem ltw_X3 : ∀ w ∈ wsX30, w ∈ lw_tbl := fun w h => (goodIn_r (big := lw_tbl) wsX30 [124] (by decide +kernel) (by decide +kernel) w h).1
theorem ltw_X4 : ∀ w ∈ wsX40, w ∈ lw_tbl := fun w h => (goodIn_r (big := lw_tbl) wsX40 [179, 181, 183, 185] (by decide +kernel) (by decide +kernel) w h).1
theorem ltw_X5 : ∀ w ∈ wsX50, w ∈ lw_tbl := fun w h => (goodIn_r (big := lw_tbl) wsX50 [149, 151, 153, 155, 157, 159, 161, 163, 165] (by decide +kernel) (by decide +kernel) w h).1
theorem ltw_X6 : ∀ w ∈ wsX60, w ∈ lw_tbl := fun w h => (goodIn_r (big := lw_tbl) wsX60 [196, 198] (by decide +kernel) (by decide +kernel) w h).1
theorem ltw_X7 : ∀ w ∈ wsX70, w ∈ lw_tbl := fun w h => (goodIn_r (big := lw_tbl) wsX70 [80, 82] (by decide +kernel) (by decide +kernel) w h).1
theorem ltw_X8 : ∀ w ∈ wsX80, w ∈ lw_tbl := fun w h => (goodIn_r (big := lw_tbl) wsX80 [237, 239, 241, 243, 245, 247, 249, 251, 253] (by decide +kernel) (by decide +kernel) w h).1
theorem ltw_X9 : ∀ w ∈ wsX90, w ∈ lw_tbl := fun w h => (goodIn_r (big := lw_tbl) wsX90 [831, 833, 835, 837, 839, 841, 843, 845, 847, 849, 851, 853, 855, 857, 859, 861, 863, 865, 867, 869, 871, 873, 875, 877] (by decide +kernel) (by decide +kernel) w h).1
