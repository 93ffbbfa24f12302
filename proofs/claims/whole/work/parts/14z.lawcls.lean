theorem ltw_X0 : ∀ w ∈ wsX00, w ∈ lw_tbl := fun w h => (goodIn_r (big := lw_tbl) wsX00 [100, 102, 104, 106, 108, 110, 112] (by decide +kernel) (by decide +kernel) w h).1
theorem ltw_X1 : ∀ w ∈ wsX10, w ∈ lw_tbl := fun w h => (goodIn_r (big := lw_tbl) wsX10 [208, 210, 212, 214] (by decide +kernel) (by decide +kernel) w h).1
theorem ltw_X2 : ∀ w ∈ wsX20, w ∈ lw_tbl := fun w h => (goodIn_r (big := lw_tbl) wsX20 [68] (by decide +kernel) (by decide +kernel) w h).1
theorem ltw_X3 : ∀ w ∈ wsX30, w ∈ lw_tbl := fun w h => (goodIn_r (big := lw_tbl) wsX30 [124] (by decide +kernel) (by decide +kernel) w h).1
theorem ltw_X4 : ∀ w ∈ wsX40, w ∈ lw_tbl := fun w h => (goodIn_r (big := lw_tbl) wsX40 [176, 178, 180, 182] (by decide +kernel) (by decide +kernel) w h).1
theorem ltw_X5 : ∀ w ∈ wsX50, w ∈ lw_tbl := fun w h => (goodIn_r (big := lw_tbl) wsX50 [144, 146, 148, 150, 152, 154, 156, 158, 160, 162] (by decide +kernel) (by decide +kernel) w h).1
theorem ltw_X6 : ∀ w ∈ wsX60, w ∈ lw_tbl := fun w h => (goodIn_r (big := lw_tbl) wsX60 [193, 195] (by decide +kernel) (by decide +kernel) w h).1
theorem ltw_X7 : ∀ w ∈ wsX70, w ∈ lw_tbl := fun w h => (goodIn_r (big := lw_tbl) wsX70 [80, 82] (by decide +kernel) (by decide +kernel) w h).1
theorem ltw_X8 : ∀ w ∈ wsX80, w ∈ lw_tbl := fun w h => (goodIn_r (big := lw_tbl) wsX80 [234, 236, 238, 240, 242, 244, 246, 248, 250] (by decide +kernel) (by decide +kernel) w h).1
theorem ltw_X9 : ∀ w ∈ wsX90, w ∈ lw_tbl := fun w h => (goodIn_r (big := lw_tbl) wsX90 [844, 846, 848, 850, 852, 854, 856, 858, 860, 862, 864, 866, 868, 870, 872, 874, 876, 878, 880, 882, 884, 886, 888, 890] (by decide +kernel) (by decide +kernel) w h).1
