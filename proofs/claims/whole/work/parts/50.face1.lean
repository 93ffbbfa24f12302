-- X8_isColour
def rX8_isColour : Room := { frames := 0, cells := 0, slots := 0, locals := 0 }
def bX8_isColour_15 (y0 : Int32) (S : St) : Option (Int32 × St) :=
  rz y0 (some (y0, S))
def bX8_isColour_14 (S : St) : Option (Int32 × St) :=
  bX8_isColour_15 0 S
def uX8_isColour (x0 : Int32) (S : St) : Option (Int32 × St) :=
  if x0 < 0 then bX8_isColour_14 S else if 16 ≤ x0 then bX8_isColour_14 S else bX8_isColour_15 1 S
-- X8_isDay
def rX8_isDay : Room := { frames := 0, cells := 0, slots := 0, locals := 0 }
def bX8_isDay_16 (y0 : Int32) (S : St) : Option (Int32 × St) :=
  rz y0 (some (y0, S))
def bX8_isDay_15 (S : St) : Option (Int32 × St) :=
  bX8_isDay_16 0 S
def uX8_isDay (x0 : Int32) (S : St) : Option (Int32 × St) :=
  if x0 < 0 then bX8_isDay_15 S else if 9999 < x0 then bX8_isDay_15 S else bX8_isDay_16 1 S
-- X8_isRow
def rX8_isRow : Room := { frames := 2, cells := 0, slots := 0, locals := 42 }
def bX8_isRow_48 (y0 : Int32) (S : St) : Option (Int32 × St) :=
  rz y0 (some (y0, S))
def bX8_isRow_27 (S : St) : Option (Int32 × St) :=
  rz 0 (some (0, S))
def bX8_isRow_7 (k7 : Int32 → Int32 → Int32 → St → Option (Int32 × St)) (x0 : Int32) (x1 : Int32) (x2 : Int32) (S : St) : Option (Int32 × St) :=
  if x1 ≤ x2 then if (x0 >>> ((3 * x1) &&& 31)) = 0 then bX8_isRow_48 1 S else bX8_isRow_48 0 S else cl (uX8_dyeOf x0 x2 S) (fun v1 S2 => lt v1 (fun v3 => if v3 < 0 then bX8_isRow_27 S2 else if v3 < 4 then lt (x2 + 1) (fun v4 => k7 x0 x1 v4 S2) else bX8_isRow_27 S2))
def lX8_isRow_7 (n : Nat) : Int32 → Int32 → Int32 → St → Option (Int32 × St) :=
  lp (fun k7 => bX8_isRow_7 k7) (fun _ _ _ _ => none) n
def uX8_isRow (x0 : Int32) (S : St) : Option (Int32 × St) :=
  cl (uX8_bathsOf x0 S) (fun v1 S2 => lt v1 (fun v3 => lt 0 (fun v4 => lX8_isRow_7 FU x0 v3 v4 S2)))
-- X8_dye
def rX8_dye : Room := { frames := 4, cells := 0, slots := 0, locals := 95 }
theorem inX8_dye_X8 : ∀ w ∈ u_ws RX8 TX8 9, w ∈ wsX8_dye := by decide +kernel
def bX8_dye_52 (k52 : Int32 → Int32 → Int32 → St → Option (Int32 × St)) (x1 : Int32) (x2 : Int32) (x3 : Int32) (S : St) : Option (Int32 × St) :=
  if x1 ≤ x3 then lz (s2 S 0 8 ((S 0 8) + x1)) (fun S1 => some (x2, S1)) else cl (uX4_row S) (fun v2 S3 => cl (uX8_dyeOf v2 x3 S3) (fun v4 S5 => lt v4 (fun v6 => cl (uX0_bindAs x3 S5) (fun _ S8 => cl (uX0_takesUp S8) (fun v9 S10 => lt v9 (fun v11 => cl (uX7_lose v6 v11 S10) (fun _ S13 => cl (uX0_dip v6 S13) (fun _ S15 => lt (x2 + v11) (fun v16 => lt (x3 + 1) (fun v17 => k52 x1 v16 v17 S15))))))))))
def lX8_dye_52 (n : Nat) : Int32 → Int32 → Int32 → St → Option (Int32 × St) :=
  lp (fun k52 => bX8_dye_52 k52) (fun _ _ _ _ => none) n
def bX8_dye_28 (S : St) : Option (Int32 × St) :=
  some ((-1), S)
def uX8_dye (S : St) : Option (Int32 × St) :=
  cl (uX4_exists S) (fun v1 S2 => if v1 = 0 then bX8_dye_28 S2 else cl (uX7_sufficeFor S2) (fun v3 S4 => if v3 = 0 then bX8_dye_28 S4 else cl (uX4_row S4) (fun v5 S6 => cl (uX8_bathsOf v5 S6) (fun v7 S8 => lt v7 (fun v9 => lt 0 (fun v10 => cl (uX0_wash S8) (fun _ S12 => lt 0 (fun v13 => lX8_dye_52 FU v9 v10 v13 S12))))))))
-- X8_blurred
def rX8_blurred : Room := { frames := 2, cells := 0, slots := 0, locals := 48 }
theorem inX8_blurred_X8 : ∀ w ∈ u_ws RX8 TX8 9, w ∈ wsX8_blurred := by decide +kernel
def bX8_blurred_58 (k4 : Int32 → Int32 → St → Option (Int32 × St)) (k17 : Int32 → Int32 → Int32 → St → Option (Int32 × St)) (x1 : Int32) (x2 : Int32) (x3 : Int32) (S : St) : Option (Int32 × St) :=
  lt (x3 + 1) (fun v1 => k17 x1 x2 v1 S)
def bX8_blurred_17 (k4 : Int32 → Int32 → St → Option (Int32 × St)) (k17 : Int32 → Int32 → Int32 → St → Option (Int32 × St)) (x1 : Int32) (x2 : Int32) (x3 : Int32) (S : St) : Option (Int32 × St) :=
  cl (uX0_places S) (fun v1 S2 => if v1 ≤ x3 then lt (x2 + 1) (fun v3 => k4 x1 v3 S2) else cl (uX6_showsAt x2 x3 S2) (fun v4 S5 => cl (uX3_wantedAt x2 x3 S5) (fun v6 S7 => if v4 = (1 <<< (v6 &&& 31)) then bX8_blurred_58 k4 k17 x1 x2 x3 S7 else lt (x1 + 1) (fun v8 => bX8_blurred_58 k4 k17 v8 x2 x3 S7))))
def lX8_blurred_17 (k4 : Int32 → Int32 → St → Option (Int32 × St)) (n : Nat) : Int32 → Int32 → Int32 → St → Option (Int32 × St) :=
  lp (fun k17 => bX8_blurred_17 k4 k17) (fun _ _ _ _ => none) n
def bX8_blurred_4 (k4 : Int32 → Int32 → St → Option (Int32 × St)) (x1 : Int32) (x2 : Int32) (S : St) : Option (Int32 × St) :=
  cl (uX0_threads S) (fun v1 S2 => if v1 ≤ x2 then some (x1, S2) else lt 0 (fun v3 => lX8_blurred_17 k4 FU x1 x2 v3 S2))
def lX8_blurred_4 (n : Nat) : Int32 → Int32 → St → Option (Int32 × St) :=
  lp (fun k4 => bX8_blurred_4 k4) (fun _ _ _ => none) n
def uX8_blurred (S : St) : Option (Int32 × St) :=
  lt 0 (fun v1 => lt 0 (fun v2 => lX8_blurred_4 FU v1 v2 S))
-- X8_law
def rX8_law : Room := { frames := 1, cells := 0, slots := 0, locals := 23 }
theorem inX8_law_X8 : ∀ w ∈ u_ws RX8 TX8 9, w ∈ wsX8_law := by decide +kernel
def bX8_law_36 (S : St) : Option (Int32 × St) :=
  some ((-1), S)
def uX8_law (x1 : Int32) (x2 : Int32) (x3 : Int32) (S : St) : Option (Int32 × St) :=
  cl (uX1_size S) (fun v1 S2 => if 60 ≤ v1 then bX8_law_36 S2 else cl (uX8_isDay x1 S2) (fun v3 S4 => if v3 = 0 then bX8_law_36 S4 else cl (uX8_isColour x2 S4) (fun v5 S6 => if v5 = 0 then bX8_law_36 S6 else if x3 < 0 then bX8_law_36 S6 else if x3 ≤ 9 then cl (uX1_add x1 x2 x3 S6) (fun _ S8 => cl (uX1_size S8) (fun v9 S10 => some (v9, S10))) else bX8_law_36 S6)))
-- X8_needBundle
def rX8_needBundle : Room := { frames := 6, cells := 1, slots := 6, locals := 100 }
theorem atX8_needBundle_116 : ∀ w ∈ (vx_atS RX8 116 "java/lang/IndexOutOfBoundsException" ["java/lang/RuntimeException", "java/lang/Exception"]).filter goodWord, w ∈ wsX8_needBundle := by decide +kernel
def bX8_needBundle_10 (S : St) : Option RX :=
  some (.inl "java/lang/IndexOutOfBoundsException", S)
def uX8_needBundle (x0 : Int32) (S : St) : Option RX :=
  if x0 < 0 then bX8_needBundle_10 S else if x0 < 8 then some (.inr 0, S) else bX8_needBundle_10 S
-- X8_needDye
def rX8_needDye : Room := { frames := 6, cells := 1, slots := 6, locals := 100 }
theorem atX8_needDye_116 : ∀ w ∈ (vx_atS RX8 116 "java/lang/IndexOutOfBoundsException" ["java/lang/RuntimeException", "java/lang/Exception"]).filter goodWord, w ∈ wsX8_needDye := by decide +kernel
def bX8_needDye_9 (S : St) : Option RX :=
  some (.inl "java/lang/IndexOutOfBoundsException", S)
def uX8_needDye (x0 : Int32) (S : St) : Option RX :=
  if x0 < 0 then bX8_needDye_9 S else if x0 < 4 then some (.inr 0, S) else bX8_needDye_9 S
-- X8_needThread
def rX8_needThread : Room := { frames := 6, cells := 1, slots := 6, locals := 100 }
theorem inX8_needThread_X8 : ∀ w ∈ u_ws RX8 TX8 9, w ∈ wsX8_needThread := by decide +kernel
theorem atX8_needThread_116 : ∀ w ∈ (vx_atS RX8 116 "java/lang/IndexOutOfBoundsException" ["java/lang/RuntimeException", "java/lang/Exception"]).filter goodWord, w ∈ wsX8_needThread := by decide +kernel
def bX8_needThread_15 (S : St) : Option RX :=
  some (.inl "java/lang/IndexOutOfBoundsException", S)
def uX8_needThread (x1 : Int32) (S : St) : Option RX :=
  if x1 < 0 then bX8_needThread_15 S else cl (uX0_threads S) (fun v1 S2 => if x1 < v1 then some (.inr 0, S2) else bX8_needThread_15 S2)
-- X8_needPlace
def rX8_needPlace : Room := { frames := 6, cells := 1, slots := 6, locals := 100 }
theorem inX8_needPlace_X8 : ∀ w ∈ u_ws RX8 TX8 9, w ∈ wsX8_needPlace := by decide +kernel
theorem atX8_needPlace_116 : ∀ w ∈ (vx_atS RX8 116 "java/lang/IndexOutOfBoundsException" ["java/lang/RuntimeException", "java/lang/Exception"]).filter goodWord, w ∈ wsX8_needPlace := by decide +kernel
def bX8_needPlace_15 (S : St) : Option RX :=
  some (.inl "java/lang/IndexOutOfBoundsException", S)
def uX8_needPlace (x1 : Int32) (S : St) : Option RX :=
  if x1 < 0 then bX8_needPlace_15 S else cl (uX0_places S) (fun v1 S2 => if x1 < v1 then some (.inr 0, S2) else bX8_needPlace_15 S2)
-- X8_needRange
def rX8_needRange : Room := { frames := 7, cells := 4, slots := 24, locals := 121 }
theorem atX8_needRange_77 : ∀ w ∈ (vx_atS RX8 77 "java/lang/IllegalArgumentException" ["java/lang/RuntimeException", "java/lang/Exception"]).filter goodWord, w ∈ wsX8_needRange := by decide +kernel
def uX8_needRange (x1 : Int32) (x2 : Int32) (x3 : Int32) (S : St) : Option RX :=
  cx (uX8_needBundle x1 S) (fun _ S2 => cx (uX8_needPlace x2 S2) (fun _ S4 => cx (uX8_needPlace x3 S4) (fun _ S6 => if x2 ≤ x3 then some (.inr 0, S6) else some (.inl "java/lang/IllegalArgumentException", S6))))
-- X8_frame
def rX8_frame : Room := { frames := 6, cells := 1, slots := 6, locals := 100 }
theorem inX8_frame_X8 : ∀ w ∈ u_ws RX8 TX8 9, w ∈ wsX8_frame := by decide +kernel
theorem atX8_frame_77 : ∀ w ∈ (vx_atS RX8 77 "java/lang/IllegalArgumentException" ["java/lang/RuntimeException", "java/lang/Exception"]).filter goodWord, w ∈ wsX8_frame := by decide +kernel
def bX8_frame_22 (S : St) : Option RX :=
  some (.inl "java/lang/IllegalArgumentException", S)
def uX8_frame (x1 : Int32) (x2 : Int32) (S : St) : Option RX :=
  if x1 < 1 then bX8_frame_22 S else if 16 < x1 then bX8_frame_22 S else if x2 < 1 then bX8_frame_22 S else if x2 ≤ 24 then cl (uX0_stretch x1 x2 S) (fun _ S2 => cl (uX3_clear S2) (fun _ S4 => cl (uX6_clear S4) (fun _ S6 => cl (uX4_drop S6) (fun _ S8 => some (.inr 0, S8))))) else bX8_frame_22 S
-- X8_into
def rX8_into : Room := { frames := 7, cells := 2, slots := 12, locals := 121 }
theorem inX8_into_X8 : ∀ w ∈ u_ws RX8 TX8 9, w ∈ wsX8_into := by decide +kernel
def uX8_into (x1 : Int32) (x2 : Int32) (S : St) : Option RX :=
  cx (uX8_needThread x1 S) (fun _ S2 => cx (uX8_needBundle x2 S2) (fun _ S4 => cl (uX0_bundleOf x1 S4) (fun v5 S6 => lt v5 (fun v7 => cl (uX0_move x1 x2 S6) (fun _ S9 => cl (uX4_drop S9) (fun _ S11 => some (.inr v7, S11)))))))
-- X8_fold
def rX8_fold : Room := { frames := 7, cells := 1, slots := 6, locals := 120 }
theorem inX8_fold_X8 : ∀ w ∈ u_ws RX8 TX8 9, w ∈ wsX8_fold := by decide +kernel
def uX8_fold (x1 : Int32) (x2 : Int32) (S : St) : Option RX :=
  cx (uX8_needBundle x1 S) (fun _ S2 => cl (uX0_isFolded x1 S2) (fun v3 S4 => lt v3 (fun v5 => cl (uX0_setFolded x1 x2 S4) (fun _ S7 => cl (uX4_drop S7) (fun _ S9 => rz v5 (some (.inr v5, S9)))))))
-- X8_table
def rX8_table : Room := { frames := 7, cells := 3, slots := 18, locals := 120 }
theorem inX8_table_X8 : ∀ w ∈ u_ws RX8 TX8 9, w ∈ wsX8_table := by decide +kernel
theorem atX8_table_77 : ∀ w ∈ (vx_atS RX8 77 "java/lang/IllegalArgumentException" ["java/lang/RuntimeException", "java/lang/Exception"]).filter goodWord, w ∈ wsX8_table := by decide +kernel
theorem atX8_table_116 : ∀ w ∈ (vx_atS RX8 116 "java/lang/IndexOutOfBoundsException" ["java/lang/RuntimeException", "java/lang/Exception"]).filter goodWord, w ∈ wsX8_table := by decide +kernel
def uX8_table (x1 : Int32) (x2 : Int32) (x3 : Int32) (S : St) : Option RX :=
  cl (uX8_isColour x1 S) (fun v1 S2 => if v1 = 0 then some (.inl "java/lang/IndexOutOfBoundsException", S2) else cx (uX8_needDye x2 S2) (fun _ S4 => cl (uX8_isColour x3 S4) (fun v5 S6 => if v5 = 0 then some (.inl "java/lang/IllegalArgumentException", S6) else cl (uX2_comesOf x1 x2 S6) (fun v7 S8 => lt v7 (fun v9 => cl (uX2_tell x1 x2 x3 S8) (fun _ S11 => cl (uX4_drop S11) (fun _ S13 => some (.inr v9, S13))))))))
-- X8_vat
def rX8_vat : Room := { frames := 7, cells := 1, slots := 6, locals := 120 }
theorem inX8_vat_X8 : ∀ w ∈ u_ws RX8 TX8 9, w ∈ wsX8_vat := by decide +kernel
def bX8_vat_24 (S : St) : Option RX :=
  some (.inr ((-1)), S)
def uX8_vat (x1 : Int32) (x2 : Int32) (S : St) : Option RX :=
  cx (uX8_needDye x1 S) (fun _ S2 => if x2 < 1 then bX8_vat_24 S2 else cl (uX7_strengthOf x1 S2) (fun v3 S4 => if x2 ≤ (1000000 - v3) then cl (uX7_fill x1 x2 S4) (fun _ S6 => cl (uX7_strengthOf x1 S6) (fun v7 S8 => some (.inr v7, S8))) else bX8_vat_24 S4))
-- X8_tie
def rX8_tie : Room := { frames := 8, cells := 4, slots := 24, locals := 144 }
theorem inX8_tie_X8 : ∀ w ∈ u_ws RX8 TX8 9, w ∈ wsX8_tie := by decide +kernel
def uX8_tie (x1 : Int32) (x2 : Int32) (x3 : Int32) (S : St) : Option RX :=
  cx (uX8_needRange x1 x2 x3 S) (fun _ S2 => cl (uX0_bind x1 x2 x3 S2) (fun v3 S4 => some (.inr v3, S4)))
-- X8_untie
def rX8_untie : Room := { frames := 8, cells := 4, slots := 24, locals := 144 }
theorem inX8_untie_X8 : ∀ w ∈ u_ws RX8 TX8 9, w ∈ wsX8_untie := by decide +kernel
def uX8_untie (x1 : Int32) (x2 : Int32) (x3 : Int32) (S : St) : Option RX :=
  cx (uX8_needRange x1 x2 x3 S) (fun _ S2 => cl (uX0_loosen x1 x2 x3 S2) (fun v3 S4 => some (.inr v3, S4)))
-- X8_bath
def rX8_bath : Room := { frames := 7, cells := 1, slots := 6, locals := 120 }
theorem inX8_bath_X8 : ∀ w ∈ u_ws RX8 TX8 9, w ∈ wsX8_bath := by decide +kernel
def uX8_bath (x1 : Int32) (S : St) : Option RX :=
  cx (uX8_needDye x1 S) (fun _ S2 => cl (uX0_takesUp S2) (fun v3 S4 => lt v3 (fun v5 => cl (uX7_strengthOf x1 S4) (fun v6 S7 => if v5 ≤ v6 then cl (uX7_lose x1 v5 S7) (fun _ S9 => cl (uX0_dip x1 S9) (fun _ S11 => lz (s2 S11 0 8 ((S11 0 8) + 1)) (fun S12 => some (.inr v5, S12)))) else some (.inr ((-1)), S7)))))
-- X8_colour
def rX8_colour : Room := { frames := 7, cells := 2, slots := 12, locals := 121 }
theorem inX8_colour_X8 : ∀ w ∈ u_ws RX8 TX8 9, w ∈ wsX8_colour := by decide +kernel
def uX8_colour (x1 : Int32) (x2 : Int32) (S : St) : Option RX :=
  cx (uX8_needThread x1 S) (fun _ S2 => cx (uX8_needPlace x2 S2) (fun _ S4 => cl (uX0_colourAt x1 x2 S4) (fun v5 S6 => some (.inr v5, S6))))
-- X8_bound
def rX8_bound : Room := { frames := 7, cells := 2, slots := 12, locals := 121 }
theorem inX8_bound_X8 : ∀ w ∈ u_ws RX8 TX8 9, w ∈ wsX8_bound := by decide +kernel
def uX8_bound (x1 : Int32) (x2 : Int32) (S : St) : Option RX :=
  cx (uX8_needBundle x1 S) (fun _ S2 => cx (uX8_needPlace x2 S2) (fun _ S4 => cl (uX0_isBound x1 x2 S4) (fun v5 S6 => rz v5 (some (.inr v5, S6)))))
-- X8_want
def rX8_want : Room := { frames := 7, cells := 3, slots := 18, locals := 121 }
theorem inX8_want_X8 : ∀ w ∈ u_ws RX8 TX8 9, w ∈ wsX8_want := by decide +kernel
theorem atX8_want_77 : ∀ w ∈ (vx_atS RX8 77 "java/lang/IllegalArgumentException" ["java/lang/RuntimeException", "java/lang/Exception"]).filter goodWord, w ∈ wsX8_want := by decide +kernel
def uX8_want (x1 : Int32) (x2 : Int32) (x3 : Int32) (S : St) : Option RX :=
  cx (uX8_needThread x1 S) (fun _ S2 => cx (uX8_needPlace x2 S2) (fun _ S4 => cl (uX8_isColour x3 S4) (fun v5 S6 => if v5 = 0 then some (.inl "java/lang/IllegalArgumentException", S6) else cl (uX3_wantedAt x1 x2 S6) (fun v7 S8 => lt v7 (fun v9 => cl (uX3_ask x1 x2 x3 S8) (fun _ S11 => cl (uX4_drop S11) (fun _ S13 => some (.inr v9, S13))))))))
-- X8_plan
def rX8_plan : Room := { frames := 6, cells := 1, slots := 6, locals := 100 }
theorem inX8_plan_X8 : ∀ w ∈ u_ws RX8 TX8 9, w ∈ wsX8_plan := by decide +kernel
theorem atX8_plan_77 : ∀ w ∈ (vx_atS RX8 77 "java/lang/IllegalArgumentException" ["java/lang/RuntimeException", "java/lang/Exception"]).filter goodWord, w ∈ wsX8_plan := by decide +kernel
def bX8_plan_50 (S : St) : Option RX :=
  some (.inr ((-1)), S)
def uX8_plan (x1 : Int32) (S : St) : Option RX :=
  cl (uX8_isRow x1 S) (fun v1 S2 => if v1 = 0 then some (.inl "java/lang/IllegalArgumentException", S2) else cl (uX5_aimAt S2) (fun v3 S4 => if v3 = 0 then bX8_plan_50 S4 else cl (uX5_tryRow x1 S4) (fun v5 S6 => if v5 = 0 then bX8_plan_50 S6 else cl (uX5_writeInto S6) (fun _ S8 => cl (uX4_ties S8) (fun v9 S10 => some (.inr v9, S10))))))
-- X8_best
def rX8_best : Room := { frames := 6, cells := 1, slots := 6, locals := 122 }
theorem inX8_best_X8 : ∀ w ∈ u_ws RX8 TX8 9, w ∈ wsX8_best := by decide +kernel
theorem atX8_best_77 : ∀ w ∈ (vx_atS RX8 77 "java/lang/IllegalArgumentException" ["java/lang/RuntimeException", "java/lang/Exception"]).filter goodWord, w ∈ wsX8_best := by decide +kernel
def bX8_best_72 (S : St) : Option RX :=
  some (.inr ((-1)), S)
def bX8_best_9 (S : St) : Option RX :=
  some (.inl "java/lang/IllegalArgumentException", S)
def uX8_best (x1 : Int32) (S : St) : Option RX :=
  if x1 < 0 then bX8_best_9 S else if x1 ≤ 4 then cl (uX5_aimAt S) (fun v1 S2 => if v1 = 0 then some (.inr ((-1)), S2) else cl (uX5_bestRow x1 S2) (fun v3 S4 => lt v3 (fun v5 => if v5 = ((-1)) then bX8_best_72 S4 else cl (uX5_tryRow v5 S4) (fun v6 S7 => if v6 = 0 then bX8_best_72 S7 else cl (uX5_writeInto S7) (fun _ S9 => cl (uX4_ties S9) (fun v10 S11 => some (.inr v10, S11))))))) else bX8_best_9 S
-- X8_bits
def rX8_bits : Room := { frames := 7, cells := 2, slots := 12, locals := 121 }
theorem inX8_bits_X8 : ∀ w ∈ u_ws RX8 TX8 9, w ∈ wsX8_bits := by decide +kernel
def bX8_bits_32 (y0 : Int32) (S : St) : Option RX :=
  some (.inr y0, S)
def uX8_bits (x1 : Int32) (x2 : Int32) (S : St) : Option RX :=
  cx (uX8_needBundle x1 S) (fun _ S2 => cx (uX8_needPlace x2 S2) (fun _ S4 => cl (uX4_exists S4) (fun v5 S6 => if v5 = 0 then bX8_bits_32 ((-1)) S6 else cl (uX4_bitsAt x1 x2 S6) (fun v7 S8 => bX8_bits_32 v7 S8))))
-- X8_kept
def rX8_kept : Room := { frames := 6, cells := 1, slots := 6, locals := 100 }
theorem inX8_kept_X8 : ∀ w ∈ u_ws RX8 TX8 9, w ∈ wsX8_kept := by decide +kernel
theorem atX8_kept_204 : ∀ w ∈ nseW 204, w ∈ wsX8_kept := by decide +kernel
def bX8_kept_68 (y0 : Int32) (S : St) : Option RX :=
  some (.inr y0, S)
def bX8_kept_9 (S : St) : Option RX :=
  some (.inl "java/util/NoSuchElementException", S)
def uX8_kept (x1 : Int32) (S : St) : Option RX :=
  if x1 < 0 then bX8_kept_9 S else if x1 ≤ 2 then cl (uX4_exists S) (fun v1 S2 => if v1 = 0 then some (.inr ((-1)), S2) else if x1 = 0 then cl (uX4_row S2) (fun v9 S10 => some (.inr v9, S10)) else if x1 = 1 then cl (uX4_row S2) (fun v5 S6 => cl (uX8_bathsOf v5 S6) (fun v7 S8 => bX8_kept_68 v7 S8)) else cl (uX4_ties S2) (fun v3 S4 => bX8_kept_68 v3 S4)) else bX8_kept_9 S
-- X8_count
def rX8_count : Room := { frames := 6, cells := 1, slots := 6, locals := 100 }
theorem inX8_count_X8 : ∀ w ∈ u_ws RX8 TX8 9, w ∈ wsX8_count := by decide +kernel
theorem atX8_count_204 : ∀ w ∈ nseW 204, w ∈ wsX8_count := by decide +kernel
def bX8_count_10 (S : St) : Option RX :=
  some (.inl "java/util/NoSuchElementException", S)
def uX8_count (x1 : Int32) (S : St) : Option RX :=
  if x1 < 0 then bX8_count_10 S else if x1 < 16 then if x1 < 8 then if x1 < 4 then if x1 = 0 then cl (uX0_threads S) (fun v1 S2 => some (.inr v1, S2)) else if x1 = 1 then cl (uX0_places S) (fun v3 S4 => some (.inr v3, S4)) else if x1 = 2 then some (.inr (S 0 8), S) else cl (uX1_size S) (fun v5 S6 => some (.inr v5, S6)) else cl (uX7_strengthOf (x1 - 4) S) (fun v7 S8 => some (.inr v7, S8)) else cl (uX0_threadsIn (x1 - 8) S) (fun v9 S10 => some (.inr v9, S10)) else bX8_count_10 S
-- X8_slip
def rX8_slip : Room := { frames := 7, cells := 2, slots := 12, locals := 121 }
theorem inX8_slip_X8 : ∀ w ∈ u_ws RX8 TX8 9, w ∈ wsX8_slip := by decide +kernel
theorem atX8_slip_77 : ∀ w ∈ (vx_atS RX8 77 "java/lang/IllegalArgumentException" ["java/lang/RuntimeException", "java/lang/Exception"]).filter goodWord, w ∈ wsX8_slip := by decide +kernel
def bX8_slip_21 (S : St) : Option RX :=
  some (.inl "java/lang/IllegalArgumentException", S)
def uX8_slip (x1 : Int32) (x2 : Int32) (x3 : Int32) (S : St) : Option RX :=
  cx (uX8_needThread x1 S) (fun _ S2 => if x2 < ((-3)) then bX8_slip_21 S2 else if x3 < x2 then bX8_slip_21 S2 else if x3 ≤ 3 then cl (uX6_let x1 x2 x3 S2) (fun _ S4 => some (.inr 0, S4)) else bX8_slip_21 S2)
-- X8_seen
def rX8_seen : Room := { frames := 7, cells := 2, slots := 12, locals := 121 }
theorem inX8_seen_X8 : ∀ w ∈ u_ws RX8 TX8 9, w ∈ wsX8_seen := by decide +kernel
def uX8_seen (x1 : Int32) (x2 : Int32) (S : St) : Option RX :=
  cx (uX8_needThread x1 S) (fun _ S2 => cx (uX8_needPlace x2 S2) (fun _ S4 => cl (uX6_showsAt x1 x2 S4) (fun v5 S6 => some (.inr v5, S6))))
-- X8_rank
def rX8_rank : Room := { frames := 6, cells := 1, slots := 6, locals := 100 }
theorem inX8_rank_X8 : ∀ w ∈ u_ws RX8 TX8 9, w ∈ wsX8_rank := by decide +kernel
theorem atX8_rank_77 : ∀ w ∈ (vx_atS RX8 77 "java/lang/IllegalArgumentException" ["java/lang/RuntimeException", "java/lang/Exception"]).filter goodWord, w ∈ wsX8_rank := by decide +kernel
def bX8_rank_61 (k30 : Int32 → Int32 → Int32 → Int32 → St → Option RX) (x1 : Int32) (x2 : Int32) (x3 : Int32) (x4 : Int32) (S : St) : Option RX :=
  lt (x4 + 1) (fun v1 => k30 x1 x2 x3 v1 S)
def bX8_rank_30 (k30 : Int32 → Int32 → Int32 → Int32 → St → Option RX) (x1 : Int32) (x2 : Int32) (x3 : Int32) (x4 : Int32) (S : St) : Option RX :=
  if 16 ≤ x4 then some (.inr x3, S) else if ((x2 >>> (x4 &&& 31)) &&& 1) = 0 then bX8_rank_61 k30 x1 x2 x3 x4 S else cl (uX1_inForce x1 x4 S) (fun v1 S2 => lt (if x3 < v1 then v1 else x3) (fun v3 => bX8_rank_61 k30 x1 x2 v3 x4 S2))
def lX8_rank_30 (n : Nat) : Int32 → Int32 → Int32 → Int32 → St → Option RX :=
  lp (fun k30 => bX8_rank_30 k30) (fun _ _ _ _ _ => none) n
def uX8_rank (x1 : Int32) (S : St) : Option RX :=
  cl (uX8_isDay x1 S) (fun v1 S2 => if v1 = 0 then some (.inl "java/lang/IllegalArgumentException", S2) else cl (uX0_coloursWorn S2) (fun v3 S4 => lt v3 (fun v5 => lt 0 (fun v6 => lt 0 (fun v7 => lX8_rank_30 FU x1 v5 v6 v7 S4)))))
section
variable {N : Nat} {C : St → Nat → va_E} {Ev : (Nat → Prop) → State → Prop} {tys : List (ClassId × FieldType)} {l : Launch} {D : va_G} {cI cZ cO cJ : ClassId} {a : Nat → Nat} {tF : Nat}
set_option maxHeartbeats 4000000 in
set_option maxRecDepth 100000 in
theorem tX8_isColour_15 {p : Program} {e : Env} {s : State} {m : MethodId} {args : Array Value} {below : List Frame} {meth : Method} {c : Code} (hc : CT p s m args c cX8_isColour 1 RX8 wsX8_isColour D (tyW cI cZ cO)) (hr : meth.sig.returnType = (some .boolean)) (hlk : meth.locks = false) (hE : EvX tF (AA 72 a s.heap.size) s) (y0 : Int32) (S : St) : GF p l e rX8_isColour s m args below meth c D 72 a (cX cI cZ cO a) (AA 72 a s.heap.size) 1 0 0 (fun res => MQ below (va_Qi (fun r u => (r, u) = res) (Bw D (tyW cI cZ cO) 72 a (cX cI cZ cO a) (AA 72 a s.heap.size)) (AA 72 a s.heap.size)) args s 0 0 (AA 72 a s.heap.size)) (bX8_isColour_15 y0 S) 15 [] [.int y0] S := by
  unfold bX8_isColour_15
  exact g_zret hc hr hlk dX8_isColour_15
set_option maxHeartbeats 4000000 in
set_option maxRecDepth 100000 in
theorem tX8_isColour_14 {p : Program} {e : Env} {s : State} {m : MethodId} {args : Array Value} {below : List Frame} {meth : Method} {c : Code} (hc : CT p s m args c cX8_isColour 1 RX8 wsX8_isColour D (tyW cI cZ cO)) (hr : meth.sig.returnType = (some .boolean)) (hlk : meth.locks = false) (hE : EvX tF (AA 72 a s.heap.size) s) (S : St) : GF p l e rX8_isColour s m args below meth c D 72 a (cX cI cZ cO a) (AA 72 a s.heap.size) 1 0 0 (fun res => MQ below (va_Qi (fun r u => (r, u) = res) (Bw D (tyW cI cZ cO) 72 a (cX cI cZ cO a) (AA 72 a s.heap.size)) (AA 72 a s.heap.size)) args s 0 0 (AA 72 a s.heap.size)) (bX8_isColour_14 S) 14 [] [] S := by
  unfold bX8_isColour_14
  refine g_iconst (v := 0) hc dX8_isColour_14 (by decide) ?_
  exact tX8_isColour_15 hc hr hlk hE 0 S
set_option maxHeartbeats 4000000 in
set_option maxRecDepth 100000 in
theorem mX8_isColour (x0 : Int32) (S : St) : ∀ q, uX8_isColour x0 S = some q → Ki l yX8_isColour wsX8_isColour rX8_isColour D (tyW cI cZ cO) 72 a (cX cI cZ cO a) (EvX tF) [.int x0] S q := by
  refine m_Ki (cc := cX8_isColour) (nL := 1) (ret := (some .boolean)) (lv := [(0, .int x0)]) (by decide) rfl (Nat.le_of_ble_eq_true rfl) rfl ?_
  intro p e s m args below meth c hc hr hlk hE
  unfold uX8_isColour
  refine g_iload_n (j := 0) hc dX8_isColour_0 rfl rfl ?_
  refine g_if_lt (tgt := 14) hc dX8_isColour_1 (by decide) ?_ ?_
  · refine g_lv [] rfl ?_
    exact tX8_isColour_14 hc hr hlk hE S
  · refine g_iload_n (j := 0) hc dX8_isColour_4 rfl rfl ?_
    refine g_bipush (v := 16) hc dX8_isColour_5 (by decide) ?_
    refine g_icmp_ge (tgt := 14) hc dX8_isColour_7 (by decide) ?_ ?_
    · refine g_lv [] rfl ?_
      exact tX8_isColour_14 hc hr hlk hE S
    · refine g_iconst (v := 1) hc dX8_isColour_10 (by decide) ?_
      refine g_goto (tgt := 15) hc dX8_isColour_11 (by decide) ?_
      refine g_lv [] rfl ?_
      exact tX8_isColour_15 hc hr hlk hE 1 S
set_option maxHeartbeats 4000000 in
set_option maxRecDepth 100000 in
theorem tX8_isDay_16 {p : Program} {e : Env} {s : State} {m : MethodId} {args : Array Value} {below : List Frame} {meth : Method} {c : Code} (hc : CT p s m args c cX8_isDay 1 RX8 wsX8_isDay D (tyW cI cZ cO)) (hr : meth.sig.returnType = (some .boolean)) (hlk : meth.locks = false) (hE : EvX tF (AA 72 a s.heap.size) s) (y0 : Int32) (S : St) : GF p l e rX8_isDay s m args below meth c D 72 a (cX cI cZ cO a) (AA 72 a s.heap.size) 1 0 0 (fun res => MQ below (va_Qi (fun r u => (r, u) = res) (Bw D (tyW cI cZ cO) 72 a (cX cI cZ cO a) (AA 72 a s.heap.size)) (AA 72 a s.heap.size)) args s 0 0 (AA 72 a s.heap.size)) (bX8_isDay_16 y0 S) 16 [] [.int y0] S := by
  unfold bX8_isDay_16
  exact g_zret hc hr hlk dX8_isDay_16
set_option maxHeartbeats 4000000 in
set_option maxRecDepth 100000 in
theorem tX8_isDay_15 {p : Program} {e : Env} {s : State} {m : MethodId} {args : Array Value} {below : List Frame} {meth : Method} {c : Code} (hc : CT p s m args c cX8_isDay 1 RX8 wsX8_isDay D (tyW cI cZ cO)) (hr : meth.sig.returnType = (some .boolean)) (hlk : meth.locks = false) (hE : EvX tF (AA 72 a s.heap.size) s) (S : St) : GF p l e rX8_isDay s m args below meth c D 72 a (cX cI cZ cO a) (AA 72 a s.heap.size) 1 0 0 (fun res => MQ below (va_Qi (fun r u => (r, u) = res) (Bw D (tyW cI cZ cO) 72 a (cX cI cZ cO a) (AA 72 a s.heap.size)) (AA 72 a s.heap.size)) args s 0 0 (AA 72 a s.heap.size)) (bX8_isDay_15 S) 15 [] [] S := by
  unfold bX8_isDay_15
  refine g_iconst (v := 0) hc dX8_isDay_15 (by decide) ?_
  exact tX8_isDay_16 hc hr hlk hE 0 S
set_option maxHeartbeats 4000000 in
set_option maxRecDepth 100000 in
theorem mX8_isDay (x0 : Int32) (S : St) : ∀ q, uX8_isDay x0 S = some q → Ki l yX8_isDay wsX8_isDay rX8_isDay D (tyW cI cZ cO) 72 a (cX cI cZ cO a) (EvX tF) [.int x0] S q := by
  refine m_Ki (cc := cX8_isDay) (nL := 1) (ret := (some .boolean)) (lv := [(0, .int x0)]) (by decide) rfl (Nat.le_of_ble_eq_true rfl) rfl ?_
  intro p e s m args below meth c hc hr hlk hE
  unfold uX8_isDay
  refine g_iload_n (j := 0) hc dX8_isDay_0 rfl rfl ?_
  refine g_if_lt (tgt := 15) hc dX8_isDay_1 (by decide) ?_ ?_
  · refine g_lv [] rfl ?_
    exact tX8_isDay_15 hc hr hlk hE S
  · refine g_iload_n (j := 0) hc dX8_isDay_4 rfl rfl ?_
    refine g_sipush (v := 9999) hc dX8_isDay_5 (by decide) ?_
    refine g_icmp_gt (tgt := 15) hc dX8_isDay_8 (by decide) ?_ ?_
    · refine g_lv [] rfl ?_
      exact tX8_isDay_15 hc hr hlk hE S
    · refine g_iconst (v := 1) hc dX8_isDay_11 (by decide) ?_
      refine g_goto (tgt := 16) hc dX8_isDay_12 (by decide) ?_
      refine g_lv [] rfl ?_
      exact tX8_isDay_16 hc hr hlk hE 1 S
set_option maxHeartbeats 4000000 in
set_option maxRecDepth 100000 in
theorem tX8_isRow_48 {p : Program} {e : Env} {s : State} {m : MethodId} {args : Array Value} {below : List Frame} {meth : Method} {c : Code} (hc : CT p s m args c cX8_isRow 4 RX8 wsX8_isRow D (tyW cI cZ cO)) (hr : meth.sig.returnType = (some .boolean)) (hlk : meth.locks = false) (hE : EvX tF (AA 72 a s.heap.size) s) (y0 : Int32) (S : St) : GF p l e rX8_isRow s m args below meth c D 72 a (cX cI cZ cO a) (AA 72 a s.heap.size) 4 0 0 (fun res => MQ below (va_Qi (fun r u => (r, u) = res) (Bw D (tyW cI cZ cO) 72 a (cX cI cZ cO a) (AA 72 a s.heap.size)) (AA 72 a s.heap.size)) args s 0 0 (AA 72 a s.heap.size)) (bX8_isRow_48 y0 S) 48 [] [.int y0] S := by
  unfold bX8_isRow_48
  exact g_zret hc hr hlk dX8_isRow_48
set_option maxHeartbeats 4000000 in
set_option maxRecDepth 100000 in
theorem tX8_isRow_27 {p : Program} {e : Env} {s : State} {m : MethodId} {args : Array Value} {below : List Frame} {meth : Method} {c : Code} (hc : CT p s m args c cX8_isRow 4 RX8 wsX8_isRow D (tyW cI cZ cO)) (hr : meth.sig.returnType = (some .boolean)) (hlk : meth.locks = false) (hE : EvX tF (AA 72 a s.heap.size) s) (S : St) : GF p l e rX8_isRow s m args below meth c D 72 a (cX cI cZ cO a) (AA 72 a s.heap.size) 4 0 0 (fun res => MQ below (va_Qi (fun r u => (r, u) = res) (Bw D (tyW cI cZ cO) 72 a (cX cI cZ cO a) (AA 72 a s.heap.size)) (AA 72 a s.heap.size)) args s 0 0 (AA 72 a s.heap.size)) (bX8_isRow_27 S) 27 [] [] S := by
  unfold bX8_isRow_27
  refine g_iconst (v := 0) hc dX8_isRow_27 (by decide) ?_
  exact g_zret hc hr hlk dX8_isRow_28
set_option maxHeartbeats 4000000 in
set_option maxRecDepth 100000 in
theorem tX8_isRow_7 {p : Program} {e : Env} {s : State} {m : MethodId} {args : Array Value} {below : List Frame} {meth : Method} {c : Code} (hc : CT p s m args c cX8_isRow 4 RX8 wsX8_isRow D (tyW cI cZ cO)) (hr : meth.sig.returnType = (some .boolean)) (hlk : meth.locks = false) (hE : EvX tF (AA 72 a s.heap.size) s) (k7 : Int32 → Int32 → Int32 → St → Option (Int32 × St)) (hk7 : ∀ (x0 : Int32) (x1 : Int32) (x2 : Int32) (S : St), GF p l e rX8_isRow s m args below meth c D 72 a (cX cI cZ cO a) (AA 72 a s.heap.size) 4 0 0 (fun res => MQ below (va_Qi (fun r u => (r, u) = res) (Bw D (tyW cI cZ cO) 72 a (cX cI cZ cO a) (AA 72 a s.heap.size)) (AA 72 a s.heap.size)) args s 0 0 (AA 72 a s.heap.size)) (k7 x0 x1 x2 S) 7 [(0, .int x0), (1, .int x1), (2, .int x2)] [] S) (x0 : Int32) (x1 : Int32) (x2 : Int32) (S : St) : GF p l e rX8_isRow s m args below meth c D 72 a (cX cI cZ cO a) (AA 72 a s.heap.size) 4 0 0 (fun res => MQ below (va_Qi (fun r u => (r, u) = res) (Bw D (tyW cI cZ cO) 72 a (cX cI cZ cO a) (AA 72 a s.heap.size)) (AA 72 a s.heap.size)) args s 0 0 (AA 72 a s.heap.size)) (bX8_isRow_7 k7 x0 x1 x2 S) 7 [(0, .int x0), (1, .int x1), (2, .int x2)] [] S := by
  unfold bX8_isRow_7
  refine g_iload_n (j := 2) hc dX8_isRow_7 rfl rfl ?_
  refine g_iload_n (j := 1) hc dX8_isRow_8 rfl rfl ?_
  refine g_icmp_ge (tgt := 35) hc dX8_isRow_9 (by decide) ?_ ?_
  · refine g_iload_n (j := 0) hc dX8_isRow_35 rfl rfl ?_
    refine g_iconst (v := 3) hc dX8_isRow_36 (by decide) ?_
    refine g_iload_n (j := 1) hc dX8_isRow_37 rfl rfl ?_
    refine g_imul hc dX8_isRow_38 ?_
    refine g_ishr hc dX8_isRow_39 ?_
    refine g_if_ne (tgt := 47) hc dX8_isRow_40 (by decide) ?_ ?_
    · refine g_iconst (v := 0) hc dX8_isRow_47 (by decide) ?_
      refine g_lv [] rfl ?_
      exact tX8_isRow_48 hc hr hlk hE 0 S
    · refine g_iconst (v := 1) hc dX8_isRow_43 (by decide) ?_
      refine g_goto (tgt := 48) hc dX8_isRow_44 (by decide) ?_
      refine g_lv [] rfl ?_
      exact tX8_isRow_48 hc hr hlk hE 1 S
  · refine g_iload_n (j := 0) hc dX8_isRow_12 rfl rfl ?_
    refine g_iload_n (j := 2) hc dX8_isRow_13 rfl rfl ?_
    refine g_callSi (As := [.int x0, .int x2]) (rest := []) hc hE trX rfl (fun _ h => mX8_dyeOf x0 x2 S _ h) (va_cwS 2 hc.1.2.2.2.2 gX8_isRow_X8_dyeOf rfl rfl rfl (by decide +kernel) ⟨by decide, by decide⟩) rfl rfl (Nat.le_of_ble_eq_true rfl) dX8_isRow_14 ⟨by decide, by decide⟩ (fun v1 S2 => ?_)
    refine g_istore_n (L := fun v3 => [(3, .int v3), (0, .int x0), (1, .int x1), (2, .int x2)]) hc dX8_isRow_17 rfl (by decide) (fun _ => rfl) (fun v3 => ?_)
    refine g_iload_n (j := 0) hc dX8_isRow_18 rfl rfl ?_
    refine g_if_lt (tgt := 27) hc dX8_isRow_19 (by decide) ?_ ?_
    · refine g_lv [] rfl ?_
      exact tX8_isRow_27 hc hr hlk hE S2
    · refine g_iload_n (j := 0) hc dX8_isRow_22 rfl rfl ?_
      refine g_iconst (v := 4) hc dX8_isRow_23 (by decide) ?_
      refine g_icmp_lt (tgt := 29) hc dX8_isRow_24 (by decide) ?_ ?_
      · refine g_iinc (j := 3) (w := x2 + 1) (L := fun v4 => [(2, .int v4), (3, .int v3), (0, .int x0), (1, .int x1)]) hc dX8_isRow_29 rfl (by rfl) (by decide) (fun _ => rfl) (fun v4 => ?_)
        refine g_goto (tgt := 7) hc dX8_isRow_32 (by decide) ?_
        refine g_lv [2, 3, 0] rfl ?_
        exact hk7 x0 x1 v4 S2
      · refine g_lv [] rfl ?_
        exact tX8_isRow_27 hc hr hlk hE S2
set_option maxHeartbeats 4000000 in
set_option maxRecDepth 100000 in
theorem TX8_isRow_7 {p : Program} {e : Env} {s : State} {m : MethodId} {args : Array Value} {below : List Frame} {meth : Method} {c : Code} (hc : CT p s m args c cX8_isRow 4 RX8 wsX8_isRow D (tyW cI cZ cO)) (hr : meth.sig.returnType = (some .boolean)) (hlk : meth.locks = false) (hE : EvX tF (AA 72 a s.heap.size) s) (n : Nat) (x0 : Int32) (x1 : Int32) (x2 : Int32) (S : St) : GF p l e rX8_isRow s m args below meth c D 72 a (cX cI cZ cO a) (AA 72 a s.heap.size) 4 0 0 (fun res => MQ below (va_Qi (fun r u => (r, u) = res) (Bw D (tyW cI cZ cO) 72 a (cX cI cZ cO a) (AA 72 a s.heap.size)) (AA 72 a s.heap.size)) args s 0 0 (AA 72 a s.heap.size)) (lX8_isRow_7 n x0 x1 x2 S) 7 [(0, .int x0), (1, .int x1), (2, .int x2)] [] S :=
  lp_ind (P := fun k : Int32 → Int32 → Int32 → St → Option (Int32 × St) => ∀ (x0 : Int32) (x1 : Int32) (x2 : Int32) (S : St), GF p l e rX8_isRow s m args below meth c D 72 a (cX cI cZ cO a) (AA 72 a s.heap.size) 4 0 0 (fun res => MQ below (va_Qi (fun r u => (r, u) = res) (Bw D (tyW cI cZ cO) 72 a (cX cI cZ cO a) (AA 72 a s.heap.size)) (AA 72 a s.heap.size)) args s 0 0 (AA 72 a s.heap.size)) (k x0 x1 x2 S) 7 [(0, .int x0), (1, .int x1), (2, .int x2)] [] S) (fun _ _ _ _ => g_none) (fun k7 hk7 => tX8_isRow_7 hc hr hlk hE k7 hk7) n x0 x1 x2 S
set_option maxHeartbeats 4000000 in
set_option maxRecDepth 100000 in
theorem mX8_isRow (x0 : Int32) (S : St) : ∀ q, uX8_isRow x0 S = some q → Ki l yX8_isRow wsX8_isRow rX8_isRow D (tyW cI cZ cO) 72 a (cX cI cZ cO a) (EvX tF) [.int x0] S q := by
  refine m_Ki (cc := cX8_isRow) (nL := 4) (ret := (some .boolean)) (lv := [(0, .int x0)]) (by decide) rfl (Nat.le_of_ble_eq_true rfl) rfl ?_
  intro p e s m args below meth c hc hr hlk hE
  unfold uX8_isRow
  refine g_iload_n (j := 0) hc dX8_isRow_0 rfl rfl ?_
  refine g_callSi (As := [.int x0]) (rest := []) hc hE trX rfl (fun _ h => mX8_bathsOf x0 S _ h) (va_cwS 1 hc.1.2.2.2.2 gX8_isRow_X8_bathsOf rfl rfl rfl (by decide +kernel) ⟨by decide, by decide⟩) rfl rfl (Nat.le_of_ble_eq_true rfl) dX8_isRow_1 ⟨by decide, by decide⟩ (fun v1 S2 => ?_)
  refine g_istore_n (L := fun v3 => [(1, .int v3), (0, .int x0)]) hc dX8_isRow_4 rfl (by decide) (fun _ => rfl) (fun v3 => ?_)
  refine g_iconst (v := 0) hc dX8_isRow_5 (by decide) ?_
  refine g_istore_n (L := fun v4 => [(2, .int v4), (1, .int v3), (0, .int x0)]) hc dX8_isRow_6 rfl (by decide) (fun _ => rfl) (fun v4 => ?_)
  refine g_lv [2, 1, 0] rfl ?_
  exact TX8_isRow_7 hc hr hlk hE FU x0 v3 v4 S2
set_option maxHeartbeats 4000000 in
set_option maxRecDepth 100000 in
theorem tX8_dye_52 {p : Program} {e : Env} {s : State} {m : MethodId} {args : Array Value} {below : List Frame} {meth : Method} {c : Code} (hc : CT p s m args c cX8_dye 6 RX8 wsX8_dye D (tyW cI cZ cO)) (hr : meth.sig.returnType = (some .int)) (hlk : meth.locks = false) (hE : EvX tF (AA 72 a s.heap.size) s) (k52 : Int32 → Int32 → Int32 → St → Option (Int32 × St)) (hk52 : ∀ (x1 : Int32) (x2 : Int32) (x3 : Int32) (S : St), GF p l e rX8_dye s m args below meth c D 72 a (cX cI cZ cO a) (AA 72 a s.heap.size) 6 0 0 (fun res => MQ below (va_Qi (fun r u => (r, u) = res) (Bw D (tyW cI cZ cO) 72 a (cX cI cZ cO a) (AA 72 a s.heap.size)) (AA 72 a s.heap.size)) args s 0 0 (AA 72 a s.heap.size)) (k52 x1 x2 x3 S) 52 [(0, .ref (a 0)), (1, .int x1), (2, .int x2), (3, .int x3)] [] S) (x1 : Int32) (x2 : Int32) (x3 : Int32) (S : St) : GF p l e rX8_dye s m args below meth c D 72 a (cX cI cZ cO a) (AA 72 a s.heap.size) 6 0 0 (fun res => MQ below (va_Qi (fun r u => (r, u) = res) (Bw D (tyW cI cZ cO) 72 a (cX cI cZ cO a) (AA 72 a s.heap.size)) (AA 72 a s.heap.size)) args s 0 0 (AA 72 a s.heap.size)) (bX8_dye_52 k52 x1 x2 x3 S) 52 [(0, .ref (a 0)), (1, .int x1), (2, .int x2), (3, .int x3)] [] S := by
  unfold bX8_dye_52
  refine g_iload_n (j := 3) hc dX8_dye_52 rfl rfl ?_
  refine g_iload_n (j := 1) hc dX8_dye_53 rfl rfl ?_
  refine g_icmp_ge (tgt := 126) hc dX8_dye_54 (by decide) ?_ ?_
  · refine g_aload_n (j := 0) hc dX8_dye_126 rfl rfl ?_
    refine g_dup hc dX8_dye_127 rfl ?_
    refine g_get (C0 := RX8) (T := TX8) (M := 9) (k := 0) (ci := 8) hc inX8_dye_X8 (by decide) rfl rfl 8 (by decide) (List.mem_of_getElem? (i := 5) rfl) rfl rfl dX8_dye_128 ?_
    refine g_iload_n (j := 1) hc dX8_dye_131 rfl rfl ?_
    refine g_iadd hc dX8_dye_132 ?_
    refine g_put (ty := .int) (C0 := RX8) (T := TX8) (M := 9) (k := 0) (ci := 8) hc locX tyX8 tyX8_ok nmX8 inX8_dye_X8 (by decide) rfl rfl 8 (by decide) (List.mem_of_getElem? (i := 5) rfl) rfl rfl (by decide +kernel) rfl rfl (Nat.le_of_ble_eq_true rfl) rfl rfl dX8_dye_133 (fun S1 => ?_)
    refine g_iload_n (j := 2) hc dX8_dye_136 rfl rfl ?_
    exact g_iret hc hr hlk dX8_dye_137
  · refine g_aload_n (j := 0) hc dX8_dye_57 rfl rfl ?_
    refine g_get (C0 := RX8) (T := TX8) (M := 9) (k := 0) (ci := 8) hc inX8_dye_X8 (by decide) rfl rfl 5 (by decide) (List.mem_of_getElem? (i := 1) rfl) rfl rfl dX8_dye_58 ?_
    refine g_callVi (As := []) (rest := []) (k := 6) (ci := 4) (q0 := (RX4, TX4, 4)) hc hE trX rfl (fun _ h => mX4_row S _ h) (cwV 0 hc.1.2.2.2.2 gX8_dye_X4_row rfl rfl rfl (by decide +kernel) ⟨by decide, by decide⟩) (by decide) rfl rfl rfl rfl (Nat.le_of_ble_eq_true rfl) dX8_dye_61 ⟨by decide, by decide⟩ (fun v2 S3 => ?_)
    refine g_iload_n (j := 3) hc dX8_dye_64 rfl rfl ?_
    refine g_callSi (As := [.int v2, .int x3]) (rest := []) hc hE trX rfl (fun _ h => mX8_dyeOf v2 x3 S3 _ h) (va_cwS 2 hc.1.2.2.2.2 gX8_dye_X8_dyeOf rfl rfl rfl (by decide +kernel) ⟨by decide, by decide⟩) rfl rfl (Nat.le_of_ble_eq_true rfl) dX8_dye_65 ⟨by decide, by decide⟩ (fun v4 S5 => ?_)
    refine g_istore (L := fun v6 => [(4, .int v6), (0, .ref (a 0)), (1, .int x1), (2, .int x2), (3, .int x3)]) hc dX8_dye_68 (by decide) (fun _ => rfl) (fun v6 => ?_)
    refine g_aload_n (j := 1) hc dX8_dye_70 rfl rfl ?_
    refine g_get (C0 := RX8) (T := TX8) (M := 9) (k := 0) (ci := 8) hc inX8_dye_X8 (by decide) rfl rfl 2 (by decide) (List.mem_of_getElem? (i := 3) rfl) rfl rfl dX8_dye_71 ?_
    refine g_aload_n (j := 1) hc dX8_dye_74 rfl rfl ?_
    refine g_get (C0 := RX8) (T := TX8) (M := 9) (k := 0) (ci := 8) hc inX8_dye_X8 (by decide) rfl rfl 5 (by decide) (List.mem_of_getElem? (i := 1) rfl) rfl rfl dX8_dye_75 ?_
    refine g_iload_n (j := 4) hc dX8_dye_78 rfl rfl ?_
    refine g_callVv (As := [.ref (a 6), .int x3]) (rest := []) (k := 3) (ci := 0) (q0 := (RX0, TX0, 7)) hc hE trX rfl (fun _ h => mX0_bindAs x3 S5 _ h) (cwV 2 hc.1.2.2.2.2 gX8_dye_X0_bindAs rfl rfl rfl (by decide +kernel) ⟨by decide, by decide⟩) (by decide) rfl rfl rfl rfl (Nat.le_of_ble_eq_true rfl) dX8_dye_79 ⟨by decide, by decide⟩ (fun S8 => ?_)
    refine g_aload_n (j := 1) hc dX8_dye_82 rfl rfl ?_
    refine g_get (C0 := RX8) (T := TX8) (M := 9) (k := 0) (ci := 8) hc inX8_dye_X8 (by decide) rfl rfl 2 (by decide) (List.mem_of_getElem? (i := 3) rfl) rfl rfl dX8_dye_83 ?_
    refine g_callVi (As := []) (rest := []) (k := 3) (ci := 0) (q0 := (RX0, TX0, 7)) hc hE trX rfl (fun _ h => mX0_takesUp S8 _ h) (cwV 0 hc.1.2.2.2.2 gX8_dye_X0_takesUp rfl rfl rfl (by decide +kernel) ⟨by decide, by decide⟩) (by decide) rfl rfl rfl rfl (Nat.le_of_ble_eq_true rfl) dX8_dye_86 ⟨by decide, by decide⟩ (fun v9 S10 => ?_)
    refine g_istore (L := fun v11 => [(5, .int v11), (4, .int v6), (0, .ref (a 0)), (1, .int x1), (2, .int x2), (3, .int x3)]) hc dX8_dye_89 (by decide) (fun _ => rfl) (fun v11 => ?_)
    refine g_aload_n (j := 2) hc dX8_dye_91 rfl rfl ?_
    refine g_get (C0 := RX8) (T := TX8) (M := 9) (k := 0) (ci := 8) hc inX8_dye_X8 (by decide) rfl rfl 1 (by decide) (List.mem_of_getElem? (i := 2) rfl) rfl rfl dX8_dye_92 ?_
    refine g_iload (j := 1) hc dX8_dye_95 rfl ?_
    refine g_iload (j := 0) hc dX8_dye_97 rfl ?_
    refine g_callVv (As := [.int v6, .int v11]) (rest := []) (k := 2) (ci := 7) (q0 := (RX7, TX7, 2)) hc hE trX rfl (fun _ h => mX7_lose v6 v11 S10 _ h) (cwV 2 hc.1.2.2.2.2 gX8_dye_X7_lose rfl rfl rfl (by decide +kernel) ⟨by decide, by decide⟩) (by decide) rfl rfl rfl rfl (Nat.le_of_ble_eq_true rfl) dX8_dye_99 ⟨by decide, by decide⟩ (fun S13 => ?_)
    refine g_aload_n (j := 2) hc dX8_dye_102 rfl rfl ?_
    refine g_get (C0 := RX8) (T := TX8) (M := 9) (k := 0) (ci := 8) hc inX8_dye_X8 (by decide) rfl rfl 2 (by decide) (List.mem_of_getElem? (i := 3) rfl) rfl rfl dX8_dye_103 ?_
    refine g_iload (j := 1) hc dX8_dye_106 rfl ?_
    refine g_aload_n (j := 2) hc dX8_dye_108 rfl rfl ?_
    refine g_get (C0 := RX8) (T := TX8) (M := 9) (k := 0) (ci := 8) hc inX8_dye_X8 (by decide) rfl rfl 0 (by decide) (List.mem_of_getElem? (i := 4) rfl) rfl rfl dX8_dye_109 ?_
    refine g_callVv (As := [.int v6, .ref (a 1)]) (rest := []) (k := 3) (ci := 0) (q0 := (RX0, TX0, 7)) hc hE trX rfl (fun _ h => mX0_dip v6 S13 _ h) (cwV 2 hc.1.2.2.2.2 gX8_dye_X0_dip rfl rfl rfl (by decide +kernel) ⟨by decide, by decide⟩) (by decide) rfl rfl rfl rfl (Nat.le_of_ble_eq_true rfl) dX8_dye_112 ⟨by decide, by decide⟩ (fun S15 => ?_)
    refine g_iload_n (j := 4) hc dX8_dye_115 rfl rfl ?_
    refine g_iload (j := 0) hc dX8_dye_116 rfl ?_
    refine g_iadd hc dX8_dye_118 ?_
    refine g_istore_n (L := fun v16 => [(2, .int v16), (5, .int v11), (4, .int v6), (0, .ref (a 0)), (1, .int x1), (3, .int x3)]) hc dX8_dye_119 rfl (by decide) (fun _ => rfl) (fun v16 => ?_)
    refine g_iinc (j := 5) (w := x3 + 1) (L := fun v17 => [(3, .int v17), (2, .int v16), (5, .int v11), (4, .int v6), (0, .ref (a 0)), (1, .int x1)]) hc dX8_dye_120 rfl (by rfl) (by decide) (fun _ => rfl) (fun v17 => ?_)
    refine g_goto (tgt := 52) hc dX8_dye_123 (by decide) ?_
    refine g_lv [4, 5, 1, 0] rfl ?_
    exact hk52 x1 v16 v17 S15
set_option maxHeartbeats 4000000 in
set_option maxRecDepth 100000 in
theorem TX8_dye_52 {p : Program} {e : Env} {s : State} {m : MethodId} {args : Array Value} {below : List Frame} {meth : Method} {c : Code} (hc : CT p s m args c cX8_dye 6 RX8 wsX8_dye D (tyW cI cZ cO)) (hr : meth.sig.returnType = (some .int)) (hlk : meth.locks = false) (hE : EvX tF (AA 72 a s.heap.size) s) (n : Nat) (x1 : Int32) (x2 : Int32) (x3 : Int32) (S : St) : GF p l e rX8_dye s m args below meth c D 72 a (cX cI cZ cO a) (AA 72 a s.heap.size) 6 0 0 (fun res => MQ below (va_Qi (fun r u => (r, u) = res) (Bw D (tyW cI cZ cO) 72 a (cX cI cZ cO a) (AA 72 a s.heap.size)) (AA 72 a s.heap.size)) args s 0 0 (AA 72 a s.heap.size)) (lX8_dye_52 n x1 x2 x3 S) 52 [(0, .ref (a 0)), (1, .int x1), (2, .int x2), (3, .int x3)] [] S :=
  lp_ind (P := fun k : Int32 → Int32 → Int32 → St → Option (Int32 × St) => ∀ (x1 : Int32) (x2 : Int32) (x3 : Int32) (S : St), GF p l e rX8_dye s m args below meth c D 72 a (cX cI cZ cO a) (AA 72 a s.heap.size) 6 0 0 (fun res => MQ below (va_Qi (fun r u => (r, u) = res) (Bw D (tyW cI cZ cO) 72 a (cX cI cZ cO a) (AA 72 a s.heap.size)) (AA 72 a s.heap.size)) args s 0 0 (AA 72 a s.heap.size)) (k x1 x2 x3 S) 52 [(0, .ref (a 0)), (1, .int x1), (2, .int x2), (3, .int x3)] [] S) (fun _ _ _ _ => g_none) (fun k52 hk52 => tX8_dye_52 hc hr hlk hE k52 hk52) n x1 x2 x3 S
set_option maxHeartbeats 4000000 in
set_option maxRecDepth 100000 in
theorem tX8_dye_28 {p : Program} {e : Env} {s : State} {m : MethodId} {args : Array Value} {below : List Frame} {meth : Method} {c : Code} (hc : CT p s m args c cX8_dye 6 RX8 wsX8_dye D (tyW cI cZ cO)) (hr : meth.sig.returnType = (some .int)) (hlk : meth.locks = false) (hE : EvX tF (AA 72 a s.heap.size) s) (S : St) : GF p l e rX8_dye s m args below meth c D 72 a (cX cI cZ cO a) (AA 72 a s.heap.size) 6 0 0 (fun res => MQ below (va_Qi (fun r u => (r, u) = res) (Bw D (tyW cI cZ cO) 72 a (cX cI cZ cO a) (AA 72 a s.heap.size)) (AA 72 a s.heap.size)) args s 0 0 (AA 72 a s.heap.size)) (bX8_dye_28 S) 28 [] [] S := by
  unfold bX8_dye_28
  refine g_iconst (v := -1) hc dX8_dye_28 (by decide) ?_
  exact g_iret hc hr hlk dX8_dye_29
set_option maxHeartbeats 4000000 in
set_option maxRecDepth 100000 in
theorem mX8_dye (S : St) : ∀ q, uX8_dye S = some q → Ki l yX8_dye wsX8_dye rX8_dye D (tyW cI cZ cO) 72 a (cX cI cZ cO a) (EvX tF) [.ref (a 0)] S q := by
  refine m_Ki (cc := cX8_dye) (nL := 6) (ret := (some .int)) (lv := [(0, .ref (a 0))]) (by decide) rfl (Nat.le_of_ble_eq_true rfl) rfl ?_
  intro p e s m args below meth c hc hr hlk hE
  unfold uX8_dye
  refine g_aload_n (j := 0) hc dX8_dye_0 rfl rfl ?_
  refine g_get (C0 := RX8) (T := TX8) (M := 9) (k := 0) (ci := 8) hc inX8_dye_X8 (by decide) rfl rfl 5 (by decide) (List.mem_of_getElem? (i := 1) rfl) rfl rfl dX8_dye_1 ?_
  refine g_callVi (As := []) (rest := []) (k := 6) (ci := 4) (q0 := (RX4, TX4, 4)) hc hE trX rfl (fun _ h => mX4_exists S _ h) (cwV 0 hc.1.2.2.2.2 gX8_dye_X4_exists rfl rfl rfl (by decide +kernel) ⟨by decide, by decide⟩) (by decide) rfl rfl rfl rfl (Nat.le_of_ble_eq_true rfl) dX8_dye_4 ⟨by decide, by decide⟩ (fun v1 S2 => ?_)
  refine g_if_eq (tgt := 28) hc dX8_dye_7 (by decide) ?_ ?_
  · refine g_lv [] rfl ?_
    exact tX8_dye_28 hc hr hlk hE S2
  · refine g_aload_n (j := 0) hc dX8_dye_10 rfl rfl ?_
    refine g_get (C0 := RX8) (T := TX8) (M := 9) (k := 0) (ci := 8) hc inX8_dye_X8 (by decide) rfl rfl 1 (by decide) (List.mem_of_getElem? (i := 2) rfl) rfl rfl dX8_dye_11 ?_
    refine g_aload_n (j := 0) hc dX8_dye_14 rfl rfl ?_
    refine g_get (C0 := RX8) (T := TX8) (M := 9) (k := 0) (ci := 8) hc inX8_dye_X8 (by decide) rfl rfl 5 (by decide) (List.mem_of_getElem? (i := 1) rfl) rfl rfl dX8_dye_15 ?_
    refine g_aload_n (j := 0) hc dX8_dye_18 rfl rfl ?_
    refine g_get (C0 := RX8) (T := TX8) (M := 9) (k := 0) (ci := 8) hc inX8_dye_X8 (by decide) rfl rfl 2 (by decide) (List.mem_of_getElem? (i := 3) rfl) rfl rfl dX8_dye_19 ?_
    refine g_callVi (As := [.ref (a 6), .ref (a 3)]) (rest := []) (k := 2) (ci := 7) (q0 := (RX7, TX7, 2)) hc hE trX rfl (fun _ h => mX7_sufficeFor S2 _ h) (cwV 2 hc.1.2.2.2.2 gX8_dye_X7_sufficeFor rfl rfl rfl (by decide +kernel) ⟨by decide, by decide⟩) (by decide) rfl rfl rfl rfl (Nat.le_of_ble_eq_true rfl) dX8_dye_22 ⟨by decide, by decide⟩ (fun v3 S4 => ?_)
    refine g_if_ne (tgt := 30) hc dX8_dye_25 (by decide) ?_ ?_
    · refine g_aload_n (j := 0) hc dX8_dye_30 rfl rfl ?_
      refine g_get (C0 := RX8) (T := TX8) (M := 9) (k := 0) (ci := 8) hc inX8_dye_X8 (by decide) rfl rfl 5 (by decide) (List.mem_of_getElem? (i := 1) rfl) rfl rfl dX8_dye_31 ?_
      refine g_callVi (As := []) (rest := []) (k := 6) (ci := 4) (q0 := (RX4, TX4, 4)) hc hE trX rfl (fun _ h => mX4_row S4 _ h) (cwV 0 hc.1.2.2.2.2 gX8_dye_X4_row rfl rfl rfl (by decide +kernel) ⟨by decide, by decide⟩) (by decide) rfl rfl rfl rfl (Nat.le_of_ble_eq_true rfl) dX8_dye_34 ⟨by decide, by decide⟩ (fun v5 S6 => ?_)
      refine g_callSi (As := [.int v5]) (rest := []) hc hE trX rfl (fun _ h => mX8_bathsOf v5 S6 _ h) (va_cwS 1 hc.1.2.2.2.2 gX8_dye_X8_bathsOf rfl rfl rfl (by decide +kernel) ⟨by decide, by decide⟩) rfl rfl (Nat.le_of_ble_eq_true rfl) dX8_dye_37 ⟨by decide, by decide⟩ (fun v7 S8 => ?_)
      refine g_istore_n (L := fun v9 => [(1, .int v9), (0, .ref (a 0))]) hc dX8_dye_40 rfl (by decide) (fun _ => rfl) (fun v9 => ?_)
      refine g_iconst (v := 0) hc dX8_dye_41 (by decide) ?_
      refine g_istore_n (L := fun v10 => [(2, .int v10), (1, .int v9), (0, .ref (a 0))]) hc dX8_dye_42 rfl (by decide) (fun _ => rfl) (fun v10 => ?_)
      refine g_aload_n (j := 2) hc dX8_dye_43 rfl rfl ?_
      refine g_get (C0 := RX8) (T := TX8) (M := 9) (k := 0) (ci := 8) hc inX8_dye_X8 (by decide) rfl rfl 2 (by decide) (List.mem_of_getElem? (i := 3) rfl) rfl rfl dX8_dye_44 ?_
      refine g_callVv (As := []) (rest := []) (k := 3) (ci := 0) (q0 := (RX0, TX0, 7)) hc hE trX rfl (fun _ h => mX0_wash S8 _ h) (cwV 0 hc.1.2.2.2.2 gX8_dye_X0_wash rfl rfl rfl (by decide +kernel) ⟨by decide, by decide⟩) (by decide) rfl rfl rfl rfl (Nat.le_of_ble_eq_true rfl) dX8_dye_47 ⟨by decide, by decide⟩ (fun S12 => ?_)
      refine g_iconst (v := 0) hc dX8_dye_50 (by decide) ?_
      refine g_istore_n (L := fun v13 => [(3, .int v13), (2, .int v10), (1, .int v9), (0, .ref (a 0))]) hc dX8_dye_51 rfl (by decide) (fun _ => rfl) (fun v13 => ?_)
      refine g_lv [3, 2, 1, 0] rfl ?_
      exact TX8_dye_52 hc hr hlk hE FU v9 v10 v13 S12
    · refine g_lv [] rfl ?_
      exact tX8_dye_28 hc hr hlk hE S4
set_option maxHeartbeats 4000000 in
set_option maxRecDepth 100000 in
theorem tX8_blurred_58 {p : Program} {e : Env} {s : State} {m : MethodId} {args : Array Value} {below : List Frame} {meth : Method} {c : Code} (hc : CT p s m args c cX8_blurred 4 RX8 wsX8_blurred D (tyW cI cZ cO)) (hr : meth.sig.returnType = (some .int)) (hlk : meth.locks = false) (hE : EvX tF (AA 72 a s.heap.size) s) (k4 : Int32 → Int32 → St → Option (Int32 × St)) (hk4 : ∀ (x1 : Int32) (x2 : Int32) (S : St), GF p l e rX8_blurred s m args below meth c D 72 a (cX cI cZ cO a) (AA 72 a s.heap.size) 4 0 0 (fun res => MQ below (va_Qi (fun r u => (r, u) = res) (Bw D (tyW cI cZ cO) 72 a (cX cI cZ cO a) (AA 72 a s.heap.size)) (AA 72 a s.heap.size)) args s 0 0 (AA 72 a s.heap.size)) (k4 x1 x2 S) 4 [(0, .ref (a 0)), (1, .int x1), (2, .int x2)] [] S) (k17 : Int32 → Int32 → Int32 → St → Option (Int32 × St)) (hk17 : ∀ (x1 : Int32) (x2 : Int32) (x3 : Int32) (S : St), GF p l e rX8_blurred s m args below meth c D 72 a (cX cI cZ cO a) (AA 72 a s.heap.size) 4 0 0 (fun res => MQ below (va_Qi (fun r u => (r, u) = res) (Bw D (tyW cI cZ cO) 72 a (cX cI cZ cO a) (AA 72 a s.heap.size)) (AA 72 a s.heap.size)) args s 0 0 (AA 72 a s.heap.size)) (k17 x1 x2 x3 S) 17 [(0, .ref (a 0)), (1, .int x1), (2, .int x2), (3, .int x3)] [] S) (x1 : Int32) (x2 : Int32) (x3 : Int32) (S : St) : GF p l e rX8_blurred s m args below meth c D 72 a (cX cI cZ cO a) (AA 72 a s.heap.size) 4 0 0 (fun res => MQ below (va_Qi (fun r u => (r, u) = res) (Bw D (tyW cI cZ cO) 72 a (cX cI cZ cO a) (AA 72 a s.heap.size)) (AA 72 a s.heap.size)) args s 0 0 (AA 72 a s.heap.size)) (bX8_blurred_58 k4 k17 x1 x2 x3 S) 58 [(0, .ref (a 0)), (1, .int x1), (2, .int x2), (3, .int x3)] [] S := by
  unfold bX8_blurred_58
  refine g_iinc (j := 3) (w := x3 + 1) (L := fun v1 => [(3, .int v1), (0, .ref (a 0)), (1, .int x1), (2, .int x2)]) hc dX8_blurred_58 rfl (by rfl) (by decide) (fun _ => rfl) (fun v1 => ?_)
  refine g_goto (tgt := 17) hc dX8_blurred_61 (by decide) ?_
  refine g_lv [1, 2, 3, 0] rfl ?_
  exact hk17 x1 x2 v1 S
set_option maxHeartbeats 4000000 in
set_option maxRecDepth 100000 in
theorem tX8_blurred_17 {p : Program} {e : Env} {s : State} {m : MethodId} {args : Array Value} {below : List Frame} {meth : Method} {c : Code} (hc : CT p s m args c cX8_blurred 4 RX8 wsX8_blurred D (tyW cI cZ cO)) (hr : meth.sig.returnType = (some .int)) (hlk : meth.locks = false) (hE : EvX tF (AA 72 a s.heap.size) s) (k4 : Int32 → Int32 → St → Option (Int32 × St)) (hk4 : ∀ (x1 : Int32) (x2 : Int32) (S : St), GF p l e rX8_blurred s m args below meth c D 72 a (cX cI cZ cO a) (AA 72 a s.heap.size) 4 0 0 (fun res => MQ below (va_Qi (fun r u => (r, u) = res) (Bw D (tyW cI cZ cO) 72 a (cX cI cZ cO a) (AA 72 a s.heap.size)) (AA 72 a s.heap.size)) args s 0 0 (AA 72 a s.heap.size)) (k4 x1 x2 S) 4 [(0, .ref (a 0)), (1, .int x1), (2, .int x2)] [] S) (k17 : Int32 → Int32 → Int32 → St → Option (Int32 × St)) (hk17 : ∀ (x1 : Int32) (x2 : Int32) (x3 : Int32) (S : St), GF p l e rX8_blurred s m args below meth c D 72 a (cX cI cZ cO a) (AA 72 a s.heap.size) 4 0 0 (fun res => MQ below (va_Qi (fun r u => (r, u) = res) (Bw D (tyW cI cZ cO) 72 a (cX cI cZ cO a) (AA 72 a s.heap.size)) (AA 72 a s.heap.size)) args s 0 0 (AA 72 a s.heap.size)) (k17 x1 x2 x3 S) 17 [(0, .ref (a 0)), (1, .int x1), (2, .int x2), (3, .int x3)] [] S) (x1 : Int32) (x2 : Int32) (x3 : Int32) (S : St) : GF p l e rX8_blurred s m args below meth c D 72 a (cX cI cZ cO a) (AA 72 a s.heap.size) 4 0 0 (fun res => MQ below (va_Qi (fun r u => (r, u) = res) (Bw D (tyW cI cZ cO) 72 a (cX cI cZ cO a) (AA 72 a s.heap.size)) (AA 72 a s.heap.size)) args s 0 0 (AA 72 a s.heap.size)) (bX8_blurred_17 k4 k17 x1 x2 x3 S) 17 [(0, .ref (a 0)), (1, .int x1), (2, .int x2), (3, .int x3)] [] S := by
  unfold bX8_blurred_17
  refine g_iload_n (j := 3) hc dX8_blurred_17 rfl rfl ?_
  refine g_aload_n (j := 0) hc dX8_blurred_18 rfl rfl ?_
  refine g_get (C0 := RX8) (T := TX8) (M := 9) (k := 0) (ci := 8) hc inX8_blurred_X8 (by decide) rfl rfl 2 (by decide) (List.mem_of_getElem? (i := 1) rfl) rfl rfl dX8_blurred_19 ?_
  refine g_callVi (As := []) (rest := [.int x3]) (k := 3) (ci := 0) (q0 := (RX0, TX0, 7)) hc hE trX rfl (fun _ h => mX0_places S _ h) (cwV 0 hc.1.2.2.2.2 gX8_blurred_X0_places rfl rfl rfl (by decide +kernel) ⟨by decide, by decide⟩) (by decide) rfl rfl rfl rfl (Nat.le_of_ble_eq_true rfl) dX8_blurred_22 ⟨by decide, by decide⟩ (fun v1 S2 => ?_)
  refine g_icmp_ge (tgt := 64) hc dX8_blurred_25 (by decide) ?_ ?_
  · refine g_iinc (j := 2) (w := x2 + 1) (L := fun v3 => [(2, .int v3), (0, .ref (a 0)), (1, .int x1), (3, .int x3)]) hc dX8_blurred_64 rfl (by rfl) (by decide) (fun _ => rfl) (fun v3 => ?_)
    refine g_goto (tgt := 4) hc dX8_blurred_67 (by decide) ?_
    refine g_lv [1, 2, 0] rfl ?_
    exact hk4 x1 v3 S2
  · refine g_aload_n (j := 0) hc dX8_blurred_28 rfl rfl ?_
    refine g_get (C0 := RX8) (T := TX8) (M := 9) (k := 0) (ci := 8) hc inX8_blurred_X8 (by decide) rfl rfl 6 (by decide) (List.mem_of_getElem? (i := 2) rfl) rfl rfl dX8_blurred_29 ?_
    refine g_iload_n (j := 2) hc dX8_blurred_32 rfl rfl ?_
    refine g_iload_n (j := 3) hc dX8_blurred_33 rfl rfl ?_
    refine g_aload_n (j := 0) hc dX8_blurred_34 rfl rfl ?_
    refine g_get (C0 := RX8) (T := TX8) (M := 9) (k := 0) (ci := 8) hc inX8_blurred_X8 (by decide) rfl rfl 2 (by decide) (List.mem_of_getElem? (i := 1) rfl) rfl rfl dX8_blurred_35 ?_
    refine g_callVi (As := [.int x2, .int x3, .ref (a 3)]) (rest := []) (k := 7) (ci := 6) (q0 := (RX6, TX6, 2)) hc hE trX rfl (fun _ h => mX6_showsAt x2 x3 S2 _ h) (cwV 3 hc.1.2.2.2.2 gX8_blurred_X6_showsAt rfl rfl rfl (by decide +kernel) ⟨by decide, by decide⟩) (by decide) rfl rfl rfl rfl (Nat.le_of_ble_eq_true rfl) dX8_blurred_38 ⟨by decide, by decide⟩ (fun v4 S5 => ?_)
    refine g_iconst (v := 1) hc dX8_blurred_41 (by decide) ?_
    refine g_aload_n (j := 0) hc dX8_blurred_42 rfl rfl ?_
    refine g_get (C0 := RX8) (T := TX8) (M := 9) (k := 0) (ci := 8) hc inX8_blurred_X8 (by decide) rfl rfl 3 (by decide) (List.mem_of_getElem? (i := 3) rfl) rfl rfl dX8_blurred_43 ?_
    refine g_iload_n (j := 2) hc dX8_blurred_46 rfl rfl ?_
    refine g_iload_n (j := 3) hc dX8_blurred_47 rfl rfl ?_
    refine g_callVi (As := [.int x2, .int x3]) (rest := [.int 1, .int v4]) (k := 4) (ci := 3) (q0 := (RX3, TX3, 1)) hc hE trX rfl (fun _ h => mX3_wantedAt x2 x3 S5 _ h) (cwV 2 hc.1.2.2.2.2 gX8_blurred_X3_wantedAt rfl rfl rfl (by decide +kernel) ⟨by decide, by decide⟩) (by decide) rfl rfl rfl rfl (Nat.le_of_ble_eq_true rfl) dX8_blurred_48 ⟨by decide, by decide⟩ (fun v6 S7 => ?_)
    refine g_ishl hc dX8_blurred_51 ?_
    refine g_icmp_eq (tgt := 58) hc dX8_blurred_52 (by decide) ?_ ?_
    · exact tX8_blurred_58 hc hr hlk hE k4 hk4 k17 hk17 x1 x2 x3 S7
    · refine g_iinc (j := 1) (w := x1 + 1) (L := fun v8 => [(1, .int v8), (0, .ref (a 0)), (2, .int x2), (3, .int x3)]) hc dX8_blurred_55 rfl (by rfl) (by decide) (fun _ => rfl) (fun v8 => ?_)
      refine g_lv [1, 0, 2, 3] rfl ?_
      exact tX8_blurred_58 hc hr hlk hE k4 hk4 k17 hk17 v8 x2 x3 S7
set_option maxHeartbeats 4000000 in
set_option maxRecDepth 100000 in
theorem TX8_blurred_17 {p : Program} {e : Env} {s : State} {m : MethodId} {args : Array Value} {below : List Frame} {meth : Method} {c : Code} (hc : CT p s m args c cX8_blurred 4 RX8 wsX8_blurred D (tyW cI cZ cO)) (hr : meth.sig.returnType = (some .int)) (hlk : meth.locks = false) (hE : EvX tF (AA 72 a s.heap.size) s) (k4 : Int32 → Int32 → St → Option (Int32 × St)) (hk4 : ∀ (x1 : Int32) (x2 : Int32) (S : St), GF p l e rX8_blurred s m args below meth c D 72 a (cX cI cZ cO a) (AA 72 a s.heap.size) 4 0 0 (fun res => MQ below (va_Qi (fun r u => (r, u) = res) (Bw D (tyW cI cZ cO) 72 a (cX cI cZ cO a) (AA 72 a s.heap.size)) (AA 72 a s.heap.size)) args s 0 0 (AA 72 a s.heap.size)) (k4 x1 x2 S) 4 [(0, .ref (a 0)), (1, .int x1), (2, .int x2)] [] S) (n : Nat) (x1 : Int32) (x2 : Int32) (x3 : Int32) (S : St) : GF p l e rX8_blurred s m args below meth c D 72 a (cX cI cZ cO a) (AA 72 a s.heap.size) 4 0 0 (fun res => MQ below (va_Qi (fun r u => (r, u) = res) (Bw D (tyW cI cZ cO) 72 a (cX cI cZ cO a) (AA 72 a s.heap.size)) (AA 72 a s.heap.size)) args s 0 0 (AA 72 a s.heap.size)) (lX8_blurred_17 k4 n x1 x2 x3 S) 17 [(0, .ref (a 0)), (1, .int x1), (2, .int x2), (3, .int x3)] [] S :=
  lp_ind (P := fun k : Int32 → Int32 → Int32 → St → Option (Int32 × St) => ∀ (x1 : Int32) (x2 : Int32) (x3 : Int32) (S : St), GF p l e rX8_blurred s m args below meth c D 72 a (cX cI cZ cO a) (AA 72 a s.heap.size) 4 0 0 (fun res => MQ below (va_Qi (fun r u => (r, u) = res) (Bw D (tyW cI cZ cO) 72 a (cX cI cZ cO a) (AA 72 a s.heap.size)) (AA 72 a s.heap.size)) args s 0 0 (AA 72 a s.heap.size)) (k x1 x2 x3 S) 17 [(0, .ref (a 0)), (1, .int x1), (2, .int x2), (3, .int x3)] [] S) (fun _ _ _ _ => g_none) (fun k17 hk17 => tX8_blurred_17 hc hr hlk hE k4 hk4 k17 hk17) n x1 x2 x3 S
set_option maxHeartbeats 4000000 in
set_option maxRecDepth 100000 in
theorem tX8_blurred_4 {p : Program} {e : Env} {s : State} {m : MethodId} {args : Array Value} {below : List Frame} {meth : Method} {c : Code} (hc : CT p s m args c cX8_blurred 4 RX8 wsX8_blurred D (tyW cI cZ cO)) (hr : meth.sig.returnType = (some .int)) (hlk : meth.locks = false) (hE : EvX tF (AA 72 a s.heap.size) s) (k4 : Int32 → Int32 → St → Option (Int32 × St)) (hk4 : ∀ (x1 : Int32) (x2 : Int32) (S : St), GF p l e rX8_blurred s m args below meth c D 72 a (cX cI cZ cO a) (AA 72 a s.heap.size) 4 0 0 (fun res => MQ below (va_Qi (fun r u => (r, u) = res) (Bw D (tyW cI cZ cO) 72 a (cX cI cZ cO a) (AA 72 a s.heap.size)) (AA 72 a s.heap.size)) args s 0 0 (AA 72 a s.heap.size)) (k4 x1 x2 S) 4 [(0, .ref (a 0)), (1, .int x1), (2, .int x2)] [] S) (x1 : Int32) (x2 : Int32) (S : St) : GF p l e rX8_blurred s m args below meth c D 72 a (cX cI cZ cO a) (AA 72 a s.heap.size) 4 0 0 (fun res => MQ below (va_Qi (fun r u => (r, u) = res) (Bw D (tyW cI cZ cO) 72 a (cX cI cZ cO a) (AA 72 a s.heap.size)) (AA 72 a s.heap.size)) args s 0 0 (AA 72 a s.heap.size)) (bX8_blurred_4 k4 x1 x2 S) 4 [(0, .ref (a 0)), (1, .int x1), (2, .int x2)] [] S := by
  unfold bX8_blurred_4
  refine g_iload_n (j := 2) hc dX8_blurred_4 rfl rfl ?_
  refine g_aload_n (j := 0) hc dX8_blurred_5 rfl rfl ?_
  refine g_get (C0 := RX8) (T := TX8) (M := 9) (k := 0) (ci := 8) hc inX8_blurred_X8 (by decide) rfl rfl 2 (by decide) (List.mem_of_getElem? (i := 1) rfl) rfl rfl dX8_blurred_6 ?_
  refine g_callVi (As := []) (rest := [.int x2]) (k := 3) (ci := 0) (q0 := (RX0, TX0, 7)) hc hE trX rfl (fun _ h => mX0_threads S _ h) (cwV 0 hc.1.2.2.2.2 gX8_blurred_X0_threads rfl rfl rfl (by decide +kernel) ⟨by decide, by decide⟩) (by decide) rfl rfl rfl rfl (Nat.le_of_ble_eq_true rfl) dX8_blurred_9 ⟨by decide, by decide⟩ (fun v1 S2 => ?_)
  refine g_icmp_ge (tgt := 70) hc dX8_blurred_12 (by decide) ?_ ?_
  · refine g_iload_n (j := 1) hc dX8_blurred_70 rfl rfl ?_
    exact g_iret hc hr hlk dX8_blurred_71
  · refine g_iconst (v := 0) hc dX8_blurred_15 (by decide) ?_
    refine g_istore_n (L := fun v3 => [(3, .int v3), (0, .ref (a 0)), (1, .int x1), (2, .int x2)]) hc dX8_blurred_16 rfl (by decide) (fun _ => rfl) (fun v3 => ?_)
    refine g_lv [1, 2, 3, 0] rfl ?_
    exact TX8_blurred_17 hc hr hlk hE k4 hk4 FU x1 x2 v3 S2
set_option maxHeartbeats 4000000 in
set_option maxRecDepth 100000 in
theorem TX8_blurred_4 {p : Program} {e : Env} {s : State} {m : MethodId} {args : Array Value} {below : List Frame} {meth : Method} {c : Code} (hc : CT p s m args c cX8_blurred 4 RX8 wsX8_blurred D (tyW cI cZ cO)) (hr : meth.sig.returnType = (some .int)) (hlk : meth.locks = false) (hE : EvX tF (AA 72 a s.heap.size) s) (n : Nat) (x1 : Int32) (x2 : Int32) (S : St) : GF p l e rX8_blurred s m args below meth c D 72 a (cX cI cZ cO a) (AA 72 a s.heap.size) 4 0 0 (fun res => MQ below (va_Qi (fun r u => (r, u) = res) (Bw D (tyW cI cZ cO) 72 a (cX cI cZ cO a) (AA 72 a s.heap.size)) (AA 72 a s.heap.size)) args s 0 0 (AA 72 a s.heap.size)) (lX8_blurred_4 n x1 x2 S) 4 [(0, .ref (a 0)), (1, .int x1), (2, .int x2)] [] S :=
  lp_ind (P := fun k : Int32 → Int32 → St → Option (Int32 × St) => ∀ (x1 : Int32) (x2 : Int32) (S : St), GF p l e rX8_blurred s m args below meth c D 72 a (cX cI cZ cO a) (AA 72 a s.heap.size) 4 0 0 (fun res => MQ below (va_Qi (fun r u => (r, u) = res) (Bw D (tyW cI cZ cO) 72 a (cX cI cZ cO a) (AA 72 a s.heap.size)) (AA 72 a s.heap.size)) args s 0 0 (AA 72 a s.heap.size)) (k x1 x2 S) 4 [(0, .ref (a 0)), (1, .int x1), (2, .int x2)] [] S) (fun _ _ _ => g_none) (fun k4 hk4 => tX8_blurred_4 hc hr hlk hE k4 hk4) n x1 x2 S
set_option maxHeartbeats 4000000 in
set_option maxRecDepth 100000 in
theorem mX8_blurred (S : St) : ∀ q, uX8_blurred S = some q → Ki l yX8_blurred wsX8_blurred rX8_blurred D (tyW cI cZ cO) 72 a (cX cI cZ cO a) (EvX tF) [.ref (a 0)] S q := by
  refine m_Ki (cc := cX8_blurred) (nL := 4) (ret := (some .int)) (lv := [(0, .ref (a 0))]) (by decide) rfl (Nat.le_of_ble_eq_true rfl) rfl ?_
  intro p e s m args below meth c hc hr hlk hE
  unfold uX8_blurred
  refine g_iconst (v := 0) hc dX8_blurred_0 (by decide) ?_
  refine g_istore_n (L := fun v1 => [(1, .int v1), (0, .ref (a 0))]) hc dX8_blurred_1 rfl (by decide) (fun _ => rfl) (fun v1 => ?_)
  refine g_iconst (v := 0) hc dX8_blurred_2 (by decide) ?_
  refine g_istore_n (L := fun v2 => [(2, .int v2), (1, .int v1), (0, .ref (a 0))]) hc dX8_blurred_3 rfl (by decide) (fun _ => rfl) (fun v2 => ?_)
  refine g_lv [2, 1, 0] rfl ?_
  exact TX8_blurred_4 hc hr hlk hE FU v1 v2 S
set_option maxHeartbeats 4000000 in
set_option maxRecDepth 100000 in
theorem tX8_law_36 {p : Program} {e : Env} {s : State} {m : MethodId} {args : Array Value} {below : List Frame} {meth : Method} {c : Code} (hc : CT p s m args c cX8_law 4 RX8 wsX8_law D (tyW cI cZ cO)) (hr : meth.sig.returnType = (some .int)) (hlk : meth.locks = false) (hE : EvX tF (AA 72 a s.heap.size) s) (S : St) : GF p l e rX8_law s m args below meth c D 72 a (cX cI cZ cO a) (AA 72 a s.heap.size) 4 0 0 (fun res => MQ below (va_Qi (fun r u => (r, u) = res) (Bw D (tyW cI cZ cO) 72 a (cX cI cZ cO a) (AA 72 a s.heap.size)) (AA 72 a s.heap.size)) args s 0 0 (AA 72 a s.heap.size)) (bX8_law_36 S) 36 [] [] S := by
  unfold bX8_law_36
  refine g_iconst (v := -1) hc dX8_law_36 (by decide) ?_
  exact g_iret hc hr hlk dX8_law_37
set_option maxHeartbeats 4000000 in
set_option maxRecDepth 100000 in
theorem mX8_law (x1 : Int32) (x2 : Int32) (x3 : Int32) (S : St) : ∀ q, uX8_law x1 x2 x3 S = some q → Ki l yX8_law wsX8_law rX8_law D (tyW cI cZ cO) 72 a (cX cI cZ cO a) (EvX tF) [.ref (a 0), .int x1, .int x2, .int x3] S q := by
  refine m_Ki (cc := cX8_law) (nL := 4) (ret := (some .int)) (lv := [(0, .ref (a 0)), (1, .int x1), (2, .int x2), (3, .int x3)]) (by decide) rfl (Nat.le_of_ble_eq_true rfl) rfl ?_
  intro p e s m args below meth c hc hr hlk hE
  unfold uX8_law
  refine g_aload_n (j := 0) hc dX8_law_0 rfl rfl ?_
  refine g_get (C0 := RX8) (T := TX8) (M := 9) (k := 0) (ci := 8) hc inX8_law_X8 (by decide) rfl rfl 7 (by decide) (List.mem_of_getElem? (i := 1) rfl) rfl rfl dX8_law_1 ?_
  refine g_callVi (As := []) (rest := []) (k := 8) (ci := 1) (q0 := (RX1, TX1, 4)) hc hE trX rfl (fun _ h => mX1_size S _ h) (cwV 0 hc.1.2.2.2.2 gX8_law_X1_size rfl rfl rfl (by decide +kernel) ⟨by decide, by decide⟩) (by decide) rfl rfl rfl rfl (Nat.le_of_ble_eq_true rfl) dX8_law_4 ⟨by decide, by decide⟩ (fun v1 S2 => ?_)
  refine g_bipush (v := 60) hc dX8_law_7 (by decide) ?_
  refine g_icmp_ge (tgt := 36) hc dX8_law_9 (by decide) ?_ ?_
  · refine g_lv [] rfl ?_
    exact tX8_law_36 hc hr hlk hE S2
  · refine g_iload_n (j := 1) hc dX8_law_12 rfl rfl ?_
    refine g_callSi (As := [.int x1]) (rest := []) hc hE trX rfl (fun _ h => mX8_isDay x1 S2 _ h) (va_cwS 1 hc.1.2.2.2.2 gX8_law_X8_isDay rfl rfl rfl (by decide +kernel) ⟨by decide, by decide⟩) rfl rfl (Nat.le_of_ble_eq_true rfl) dX8_law_13 ⟨by decide, by decide⟩ (fun v3 S4 => ?_)
    refine g_if_eq (tgt := 36) hc dX8_law_16 (by decide) ?_ ?_
    · refine g_lv [] rfl ?_
      exact tX8_law_36 hc hr hlk hE S4
    · refine g_iload_n (j := 2) hc dX8_law_19 rfl rfl ?_
      refine g_callSi (As := [.int x2]) (rest := []) hc hE trX rfl (fun _ h => mX8_isColour x2 S4 _ h) (va_cwS 1 hc.1.2.2.2.2 gX8_law_X8_isColour rfl rfl rfl (by decide +kernel) ⟨by decide, by decide⟩) rfl rfl (Nat.le_of_ble_eq_true rfl) dX8_law_20 ⟨by decide, by decide⟩ (fun v5 S6 => ?_)
      refine g_if_eq (tgt := 36) hc dX8_law_23 (by decide) ?_ ?_
      · refine g_lv [] rfl ?_
        exact tX8_law_36 hc hr hlk hE S6
      · refine g_iload_n (j := 3) hc dX8_law_26 rfl rfl ?_
        refine g_if_lt (tgt := 36) hc dX8_law_27 (by decide) ?_ ?_
        · refine g_lv [] rfl ?_
          exact tX8_law_36 hc hr hlk hE S6
        · refine g_iload_n (j := 3) hc dX8_law_30 rfl rfl ?_
          refine g_bipush (v := 9) hc dX8_law_31 (by decide) ?_
          refine g_icmp_le (tgt := 38) hc dX8_law_33 (by decide) ?_ ?_
          · refine g_aload_n (j := 0) hc dX8_law_38 rfl rfl ?_
            refine g_get (C0 := RX8) (T := TX8) (M := 9) (k := 0) (ci := 8) hc inX8_law_X8 (by decide) rfl rfl 7 (by decide) (List.mem_of_getElem? (i := 1) rfl) rfl rfl dX8_law_39 ?_
            refine g_iload_n (j := 1) hc dX8_law_42 rfl rfl ?_
            refine g_iload_n (j := 2) hc dX8_law_43 rfl rfl ?_
            refine g_iload_n (j := 3) hc dX8_law_44 rfl rfl ?_
            refine g_callVv (As := [.int x1, .int x2, .int x3]) (rest := []) (k := 8) (ci := 1) (q0 := (RX1, TX1, 4)) hc hE trX rfl (fun _ h => mX1_add x1 x2 x3 S6 _ h) (cwV 3 hc.1.2.2.2.2 gX8_law_X1_add rfl rfl rfl (by decide +kernel) ⟨by decide, by decide⟩) (by decide) rfl rfl rfl rfl (Nat.le_of_ble_eq_true rfl) dX8_law_45 ⟨by decide, by decide⟩ (fun S8 => ?_)
            refine g_aload_n (j := 0) hc dX8_law_48 rfl rfl ?_
            refine g_get (C0 := RX8) (T := TX8) (M := 9) (k := 0) (ci := 8) hc inX8_law_X8 (by decide) rfl rfl 7 (by decide) (List.mem_of_getElem? (i := 1) rfl) rfl rfl dX8_law_49 ?_
            refine g_callVi (As := []) (rest := []) (k := 8) (ci := 1) (q0 := (RX1, TX1, 4)) hc hE trX rfl (fun _ h => mX1_size S8 _ h) (cwV 0 hc.1.2.2.2.2 gX8_law_X1_size rfl rfl rfl (by decide +kernel) ⟨by decide, by decide⟩) (by decide) rfl rfl rfl rfl (Nat.le_of_ble_eq_true rfl) dX8_law_52 ⟨by decide, by decide⟩ (fun v9 S10 => ?_)
            exact g_iret hc hr hlk dX8_law_55
          · refine g_lv [] rfl ?_
            exact tX8_law_36 hc hr hlk hE S6
set_option maxHeartbeats 4000000 in
set_option maxRecDepth 100000 in
theorem tX8_needBundle_10 {p : Program} {e : Env} {s : State} {m : MethodId} {args : Array Value} {below : List Frame} {meth : Method} {c : Code} (hst : l.stackTraces = false) (hc : CT p s m args c cX8_needBundle 1 RX8 wsX8_needBundle D (tyW cI cZ cO)) (hr : meth.sig.returnType = none) (hlk : meth.locks = false) (hout : ∀ z ∈ c.exceptionTable.toList, False) (hE : EvX tF (AA 72 a s.heap.size) s) (S : St) : GF p l e rX8_needBundle s m args below meth c D 72 a (cX cI cZ cO a) (AA 72 a s.heap.size) 1 0 0 (fun res : RX => vx_MQ below (QXv D (tyW cI cZ cO) 72 a (cX cI cZ cO a) (AA 72 a s.heap.size) res) (XXc D (tyW cI cZ cO) 72 a (cX cI cZ cO a) (AA 72 a s.heap.size) res) args s rX8_needBundle.cells rX8_needBundle.slots (AA 72 a s.heap.size)) (bX8_needBundle_10 S) 10 [] [] S := by
  unfold bX8_needBundle_10
  exact g_throwSWV (ic := 116) (names := ["java/lang/RuntimeException", "java/lang/Exception"]) hc hout hlk hst hE (List.mem_of_getElem? (i := 1) rfl) (List.mem_of_getElem? (i := 2) rfl) (hE.2.2.2.2.2.1 (275, "bundle") (by decide +kernel)) (fun w h => hc.1.2.2.2.2 w (atX8_needBundle_116 w h)) (by decide +kernel) (by decide +kernel) (by decide +kernel) (by decide +kernel) dX8_needBundle_10 dX8_needBundle_13 dX8_needBundle_14 dX8_needBundle_17 dX8_needBundle_20 (by decide) (Nat.le_of_ble_eq_true rfl) (by decide) (by decide) (by decide) (by decide)
set_option maxHeartbeats 4000000 in
set_option maxRecDepth 100000 in
theorem mX8_needBundle (hst : l.stackTraces = false) (x0 : Int32) (S : St) : ∀ q, uX8_needBundle x0 S = some q → Xv l yX8_needBundle wsX8_needBundle rX8_needBundle D (tyW cI cZ cO) 72 a (cX cI cZ cO a) (EvX tF) [.int x0] S q := by
  refine m_Xv (cc := cX8_needBundle) (nL := 1) (ret := none) (lv := [(0, .int x0)]) (by decide) rfl (Nat.le_of_ble_eq_true rfl) rfl ?_
  intro p e s m args below meth c hc hr hlk hout hE
  unfold uX8_needBundle
  refine g_iload_n (j := 0) hc dX8_needBundle_0 rfl rfl ?_
  refine g_if_lt (tgt := 10) hc dX8_needBundle_1 (by decide) ?_ ?_
  · refine g_lv [] rfl ?_
    exact tX8_needBundle_10 hst hc hr hlk hout hE S
  · refine g_iload_n (j := 0) hc dX8_needBundle_4 rfl rfl ?_
    refine g_bipush (v := 8) hc dX8_needBundle_5 (by decide) ?_
    refine g_icmp_lt (tgt := 21) hc dX8_needBundle_7 (by decide) ?_ ?_
    · exact g_xvret hc hr hlk (by decide) (by decide) dX8_needBundle_21
    · refine g_lv [] rfl ?_
      exact tX8_needBundle_10 hst hc hr hlk hout hE S
set_option maxHeartbeats 4000000 in
set_option maxRecDepth 100000 in
theorem tX8_needDye_9 {p : Program} {e : Env} {s : State} {m : MethodId} {args : Array Value} {below : List Frame} {meth : Method} {c : Code} (hst : l.stackTraces = false) (hc : CT p s m args c cX8_needDye 1 RX8 wsX8_needDye D (tyW cI cZ cO)) (hr : meth.sig.returnType = none) (hlk : meth.locks = false) (hout : ∀ z ∈ c.exceptionTable.toList, False) (hE : EvX tF (AA 72 a s.heap.size) s) (S : St) : GF p l e rX8_needDye s m args below meth c D 72 a (cX cI cZ cO a) (AA 72 a s.heap.size) 1 0 0 (fun res : RX => vx_MQ below (QXv D (tyW cI cZ cO) 72 a (cX cI cZ cO a) (AA 72 a s.heap.size) res) (XXc D (tyW cI cZ cO) 72 a (cX cI cZ cO a) (AA 72 a s.heap.size) res) args s rX8_needDye.cells rX8_needDye.slots (AA 72 a s.heap.size)) (bX8_needDye_9 S) 9 [] [] S := by
  unfold bX8_needDye_9
  exact g_throwSWV (ic := 116) (names := ["java/lang/RuntimeException", "java/lang/Exception"]) hc hout hlk hst hE (List.mem_of_getElem? (i := 1) rfl) (List.mem_of_getElem? (i := 2) rfl) (hE.2.2.2.2.2.1 (277, "dye") (by decide +kernel)) (fun w h => hc.1.2.2.2.2 w (atX8_needDye_116 w h)) (by decide +kernel) (by decide +kernel) (by decide +kernel) (by decide +kernel) dX8_needDye_9 dX8_needDye_12 dX8_needDye_13 dX8_needDye_16 dX8_needDye_19 (by decide) (Nat.le_of_ble_eq_true rfl) (by decide) (by decide) (by decide) (by decide)
set_option maxHeartbeats 4000000 in
set_option maxRecDepth 100000 in
theorem mX8_needDye (hst : l.stackTraces = false) (x0 : Int32) (S : St) : ∀ q, uX8_needDye x0 S = some q → Xv l yX8_needDye wsX8_needDye rX8_needDye D (tyW cI cZ cO) 72 a (cX cI cZ cO a) (EvX tF) [.int x0] S q := by
  refine m_Xv (cc := cX8_needDye) (nL := 1) (ret := none) (lv := [(0, .int x0)]) (by decide) rfl (Nat.le_of_ble_eq_true rfl) rfl ?_
  intro p e s m args below meth c hc hr hlk hout hE
  unfold uX8_needDye
  refine g_iload_n (j := 0) hc dX8_needDye_0 rfl rfl ?_
  refine g_if_lt (tgt := 9) hc dX8_needDye_1 (by decide) ?_ ?_
  · refine g_lv [] rfl ?_
    exact tX8_needDye_9 hst hc hr hlk hout hE S
  · refine g_iload_n (j := 0) hc dX8_needDye_4 rfl rfl ?_
    refine g_iconst (v := 4) hc dX8_needDye_5 (by decide) ?_
    refine g_icmp_lt (tgt := 20) hc dX8_needDye_6 (by decide) ?_ ?_
    · exact g_xvret hc hr hlk (by decide) (by decide) dX8_needDye_20
    · refine g_lv [] rfl ?_
      exact tX8_needDye_9 hst hc hr hlk hout hE S
set_option maxHeartbeats 4000000 in
set_option maxRecDepth 100000 in
theorem tX8_needThread_15 {p : Program} {e : Env} {s : State} {m : MethodId} {args : Array Value} {below : List Frame} {meth : Method} {c : Code} (hst : l.stackTraces = false) (hc : CT p s m args c cX8_needThread 2 RX8 wsX8_needThread D (tyW cI cZ cO)) (hr : meth.sig.returnType = none) (hlk : meth.locks = false) (hout : ∀ z ∈ c.exceptionTable.toList, False) (hE : EvX tF (AA 72 a s.heap.size) s) (S : St) : GF p l e rX8_needThread s m args below meth c D 72 a (cX cI cZ cO a) (AA 72 a s.heap.size) 2 0 0 (fun res : RX => vx_MQ below (QXv D (tyW cI cZ cO) 72 a (cX cI cZ cO a) (AA 72 a s.heap.size) res) (XXc D (tyW cI cZ cO) 72 a (cX cI cZ cO a) (AA 72 a s.heap.size) res) args s rX8_needThread.cells rX8_needThread.slots (AA 72 a s.heap.size)) (bX8_needThread_15 S) 15 [] [] S := by
  unfold bX8_needThread_15
  exact g_throwSWV (ic := 116) (names := ["java/lang/RuntimeException", "java/lang/Exception"]) hc hout hlk hst hE (List.mem_of_getElem? (i := 1) rfl) (List.mem_of_getElem? (i := 2) rfl) (hE.2.2.2.2.2.1 (271, "thread") (by decide +kernel)) (fun w h => hc.1.2.2.2.2 w (atX8_needThread_116 w h)) (by decide +kernel) (by decide +kernel) (by decide +kernel) (by decide +kernel) dX8_needThread_15 dX8_needThread_18 dX8_needThread_19 dX8_needThread_22 dX8_needThread_25 (by decide) (Nat.le_of_ble_eq_true rfl) (by decide) (by decide) (by decide) (by decide)
set_option maxHeartbeats 4000000 in
set_option maxRecDepth 100000 in
theorem mX8_needThread (hst : l.stackTraces = false) (x1 : Int32) (S : St) : ∀ q, uX8_needThread x1 S = some q → Xv l yX8_needThread wsX8_needThread rX8_needThread D (tyW cI cZ cO) 72 a (cX cI cZ cO a) (EvX tF) [.ref (a 0), .int x1] S q := by
  refine m_Xv (cc := cX8_needThread) (nL := 2) (ret := none) (lv := [(0, .ref (a 0)), (1, .int x1)]) (by decide) rfl (Nat.le_of_ble_eq_true rfl) rfl ?_
  intro p e s m args below meth c hc hr hlk hout hE
  unfold uX8_needThread
  refine g_iload_n (j := 1) hc dX8_needThread_0 rfl rfl ?_
  refine g_if_lt (tgt := 15) hc dX8_needThread_1 (by decide) ?_ ?_
  · refine g_lv [] rfl ?_
    exact tX8_needThread_15 hst hc hr hlk hout hE S
  · refine g_iload_n (j := 1) hc dX8_needThread_4 rfl rfl ?_
    refine g_aload_n (j := 0) hc dX8_needThread_5 rfl rfl ?_
    refine g_get (C0 := RX8) (T := TX8) (M := 9) (k := 0) (ci := 8) hc inX8_needThread_X8 (by decide) rfl rfl 2 (by decide) (List.mem_of_getElem? (i := 3) rfl) rfl rfl dX8_needThread_6 ?_
    refine g_callVi (As := []) (rest := [.int x1]) (k := 3) (ci := 0) (q0 := (RX0, TX0, 7)) hc hE trX rfl (fun _ h => mX0_threads S _ h) (cwV 0 hc.1.2.2.2.2 gX8_needThread_X0_threads rfl rfl rfl (by decide +kernel) ⟨by decide, by decide⟩) (by decide) rfl rfl rfl rfl (Nat.le_of_ble_eq_true rfl) dX8_needThread_9 ⟨by decide, by decide⟩ (fun v1 S2 => ?_)
    refine g_icmp_lt (tgt := 26) hc dX8_needThread_12 (by decide) ?_ ?_
    · exact g_xvret hc hr hlk (by decide) (by decide) dX8_needThread_26
    · refine g_lv [] rfl ?_
      exact tX8_needThread_15 hst hc hr hlk hout hE S2
set_option maxHeartbeats 4000000 in
set_option maxRecDepth 100000 in
theorem tX8_needPlace_15 {p : Program} {e : Env} {s : State} {m : MethodId} {args : Array Value} {below : List Frame} {meth : Method} {c : Code} (hst : l.stackTraces = false) (hc : CT p s m args c cX8_needPlace 2 RX8 wsX8_needPlace D (tyW cI cZ cO)) (hr : meth.sig.returnType = none) (hlk : meth.locks = false) (hout : ∀ z ∈ c.exceptionTable.toList, False) (hE : EvX tF (AA 72 a s.heap.size) s) (S : St) : GF p l e rX8_needPlace s m args below meth c D 72 a (cX cI cZ cO a) (AA 72 a s.heap.size) 2 0 0 (fun res : RX => vx_MQ below (QXv D (tyW cI cZ cO) 72 a (cX cI cZ cO a) (AA 72 a s.heap.size) res) (XXc D (tyW cI cZ cO) 72 a (cX cI cZ cO a) (AA 72 a s.heap.size) res) args s rX8_needPlace.cells rX8_needPlace.slots (AA 72 a s.heap.size)) (bX8_needPlace_15 S) 15 [] [] S := by
  unfold bX8_needPlace_15
  exact g_throwSWV (ic := 116) (names := ["java/lang/RuntimeException", "java/lang/Exception"]) hc hout hlk hst hE (List.mem_of_getElem? (i := 1) rfl) (List.mem_of_getElem? (i := 2) rfl) (hE.2.2.2.2.2.1 (273, "place") (by decide +kernel)) (fun w h => hc.1.2.2.2.2 w (atX8_needPlace_116 w h)) (by decide +kernel) (by decide +kernel) (by decide +kernel) (by decide +kernel) dX8_needPlace_15 dX8_needPlace_18 dX8_needPlace_19 dX8_needPlace_22 dX8_needPlace_25 (by decide) (Nat.le_of_ble_eq_true rfl) (by decide) (by decide) (by decide) (by decide)
set_option maxHeartbeats 4000000 in
set_option maxRecDepth 100000 in
theorem mX8_needPlace (hst : l.stackTraces = false) (x1 : Int32) (S : St) : ∀ q, uX8_needPlace x1 S = some q → Xv l yX8_needPlace wsX8_needPlace rX8_needPlace D (tyW cI cZ cO) 72 a (cX cI cZ cO a) (EvX tF) [.ref (a 0), .int x1] S q := by
  refine m_Xv (cc := cX8_needPlace) (nL := 2) (ret := none) (lv := [(0, .ref (a 0)), (1, .int x1)]) (by decide) rfl (Nat.le_of_ble_eq_true rfl) rfl ?_
  intro p e s m args below meth c hc hr hlk hout hE
  unfold uX8_needPlace
  refine g_iload_n (j := 1) hc dX8_needPlace_0 rfl rfl ?_
  refine g_if_lt (tgt := 15) hc dX8_needPlace_1 (by decide) ?_ ?_
  · refine g_lv [] rfl ?_
    exact tX8_needPlace_15 hst hc hr hlk hout hE S
  · refine g_iload_n (j := 1) hc dX8_needPlace_4 rfl rfl ?_
    refine g_aload_n (j := 0) hc dX8_needPlace_5 rfl rfl ?_
    refine g_get (C0 := RX8) (T := TX8) (M := 9) (k := 0) (ci := 8) hc inX8_needPlace_X8 (by decide) rfl rfl 2 (by decide) (List.mem_of_getElem? (i := 3) rfl) rfl rfl dX8_needPlace_6 ?_
    refine g_callVi (As := []) (rest := [.int x1]) (k := 3) (ci := 0) (q0 := (RX0, TX0, 7)) hc hE trX rfl (fun _ h => mX0_places S _ h) (cwV 0 hc.1.2.2.2.2 gX8_needPlace_X0_places rfl rfl rfl (by decide +kernel) ⟨by decide, by decide⟩) (by decide) rfl rfl rfl rfl (Nat.le_of_ble_eq_true rfl) dX8_needPlace_9 ⟨by decide, by decide⟩ (fun v1 S2 => ?_)
    refine g_icmp_lt (tgt := 26) hc dX8_needPlace_12 (by decide) ?_ ?_
    · exact g_xvret hc hr hlk (by decide) (by decide) dX8_needPlace_26
    · refine g_lv [] rfl ?_
      exact tX8_needPlace_15 hst hc hr hlk hout hE S2
set_option maxHeartbeats 4000000 in
set_option maxRecDepth 100000 in
theorem mX8_needRange (hst : l.stackTraces = false) (x1 : Int32) (x2 : Int32) (x3 : Int32) (S : St) : ∀ q, uX8_needRange x1 x2 x3 S = some q → Xv l yX8_needRange wsX8_needRange rX8_needRange D (tyW cI cZ cO) 72 a (cX cI cZ cO a) (EvX tF) [.ref (a 0), .int x1, .int x2, .int x3] S q := by
  refine m_Xv (cc := cX8_needRange) (nL := 4) (ret := none) (lv := [(0, .ref (a 0)), (1, .int x1), (2, .int x2), (3, .int x3)]) (by decide) rfl (Nat.le_of_ble_eq_true rfl) rfl ?_
  intro p e s m args below meth c hc hr hlk hout hE
  unfold uX8_needRange
  refine g_iload_n (j := 1) hc dX8_needRange_0 rfl rfl ?_
  refine g_xcallSVv (As := [.int x1]) (rest := []) hc hout hlk hE trX rfl (by decide) (by decide) (fun _ h => mX8_needBundle hst x1 S _ h) (va_cwS 1 hc.1.2.2.2.2 gX8_needRange_X8_needBundle rfl rfl rfl (by decide +kernel) ⟨by decide, by decide⟩) rfl rfl (Nat.le_of_ble_eq_true rfl) dX8_needRange_1 ⟨by decide, by decide⟩ (fun S2 => ?_)
  refine g_wid (k := 1) (n := 6) (by decide) (by decide) ?_
  refine g_aload_n (j := 0) hc dX8_needRange_4 rfl rfl ?_
  refine g_iload_n (j := 2) hc dX8_needRange_5 rfl rfl ?_
  refine g_xcallVVv (As := [.int x2]) (rest := []) (k := 0) (ci := 8) (q0 := (RX8, TX8, 9)) hc hout hlk hE trX rfl (by decide) (by decide) (fun _ h => mX8_needPlace hst x2 S2 _ h) (cwV 1 hc.1.2.2.2.2 gX8_needRange_X8_needPlace rfl rfl rfl (by decide +kernel) ⟨by decide, by decide⟩) (by decide) rfl rfl rfl rfl (Nat.le_of_ble_eq_true rfl) dX8_needRange_6 ⟨by decide, by decide⟩ (fun S4 => ?_)
  refine g_wid (k := 2) (n := 12) (by decide) (by decide) ?_
  refine g_aload_n (j := 0) hc dX8_needRange_9 rfl rfl ?_
  refine g_iload_n (j := 3) hc dX8_needRange_10 rfl rfl ?_
  refine g_xcallVVv (As := [.int x3]) (rest := []) (k := 0) (ci := 8) (q0 := (RX8, TX8, 9)) hc hout hlk hE trX rfl (by decide) (by decide) (fun _ h => mX8_needPlace hst x3 S4 _ h) (cwV 1 hc.1.2.2.2.2 gX8_needRange_X8_needPlace rfl rfl rfl (by decide +kernel) ⟨by decide, by decide⟩) (by decide) rfl rfl rfl rfl (Nat.le_of_ble_eq_true rfl) dX8_needRange_11 ⟨by decide, by decide⟩ (fun S6 => ?_)
  refine g_wid (k := 3) (n := 18) (by decide) (by decide) ?_
  refine g_iload_n (j := 2) hc dX8_needRange_14 rfl rfl ?_
  refine g_iload_n (j := 3) hc dX8_needRange_15 rfl rfl ?_
  refine g_icmp_le (tgt := 30) hc dX8_needRange_16 (by decide) ?_ ?_
  · exact g_xvret hc hr hlk (by decide) (by decide) dX8_needRange_30
  · exact g_throwSWV (ic := 77) (names := ["java/lang/RuntimeException", "java/lang/Exception"]) hc hout hlk hst hE (List.mem_of_getElem? (i := 1) rfl) (List.mem_of_getElem? (i := 2) rfl) (hE.2.2.2.2.2.1 (279, "from is above to") (by decide +kernel)) (fun w h => hc.1.2.2.2.2 w (atX8_needRange_77 w h)) (by decide +kernel) (by decide +kernel) (by decide +kernel) (by decide +kernel) dX8_needRange_19 dX8_needRange_22 dX8_needRange_23 dX8_needRange_26 dX8_needRange_29 (by decide) (Nat.le_of_ble_eq_true rfl) (by decide) (by decide) (by decide) (by decide)
set_option maxHeartbeats 4000000 in
set_option maxRecDepth 100000 in
theorem tX8_frame_22 {p : Program} {e : Env} {s : State} {m : MethodId} {args : Array Value} {below : List Frame} {meth : Method} {c : Code} (hst : l.stackTraces = false) (hc : CT p s m args c cX8_frame 3 RX8 wsX8_frame D (tyW cI cZ cO)) (hr : meth.sig.returnType = none) (hlk : meth.locks = false) (hout : ∀ z ∈ c.exceptionTable.toList, False) (hE : EvX tF (AA 72 a s.heap.size) s) (S : St) : GF p l e rX8_frame s m args below meth c D 72 a (cX cI cZ cO a) (AA 72 a s.heap.size) 3 0 0 (fun res : RX => vx_MQ below (QXv D (tyW cI cZ cO) 72 a (cX cI cZ cO a) (AA 72 a s.heap.size) res) (XXc D (tyW cI cZ cO) 72 a (cX cI cZ cO a) (AA 72 a s.heap.size) res) args s rX8_frame.cells rX8_frame.slots (AA 72 a s.heap.size)) (bX8_frame_22 S) 22 [] [] S := by
  unfold bX8_frame_22
  exact g_throwSV (ic := 77) (names := ["java/lang/RuntimeException", "java/lang/Exception"]) hc hout hlk hst hE (List.mem_of_getElem? (i := 1) rfl) (List.mem_of_getElem? (i := 2) rfl) (hE.2.2.2.2.2.1 (75, "threads or places") (by decide +kernel)) (fun w h => hc.1.2.2.2.2 w (atX8_frame_77 w h)) (by decide +kernel) (by decide +kernel) (by decide +kernel) (by decide +kernel) dX8_frame_22 dX8_frame_25 dX8_frame_26 dX8_frame_28 dX8_frame_31 (by decide) (Nat.le_of_ble_eq_true rfl) (by decide) (by decide) (by decide) (by decide)
set_option maxHeartbeats 4000000 in
set_option maxRecDepth 100000 in
theorem mX8_frame (hst : l.stackTraces = false) (x1 : Int32) (x2 : Int32) (S : St) : ∀ q, uX8_frame x1 x2 S = some q → Xv l yX8_frame wsX8_frame rX8_frame D (tyW cI cZ cO) 72 a (cX cI cZ cO a) (EvX tF) [.ref (a 0), .int x1, .int x2] S q := by
  refine m_Xv (cc := cX8_frame) (nL := 3) (ret := none) (lv := [(0, .ref (a 0)), (1, .int x1), (2, .int x2)]) (by decide) rfl (Nat.le_of_ble_eq_true rfl) rfl ?_
  intro p e s m args below meth c hc hr hlk hout hE
  unfold uX8_frame
  refine g_iload_n (j := 1) hc dX8_frame_0 rfl rfl ?_
  refine g_iconst (v := 1) hc dX8_frame_1 (by decide) ?_
  refine g_icmp_lt (tgt := 22) hc dX8_frame_2 (by decide) ?_ ?_
  · refine g_lv [] rfl ?_
    exact tX8_frame_22 hst hc hr hlk hout hE S
  · refine g_iload_n (j := 1) hc dX8_frame_5 rfl rfl ?_
    refine g_bipush (v := 16) hc dX8_frame_6 (by decide) ?_
    refine g_icmp_gt (tgt := 22) hc dX8_frame_8 (by decide) ?_ ?_
    · refine g_lv [] rfl ?_
      exact tX8_frame_22 hst hc hr hlk hout hE S
    · refine g_iload_n (j := 2) hc dX8_frame_11 rfl rfl ?_
      refine g_iconst (v := 1) hc dX8_frame_12 (by decide) ?_
      refine g_icmp_lt (tgt := 22) hc dX8_frame_13 (by decide) ?_ ?_
      · refine g_lv [] rfl ?_
        exact tX8_frame_22 hst hc hr hlk hout hE S
      · refine g_iload_n (j := 2) hc dX8_frame_16 rfl rfl ?_
        refine g_bipush (v := 24) hc dX8_frame_17 (by decide) ?_
        refine g_icmp_le (tgt := 32) hc dX8_frame_19 (by decide) ?_ ?_
        · refine g_aload_n (j := 0) hc dX8_frame_32 rfl rfl ?_
          refine g_get (C0 := RX8) (T := TX8) (M := 9) (k := 0) (ci := 8) hc inX8_frame_X8 (by decide) rfl rfl 2 (by decide) (List.mem_of_getElem? (i := 3) rfl) rfl rfl dX8_frame_33 ?_
          refine g_iload_n (j := 1) hc dX8_frame_36 rfl rfl ?_
          refine g_iload_n (j := 2) hc dX8_frame_37 rfl rfl ?_
          refine g_callVv (As := [.int x1, .int x2]) (rest := []) (k := 3) (ci := 0) (q0 := (RX0, TX0, 7)) hc hE trX rfl (fun _ h => mX0_stretch x1 x2 S _ h) (cwV 2 hc.1.2.2.2.2 gX8_frame_X0_stretch rfl rfl rfl (by decide +kernel) ⟨by decide, by decide⟩) (by decide) rfl rfl rfl rfl (Nat.le_of_ble_eq_true rfl) dX8_frame_38 ⟨by decide, by decide⟩ (fun S2 => ?_)
          refine g_aload_n (j := 0) hc dX8_frame_41 rfl rfl ?_
          refine g_get (C0 := RX8) (T := TX8) (M := 9) (k := 0) (ci := 8) hc inX8_frame_X8 (by decide) rfl rfl 3 (by decide) (List.mem_of_getElem? (i := 4) rfl) rfl rfl dX8_frame_42 ?_
          refine g_callVv (As := []) (rest := []) (k := 4) (ci := 3) (q0 := (RX3, TX3, 1)) hc hE trX rfl (fun _ h => mX3_clear S2 _ h) (cwV 0 hc.1.2.2.2.2 gX8_frame_X3_clear rfl rfl rfl (by decide +kernel) ⟨by decide, by decide⟩) (by decide) rfl rfl rfl rfl (Nat.le_of_ble_eq_true rfl) dX8_frame_45 ⟨by decide, by decide⟩ (fun S4 => ?_)
          refine g_aload_n (j := 0) hc dX8_frame_48 rfl rfl ?_
          refine g_get (C0 := RX8) (T := TX8) (M := 9) (k := 0) (ci := 8) hc inX8_frame_X8 (by decide) rfl rfl 6 (by decide) (List.mem_of_getElem? (i := 5) rfl) rfl rfl dX8_frame_49 ?_
          refine g_callVv (As := []) (rest := []) (k := 7) (ci := 6) (q0 := (RX6, TX6, 2)) hc hE trX rfl (fun _ h => mX6_clear S4 _ h) (cwV 0 hc.1.2.2.2.2 gX8_frame_X6_clear rfl rfl rfl (by decide +kernel) ⟨by decide, by decide⟩) (by decide) rfl rfl rfl rfl (Nat.le_of_ble_eq_true rfl) dX8_frame_52 ⟨by decide, by decide⟩ (fun S6 => ?_)
          refine g_aload_n (j := 0) hc dX8_frame_55 rfl rfl ?_
          refine g_get (C0 := RX8) (T := TX8) (M := 9) (k := 0) (ci := 8) hc inX8_frame_X8 (by decide) rfl rfl 5 (by decide) (List.mem_of_getElem? (i := 6) rfl) rfl rfl dX8_frame_56 ?_
          refine g_callVv (As := []) (rest := []) (k := 6) (ci := 4) (q0 := (RX4, TX4, 4)) hc hE trX rfl (fun _ h => mX4_drop S6 _ h) (cwV 0 hc.1.2.2.2.2 gX8_frame_X4_drop rfl rfl rfl (by decide +kernel) ⟨by decide, by decide⟩) (by decide) rfl rfl rfl rfl (Nat.le_of_ble_eq_true rfl) dX8_frame_59 ⟨by decide, by decide⟩ (fun S8 => ?_)
          exact g_xvret hc hr hlk (by decide) (by decide) dX8_frame_62
        · refine g_lv [] rfl ?_
          exact tX8_frame_22 hst hc hr hlk hout hE S
set_option maxHeartbeats 4000000 in
set_option maxRecDepth 100000 in
theorem mX8_into (hst : l.stackTraces = false) (x1 : Int32) (x2 : Int32) (S : St) : ∀ q, uX8_into x1 x2 S = some q → Xi l yX8_into wsX8_into rX8_into D (tyW cI cZ cO) 72 a (cX cI cZ cO a) (EvX tF) [.ref (a 0), .int x1, .int x2] S q := by
  refine m_Xi (cc := cX8_into) (nL := 4) (ret := (some .int)) (lv := [(0, .ref (a 0)), (1, .int x1), (2, .int x2)]) (by decide) rfl (Nat.le_of_ble_eq_true rfl) rfl ?_
  intro p e s m args below meth c hc hr hlk hout hE
  unfold uX8_into
  refine g_aload_n (j := 0) hc dX8_into_0 rfl rfl ?_
  refine g_iload_n (j := 1) hc dX8_into_1 rfl rfl ?_
  refine g_xcallVIv (As := [.int x1]) (rest := []) (k := 0) (ci := 8) (q0 := (RX8, TX8, 9)) hc hout hlk hE trX rfl (by decide) (by decide) (fun _ h => mX8_needThread hst x1 S _ h) (cwV 1 hc.1.2.2.2.2 gX8_into_X8_needThread rfl rfl rfl (by decide +kernel) ⟨by decide, by decide⟩) (by decide) rfl rfl rfl rfl (Nat.le_of_ble_eq_true rfl) dX8_into_2 ⟨by decide, by decide⟩ (fun S2 => ?_)
  refine g_wid (k := 1) (n := 6) (by decide) (by decide) ?_
  refine g_iload_n (j := 2) hc dX8_into_5 rfl rfl ?_
  refine g_xcallSIv (As := [.int x2]) (rest := []) hc hout hlk hE trX rfl (by decide) (by decide) (fun _ h => mX8_needBundle hst x2 S2 _ h) (va_cwS 1 hc.1.2.2.2.2 gX8_into_X8_needBundle rfl rfl rfl (by decide +kernel) ⟨by decide, by decide⟩) rfl rfl (Nat.le_of_ble_eq_true rfl) dX8_into_6 ⟨by decide, by decide⟩ (fun S4 => ?_)
  refine g_wid (k := 2) (n := 12) (by decide) (by decide) ?_
  refine g_aload_n (j := 0) hc dX8_into_9 rfl rfl ?_
  refine g_get (C0 := RX8) (T := TX8) (M := 9) (k := 0) (ci := 8) hc inX8_into_X8 (by decide) rfl rfl 2 (by decide) (List.mem_of_getElem? (i := 1) rfl) rfl rfl dX8_into_10 ?_
  refine g_iload_n (j := 1) hc dX8_into_13 rfl rfl ?_
  refine g_callVi (As := [.int x1]) (rest := []) (k := 3) (ci := 0) (q0 := (RX0, TX0, 7)) hc hE trX rfl (fun _ h => mX0_bundleOf x1 S4 _ h) (cwV 1 hc.1.2.2.2.2 gX8_into_X0_bundleOf rfl rfl rfl (by decide +kernel) ⟨by decide, by decide⟩) (by decide) rfl rfl rfl rfl (Nat.le_of_ble_eq_true rfl) dX8_into_14 ⟨by decide, by decide⟩ (fun v5 S6 => ?_)
  refine g_istore_n (L := fun v7 => [(3, .int v7), (0, .ref (a 0)), (1, .int x1), (2, .int x2)]) hc dX8_into_17 rfl (by decide) (fun _ => rfl) (fun v7 => ?_)
  refine g_aload_n (j := 1) hc dX8_into_18 rfl rfl ?_
  refine g_get (C0 := RX8) (T := TX8) (M := 9) (k := 0) (ci := 8) hc inX8_into_X8 (by decide) rfl rfl 2 (by decide) (List.mem_of_getElem? (i := 1) rfl) rfl rfl dX8_into_19 ?_
  refine g_iload_n (j := 2) hc dX8_into_22 rfl rfl ?_
  refine g_iload_n (j := 3) hc dX8_into_23 rfl rfl ?_
  refine g_callVv (As := [.int x1, .int x2]) (rest := []) (k := 3) (ci := 0) (q0 := (RX0, TX0, 7)) hc hE trX rfl (fun _ h => mX0_move x1 x2 S6 _ h) (cwV 2 hc.1.2.2.2.2 gX8_into_X0_move rfl rfl rfl (by decide +kernel) ⟨by decide, by decide⟩) (by decide) rfl rfl rfl rfl (Nat.le_of_ble_eq_true rfl) dX8_into_24 ⟨by decide, by decide⟩ (fun S9 => ?_)
  refine g_aload_n (j := 1) hc dX8_into_27 rfl rfl ?_
  refine g_get (C0 := RX8) (T := TX8) (M := 9) (k := 0) (ci := 8) hc inX8_into_X8 (by decide) rfl rfl 5 (by decide) (List.mem_of_getElem? (i := 2) rfl) rfl rfl dX8_into_28 ?_
  refine g_callVv (As := []) (rest := []) (k := 6) (ci := 4) (q0 := (RX4, TX4, 4)) hc hE trX rfl (fun _ h => mX4_drop S9 _ h) (cwV 0 hc.1.2.2.2.2 gX8_into_X4_drop rfl rfl rfl (by decide +kernel) ⟨by decide, by decide⟩) (by decide) rfl rfl rfl rfl (Nat.le_of_ble_eq_true rfl) dX8_into_31 ⟨by decide, by decide⟩ (fun S11 => ?_)
  refine g_iload_n (j := 0) hc dX8_into_34 rfl rfl ?_
  exact g_xiret hc hr hlk (by decide) (by decide) dX8_into_35
set_option maxHeartbeats 4000000 in
set_option maxRecDepth 100000 in
theorem mX8_fold (hst : l.stackTraces = false) (x1 : Int32) (x2 : Int32) (S : St) : ∀ q, uX8_fold x1 x2 S = some q → Xi l yX8_fold wsX8_fold rX8_fold D (tyW cI cZ cO) 72 a (cX cI cZ cO a) (EvX tF) [.ref (a 0), .int x1, .int x2] S q := by
  refine m_Xi (cc := cX8_fold) (nL := 4) (ret := (some .boolean)) (lv := [(0, .ref (a 0)), (1, .int x1), (2, .int x2)]) (by decide) rfl (Nat.le_of_ble_eq_true rfl) rfl ?_
  intro p e s m args below meth c hc hr hlk hout hE
  unfold uX8_fold
  refine g_iload_n (j := 1) hc dX8_fold_0 rfl rfl ?_
  refine g_xcallSIv (As := [.int x1]) (rest := []) hc hout hlk hE trX rfl (by decide) (by decide) (fun _ h => mX8_needBundle hst x1 S _ h) (va_cwS 1 hc.1.2.2.2.2 gX8_fold_X8_needBundle rfl rfl rfl (by decide +kernel) ⟨by decide, by decide⟩) rfl rfl (Nat.le_of_ble_eq_true rfl) dX8_fold_1 ⟨by decide, by decide⟩ (fun S2 => ?_)
  refine g_wid (k := 1) (n := 6) (by decide) (by decide) ?_
  refine g_aload_n (j := 0) hc dX8_fold_4 rfl rfl ?_
  refine g_get (C0 := RX8) (T := TX8) (M := 9) (k := 0) (ci := 8) hc inX8_fold_X8 (by decide) rfl rfl 2 (by decide) (List.mem_of_getElem? (i := 1) rfl) rfl rfl dX8_fold_5 ?_
  refine g_iload_n (j := 1) hc dX8_fold_8 rfl rfl ?_
  refine g_callVi (As := [.int x1]) (rest := []) (k := 3) (ci := 0) (q0 := (RX0, TX0, 7)) hc hE trX rfl (fun _ h => mX0_isFolded x1 S2 _ h) (cwV 1 hc.1.2.2.2.2 gX8_fold_X0_isFolded rfl rfl rfl (by decide +kernel) ⟨by decide, by decide⟩) (by decide) rfl rfl rfl rfl (Nat.le_of_ble_eq_true rfl) dX8_fold_9 ⟨by decide, by decide⟩ (fun v3 S4 => ?_)
  refine g_istore_n (L := fun v5 => [(3, .int v5), (0, .ref (a 0)), (1, .int x1), (2, .int x2)]) hc dX8_fold_12 rfl (by decide) (fun _ => rfl) (fun v5 => ?_)
  refine g_aload_n (j := 1) hc dX8_fold_13 rfl rfl ?_
  refine g_get (C0 := RX8) (T := TX8) (M := 9) (k := 0) (ci := 8) hc inX8_fold_X8 (by decide) rfl rfl 2 (by decide) (List.mem_of_getElem? (i := 1) rfl) rfl rfl dX8_fold_14 ?_
  refine g_iload_n (j := 2) hc dX8_fold_17 rfl rfl ?_
  refine g_iload_n (j := 3) hc dX8_fold_18 rfl rfl ?_
  refine g_callVv (As := [.int x1, .int x2]) (rest := []) (k := 3) (ci := 0) (q0 := (RX0, TX0, 7)) hc hE trX rfl (fun _ h => mX0_setFolded x1 x2 S4 _ h) (cwV 2 hc.1.2.2.2.2 gX8_fold_X0_setFolded rfl rfl rfl (by decide +kernel) ⟨by decide, by decide⟩) (by decide) rfl rfl rfl rfl (Nat.le_of_ble_eq_true rfl) dX8_fold_19 ⟨by decide, by decide⟩ (fun S7 => ?_)
  refine g_aload_n (j := 1) hc dX8_fold_22 rfl rfl ?_
  refine g_get (C0 := RX8) (T := TX8) (M := 9) (k := 0) (ci := 8) hc inX8_fold_X8 (by decide) rfl rfl 5 (by decide) (List.mem_of_getElem? (i := 2) rfl) rfl rfl dX8_fold_23 ?_
  refine g_callVv (As := []) (rest := []) (k := 6) (ci := 4) (q0 := (RX4, TX4, 4)) hc hE trX rfl (fun _ h => mX4_drop S7 _ h) (cwV 0 hc.1.2.2.2.2 gX8_fold_X4_drop rfl rfl rfl (by decide +kernel) ⟨by decide, by decide⟩) (by decide) rfl rfl rfl rfl (Nat.le_of_ble_eq_true rfl) dX8_fold_26 ⟨by decide, by decide⟩ (fun S9 => ?_)
  refine g_iload_n (j := 0) hc dX8_fold_29 rfl rfl ?_
  exact g_xzret hc hr hlk (by decide) (by decide) dX8_fold_30
set_option maxHeartbeats 4000000 in
set_option maxRecDepth 100000 in
theorem mX8_table (hst : l.stackTraces = false) (x1 : Int32) (x2 : Int32) (x3 : Int32) (S : St) : ∀ q, uX8_table x1 x2 x3 S = some q → Xi l yX8_table wsX8_table rX8_table D (tyW cI cZ cO) 72 a (cX cI cZ cO a) (EvX tF) [.ref (a 0), .int x1, .int x2, .int x3] S q := by
  refine m_Xi (cc := cX8_table) (nL := 5) (ret := (some .int)) (lv := [(0, .ref (a 0)), (1, .int x1), (2, .int x2), (3, .int x3)]) (by decide) rfl (Nat.le_of_ble_eq_true rfl) rfl ?_
  intro p e s m args below meth c hc hr hlk hout hE
  unfold uX8_table
  refine g_iload_n (j := 1) hc dX8_table_0 rfl rfl ?_
  refine g_callSi (As := [.int x1]) (rest := []) hc hE trX rfl (fun _ h => mX8_isColour x1 S _ h) (va_cwS 1 hc.1.2.2.2.2 gX8_table_X8_isColour rfl rfl rfl (by decide +kernel) ⟨by decide, by decide⟩) rfl rfl (Nat.le_of_ble_eq_true rfl) dX8_table_1 ⟨by decide, by decide⟩ (fun v1 S2 => ?_)
  refine g_if_ne (tgt := 17) hc dX8_table_4 (by decide) ?_ ?_
  · refine g_iload_n (j := 2) hc dX8_table_17 rfl rfl ?_
    refine g_xcallSIv (As := [.int x2]) (rest := []) hc hout hlk hE trX rfl (by decide) (by decide) (fun _ h => mX8_needDye hst x2 S2 _ h) (va_cwS 1 hc.1.2.2.2.2 gX8_table_X8_needDye rfl rfl rfl (by decide +kernel) ⟨by decide, by decide⟩) rfl rfl (Nat.le_of_ble_eq_true rfl) dX8_table_18 ⟨by decide, by decide⟩ (fun S4 => ?_)
    refine g_wid (k := 1) (n := 6) (by decide) (by decide) ?_
    refine g_iload_n (j := 3) hc dX8_table_21 rfl rfl ?_
    refine g_callSi (As := [.int x3]) (rest := []) hc hE trX rfl (fun _ h => mX8_isColour x3 S4 _ h) (va_cwS 1 hc.1.2.2.2.2 gX8_table_X8_isColour rfl rfl rfl (by decide +kernel) ⟨by decide, by decide⟩) rfl rfl (Nat.le_of_ble_eq_true rfl) dX8_table_22 ⟨by decide, by decide⟩ (fun v5 S6 => ?_)
    refine g_if_ne (tgt := 38) hc dX8_table_25 (by decide) ?_ ?_
    · refine g_aload_n (j := 0) hc dX8_table_38 rfl rfl ?_
      refine g_get (C0 := RX8) (T := TX8) (M := 9) (k := 0) (ci := 8) hc inX8_table_X8 (by decide) rfl rfl 0 (by decide) (List.mem_of_getElem? (i := 5) rfl) rfl rfl dX8_table_39 ?_
      refine g_iload_n (j := 1) hc dX8_table_42 rfl rfl ?_
      refine g_iload_n (j := 2) hc dX8_table_43 rfl rfl ?_
      refine g_callVi (As := [.int x1, .int x2]) (rest := []) (k := 1) (ci := 2) (q0 := (RX2, TX2, 1)) hc hE trX rfl (fun _ h => mX2_comesOf x1 x2 S6 _ h) (cwV 2 hc.1.2.2.2.2 gX8_table_X2_comesOf rfl rfl rfl (by decide +kernel) ⟨by decide, by decide⟩) (by decide) rfl rfl rfl rfl (Nat.le_of_ble_eq_true rfl) dX8_table_44 ⟨by decide, by decide⟩ (fun v7 S8 => ?_)
      refine g_istore (L := fun v9 => [(4, .int v9), (0, .ref (a 0)), (1, .int x1), (2, .int x2), (3, .int x3)]) hc dX8_table_47 (by decide) (fun _ => rfl) (fun v9 => ?_)
      refine g_aload_n (j := 1) hc dX8_table_49 rfl rfl ?_
      refine g_get (C0 := RX8) (T := TX8) (M := 9) (k := 0) (ci := 8) hc inX8_table_X8 (by decide) rfl rfl 0 (by decide) (List.mem_of_getElem? (i := 5) rfl) rfl rfl dX8_table_50 ?_
      refine g_iload_n (j := 2) hc dX8_table_53 rfl rfl ?_
      refine g_iload_n (j := 3) hc dX8_table_54 rfl rfl ?_
      refine g_iload_n (j := 4) hc dX8_table_55 rfl rfl ?_
      refine g_callVv (As := [.int x1, .int x2, .int x3]) (rest := []) (k := 1) (ci := 2) (q0 := (RX2, TX2, 1)) hc hE trX rfl (fun _ h => mX2_tell x1 x2 x3 S8 _ h) (cwV 3 hc.1.2.2.2.2 gX8_table_X2_tell rfl rfl rfl (by decide +kernel) ⟨by decide, by decide⟩) (by decide) rfl rfl rfl rfl (Nat.le_of_ble_eq_true rfl) dX8_table_56 ⟨by decide, by decide⟩ (fun S11 => ?_)
      refine g_aload_n (j := 1) hc dX8_table_59 rfl rfl ?_
      refine g_get (C0 := RX8) (T := TX8) (M := 9) (k := 0) (ci := 8) hc inX8_table_X8 (by decide) rfl rfl 5 (by decide) (List.mem_of_getElem? (i := 6) rfl) rfl rfl dX8_table_60 ?_
      refine g_callVv (As := []) (rest := []) (k := 6) (ci := 4) (q0 := (RX4, TX4, 4)) hc hE trX rfl (fun _ h => mX4_drop S11 _ h) (cwV 0 hc.1.2.2.2.2 gX8_table_X4_drop rfl rfl rfl (by decide +kernel) ⟨by decide, by decide⟩) (by decide) rfl rfl rfl rfl (Nat.le_of_ble_eq_true rfl) dX8_table_63 ⟨by decide, by decide⟩ (fun S13 => ?_)
      refine g_iload (j := 0) hc dX8_table_66 rfl ?_
      exact g_xiret hc hr hlk (by decide) (by decide) dX8_table_68
    · exact g_throwSI (ic := 77) (names := ["java/lang/RuntimeException", "java/lang/Exception"]) hc hout hlk hst hE (List.mem_of_getElem? (i := 3) rfl) (List.mem_of_getElem? (i := 4) rfl) (hE.2.2.2.2.2.1 (120, "to") (by decide +kernel)) (fun w h => hc.1.2.2.2.2 w (atX8_table_77 w h)) (by decide +kernel) (by decide +kernel) (by decide +kernel) (by decide +kernel) dX8_table_28 dX8_table_31 dX8_table_32 dX8_table_34 dX8_table_37 (by decide) (Nat.le_of_ble_eq_true rfl) (by decide) (by decide) (by decide) (by decide)
  · exact g_throwSI (ic := 116) (names := ["java/lang/RuntimeException", "java/lang/Exception"]) hc hout hlk hst hE (List.mem_of_getElem? (i := 1) rfl) (List.mem_of_getElem? (i := 2) rfl) (hE.2.2.2.2.2.1 (114, "colour") (by decide +kernel)) (fun w h => hc.1.2.2.2.2 w (atX8_table_116 w h)) (by decide +kernel) (by decide +kernel) (by decide +kernel) (by decide +kernel) dX8_table_7 dX8_table_10 dX8_table_11 dX8_table_13 dX8_table_16 (by decide) (Nat.le_of_ble_eq_true rfl) (by decide) (by decide) (by decide) (by decide)
set_option maxHeartbeats 4000000 in
set_option maxRecDepth 100000 in
theorem tX8_vat_24 {p : Program} {e : Env} {s : State} {m : MethodId} {args : Array Value} {below : List Frame} {meth : Method} {c : Code} (hst : l.stackTraces = false) (hc : CT p s m args c cX8_vat 3 RX8 wsX8_vat D (tyW cI cZ cO)) (hr : meth.sig.returnType = (some .int)) (hlk : meth.locks = false) (hout : ∀ z ∈ c.exceptionTable.toList, False) (hE : EvX tF (AA 72 a s.heap.size) s) (S : St) : GF p l e rX8_vat s m args below meth c D 72 a (cX cI cZ cO a) (AA 72 a s.heap.size) 3 1 6 (fun res : RX => vx_MQ below (QXi D (tyW cI cZ cO) 72 a (cX cI cZ cO a) (AA 72 a s.heap.size) res) (XXc D (tyW cI cZ cO) 72 a (cX cI cZ cO a) (AA 72 a s.heap.size) res) args s rX8_vat.cells rX8_vat.slots (AA 72 a s.heap.size)) (bX8_vat_24 S) 24 [] [] S := by
  unfold bX8_vat_24
  refine g_iconst (v := -1) hc dX8_vat_24 (by decide) ?_
  exact g_xiret hc hr hlk (by decide) (by decide) dX8_vat_25
set_option maxHeartbeats 4000000 in
set_option maxRecDepth 100000 in
theorem mX8_vat (hst : l.stackTraces = false) (x1 : Int32) (x2 : Int32) (S : St) : ∀ q, uX8_vat x1 x2 S = some q → Xi l yX8_vat wsX8_vat rX8_vat D (tyW cI cZ cO) 72 a (cX cI cZ cO a) (EvX tF) [.ref (a 0), .int x1, .int x2] S q := by
  refine m_Xi (cc := cX8_vat) (nL := 3) (ret := (some .int)) (lv := [(0, .ref (a 0)), (1, .int x1), (2, .int x2)]) (by decide) rfl (Nat.le_of_ble_eq_true rfl) rfl ?_
  intro p e s m args below meth c hc hr hlk hout hE
  unfold uX8_vat
  refine g_iload_n (j := 1) hc dX8_vat_0 rfl rfl ?_
  refine g_xcallSIv (As := [.int x1]) (rest := []) hc hout hlk hE trX rfl (by decide) (by decide) (fun _ h => mX8_needDye hst x1 S _ h) (va_cwS 1 hc.1.2.2.2.2 gX8_vat_X8_needDye rfl rfl rfl (by decide +kernel) ⟨by decide, by decide⟩) rfl rfl (Nat.le_of_ble_eq_true rfl) dX8_vat_1 ⟨by decide, by decide⟩ (fun S2 => ?_)
  refine g_wid (k := 1) (n := 6) (by decide) (by decide) ?_
  refine g_iload_n (j := 2) hc dX8_vat_4 rfl rfl ?_
  refine g_iconst (v := 1) hc dX8_vat_5 (by decide) ?_
  refine g_icmp_lt (tgt := 24) hc dX8_vat_6 (by decide) ?_ ?_
  · refine g_lv [] rfl ?_
    exact tX8_vat_24 hst hc hr hlk hout hE S2
  · refine g_iload_n (j := 2) hc dX8_vat_9 rfl rfl ?_
    refine g_ldc (v := 1000000) hc dX8_vat_10 (List.mem_of_getElem? (i := 1) rfl) ?_
    refine g_aload_n (j := 0) hc dX8_vat_12 rfl rfl ?_
    refine g_get (C0 := RX8) (T := TX8) (M := 9) (k := 0) (ci := 8) hc inX8_vat_X8 (by decide) rfl rfl 1 (by decide) (List.mem_of_getElem? (i := 2) rfl) rfl rfl dX8_vat_13 ?_
    refine g_iload_n (j := 1) hc dX8_vat_16 rfl rfl ?_
    refine g_callVi (As := [.int x1]) (rest := [.int 1000000, .int x2]) (k := 2) (ci := 7) (q0 := (RX7, TX7, 2)) hc hE trX rfl (fun _ h => mX7_strengthOf x1 S2 _ h) (cwV 1 hc.1.2.2.2.2 gX8_vat_X7_strengthOf rfl rfl rfl (by decide +kernel) ⟨by decide, by decide⟩) (by decide) rfl rfl rfl rfl (Nat.le_of_ble_eq_true rfl) dX8_vat_17 ⟨by decide, by decide⟩ (fun v3 S4 => ?_)
    refine g_isub hc dX8_vat_20 ?_
    refine g_icmp_le (tgt := 26) hc dX8_vat_21 (by decide) ?_ ?_
    · refine g_aload_n (j := 0) hc dX8_vat_26 rfl rfl ?_
      refine g_get (C0 := RX8) (T := TX8) (M := 9) (k := 0) (ci := 8) hc inX8_vat_X8 (by decide) rfl rfl 1 (by decide) (List.mem_of_getElem? (i := 2) rfl) rfl rfl dX8_vat_27 ?_
      refine g_iload_n (j := 1) hc dX8_vat_30 rfl rfl ?_
      refine g_iload_n (j := 2) hc dX8_vat_31 rfl rfl ?_
      refine g_callVv (As := [.int x1, .int x2]) (rest := []) (k := 2) (ci := 7) (q0 := (RX7, TX7, 2)) hc hE trX rfl (fun _ h => mX7_fill x1 x2 S4 _ h) (cwV 2 hc.1.2.2.2.2 gX8_vat_X7_fill rfl rfl rfl (by decide +kernel) ⟨by decide, by decide⟩) (by decide) rfl rfl rfl rfl (Nat.le_of_ble_eq_true rfl) dX8_vat_32 ⟨by decide, by decide⟩ (fun S6 => ?_)
      refine g_aload_n (j := 0) hc dX8_vat_35 rfl rfl ?_
      refine g_get (C0 := RX8) (T := TX8) (M := 9) (k := 0) (ci := 8) hc inX8_vat_X8 (by decide) rfl rfl 1 (by decide) (List.mem_of_getElem? (i := 2) rfl) rfl rfl dX8_vat_36 ?_
      refine g_iload_n (j := 1) hc dX8_vat_39 rfl rfl ?_
      refine g_callVi (As := [.int x1]) (rest := []) (k := 2) (ci := 7) (q0 := (RX7, TX7, 2)) hc hE trX rfl (fun _ h => mX7_strengthOf x1 S6 _ h) (cwV 1 hc.1.2.2.2.2 gX8_vat_X7_strengthOf rfl rfl rfl (by decide +kernel) ⟨by decide, by decide⟩) (by decide) rfl rfl rfl rfl (Nat.le_of_ble_eq_true rfl) dX8_vat_40 ⟨by decide, by decide⟩ (fun v7 S8 => ?_)
      exact g_xiret hc hr hlk (by decide) (by decide) dX8_vat_43
    · refine g_lv [] rfl ?_
      exact tX8_vat_24 hst hc hr hlk hout hE S4
set_option maxHeartbeats 4000000 in
set_option maxRecDepth 100000 in
theorem mX8_tie (hst : l.stackTraces = false) (x1 : Int32) (x2 : Int32) (x3 : Int32) (S : St) : ∀ q, uX8_tie x1 x2 x3 S = some q → Xi l yX8_tie wsX8_tie rX8_tie D (tyW cI cZ cO) 72 a (cX cI cZ cO a) (EvX tF) [.ref (a 0), .int x1, .int x2, .int x3] S q := by
  refine m_Xi (cc := cX8_tie) (nL := 4) (ret := (some .int)) (lv := [(0, .ref (a 0)), (1, .int x1), (2, .int x2), (3, .int x3)]) (by decide) rfl (Nat.le_of_ble_eq_true rfl) rfl ?_
  intro p e s m args below meth c hc hr hlk hout hE
  unfold uX8_tie
  refine g_aload_n (j := 0) hc dX8_tie_0 rfl rfl ?_
  refine g_iload_n (j := 1) hc dX8_tie_1 rfl rfl ?_
  refine g_iload_n (j := 2) hc dX8_tie_2 rfl rfl ?_
  refine g_iload_n (j := 3) hc dX8_tie_3 rfl rfl ?_
  refine g_xcallVIv (As := [.int x1, .int x2, .int x3]) (rest := []) (k := 0) (ci := 8) (q0 := (RX8, TX8, 9)) hc hout hlk hE trX rfl (by decide) (by decide) (fun _ h => mX8_needRange hst x1 x2 x3 S _ h) (cwV 3 hc.1.2.2.2.2 gX8_tie_X8_needRange rfl rfl rfl (by decide +kernel) ⟨by decide, by decide⟩) (by decide) rfl rfl rfl rfl (Nat.le_of_ble_eq_true rfl) dX8_tie_4 ⟨by decide, by decide⟩ (fun S2 => ?_)
  refine g_wid (k := 4) (n := 24) (by decide) (by decide) ?_
  refine g_aload_n (j := 0) hc dX8_tie_7 rfl rfl ?_
  refine g_get (C0 := RX8) (T := TX8) (M := 9) (k := 0) (ci := 8) hc inX8_tie_X8 (by decide) rfl rfl 2 (by decide) (List.mem_of_getElem? (i := 1) rfl) rfl rfl dX8_tie_8 ?_
  refine g_iload_n (j := 1) hc dX8_tie_11 rfl rfl ?_
  refine g_iload_n (j := 2) hc dX8_tie_12 rfl rfl ?_
  refine g_iload_n (j := 3) hc dX8_tie_13 rfl rfl ?_
  refine g_callVi (As := [.int x1, .int x2, .int x3]) (rest := []) (k := 3) (ci := 0) (q0 := (RX0, TX0, 7)) hc hE trX rfl (fun _ h => mX0_bind x1 x2 x3 S2 _ h) (cwV 3 hc.1.2.2.2.2 gX8_tie_X0_bind rfl rfl rfl (by decide +kernel) ⟨by decide, by decide⟩) (by decide) rfl rfl rfl rfl (Nat.le_of_ble_eq_true rfl) dX8_tie_14 ⟨by decide, by decide⟩ (fun v3 S4 => ?_)
  exact g_xiret hc hr hlk (by decide) (by decide) dX8_tie_17
set_option maxHeartbeats 4000000 in
set_option maxRecDepth 100000 in
theorem mX8_untie (hst : l.stackTraces = false) (x1 : Int32) (x2 : Int32) (x3 : Int32) (S : St) : ∀ q, uX8_untie x1 x2 x3 S = some q → Xi l yX8_untie wsX8_untie rX8_untie D (tyW cI cZ cO) 72 a (cX cI cZ cO a) (EvX tF) [.ref (a 0), .int x1, .int x2, .int x3] S q := by
  refine m_Xi (cc := cX8_untie) (nL := 4) (ret := (some .int)) (lv := [(0, .ref (a 0)), (1, .int x1), (2, .int x2), (3, .int x3)]) (by decide) rfl (Nat.le_of_ble_eq_true rfl) rfl ?_
  intro p e s m args below meth c hc hr hlk hout hE
  unfold uX8_untie
  refine g_aload_n (j := 0) hc dX8_untie_0 rfl rfl ?_
  refine g_iload_n (j := 1) hc dX8_untie_1 rfl rfl ?_
  refine g_iload_n (j := 2) hc dX8_untie_2 rfl rfl ?_
  refine g_iload_n (j := 3) hc dX8_untie_3 rfl rfl ?_
  refine g_xcallVIv (As := [.int x1, .int x2, .int x3]) (rest := []) (k := 0) (ci := 8) (q0 := (RX8, TX8, 9)) hc hout hlk hE trX rfl (by decide) (by decide) (fun _ h => mX8_needRange hst x1 x2 x3 S _ h) (cwV 3 hc.1.2.2.2.2 gX8_untie_X8_needRange rfl rfl rfl (by decide +kernel) ⟨by decide, by decide⟩) (by decide) rfl rfl rfl rfl (Nat.le_of_ble_eq_true rfl) dX8_untie_4 ⟨by decide, by decide⟩ (fun S2 => ?_)
  refine g_wid (k := 4) (n := 24) (by decide) (by decide) ?_
  refine g_aload_n (j := 0) hc dX8_untie_7 rfl rfl ?_
  refine g_get (C0 := RX8) (T := TX8) (M := 9) (k := 0) (ci := 8) hc inX8_untie_X8 (by decide) rfl rfl 2 (by decide) (List.mem_of_getElem? (i := 1) rfl) rfl rfl dX8_untie_8 ?_
  refine g_iload_n (j := 1) hc dX8_untie_11 rfl rfl ?_
  refine g_iload_n (j := 2) hc dX8_untie_12 rfl rfl ?_
  refine g_iload_n (j := 3) hc dX8_untie_13 rfl rfl ?_
  refine g_callVi (As := [.int x1, .int x2, .int x3]) (rest := []) (k := 3) (ci := 0) (q0 := (RX0, TX0, 7)) hc hE trX rfl (fun _ h => mX0_loosen x1 x2 x3 S2 _ h) (cwV 3 hc.1.2.2.2.2 gX8_untie_X0_loosen rfl rfl rfl (by decide +kernel) ⟨by decide, by decide⟩) (by decide) rfl rfl rfl rfl (Nat.le_of_ble_eq_true rfl) dX8_untie_14 ⟨by decide, by decide⟩ (fun v3 S4 => ?_)
  exact g_xiret hc hr hlk (by decide) (by decide) dX8_untie_17
set_option maxHeartbeats 4000000 in
set_option maxRecDepth 100000 in
theorem mX8_bath (hst : l.stackTraces = false) (x1 : Int32) (S : St) : ∀ q, uX8_bath x1 S = some q → Xi l yX8_bath wsX8_bath rX8_bath D (tyW cI cZ cO) 72 a (cX cI cZ cO a) (EvX tF) [.ref (a 0), .int x1] S q := by
  refine m_Xi (cc := cX8_bath) (nL := 3) (ret := (some .int)) (lv := [(0, .ref (a 0)), (1, .int x1)]) (by decide) rfl (Nat.le_of_ble_eq_true rfl) rfl ?_
  intro p e s m args below meth c hc hr hlk hout hE
  unfold uX8_bath
  refine g_iload_n (j := 1) hc dX8_bath_0 rfl rfl ?_
  refine g_xcallSIv (As := [.int x1]) (rest := []) hc hout hlk hE trX rfl (by decide) (by decide) (fun _ h => mX8_needDye hst x1 S _ h) (va_cwS 1 hc.1.2.2.2.2 gX8_bath_X8_needDye rfl rfl rfl (by decide +kernel) ⟨by decide, by decide⟩) rfl rfl (Nat.le_of_ble_eq_true rfl) dX8_bath_1 ⟨by decide, by decide⟩ (fun S2 => ?_)
  refine g_wid (k := 1) (n := 6) (by decide) (by decide) ?_
  refine g_aload_n (j := 0) hc dX8_bath_4 rfl rfl ?_
  refine g_get (C0 := RX8) (T := TX8) (M := 9) (k := 0) (ci := 8) hc inX8_bath_X8 (by decide) rfl rfl 2 (by decide) (List.mem_of_getElem? (i := 1) rfl) rfl rfl dX8_bath_5 ?_
  refine g_callVi (As := []) (rest := []) (k := 3) (ci := 0) (q0 := (RX0, TX0, 7)) hc hE trX rfl (fun _ h => mX0_takesUp S2 _ h) (cwV 0 hc.1.2.2.2.2 gX8_bath_X0_takesUp rfl rfl rfl (by decide +kernel) ⟨by decide, by decide⟩) (by decide) rfl rfl rfl rfl (Nat.le_of_ble_eq_true rfl) dX8_bath_8 ⟨by decide, by decide⟩ (fun v3 S4 => ?_)
  refine g_istore_n (L := fun v5 => [(2, .int v5), (0, .ref (a 0)), (1, .int x1)]) hc dX8_bath_11 rfl (by decide) (fun _ => rfl) (fun v5 => ?_)
  refine g_iload_n (j := 0) hc dX8_bath_12 rfl rfl ?_
  refine g_aload_n (j := 1) hc dX8_bath_13 rfl rfl ?_
  refine g_get (C0 := RX8) (T := TX8) (M := 9) (k := 0) (ci := 8) hc inX8_bath_X8 (by decide) rfl rfl 1 (by decide) (List.mem_of_getElem? (i := 2) rfl) rfl rfl dX8_bath_14 ?_
  refine g_iload_n (j := 2) hc dX8_bath_17 rfl rfl ?_
  refine g_callVi (As := [.int x1]) (rest := [.int v5]) (k := 2) (ci := 7) (q0 := (RX7, TX7, 2)) hc hE trX rfl (fun _ h => mX7_strengthOf x1 S4 _ h) (cwV 1 hc.1.2.2.2.2 gX8_bath_X7_strengthOf rfl rfl rfl (by decide +kernel) ⟨by decide, by decide⟩) (by decide) rfl rfl rfl rfl (Nat.le_of_ble_eq_true rfl) dX8_bath_18 ⟨by decide, by decide⟩ (fun v6 S7 => ?_)
  refine g_icmp_le (tgt := 26) hc dX8_bath_21 (by decide) ?_ ?_
  · refine g_aload_n (j := 1) hc dX8_bath_26 rfl rfl ?_
    refine g_get (C0 := RX8) (T := TX8) (M := 9) (k := 0) (ci := 8) hc inX8_bath_X8 (by decide) rfl rfl 1 (by decide) (List.mem_of_getElem? (i := 2) rfl) rfl rfl dX8_bath_27 ?_
    refine g_iload_n (j := 2) hc dX8_bath_30 rfl rfl ?_
    refine g_iload_n (j := 0) hc dX8_bath_31 rfl rfl ?_
    refine g_callVv (As := [.int x1, .int v5]) (rest := []) (k := 2) (ci := 7) (q0 := (RX7, TX7, 2)) hc hE trX rfl (fun _ h => mX7_lose x1 v5 S7 _ h) (cwV 2 hc.1.2.2.2.2 gX8_bath_X7_lose rfl rfl rfl (by decide +kernel) ⟨by decide, by decide⟩) (by decide) rfl rfl rfl rfl (Nat.le_of_ble_eq_true rfl) dX8_bath_32 ⟨by decide, by decide⟩ (fun S9 => ?_)
    refine g_aload_n (j := 1) hc dX8_bath_35 rfl rfl ?_
    refine g_get (C0 := RX8) (T := TX8) (M := 9) (k := 0) (ci := 8) hc inX8_bath_X8 (by decide) rfl rfl 2 (by decide) (List.mem_of_getElem? (i := 1) rfl) rfl rfl dX8_bath_36 ?_
    refine g_iload_n (j := 2) hc dX8_bath_39 rfl rfl ?_
    refine g_aload_n (j := 1) hc dX8_bath_40 rfl rfl ?_
    refine g_get (C0 := RX8) (T := TX8) (M := 9) (k := 0) (ci := 8) hc inX8_bath_X8 (by decide) rfl rfl 0 (by decide) (List.mem_of_getElem? (i := 3) rfl) rfl rfl dX8_bath_41 ?_
    refine g_callVv (As := [.int x1, .ref (a 1)]) (rest := []) (k := 3) (ci := 0) (q0 := (RX0, TX0, 7)) hc hE trX rfl (fun _ h => mX0_dip x1 S9 _ h) (cwV 2 hc.1.2.2.2.2 gX8_bath_X0_dip rfl rfl rfl (by decide +kernel) ⟨by decide, by decide⟩) (by decide) rfl rfl rfl rfl (Nat.le_of_ble_eq_true rfl) dX8_bath_44 ⟨by decide, by decide⟩ (fun S11 => ?_)
    refine g_aload_n (j := 1) hc dX8_bath_47 rfl rfl ?_
    refine g_dup hc dX8_bath_48 rfl ?_
    refine g_get (C0 := RX8) (T := TX8) (M := 9) (k := 0) (ci := 8) hc inX8_bath_X8 (by decide) rfl rfl 8 (by decide) (List.mem_of_getElem? (i := 4) rfl) rfl rfl dX8_bath_49 ?_
    refine g_iconst (v := 1) hc dX8_bath_52 (by decide) ?_
    refine g_iadd hc dX8_bath_53 ?_
    refine g_put (ty := .int) (C0 := RX8) (T := TX8) (M := 9) (k := 0) (ci := 8) hc locX tyX8 tyX8_ok nmX8 inX8_bath_X8 (by decide) rfl rfl 8 (by decide) (List.mem_of_getElem? (i := 4) rfl) rfl rfl (by decide +kernel) rfl rfl (Nat.le_of_ble_eq_true rfl) rfl rfl dX8_bath_54 (fun S12 => ?_)
    refine g_iload_n (j := 0) hc dX8_bath_57 rfl rfl ?_
    exact g_xiret hc hr hlk (by decide) (by decide) dX8_bath_58
  · refine g_iconst (v := -1) hc dX8_bath_24 (by decide) ?_
    exact g_xiret hc hr hlk (by decide) (by decide) dX8_bath_25
set_option maxHeartbeats 4000000 in
set_option maxRecDepth 100000 in
theorem mX8_colour (hst : l.stackTraces = false) (x1 : Int32) (x2 : Int32) (S : St) : ∀ q, uX8_colour x1 x2 S = some q → Xi l yX8_colour wsX8_colour rX8_colour D (tyW cI cZ cO) 72 a (cX cI cZ cO a) (EvX tF) [.ref (a 0), .int x1, .int x2] S q := by
  refine m_Xi (cc := cX8_colour) (nL := 3) (ret := (some .int)) (lv := [(0, .ref (a 0)), (1, .int x1), (2, .int x2)]) (by decide) rfl (Nat.le_of_ble_eq_true rfl) rfl ?_
  intro p e s m args below meth c hc hr hlk hout hE
  unfold uX8_colour
  refine g_aload_n (j := 0) hc dX8_colour_0 rfl rfl ?_
  refine g_iload_n (j := 1) hc dX8_colour_1 rfl rfl ?_
  refine g_xcallVIv (As := [.int x1]) (rest := []) (k := 0) (ci := 8) (q0 := (RX8, TX8, 9)) hc hout hlk hE trX rfl (by decide) (by decide) (fun _ h => mX8_needThread hst x1 S _ h) (cwV 1 hc.1.2.2.2.2 gX8_colour_X8_needThread rfl rfl rfl (by decide +kernel) ⟨by decide, by decide⟩) (by decide) rfl rfl rfl rfl (Nat.le_of_ble_eq_true rfl) dX8_colour_2 ⟨by decide, by decide⟩ (fun S2 => ?_)
  refine g_wid (k := 1) (n := 6) (by decide) (by decide) ?_
  refine g_aload_n (j := 0) hc dX8_colour_5 rfl rfl ?_
  refine g_iload_n (j := 2) hc dX8_colour_6 rfl rfl ?_
  refine g_xcallVIv (As := [.int x2]) (rest := []) (k := 0) (ci := 8) (q0 := (RX8, TX8, 9)) hc hout hlk hE trX rfl (by decide) (by decide) (fun _ h => mX8_needPlace hst x2 S2 _ h) (cwV 1 hc.1.2.2.2.2 gX8_colour_X8_needPlace rfl rfl rfl (by decide +kernel) ⟨by decide, by decide⟩) (by decide) rfl rfl rfl rfl (Nat.le_of_ble_eq_true rfl) dX8_colour_7 ⟨by decide, by decide⟩ (fun S4 => ?_)
  refine g_wid (k := 2) (n := 12) (by decide) (by decide) ?_
  refine g_aload_n (j := 0) hc dX8_colour_10 rfl rfl ?_
  refine g_get (C0 := RX8) (T := TX8) (M := 9) (k := 0) (ci := 8) hc inX8_colour_X8 (by decide) rfl rfl 2 (by decide) (List.mem_of_getElem? (i := 1) rfl) rfl rfl dX8_colour_11 ?_
  refine g_iload_n (j := 1) hc dX8_colour_14 rfl rfl ?_
  refine g_iload_n (j := 2) hc dX8_colour_15 rfl rfl ?_
  refine g_callVi (As := [.int x1, .int x2]) (rest := []) (k := 3) (ci := 0) (q0 := (RX0, TX0, 7)) hc hE trX rfl (fun _ h => mX0_colourAt x1 x2 S4 _ h) (cwV 2 hc.1.2.2.2.2 gX8_colour_X0_colourAt rfl rfl rfl (by decide +kernel) ⟨by decide, by decide⟩) (by decide) rfl rfl rfl rfl (Nat.le_of_ble_eq_true rfl) dX8_colour_16 ⟨by decide, by decide⟩ (fun v5 S6 => ?_)
  exact g_xiret hc hr hlk (by decide) (by decide) dX8_colour_19
set_option maxHeartbeats 4000000 in
set_option maxRecDepth 100000 in
theorem mX8_bound (hst : l.stackTraces = false) (x1 : Int32) (x2 : Int32) (S : St) : ∀ q, uX8_bound x1 x2 S = some q → Xi l yX8_bound wsX8_bound rX8_bound D (tyW cI cZ cO) 72 a (cX cI cZ cO a) (EvX tF) [.ref (a 0), .int x1, .int x2] S q := by
  refine m_Xi (cc := cX8_bound) (nL := 3) (ret := (some .boolean)) (lv := [(0, .ref (a 0)), (1, .int x1), (2, .int x2)]) (by decide) rfl (Nat.le_of_ble_eq_true rfl) rfl ?_
  intro p e s m args below meth c hc hr hlk hout hE
  unfold uX8_bound
  refine g_iload_n (j := 1) hc dX8_bound_0 rfl rfl ?_
  refine g_xcallSIv (As := [.int x1]) (rest := []) hc hout hlk hE trX rfl (by decide) (by decide) (fun _ h => mX8_needBundle hst x1 S _ h) (va_cwS 1 hc.1.2.2.2.2 gX8_bound_X8_needBundle rfl rfl rfl (by decide +kernel) ⟨by decide, by decide⟩) rfl rfl (Nat.le_of_ble_eq_true rfl) dX8_bound_1 ⟨by decide, by decide⟩ (fun S2 => ?_)
  refine g_wid (k := 1) (n := 6) (by decide) (by decide) ?_
  refine g_aload_n (j := 0) hc dX8_bound_4 rfl rfl ?_
  refine g_iload_n (j := 2) hc dX8_bound_5 rfl rfl ?_
  refine g_xcallVIv (As := [.int x2]) (rest := []) (k := 0) (ci := 8) (q0 := (RX8, TX8, 9)) hc hout hlk hE trX rfl (by decide) (by decide) (fun _ h => mX8_needPlace hst x2 S2 _ h) (cwV 1 hc.1.2.2.2.2 gX8_bound_X8_needPlace rfl rfl rfl (by decide +kernel) ⟨by decide, by decide⟩) (by decide) rfl rfl rfl rfl (Nat.le_of_ble_eq_true rfl) dX8_bound_6 ⟨by decide, by decide⟩ (fun S4 => ?_)
  refine g_wid (k := 2) (n := 12) (by decide) (by decide) ?_
  refine g_aload_n (j := 0) hc dX8_bound_9 rfl rfl ?_
  refine g_get (C0 := RX8) (T := TX8) (M := 9) (k := 0) (ci := 8) hc inX8_bound_X8 (by decide) rfl rfl 2 (by decide) (List.mem_of_getElem? (i := 1) rfl) rfl rfl dX8_bound_10 ?_
  refine g_iload_n (j := 1) hc dX8_bound_13 rfl rfl ?_
  refine g_iload_n (j := 2) hc dX8_bound_14 rfl rfl ?_
  refine g_callVi (As := [.int x1, .int x2]) (rest := []) (k := 3) (ci := 0) (q0 := (RX0, TX0, 7)) hc hE trX rfl (fun _ h => mX0_isBound x1 x2 S4 _ h) (cwV 2 hc.1.2.2.2.2 gX8_bound_X0_isBound rfl rfl rfl (by decide +kernel) ⟨by decide, by decide⟩) (by decide) rfl rfl rfl rfl (Nat.le_of_ble_eq_true rfl) dX8_bound_15 ⟨by decide, by decide⟩ (fun v5 S6 => ?_)
  exact g_xzret hc hr hlk (by decide) (by decide) dX8_bound_18
set_option maxHeartbeats 4000000 in
set_option maxRecDepth 100000 in
theorem mX8_want (hst : l.stackTraces = false) (x1 : Int32) (x2 : Int32) (x3 : Int32) (S : St) : ∀ q, uX8_want x1 x2 x3 S = some q → Xi l yX8_want wsX8_want rX8_want D (tyW cI cZ cO) 72 a (cX cI cZ cO a) (EvX tF) [.ref (a 0), .int x1, .int x2, .int x3] S q := by
  refine m_Xi (cc := cX8_want) (nL := 5) (ret := (some .int)) (lv := [(0, .ref (a 0)), (1, .int x1), (2, .int x2), (3, .int x3)]) (by decide) rfl (Nat.le_of_ble_eq_true rfl) rfl ?_
  intro p e s m args below meth c hc hr hlk hout hE
  unfold uX8_want
  refine g_aload_n (j := 0) hc dX8_want_0 rfl rfl ?_
  refine g_iload_n (j := 1) hc dX8_want_1 rfl rfl ?_
  refine g_xcallVIv (As := [.int x1]) (rest := []) (k := 0) (ci := 8) (q0 := (RX8, TX8, 9)) hc hout hlk hE trX rfl (by decide) (by decide) (fun _ h => mX8_needThread hst x1 S _ h) (cwV 1 hc.1.2.2.2.2 gX8_want_X8_needThread rfl rfl rfl (by decide +kernel) ⟨by decide, by decide⟩) (by decide) rfl rfl rfl rfl (Nat.le_of_ble_eq_true rfl) dX8_want_2 ⟨by decide, by decide⟩ (fun S2 => ?_)
  refine g_wid (k := 1) (n := 6) (by decide) (by decide) ?_
  refine g_aload_n (j := 0) hc dX8_want_5 rfl rfl ?_
  refine g_iload_n (j := 2) hc dX8_want_6 rfl rfl ?_
  refine g_xcallVIv (As := [.int x2]) (rest := []) (k := 0) (ci := 8) (q0 := (RX8, TX8, 9)) hc hout hlk hE trX rfl (by decide) (by decide) (fun _ h => mX8_needPlace hst x2 S2 _ h) (cwV 1 hc.1.2.2.2.2 gX8_want_X8_needPlace rfl rfl rfl (by decide +kernel) ⟨by decide, by decide⟩) (by decide) rfl rfl rfl rfl (Nat.le_of_ble_eq_true rfl) dX8_want_7 ⟨by decide, by decide⟩ (fun S4 => ?_)
  refine g_wid (k := 2) (n := 12) (by decide) (by decide) ?_
  refine g_iload_n (j := 3) hc dX8_want_10 rfl rfl ?_
  refine g_callSi (As := [.int x3]) (rest := []) hc hE trX rfl (fun _ h => mX8_isColour x3 S4 _ h) (va_cwS 1 hc.1.2.2.2.2 gX8_want_X8_isColour rfl rfl rfl (by decide +kernel) ⟨by decide, by decide⟩) rfl rfl (Nat.le_of_ble_eq_true rfl) dX8_want_11 ⟨by decide, by decide⟩ (fun v5 S6 => ?_)
  refine g_if_ne (tgt := 27) hc dX8_want_14 (by decide) ?_ ?_
  · refine g_aload_n (j := 0) hc dX8_want_27 rfl rfl ?_
    refine g_get (C0 := RX8) (T := TX8) (M := 9) (k := 0) (ci := 8) hc inX8_want_X8 (by decide) rfl rfl 3 (by decide) (List.mem_of_getElem? (i := 3) rfl) rfl rfl dX8_want_28 ?_
    refine g_iload_n (j := 1) hc dX8_want_31 rfl rfl ?_
    refine g_iload_n (j := 2) hc dX8_want_32 rfl rfl ?_
    refine g_callVi (As := [.int x1, .int x2]) (rest := []) (k := 4) (ci := 3) (q0 := (RX3, TX3, 1)) hc hE trX rfl (fun _ h => mX3_wantedAt x1 x2 S6 _ h) (cwV 2 hc.1.2.2.2.2 gX8_want_X3_wantedAt rfl rfl rfl (by decide +kernel) ⟨by decide, by decide⟩) (by decide) rfl rfl rfl rfl (Nat.le_of_ble_eq_true rfl) dX8_want_33 ⟨by decide, by decide⟩ (fun v7 S8 => ?_)
    refine g_istore (L := fun v9 => [(4, .int v9), (0, .ref (a 0)), (1, .int x1), (2, .int x2), (3, .int x3)]) hc dX8_want_36 (by decide) (fun _ => rfl) (fun v9 => ?_)
    refine g_aload_n (j := 1) hc dX8_want_38 rfl rfl ?_
    refine g_get (C0 := RX8) (T := TX8) (M := 9) (k := 0) (ci := 8) hc inX8_want_X8 (by decide) rfl rfl 3 (by decide) (List.mem_of_getElem? (i := 3) rfl) rfl rfl dX8_want_39 ?_
    refine g_iload_n (j := 2) hc dX8_want_42 rfl rfl ?_
    refine g_iload_n (j := 3) hc dX8_want_43 rfl rfl ?_
    refine g_iload_n (j := 4) hc dX8_want_44 rfl rfl ?_
    refine g_callVv (As := [.int x1, .int x2, .int x3]) (rest := []) (k := 4) (ci := 3) (q0 := (RX3, TX3, 1)) hc hE trX rfl (fun _ h => mX3_ask x1 x2 x3 S8 _ h) (cwV 3 hc.1.2.2.2.2 gX8_want_X3_ask rfl rfl rfl (by decide +kernel) ⟨by decide, by decide⟩) (by decide) rfl rfl rfl rfl (Nat.le_of_ble_eq_true rfl) dX8_want_45 ⟨by decide, by decide⟩ (fun S11 => ?_)
    refine g_aload_n (j := 1) hc dX8_want_48 rfl rfl ?_
    refine g_get (C0 := RX8) (T := TX8) (M := 9) (k := 0) (ci := 8) hc inX8_want_X8 (by decide) rfl rfl 5 (by decide) (List.mem_of_getElem? (i := 4) rfl) rfl rfl dX8_want_49 ?_
    refine g_callVv (As := []) (rest := []) (k := 6) (ci := 4) (q0 := (RX4, TX4, 4)) hc hE trX rfl (fun _ h => mX4_drop S11 _ h) (cwV 0 hc.1.2.2.2.2 gX8_want_X4_drop rfl rfl rfl (by decide +kernel) ⟨by decide, by decide⟩) (by decide) rfl rfl rfl rfl (Nat.le_of_ble_eq_true rfl) dX8_want_52 ⟨by decide, by decide⟩ (fun S13 => ?_)
    refine g_iload (j := 0) hc dX8_want_55 rfl ?_
    exact g_xiret hc hr hlk (by decide) (by decide) dX8_want_57
  · exact g_throwSI (ic := 77) (names := ["java/lang/RuntimeException", "java/lang/Exception"]) hc hout hlk hst hE (List.mem_of_getElem? (i := 1) rfl) (List.mem_of_getElem? (i := 2) rfl) (hE.2.2.2.2.2.1 (114, "colour") (by decide +kernel)) (fun w h => hc.1.2.2.2.2 w (atX8_want_77 w h)) (by decide +kernel) (by decide +kernel) (by decide +kernel) (by decide +kernel) dX8_want_17 dX8_want_20 dX8_want_21 dX8_want_23 dX8_want_26 (by decide) (Nat.le_of_ble_eq_true rfl) (by decide) (by decide) (by decide) (by decide)
set_option maxHeartbeats 4000000 in
set_option maxRecDepth 100000 in
theorem tX8_plan_50 {p : Program} {e : Env} {s : State} {m : MethodId} {args : Array Value} {below : List Frame} {meth : Method} {c : Code} (hst : l.stackTraces = false) (hc : CT p s m args c cX8_plan 2 RX8 wsX8_plan D (tyW cI cZ cO)) (hr : meth.sig.returnType = (some .int)) (hlk : meth.locks = false) (hout : ∀ z ∈ c.exceptionTable.toList, False) (hE : EvX tF (AA 72 a s.heap.size) s) (S : St) : GF p l e rX8_plan s m args below meth c D 72 a (cX cI cZ cO a) (AA 72 a s.heap.size) 2 0 0 (fun res : RX => vx_MQ below (QXi D (tyW cI cZ cO) 72 a (cX cI cZ cO a) (AA 72 a s.heap.size) res) (XXc D (tyW cI cZ cO) 72 a (cX cI cZ cO a) (AA 72 a s.heap.size) res) args s rX8_plan.cells rX8_plan.slots (AA 72 a s.heap.size)) (bX8_plan_50 S) 50 [] [] S := by
  unfold bX8_plan_50
  refine g_iconst (v := -1) hc dX8_plan_50 (by decide) ?_
  exact g_xiret hc hr hlk (by decide) (by decide) dX8_plan_51
set_option maxHeartbeats 4000000 in
set_option maxRecDepth 100000 in
theorem mX8_plan (hst : l.stackTraces = false) (x1 : Int32) (S : St) : ∀ q, uX8_plan x1 S = some q → Xi l yX8_plan wsX8_plan rX8_plan D (tyW cI cZ cO) 72 a (cX cI cZ cO a) (EvX tF) [.ref (a 0), .int x1] S q := by
  refine m_Xi (cc := cX8_plan) (nL := 2) (ret := (some .int)) (lv := [(0, .ref (a 0)), (1, .int x1)]) (by decide) rfl (Nat.le_of_ble_eq_true rfl) rfl ?_
  intro p e s m args below meth c hc hr hlk hout hE
  unfold uX8_plan
  refine g_iload_n (j := 1) hc dX8_plan_0 rfl rfl ?_
  refine g_callSi (As := [.int x1]) (rest := []) hc hE trX rfl (fun _ h => mX8_isRow x1 S _ h) (va_cwS 1 hc.1.2.2.2.2 gX8_plan_X8_isRow rfl rfl rfl (by decide +kernel) ⟨by decide, by decide⟩) rfl rfl (Nat.le_of_ble_eq_true rfl) dX8_plan_1 ⟨by decide, by decide⟩ (fun v1 S2 => ?_)
  refine g_if_ne (tgt := 17) hc dX8_plan_4 (by decide) ?_ ?_
  · refine g_aload_n (j := 0) hc dX8_plan_17 rfl rfl ?_
    refine g_get (C0 := RX8) (T := TX8) (M := 9) (k := 0) (ci := 8) hc inX8_plan_X8 (by decide) rfl rfl 4 (by decide) (List.mem_of_getElem? (i := 3) rfl) rfl rfl dX8_plan_18 ?_
    refine g_aload_n (j := 0) hc dX8_plan_21 rfl rfl ?_
    refine g_get (C0 := RX8) (T := TX8) (M := 9) (k := 0) (ci := 8) hc inX8_plan_X8 (by decide) rfl rfl 2 (by decide) (List.mem_of_getElem? (i := 4) rfl) rfl rfl dX8_plan_22 ?_
    refine g_aload_n (j := 0) hc dX8_plan_25 rfl rfl ?_
    refine g_get (C0 := RX8) (T := TX8) (M := 9) (k := 0) (ci := 8) hc inX8_plan_X8 (by decide) rfl rfl 3 (by decide) (List.mem_of_getElem? (i := 5) rfl) rfl rfl dX8_plan_26 ?_
    refine g_callVi (As := [.ref (a 3), .ref (a 4)]) (rest := []) (k := 5) (ci := 5) (q0 := (RX5, TX5, 10)) hc hE trX rfl (fun _ h => mX5_aimAt S2 _ h) (cwV 2 hc.1.2.2.2.2 gX8_plan_X5_aimAt rfl rfl rfl (by decide +kernel) ⟨by decide, by decide⟩) (by decide) rfl rfl rfl rfl (Nat.le_of_ble_eq_true rfl) dX8_plan_29 ⟨by decide, by decide⟩ (fun v3 S4 => ?_)
    refine g_if_eq (tgt := 50) hc dX8_plan_32 (by decide) ?_ ?_
    · refine g_lv [] rfl ?_
      exact tX8_plan_50 hst hc hr hlk hout hE S4
    · refine g_aload_n (j := 0) hc dX8_plan_35 rfl rfl ?_
      refine g_get (C0 := RX8) (T := TX8) (M := 9) (k := 0) (ci := 8) hc inX8_plan_X8 (by decide) rfl rfl 4 (by decide) (List.mem_of_getElem? (i := 3) rfl) rfl rfl dX8_plan_36 ?_
      refine g_iload_n (j := 1) hc dX8_plan_39 rfl rfl ?_
      refine g_aload_n (j := 0) hc dX8_plan_40 rfl rfl ?_
      refine g_get (C0 := RX8) (T := TX8) (M := 9) (k := 0) (ci := 8) hc inX8_plan_X8 (by decide) rfl rfl 0 (by decide) (List.mem_of_getElem? (i := 6) rfl) rfl rfl dX8_plan_41 ?_
      refine g_callVi (As := [.int x1, .ref (a 1)]) (rest := []) (k := 5) (ci := 5) (q0 := (RX5, TX5, 10)) hc hE trX rfl (fun _ h => mX5_tryRow x1 S4 _ h) (cwV 2 hc.1.2.2.2.2 gX8_plan_X5_tryRow rfl rfl rfl (by decide +kernel) ⟨by decide, by decide⟩) (by decide) rfl rfl rfl rfl (Nat.le_of_ble_eq_true rfl) dX8_plan_44 ⟨by decide, by decide⟩ (fun v5 S6 => ?_)
      refine g_if_ne (tgt := 52) hc dX8_plan_47 (by decide) ?_ ?_
      · refine g_aload_n (j := 0) hc dX8_plan_52 rfl rfl ?_
        refine g_get (C0 := RX8) (T := TX8) (M := 9) (k := 0) (ci := 8) hc inX8_plan_X8 (by decide) rfl rfl 4 (by decide) (List.mem_of_getElem? (i := 3) rfl) rfl rfl dX8_plan_53 ?_
        refine g_aload_n (j := 0) hc dX8_plan_56 rfl rfl ?_
        refine g_get (C0 := RX8) (T := TX8) (M := 9) (k := 0) (ci := 8) hc inX8_plan_X8 (by decide) rfl rfl 5 (by decide) (List.mem_of_getElem? (i := 7) rfl) rfl rfl dX8_plan_57 ?_
        refine g_aload_n (j := 0) hc dX8_plan_60 rfl rfl ?_
        refine g_get (C0 := RX8) (T := TX8) (M := 9) (k := 0) (ci := 8) hc inX8_plan_X8 (by decide) rfl rfl 2 (by decide) (List.mem_of_getElem? (i := 4) rfl) rfl rfl dX8_plan_61 ?_
        refine g_callVv (As := [.ref (a 6), .ref (a 3)]) (rest := []) (k := 5) (ci := 5) (q0 := (RX5, TX5, 10)) hc hE trX rfl (fun _ h => mX5_writeInto S6 _ h) (cwV 2 hc.1.2.2.2.2 gX8_plan_X5_writeInto rfl rfl rfl (by decide +kernel) ⟨by decide, by decide⟩) (by decide) rfl rfl rfl rfl (Nat.le_of_ble_eq_true rfl) dX8_plan_64 ⟨by decide, by decide⟩ (fun S8 => ?_)
        refine g_aload_n (j := 0) hc dX8_plan_67 rfl rfl ?_
        refine g_get (C0 := RX8) (T := TX8) (M := 9) (k := 0) (ci := 8) hc inX8_plan_X8 (by decide) rfl rfl 5 (by decide) (List.mem_of_getElem? (i := 7) rfl) rfl rfl dX8_plan_68 ?_
        refine g_callVi (As := []) (rest := []) (k := 6) (ci := 4) (q0 := (RX4, TX4, 4)) hc hE trX rfl (fun _ h => mX4_ties S8 _ h) (cwV 0 hc.1.2.2.2.2 gX8_plan_X4_ties rfl rfl rfl (by decide +kernel) ⟨by decide, by decide⟩) (by decide) rfl rfl rfl rfl (Nat.le_of_ble_eq_true rfl) dX8_plan_71 ⟨by decide, by decide⟩ (fun v9 S10 => ?_)
        exact g_xiret hc hr hlk (by decide) (by decide) dX8_plan_74
      · refine g_lv [] rfl ?_
        exact tX8_plan_50 hst hc hr hlk hout hE S6
  · exact g_throwSI (ic := 77) (names := ["java/lang/RuntimeException", "java/lang/Exception"]) hc hout hlk hst hE (List.mem_of_getElem? (i := 1) rfl) (List.mem_of_getElem? (i := 2) rfl) (hE.2.2.2.2.2.1 (177, "row") (by decide +kernel)) (fun w h => hc.1.2.2.2.2 w (atX8_plan_77 w h)) (by decide +kernel) (by decide +kernel) (by decide +kernel) (by decide +kernel) dX8_plan_7 dX8_plan_10 dX8_plan_11 dX8_plan_13 dX8_plan_16 (by decide) (Nat.le_of_ble_eq_true rfl) (by decide) (by decide) (by decide) (by decide)
set_option maxHeartbeats 4000000 in
set_option maxRecDepth 100000 in
theorem tX8_best_72 {p : Program} {e : Env} {s : State} {m : MethodId} {args : Array Value} {below : List Frame} {meth : Method} {c : Code} (hst : l.stackTraces = false) (hc : CT p s m args c cX8_best 3 RX8 wsX8_best D (tyW cI cZ cO)) (hr : meth.sig.returnType = (some .int)) (hlk : meth.locks = false) (hout : ∀ z ∈ c.exceptionTable.toList, False) (hE : EvX tF (AA 72 a s.heap.size) s) (S : St) : GF p l e rX8_best s m args below meth c D 72 a (cX cI cZ cO a) (AA 72 a s.heap.size) 3 0 0 (fun res : RX => vx_MQ below (QXi D (tyW cI cZ cO) 72 a (cX cI cZ cO a) (AA 72 a s.heap.size) res) (XXc D (tyW cI cZ cO) 72 a (cX cI cZ cO a) (AA 72 a s.heap.size) res) args s rX8_best.cells rX8_best.slots (AA 72 a s.heap.size)) (bX8_best_72 S) 72 [] [] S := by
  unfold bX8_best_72
  refine g_iconst (v := -1) hc dX8_best_72 (by decide) ?_
  exact g_xiret hc hr hlk (by decide) (by decide) dX8_best_73
set_option maxHeartbeats 4000000 in
set_option maxRecDepth 100000 in
theorem tX8_best_9 {p : Program} {e : Env} {s : State} {m : MethodId} {args : Array Value} {below : List Frame} {meth : Method} {c : Code} (hst : l.stackTraces = false) (hc : CT p s m args c cX8_best 3 RX8 wsX8_best D (tyW cI cZ cO)) (hr : meth.sig.returnType = (some .int)) (hlk : meth.locks = false) (hout : ∀ z ∈ c.exceptionTable.toList, False) (hE : EvX tF (AA 72 a s.heap.size) s) (S : St) : GF p l e rX8_best s m args below meth c D 72 a (cX cI cZ cO a) (AA 72 a s.heap.size) 3 0 0 (fun res : RX => vx_MQ below (QXi D (tyW cI cZ cO) 72 a (cX cI cZ cO a) (AA 72 a s.heap.size) res) (XXc D (tyW cI cZ cO) 72 a (cX cI cZ cO a) (AA 72 a s.heap.size) res) args s rX8_best.cells rX8_best.slots (AA 72 a s.heap.size)) (bX8_best_9 S) 9 [] [] S := by
  unfold bX8_best_9
  exact g_throwSI (ic := 77) (names := ["java/lang/RuntimeException", "java/lang/Exception"]) hc hout hlk hst hE (List.mem_of_getElem? (i := 1) rfl) (List.mem_of_getElem? (i := 2) rfl) (hE.2.2.2.2.2.1 (194, "most") (by decide +kernel)) (fun w h => hc.1.2.2.2.2 w (atX8_best_77 w h)) (by decide +kernel) (by decide +kernel) (by decide +kernel) (by decide +kernel) dX8_best_9 dX8_best_12 dX8_best_13 dX8_best_15 dX8_best_18 (by decide) (Nat.le_of_ble_eq_true rfl) (by decide) (by decide) (by decide) (by decide)
set_option maxHeartbeats 4000000 in
set_option maxRecDepth 100000 in
theorem mX8_best (hst : l.stackTraces = false) (x1 : Int32) (S : St) : ∀ q, uX8_best x1 S = some q → Xi l yX8_best wsX8_best rX8_best D (tyW cI cZ cO) 72 a (cX cI cZ cO a) (EvX tF) [.ref (a 0), .int x1] S q := by
  refine m_Xi (cc := cX8_best) (nL := 3) (ret := (some .int)) (lv := [(0, .ref (a 0)), (1, .int x1)]) (by decide) rfl (Nat.le_of_ble_eq_true rfl) rfl ?_
  intro p e s m args below meth c hc hr hlk hout hE
  unfold uX8_best
  refine g_iload_n (j := 1) hc dX8_best_0 rfl rfl ?_
  refine g_if_lt (tgt := 9) hc dX8_best_1 (by decide) ?_ ?_
  · refine g_lv [] rfl ?_
    exact tX8_best_9 hst hc hr hlk hout hE S
  · refine g_iload_n (j := 1) hc dX8_best_4 rfl rfl ?_
    refine g_iconst (v := 4) hc dX8_best_5 (by decide) ?_
    refine g_icmp_le (tgt := 19) hc dX8_best_6 (by decide) ?_ ?_
    · refine g_aload_n (j := 0) hc dX8_best_19 rfl rfl ?_
      refine g_get (C0 := RX8) (T := TX8) (M := 9) (k := 0) (ci := 8) hc inX8_best_X8 (by decide) rfl rfl 4 (by decide) (List.mem_of_getElem? (i := 3) rfl) rfl rfl dX8_best_20 ?_
      refine g_aload_n (j := 0) hc dX8_best_23 rfl rfl ?_
      refine g_get (C0 := RX8) (T := TX8) (M := 9) (k := 0) (ci := 8) hc inX8_best_X8 (by decide) rfl rfl 2 (by decide) (List.mem_of_getElem? (i := 4) rfl) rfl rfl dX8_best_24 ?_
      refine g_aload_n (j := 0) hc dX8_best_27 rfl rfl ?_
      refine g_get (C0 := RX8) (T := TX8) (M := 9) (k := 0) (ci := 8) hc inX8_best_X8 (by decide) rfl rfl 3 (by decide) (List.mem_of_getElem? (i := 5) rfl) rfl rfl dX8_best_28 ?_
      refine g_callVi (As := [.ref (a 3), .ref (a 4)]) (rest := []) (k := 5) (ci := 5) (q0 := (RX5, TX5, 10)) hc hE trX rfl (fun _ h => mX5_aimAt S _ h) (cwV 2 hc.1.2.2.2.2 gX8_best_X5_aimAt rfl rfl rfl (by decide +kernel) ⟨by decide, by decide⟩) (by decide) rfl rfl rfl rfl (Nat.le_of_ble_eq_true rfl) dX8_best_31 ⟨by decide, by decide⟩ (fun v1 S2 => ?_)
      refine g_if_ne (tgt := 39) hc dX8_best_34 (by decide) ?_ ?_
      · refine g_aload_n (j := 0) hc dX8_best_39 rfl rfl ?_
        refine g_get (C0 := RX8) (T := TX8) (M := 9) (k := 0) (ci := 8) hc inX8_best_X8 (by decide) rfl rfl 4 (by decide) (List.mem_of_getElem? (i := 3) rfl) rfl rfl dX8_best_40 ?_
        refine g_iload_n (j := 1) hc dX8_best_43 rfl rfl ?_
        refine g_aload_n (j := 0) hc dX8_best_44 rfl rfl ?_
        refine g_get (C0 := RX8) (T := TX8) (M := 9) (k := 0) (ci := 8) hc inX8_best_X8 (by decide) rfl rfl 0 (by decide) (List.mem_of_getElem? (i := 6) rfl) rfl rfl dX8_best_45 ?_
        refine g_callVi (As := [.int x1, .ref (a 1)]) (rest := []) (k := 5) (ci := 5) (q0 := (RX5, TX5, 10)) hc hE trX rfl (fun _ h => mX5_bestRow x1 S2 _ h) (cwV 2 hc.1.2.2.2.2 gX8_best_X5_bestRow rfl rfl rfl (by decide +kernel) ⟨by decide, by decide⟩) (by decide) rfl rfl rfl rfl (Nat.le_of_ble_eq_true rfl) dX8_best_48 ⟨by decide, by decide⟩ (fun v3 S4 => ?_)
        refine g_istore_n (L := fun v5 => [(2, .int v5), (0, .ref (a 0)), (1, .int x1)]) hc dX8_best_51 rfl (by decide) (fun _ => rfl) (fun v5 => ?_)
        refine g_iload_n (j := 0) hc dX8_best_52 rfl rfl ?_
        refine g_iconst (v := -1) hc dX8_best_53 (by decide) ?_
        refine g_icmp_eq (tgt := 72) hc dX8_best_54 (by decide) ?_ ?_
        · refine g_lv [] rfl ?_
          exact tX8_best_72 hst hc hr hlk hout hE S4
        · refine g_aload_n (j := 1) hc dX8_best_57 rfl rfl ?_
          refine g_get (C0 := RX8) (T := TX8) (M := 9) (k := 0) (ci := 8) hc inX8_best_X8 (by decide) rfl rfl 4 (by decide) (List.mem_of_getElem? (i := 3) rfl) rfl rfl dX8_best_58 ?_
          refine g_iload_n (j := 0) hc dX8_best_61 rfl rfl ?_
          refine g_aload_n (j := 1) hc dX8_best_62 rfl rfl ?_
          refine g_get (C0 := RX8) (T := TX8) (M := 9) (k := 0) (ci := 8) hc inX8_best_X8 (by decide) rfl rfl 0 (by decide) (List.mem_of_getElem? (i := 6) rfl) rfl rfl dX8_best_63 ?_
          refine g_callVi (As := [.int v5, .ref (a 1)]) (rest := []) (k := 5) (ci := 5) (q0 := (RX5, TX5, 10)) hc hE trX rfl (fun _ h => mX5_tryRow v5 S4 _ h) (cwV 2 hc.1.2.2.2.2 gX8_best_X5_tryRow rfl rfl rfl (by decide +kernel) ⟨by decide, by decide⟩) (by decide) rfl rfl rfl rfl (Nat.le_of_ble_eq_true rfl) dX8_best_66 ⟨by decide, by decide⟩ (fun v6 S7 => ?_)
          refine g_if_ne (tgt := 74) hc dX8_best_69 (by decide) ?_ ?_
          · refine g_aload_n (j := 1) hc dX8_best_74 rfl rfl ?_
            refine g_get (C0 := RX8) (T := TX8) (M := 9) (k := 0) (ci := 8) hc inX8_best_X8 (by decide) rfl rfl 4 (by decide) (List.mem_of_getElem? (i := 3) rfl) rfl rfl dX8_best_75 ?_
            refine g_aload_n (j := 1) hc dX8_best_78 rfl rfl ?_
            refine g_get (C0 := RX8) (T := TX8) (M := 9) (k := 0) (ci := 8) hc inX8_best_X8 (by decide) rfl rfl 5 (by decide) (List.mem_of_getElem? (i := 7) rfl) rfl rfl dX8_best_79 ?_
            refine g_aload_n (j := 1) hc dX8_best_82 rfl rfl ?_
            refine g_get (C0 := RX8) (T := TX8) (M := 9) (k := 0) (ci := 8) hc inX8_best_X8 (by decide) rfl rfl 2 (by decide) (List.mem_of_getElem? (i := 4) rfl) rfl rfl dX8_best_83 ?_
            refine g_callVv (As := [.ref (a 6), .ref (a 3)]) (rest := []) (k := 5) (ci := 5) (q0 := (RX5, TX5, 10)) hc hE trX rfl (fun _ h => mX5_writeInto S7 _ h) (cwV 2 hc.1.2.2.2.2 gX8_best_X5_writeInto rfl rfl rfl (by decide +kernel) ⟨by decide, by decide⟩) (by decide) rfl rfl rfl rfl (Nat.le_of_ble_eq_true rfl) dX8_best_86 ⟨by decide, by decide⟩ (fun S9 => ?_)
            refine g_aload_n (j := 1) hc dX8_best_89 rfl rfl ?_
            refine g_get (C0 := RX8) (T := TX8) (M := 9) (k := 0) (ci := 8) hc inX8_best_X8 (by decide) rfl rfl 5 (by decide) (List.mem_of_getElem? (i := 7) rfl) rfl rfl dX8_best_90 ?_
            refine g_callVi (As := []) (rest := []) (k := 6) (ci := 4) (q0 := (RX4, TX4, 4)) hc hE trX rfl (fun _ h => mX4_ties S9 _ h) (cwV 0 hc.1.2.2.2.2 gX8_best_X4_ties rfl rfl rfl (by decide +kernel) ⟨by decide, by decide⟩) (by decide) rfl rfl rfl rfl (Nat.le_of_ble_eq_true rfl) dX8_best_93 ⟨by decide, by decide⟩ (fun v10 S11 => ?_)
            exact g_xiret hc hr hlk (by decide) (by decide) dX8_best_96
          · refine g_lv [] rfl ?_
            exact tX8_best_72 hst hc hr hlk hout hE S7
      · refine g_iconst (v := -1) hc dX8_best_37 (by decide) ?_
        exact g_xiret hc hr hlk (by decide) (by decide) dX8_best_38
    · refine g_lv [] rfl ?_
      exact tX8_best_9 hst hc hr hlk hout hE S
set_option maxHeartbeats 4000000 in
set_option maxRecDepth 100000 in
theorem tX8_bits_32 {p : Program} {e : Env} {s : State} {m : MethodId} {args : Array Value} {below : List Frame} {meth : Method} {c : Code} (hst : l.stackTraces = false) (hc : CT p s m args c cX8_bits 3 RX8 wsX8_bits D (tyW cI cZ cO)) (hr : meth.sig.returnType = (some .int)) (hlk : meth.locks = false) (hout : ∀ z ∈ c.exceptionTable.toList, False) (hE : EvX tF (AA 72 a s.heap.size) s) (y0 : Int32) (S : St) : GF p l e rX8_bits s m args below meth c D 72 a (cX cI cZ cO a) (AA 72 a s.heap.size) 3 2 12 (fun res : RX => vx_MQ below (QXi D (tyW cI cZ cO) 72 a (cX cI cZ cO a) (AA 72 a s.heap.size) res) (XXc D (tyW cI cZ cO) 72 a (cX cI cZ cO a) (AA 72 a s.heap.size) res) args s rX8_bits.cells rX8_bits.slots (AA 72 a s.heap.size)) (bX8_bits_32 y0 S) 32 [] [.int y0] S := by
  unfold bX8_bits_32
  exact g_xiret hc hr hlk (by decide) (by decide) dX8_bits_32
set_option maxHeartbeats 4000000 in
set_option maxRecDepth 100000 in
theorem mX8_bits (hst : l.stackTraces = false) (x1 : Int32) (x2 : Int32) (S : St) : ∀ q, uX8_bits x1 x2 S = some q → Xi l yX8_bits wsX8_bits rX8_bits D (tyW cI cZ cO) 72 a (cX cI cZ cO a) (EvX tF) [.ref (a 0), .int x1, .int x2] S q := by
  refine m_Xi (cc := cX8_bits) (nL := 3) (ret := (some .int)) (lv := [(0, .ref (a 0)), (1, .int x1), (2, .int x2)]) (by decide) rfl (Nat.le_of_ble_eq_true rfl) rfl ?_
  intro p e s m args below meth c hc hr hlk hout hE
  unfold uX8_bits
  refine g_iload_n (j := 1) hc dX8_bits_0 rfl rfl ?_
  refine g_xcallSIv (As := [.int x1]) (rest := []) hc hout hlk hE trX rfl (by decide) (by decide) (fun _ h => mX8_needBundle hst x1 S _ h) (va_cwS 1 hc.1.2.2.2.2 gX8_bits_X8_needBundle rfl rfl rfl (by decide +kernel) ⟨by decide, by decide⟩) rfl rfl (Nat.le_of_ble_eq_true rfl) dX8_bits_1 ⟨by decide, by decide⟩ (fun S2 => ?_)
  refine g_wid (k := 1) (n := 6) (by decide) (by decide) ?_
  refine g_aload_n (j := 0) hc dX8_bits_4 rfl rfl ?_
  refine g_iload_n (j := 2) hc dX8_bits_5 rfl rfl ?_
  refine g_xcallVIv (As := [.int x2]) (rest := []) (k := 0) (ci := 8) (q0 := (RX8, TX8, 9)) hc hout hlk hE trX rfl (by decide) (by decide) (fun _ h => mX8_needPlace hst x2 S2 _ h) (cwV 1 hc.1.2.2.2.2 gX8_bits_X8_needPlace rfl rfl rfl (by decide +kernel) ⟨by decide, by decide⟩) (by decide) rfl rfl rfl rfl (Nat.le_of_ble_eq_true rfl) dX8_bits_6 ⟨by decide, by decide⟩ (fun S4 => ?_)
  refine g_wid (k := 2) (n := 12) (by decide) (by decide) ?_
  refine g_aload_n (j := 0) hc dX8_bits_9 rfl rfl ?_
  refine g_get (C0 := RX8) (T := TX8) (M := 9) (k := 0) (ci := 8) hc inX8_bits_X8 (by decide) rfl rfl 5 (by decide) (List.mem_of_getElem? (i := 1) rfl) rfl rfl dX8_bits_10 ?_
  refine g_callVi (As := []) (rest := []) (k := 6) (ci := 4) (q0 := (RX4, TX4, 4)) hc hE trX rfl (fun _ h => mX4_exists S4 _ h) (cwV 0 hc.1.2.2.2.2 gX8_bits_X4_exists rfl rfl rfl (by decide +kernel) ⟨by decide, by decide⟩) (by decide) rfl rfl rfl rfl (Nat.le_of_ble_eq_true rfl) dX8_bits_13 ⟨by decide, by decide⟩ (fun v5 S6 => ?_)
  refine g_if_eq (tgt := 31) hc dX8_bits_16 (by decide) ?_ ?_
  · refine g_iconst (v := -1) hc dX8_bits_31 (by decide) ?_
    refine g_lv [] rfl ?_
    exact tX8_bits_32 hst hc hr hlk hout hE ((-1)) S6
  · refine g_aload_n (j := 0) hc dX8_bits_19 rfl rfl ?_
    refine g_get (C0 := RX8) (T := TX8) (M := 9) (k := 0) (ci := 8) hc inX8_bits_X8 (by decide) rfl rfl 5 (by decide) (List.mem_of_getElem? (i := 1) rfl) rfl rfl dX8_bits_20 ?_
    refine g_iload_n (j := 1) hc dX8_bits_23 rfl rfl ?_
    refine g_iload_n (j := 2) hc dX8_bits_24 rfl rfl ?_
    refine g_callVi (As := [.int x1, .int x2]) (rest := []) (k := 6) (ci := 4) (q0 := (RX4, TX4, 4)) hc hE trX rfl (fun _ h => mX4_bitsAt x1 x2 S6 _ h) (cwV 2 hc.1.2.2.2.2 gX8_bits_X4_bitsAt rfl rfl rfl (by decide +kernel) ⟨by decide, by decide⟩) (by decide) rfl rfl rfl rfl (Nat.le_of_ble_eq_true rfl) dX8_bits_25 ⟨by decide, by decide⟩ (fun v7 S8 => ?_)
    refine g_goto (tgt := 32) hc dX8_bits_28 (by decide) ?_
    refine g_lv [] rfl ?_
    exact tX8_bits_32 hst hc hr hlk hout hE v7 S8
set_option maxHeartbeats 4000000 in
set_option maxRecDepth 100000 in
theorem tX8_kept_68 {p : Program} {e : Env} {s : State} {m : MethodId} {args : Array Value} {below : List Frame} {meth : Method} {c : Code} (hst : l.stackTraces = false) (hc : CT p s m args c cX8_kept 2 RX8 wsX8_kept D (tyW cI cZ cO)) (hr : meth.sig.returnType = (some .int)) (hlk : meth.locks = false) (hout : ∀ z ∈ c.exceptionTable.toList, False) (hE : EvX tF (AA 72 a s.heap.size) s) (y0 : Int32) (S : St) : GF p l e rX8_kept s m args below meth c D 72 a (cX cI cZ cO a) (AA 72 a s.heap.size) 2 0 0 (fun res : RX => vx_MQ below (QXi D (tyW cI cZ cO) 72 a (cX cI cZ cO a) (AA 72 a s.heap.size) res) (XXc D (tyW cI cZ cO) 72 a (cX cI cZ cO a) (AA 72 a s.heap.size) res) args s rX8_kept.cells rX8_kept.slots (AA 72 a s.heap.size)) (bX8_kept_68 y0 S) 68 [] [.int y0] S := by
  unfold bX8_kept_68
  exact g_xiret hc hr hlk (by decide) (by decide) dX8_kept_68
set_option maxHeartbeats 4000000 in
set_option maxRecDepth 100000 in
theorem tX8_kept_9 {p : Program} {e : Env} {s : State} {m : MethodId} {args : Array Value} {below : List Frame} {meth : Method} {c : Code} (hst : l.stackTraces = false) (hc : CT p s m args c cX8_kept 2 RX8 wsX8_kept D (tyW cI cZ cO)) (hr : meth.sig.returnType = (some .int)) (hlk : meth.locks = false) (hout : ∀ z ∈ c.exceptionTable.toList, False) (hE : EvX tF (AA 72 a s.heap.size) s) (S : St) : GF p l e rX8_kept s m args below meth c D 72 a (cX cI cZ cO a) (AA 72 a s.heap.size) 2 0 0 (fun res : RX => vx_MQ below (QXi D (tyW cI cZ cO) 72 a (cX cI cZ cO a) (AA 72 a s.heap.size) res) (XXc D (tyW cI cZ cO) 72 a (cX cI cZ cO a) (AA 72 a s.heap.size) res) args s rX8_kept.cells rX8_kept.slots (AA 72 a s.heap.size)) (bX8_kept_9 S) 9 [] [] S := by
  unfold bX8_kept_9
  exact g_throwNI (ic := 204) hc hout hlk hst hE (List.mem_of_getElem? (i := 1) rfl) (List.mem_of_getElem? (i := 2) rfl) (hE.2.2.2.2.2.1 (202, "what") (by decide +kernel)) (fun w h => hc.1.2.2.2.2 w (atX8_kept_204 w h)) (by decide +kernel) (by decide +kernel) dX8_kept_9 dX8_kept_12 dX8_kept_13 dX8_kept_15 dX8_kept_18 (by decide) (Nat.le_of_ble_eq_true rfl) (by decide) (by decide) (by decide) (by decide)
set_option maxHeartbeats 4000000 in
set_option maxRecDepth 100000 in
theorem mX8_kept (hst : l.stackTraces = false) (x1 : Int32) (S : St) : ∀ q, uX8_kept x1 S = some q → Xi l yX8_kept wsX8_kept rX8_kept D (tyW cI cZ cO) 72 a (cX cI cZ cO a) (EvX tF) [.ref (a 0), .int x1] S q := by
  refine m_Xi (cc := cX8_kept) (nL := 2) (ret := (some .int)) (lv := [(0, .ref (a 0)), (1, .int x1)]) (by decide) rfl (Nat.le_of_ble_eq_true rfl) rfl ?_
  intro p e s m args below meth c hc hr hlk hout hE
  unfold uX8_kept
  refine g_iload_n (j := 1) hc dX8_kept_0 rfl rfl ?_
  refine g_if_lt (tgt := 9) hc dX8_kept_1 (by decide) ?_ ?_
  · refine g_lv [] rfl ?_
    exact tX8_kept_9 hst hc hr hlk hout hE S
  · refine g_iload_n (j := 1) hc dX8_kept_4 rfl rfl ?_
    refine g_iconst (v := 2) hc dX8_kept_5 (by decide) ?_
    refine g_icmp_le (tgt := 19) hc dX8_kept_6 (by decide) ?_ ?_
    · refine g_aload_n (j := 0) hc dX8_kept_19 rfl rfl ?_
      refine g_get (C0 := RX8) (T := TX8) (M := 9) (k := 0) (ci := 8) hc inX8_kept_X8 (by decide) rfl rfl 5 (by decide) (List.mem_of_getElem? (i := 3) rfl) rfl rfl dX8_kept_20 ?_
      refine g_callVi (As := []) (rest := []) (k := 6) (ci := 4) (q0 := (RX4, TX4, 4)) hc hE trX rfl (fun _ h => mX4_exists S _ h) (cwV 0 hc.1.2.2.2.2 gX8_kept_X4_exists rfl rfl rfl (by decide +kernel) ⟨by decide, by decide⟩) (by decide) rfl rfl rfl rfl (Nat.le_of_ble_eq_true rfl) dX8_kept_23 ⟨by decide, by decide⟩ (fun v1 S2 => ?_)
      refine g_if_ne (tgt := 31) hc dX8_kept_26 (by decide) ?_ ?_
      · refine g_iload_n (j := 1) hc dX8_kept_31 rfl rfl ?_
        refine g_if_ne (tgt := 43) hc dX8_kept_32 (by decide) ?_ ?_
        · refine g_iload_n (j := 1) hc dX8_kept_43 rfl rfl ?_
          refine g_iconst (v := 1) hc dX8_kept_44 (by decide) ?_
          refine g_icmp_ne (tgt := 61) hc dX8_kept_45 (by decide) ?_ ?_
          · refine g_aload_n (j := 0) hc dX8_kept_61 rfl rfl ?_
            refine g_get (C0 := RX8) (T := TX8) (M := 9) (k := 0) (ci := 8) hc inX8_kept_X8 (by decide) rfl rfl 5 (by decide) (List.mem_of_getElem? (i := 3) rfl) rfl rfl dX8_kept_62 ?_
            refine g_callVi (As := []) (rest := []) (k := 6) (ci := 4) (q0 := (RX4, TX4, 4)) hc hE trX rfl (fun _ h => mX4_ties S2 _ h) (cwV 0 hc.1.2.2.2.2 gX8_kept_X4_ties rfl rfl rfl (by decide +kernel) ⟨by decide, by decide⟩) (by decide) rfl rfl rfl rfl (Nat.le_of_ble_eq_true rfl) dX8_kept_65 ⟨by decide, by decide⟩ (fun v3 S4 => ?_)
            refine g_lv [] rfl ?_
            exact tX8_kept_68 hst hc hr hlk hout hE v3 S4
          · refine g_aload_n (j := 0) hc dX8_kept_48 rfl rfl ?_
            refine g_get (C0 := RX8) (T := TX8) (M := 9) (k := 0) (ci := 8) hc inX8_kept_X8 (by decide) rfl rfl 5 (by decide) (List.mem_of_getElem? (i := 3) rfl) rfl rfl dX8_kept_49 ?_
            refine g_callVi (As := []) (rest := []) (k := 6) (ci := 4) (q0 := (RX4, TX4, 4)) hc hE trX rfl (fun _ h => mX4_row S2 _ h) (cwV 0 hc.1.2.2.2.2 gX8_kept_X4_row rfl rfl rfl (by decide +kernel) ⟨by decide, by decide⟩) (by decide) rfl rfl rfl rfl (Nat.le_of_ble_eq_true rfl) dX8_kept_52 ⟨by decide, by decide⟩ (fun v5 S6 => ?_)
            refine g_callSi (As := [.int v5]) (rest := []) hc hE trX rfl (fun _ h => mX8_bathsOf v5 S6 _ h) (va_cwS 1 hc.1.2.2.2.2 gX8_kept_X8_bathsOf rfl rfl rfl (by decide +kernel) ⟨by decide, by decide⟩) rfl rfl (Nat.le_of_ble_eq_true rfl) dX8_kept_55 ⟨by decide, by decide⟩ (fun v7 S8 => ?_)
            refine g_goto (tgt := 68) hc dX8_kept_58 (by decide) ?_
            refine g_lv [] rfl ?_
            exact tX8_kept_68 hst hc hr hlk hout hE v7 S8
        · refine g_aload_n (j := 0) hc dX8_kept_35 rfl rfl ?_
          refine g_get (C0 := RX8) (T := TX8) (M := 9) (k := 0) (ci := 8) hc inX8_kept_X8 (by decide) rfl rfl 5 (by decide) (List.mem_of_getElem? (i := 3) rfl) rfl rfl dX8_kept_36 ?_
          refine g_callVi (As := []) (rest := []) (k := 6) (ci := 4) (q0 := (RX4, TX4, 4)) hc hE trX rfl (fun _ h => mX4_row S2 _ h) (cwV 0 hc.1.2.2.2.2 gX8_kept_X4_row rfl rfl rfl (by decide +kernel) ⟨by decide, by decide⟩) (by decide) rfl rfl rfl rfl (Nat.le_of_ble_eq_true rfl) dX8_kept_39 ⟨by decide, by decide⟩ (fun v9 S10 => ?_)
          exact g_xiret hc hr hlk (by decide) (by decide) dX8_kept_42
      · refine g_iconst (v := -1) hc dX8_kept_29 (by decide) ?_
        exact g_xiret hc hr hlk (by decide) (by decide) dX8_kept_30
    · refine g_lv [] rfl ?_
      exact tX8_kept_9 hst hc hr hlk hout hE S
set_option maxHeartbeats 4000000 in
set_option maxRecDepth 100000 in
theorem tX8_count_10 {p : Program} {e : Env} {s : State} {m : MethodId} {args : Array Value} {below : List Frame} {meth : Method} {c : Code} (hst : l.stackTraces = false) (hc : CT p s m args c cX8_count 2 RX8 wsX8_count D (tyW cI cZ cO)) (hr : meth.sig.returnType = (some .int)) (hlk : meth.locks = false) (hout : ∀ z ∈ c.exceptionTable.toList, False) (hE : EvX tF (AA 72 a s.heap.size) s) (S : St) : GF p l e rX8_count s m args below meth c D 72 a (cX cI cZ cO a) (AA 72 a s.heap.size) 2 0 0 (fun res : RX => vx_MQ below (QXi D (tyW cI cZ cO) 72 a (cX cI cZ cO a) (AA 72 a s.heap.size) res) (XXc D (tyW cI cZ cO) 72 a (cX cI cZ cO a) (AA 72 a s.heap.size) res) args s rX8_count.cells rX8_count.slots (AA 72 a s.heap.size)) (bX8_count_10 S) 10 [] [] S := by
  unfold bX8_count_10
  exact g_throwNI (ic := 204) hc hout hlk hst hE (List.mem_of_getElem? (i := 1) rfl) (List.mem_of_getElem? (i := 2) rfl) (hE.2.2.2.2.2.1 (202, "what") (by decide +kernel)) (fun w h => hc.1.2.2.2.2 w (atX8_count_204 w h)) (by decide +kernel) (by decide +kernel) dX8_count_10 dX8_count_13 dX8_count_14 dX8_count_16 dX8_count_19 (by decide) (Nat.le_of_ble_eq_true rfl) (by decide) (by decide) (by decide) (by decide)
set_option maxHeartbeats 4000000 in
set_option maxRecDepth 100000 in
theorem mX8_count (hst : l.stackTraces = false) (x1 : Int32) (S : St) : ∀ q, uX8_count x1 S = some q → Xi l yX8_count wsX8_count rX8_count D (tyW cI cZ cO) 72 a (cX cI cZ cO a) (EvX tF) [.ref (a 0), .int x1] S q := by
  refine m_Xi (cc := cX8_count) (nL := 2) (ret := (some .int)) (lv := [(0, .ref (a 0)), (1, .int x1)]) (by decide) rfl (Nat.le_of_ble_eq_true rfl) rfl ?_
  intro p e s m args below meth c hc hr hlk hout hE
  unfold uX8_count
  refine g_iload_n (j := 1) hc dX8_count_0 rfl rfl ?_
  refine g_if_lt (tgt := 10) hc dX8_count_1 (by decide) ?_ ?_
  · refine g_lv [] rfl ?_
    exact tX8_count_10 hst hc hr hlk hout hE S
  · refine g_iload_n (j := 1) hc dX8_count_4 rfl rfl ?_
    refine g_bipush (v := 16) hc dX8_count_5 (by decide) ?_
    refine g_icmp_lt (tgt := 20) hc dX8_count_7 (by decide) ?_ ?_
    · refine g_iload_n (j := 1) hc dX8_count_20 rfl rfl ?_
      refine g_bipush (v := 8) hc dX8_count_21 (by decide) ?_
      refine g_icmp_lt (tgt := 38) hc dX8_count_23 (by decide) ?_ ?_
      · refine g_iload_n (j := 1) hc dX8_count_38 rfl rfl ?_
        refine g_iconst (v := 4) hc dX8_count_39 (by decide) ?_
        refine g_icmp_lt (tgt := 54) hc dX8_count_40 (by decide) ?_ ?_
        · refine g_iload_n (j := 1) hc dX8_count_54 rfl rfl ?_
          refine g_tsw3 (t0 := 80) (t1 := 88) (t2 := 96) (t3 := 101) hc dX8_count_55 (by decide) (by decide) (by decide) (by decide) ?_ ?_ ?_ ?_
          · refine g_aload_n (j := 0) hc dX8_count_80 rfl rfl ?_
            refine g_get (C0 := RX8) (T := TX8) (M := 9) (k := 0) (ci := 8) hc inX8_count_X8 (by decide) rfl rfl 2 (by decide) (List.mem_of_getElem? (i := 3) rfl) rfl rfl dX8_count_81 ?_
            refine g_callVi (As := []) (rest := []) (k := 3) (ci := 0) (q0 := (RX0, TX0, 7)) hc hE trX rfl (fun _ h => mX0_threads S _ h) (cwV 0 hc.1.2.2.2.2 gX8_count_X0_threads rfl rfl rfl (by decide +kernel) ⟨by decide, by decide⟩) (by decide) rfl rfl rfl rfl (Nat.le_of_ble_eq_true rfl) dX8_count_84 ⟨by decide, by decide⟩ (fun v1 S2 => ?_)
            exact g_xiret hc hr hlk (by decide) (by decide) dX8_count_87
          · refine g_aload_n (j := 0) hc dX8_count_88 rfl rfl ?_
            refine g_get (C0 := RX8) (T := TX8) (M := 9) (k := 0) (ci := 8) hc inX8_count_X8 (by decide) rfl rfl 2 (by decide) (List.mem_of_getElem? (i := 3) rfl) rfl rfl dX8_count_89 ?_
            refine g_callVi (As := []) (rest := []) (k := 3) (ci := 0) (q0 := (RX0, TX0, 7)) hc hE trX rfl (fun _ h => mX0_places S _ h) (cwV 0 hc.1.2.2.2.2 gX8_count_X0_places rfl rfl rfl (by decide +kernel) ⟨by decide, by decide⟩) (by decide) rfl rfl rfl rfl (Nat.le_of_ble_eq_true rfl) dX8_count_92 ⟨by decide, by decide⟩ (fun v3 S4 => ?_)
            exact g_xiret hc hr hlk (by decide) (by decide) dX8_count_95
          · refine g_aload_n (j := 0) hc dX8_count_96 rfl rfl ?_
            refine g_get (C0 := RX8) (T := TX8) (M := 9) (k := 0) (ci := 8) hc inX8_count_X8 (by decide) rfl rfl 8 (by decide) (List.mem_of_getElem? (i := 5) rfl) rfl rfl dX8_count_97 ?_
            exact g_xiret hc hr hlk (by decide) (by decide) dX8_count_100
          · refine g_aload_n (j := 0) hc dX8_count_101 rfl rfl ?_
            refine g_get (C0 := RX8) (T := TX8) (M := 9) (k := 0) (ci := 8) hc inX8_count_X8 (by decide) rfl rfl 7 (by decide) (List.mem_of_getElem? (i := 6) rfl) rfl rfl dX8_count_102 ?_
            refine g_callVi (As := []) (rest := []) (k := 8) (ci := 1) (q0 := (RX1, TX1, 4)) hc hE trX rfl (fun _ h => mX1_size S _ h) (cwV 0 hc.1.2.2.2.2 gX8_count_X1_size rfl rfl rfl (by decide +kernel) ⟨by decide, by decide⟩) (by decide) rfl rfl rfl rfl (Nat.le_of_ble_eq_true rfl) dX8_count_105 ⟨by decide, by decide⟩ (fun v5 S6 => ?_)
            exact g_xiret hc hr hlk (by decide) (by decide) dX8_count_108
        · refine g_aload_n (j := 0) hc dX8_count_43 rfl rfl ?_
          refine g_get (C0 := RX8) (T := TX8) (M := 9) (k := 0) (ci := 8) hc inX8_count_X8 (by decide) rfl rfl 1 (by decide) (List.mem_of_getElem? (i := 4) rfl) rfl rfl dX8_count_44 ?_
          refine g_iload_n (j := 1) hc dX8_count_47 rfl rfl ?_
          refine g_iconst (v := 4) hc dX8_count_48 (by decide) ?_
          refine g_isub hc dX8_count_49 ?_
          refine g_callVi (As := [.int (x1 - 4)]) (rest := []) (k := 2) (ci := 7) (q0 := (RX7, TX7, 2)) hc hE trX rfl (fun _ h => mX7_strengthOf (x1 - 4) S _ h) (cwV 1 hc.1.2.2.2.2 gX8_count_X7_strengthOf rfl rfl rfl (by decide +kernel) ⟨by decide, by decide⟩) (by decide) rfl rfl rfl rfl (Nat.le_of_ble_eq_true rfl) dX8_count_50 ⟨by decide, by decide⟩ (fun v7 S8 => ?_)
          exact g_xiret hc hr hlk (by decide) (by decide) dX8_count_53
      · refine g_aload_n (j := 0) hc dX8_count_26 rfl rfl ?_
        refine g_get (C0 := RX8) (T := TX8) (M := 9) (k := 0) (ci := 8) hc inX8_count_X8 (by decide) rfl rfl 2 (by decide) (List.mem_of_getElem? (i := 3) rfl) rfl rfl dX8_count_27 ?_
        refine g_iload_n (j := 1) hc dX8_count_30 rfl rfl ?_
        refine g_bipush (v := 8) hc dX8_count_31 (by decide) ?_
        refine g_isub hc dX8_count_33 ?_
        refine g_callVi (As := [.int (x1 - 8)]) (rest := []) (k := 3) (ci := 0) (q0 := (RX0, TX0, 7)) hc hE trX rfl (fun _ h => mX0_threadsIn (x1 - 8) S _ h) (cwV 1 hc.1.2.2.2.2 gX8_count_X0_threadsIn rfl rfl rfl (by decide +kernel) ⟨by decide, by decide⟩) (by decide) rfl rfl rfl rfl (Nat.le_of_ble_eq_true rfl) dX8_count_34 ⟨by decide, by decide⟩ (fun v9 S10 => ?_)
        exact g_xiret hc hr hlk (by decide) (by decide) dX8_count_37
    · refine g_lv [] rfl ?_
      exact tX8_count_10 hst hc hr hlk hout hE S
set_option maxHeartbeats 4000000 in
set_option maxRecDepth 100000 in
theorem tX8_slip_21 {p : Program} {e : Env} {s : State} {m : MethodId} {args : Array Value} {below : List Frame} {meth : Method} {c : Code} (hst : l.stackTraces = false) (hc : CT p s m args c cX8_slip 4 RX8 wsX8_slip D (tyW cI cZ cO)) (hr : meth.sig.returnType = none) (hlk : meth.locks = false) (hout : ∀ z ∈ c.exceptionTable.toList, False) (hE : EvX tF (AA 72 a s.heap.size) s) (S : St) : GF p l e rX8_slip s m args below meth c D 72 a (cX cI cZ cO a) (AA 72 a s.heap.size) 4 1 6 (fun res : RX => vx_MQ below (QXv D (tyW cI cZ cO) 72 a (cX cI cZ cO a) (AA 72 a s.heap.size) res) (XXc D (tyW cI cZ cO) 72 a (cX cI cZ cO a) (AA 72 a s.heap.size) res) args s rX8_slip.cells rX8_slip.slots (AA 72 a s.heap.size)) (bX8_slip_21 S) 21 [] [] S := by
  unfold bX8_slip_21
  exact g_throwSV (ic := 77) (names := ["java/lang/RuntimeException", "java/lang/Exception"]) hc hout hlk hst hE (List.mem_of_getElem? (i := 1) rfl) (List.mem_of_getElem? (i := 2) rfl) (hE.2.2.2.2.2.1 (231, "low or high") (by decide +kernel)) (fun w h => hc.1.2.2.2.2 w (atX8_slip_77 w h)) (by decide +kernel) (by decide +kernel) (by decide +kernel) (by decide +kernel) dX8_slip_21 dX8_slip_24 dX8_slip_25 dX8_slip_27 dX8_slip_30 (by decide) (Nat.le_of_ble_eq_true rfl) (by decide) (by decide) (by decide) (by decide)
set_option maxHeartbeats 4000000 in
set_option maxRecDepth 100000 in
theorem mX8_slip (hst : l.stackTraces = false) (x1 : Int32) (x2 : Int32) (x3 : Int32) (S : St) : ∀ q, uX8_slip x1 x2 x3 S = some q → Xv l yX8_slip wsX8_slip rX8_slip D (tyW cI cZ cO) 72 a (cX cI cZ cO a) (EvX tF) [.ref (a 0), .int x1, .int x2, .int x3] S q := by
  refine m_Xv (cc := cX8_slip) (nL := 4) (ret := none) (lv := [(0, .ref (a 0)), (1, .int x1), (2, .int x2), (3, .int x3)]) (by decide) rfl (Nat.le_of_ble_eq_true rfl) rfl ?_
  intro p e s m args below meth c hc hr hlk hout hE
  unfold uX8_slip
  refine g_aload_n (j := 0) hc dX8_slip_0 rfl rfl ?_
  refine g_iload_n (j := 1) hc dX8_slip_1 rfl rfl ?_
  refine g_xcallVVv (As := [.int x1]) (rest := []) (k := 0) (ci := 8) (q0 := (RX8, TX8, 9)) hc hout hlk hE trX rfl (by decide) (by decide) (fun _ h => mX8_needThread hst x1 S _ h) (cwV 1 hc.1.2.2.2.2 gX8_slip_X8_needThread rfl rfl rfl (by decide +kernel) ⟨by decide, by decide⟩) (by decide) rfl rfl rfl rfl (Nat.le_of_ble_eq_true rfl) dX8_slip_2 ⟨by decide, by decide⟩ (fun S2 => ?_)
  refine g_wid (k := 1) (n := 6) (by decide) (by decide) ?_
  refine g_iload_n (j := 2) hc dX8_slip_5 rfl rfl ?_
  refine g_bipush (v := -3) hc dX8_slip_6 (by decide) ?_
  refine g_icmp_lt (tgt := 21) hc dX8_slip_8 (by decide) ?_ ?_
  · refine g_lv [] rfl ?_
    exact tX8_slip_21 hst hc hr hlk hout hE S2
  · refine g_iload_n (j := 2) hc dX8_slip_11 rfl rfl ?_
    refine g_iload_n (j := 3) hc dX8_slip_12 rfl rfl ?_
    refine g_icmp_gt (tgt := 21) hc dX8_slip_13 (by decide) ?_ ?_
    · refine g_lv [] rfl ?_
      exact tX8_slip_21 hst hc hr hlk hout hE S2
    · refine g_iload_n (j := 3) hc dX8_slip_16 rfl rfl ?_
      refine g_iconst (v := 3) hc dX8_slip_17 (by decide) ?_
      refine g_icmp_le (tgt := 31) hc dX8_slip_18 (by decide) ?_ ?_
      · refine g_aload_n (j := 0) hc dX8_slip_31 rfl rfl ?_
        refine g_get (C0 := RX8) (T := TX8) (M := 9) (k := 0) (ci := 8) hc inX8_slip_X8 (by decide) rfl rfl 6 (by decide) (List.mem_of_getElem? (i := 3) rfl) rfl rfl dX8_slip_32 ?_
        refine g_iload_n (j := 1) hc dX8_slip_35 rfl rfl ?_
        refine g_iload_n (j := 2) hc dX8_slip_36 rfl rfl ?_
        refine g_iload_n (j := 3) hc dX8_slip_37 rfl rfl ?_
        refine g_callVv (As := [.int x1, .int x2, .int x3]) (rest := []) (k := 7) (ci := 6) (q0 := (RX6, TX6, 2)) hc hE trX rfl (fun _ h => mX6_let x1 x2 x3 S2 _ h) (cwV 3 hc.1.2.2.2.2 gX8_slip_X6_let rfl rfl rfl (by decide +kernel) ⟨by decide, by decide⟩) (by decide) rfl rfl rfl rfl (Nat.le_of_ble_eq_true rfl) dX8_slip_38 ⟨by decide, by decide⟩ (fun S4 => ?_)
        exact g_xvret hc hr hlk (by decide) (by decide) dX8_slip_41
      · refine g_lv [] rfl ?_
        exact tX8_slip_21 hst hc hr hlk hout hE S2
set_option maxHeartbeats 4000000 in
set_option maxRecDepth 100000 in
theorem mX8_seen (hst : l.stackTraces = false) (x1 : Int32) (x2 : Int32) (S : St) : ∀ q, uX8_seen x1 x2 S = some q → Xi l yX8_seen wsX8_seen rX8_seen D (tyW cI cZ cO) 72 a (cX cI cZ cO a) (EvX tF) [.ref (a 0), .int x1, .int x2] S q := by
  refine m_Xi (cc := cX8_seen) (nL := 3) (ret := (some .int)) (lv := [(0, .ref (a 0)), (1, .int x1), (2, .int x2)]) (by decide) rfl (Nat.le_of_ble_eq_true rfl) rfl ?_
  intro p e s m args below meth c hc hr hlk hout hE
  unfold uX8_seen
  refine g_aload_n (j := 0) hc dX8_seen_0 rfl rfl ?_
  refine g_iload_n (j := 1) hc dX8_seen_1 rfl rfl ?_
  refine g_xcallVIv (As := [.int x1]) (rest := []) (k := 0) (ci := 8) (q0 := (RX8, TX8, 9)) hc hout hlk hE trX rfl (by decide) (by decide) (fun _ h => mX8_needThread hst x1 S _ h) (cwV 1 hc.1.2.2.2.2 gX8_seen_X8_needThread rfl rfl rfl (by decide +kernel) ⟨by decide, by decide⟩) (by decide) rfl rfl rfl rfl (Nat.le_of_ble_eq_true rfl) dX8_seen_2 ⟨by decide, by decide⟩ (fun S2 => ?_)
  refine g_wid (k := 1) (n := 6) (by decide) (by decide) ?_
  refine g_aload_n (j := 0) hc dX8_seen_5 rfl rfl ?_
  refine g_iload_n (j := 2) hc dX8_seen_6 rfl rfl ?_
  refine g_xcallVIv (As := [.int x2]) (rest := []) (k := 0) (ci := 8) (q0 := (RX8, TX8, 9)) hc hout hlk hE trX rfl (by decide) (by decide) (fun _ h => mX8_needPlace hst x2 S2 _ h) (cwV 1 hc.1.2.2.2.2 gX8_seen_X8_needPlace rfl rfl rfl (by decide +kernel) ⟨by decide, by decide⟩) (by decide) rfl rfl rfl rfl (Nat.le_of_ble_eq_true rfl) dX8_seen_7 ⟨by decide, by decide⟩ (fun S4 => ?_)
  refine g_wid (k := 2) (n := 12) (by decide) (by decide) ?_
  refine g_aload_n (j := 0) hc dX8_seen_10 rfl rfl ?_
  refine g_get (C0 := RX8) (T := TX8) (M := 9) (k := 0) (ci := 8) hc inX8_seen_X8 (by decide) rfl rfl 6 (by decide) (List.mem_of_getElem? (i := 1) rfl) rfl rfl dX8_seen_11 ?_
  refine g_iload_n (j := 1) hc dX8_seen_14 rfl rfl ?_
  refine g_iload_n (j := 2) hc dX8_seen_15 rfl rfl ?_
  refine g_aload_n (j := 0) hc dX8_seen_16 rfl rfl ?_
  refine g_get (C0 := RX8) (T := TX8) (M := 9) (k := 0) (ci := 8) hc inX8_seen_X8 (by decide) rfl rfl 2 (by decide) (List.mem_of_getElem? (i := 2) rfl) rfl rfl dX8_seen_17 ?_
  refine g_callVi (As := [.int x1, .int x2, .ref (a 3)]) (rest := []) (k := 7) (ci := 6) (q0 := (RX6, TX6, 2)) hc hE trX rfl (fun _ h => mX6_showsAt x1 x2 S4 _ h) (cwV 3 hc.1.2.2.2.2 gX8_seen_X6_showsAt rfl rfl rfl (by decide +kernel) ⟨by decide, by decide⟩) (by decide) rfl rfl rfl rfl (Nat.le_of_ble_eq_true rfl) dX8_seen_20 ⟨by decide, by decide⟩ (fun v5 S6 => ?_)
  exact g_xiret hc hr hlk (by decide) (by decide) dX8_seen_23
set_option maxHeartbeats 4000000 in
set_option maxRecDepth 100000 in
theorem tX8_rank_61 {p : Program} {e : Env} {s : State} {m : MethodId} {args : Array Value} {below : List Frame} {meth : Method} {c : Code} (hst : l.stackTraces = false) (hc : CT p s m args c cX8_rank 5 RX8 wsX8_rank D (tyW cI cZ cO)) (hr : meth.sig.returnType = (some .int)) (hlk : meth.locks = false) (hout : ∀ z ∈ c.exceptionTable.toList, False) (hE : EvX tF (AA 72 a s.heap.size) s) (k30 : Int32 → Int32 → Int32 → Int32 → St → Option RX) (hk30 : ∀ (x1 : Int32) (x2 : Int32) (x3 : Int32) (x4 : Int32) (S : St), GF p l e rX8_rank s m args below meth c D 72 a (cX cI cZ cO a) (AA 72 a s.heap.size) 5 0 0 (fun res : RX => vx_MQ below (QXi D (tyW cI cZ cO) 72 a (cX cI cZ cO a) (AA 72 a s.heap.size) res) (XXc D (tyW cI cZ cO) 72 a (cX cI cZ cO a) (AA 72 a s.heap.size) res) args s rX8_rank.cells rX8_rank.slots (AA 72 a s.heap.size)) (k30 x1 x2 x3 x4 S) 30 [(0, .ref (a 0)), (1, .int x1), (2, .int x2), (3, .int x3), (4, .int x4)] [] S) (x1 : Int32) (x2 : Int32) (x3 : Int32) (x4 : Int32) (S : St) : GF p l e rX8_rank s m args below meth c D 72 a (cX cI cZ cO a) (AA 72 a s.heap.size) 5 0 0 (fun res : RX => vx_MQ below (QXi D (tyW cI cZ cO) 72 a (cX cI cZ cO a) (AA 72 a s.heap.size) res) (XXc D (tyW cI cZ cO) 72 a (cX cI cZ cO a) (AA 72 a s.heap.size) res) args s rX8_rank.cells rX8_rank.slots (AA 72 a s.heap.size)) (bX8_rank_61 k30 x1 x2 x3 x4 S) 61 [(0, .ref (a 0)), (1, .int x1), (2, .int x2), (3, .int x3), (4, .int x4)] [] S := by
  unfold bX8_rank_61
  refine g_iinc (j := 4) (w := x4 + 1) (L := fun v1 => [(4, .int v1), (0, .ref (a 0)), (1, .int x1), (2, .int x2), (3, .int x3)]) hc dX8_rank_61 rfl (by rfl) (by decide) (fun _ => rfl) (fun v1 => ?_)
  refine g_goto (tgt := 30) hc dX8_rank_64 (by decide) ?_
  refine g_lv [1, 2, 3, 4, 0] rfl ?_
  exact hk30 x1 x2 x3 v1 S
set_option maxHeartbeats 4000000 in
set_option maxRecDepth 100000 in
theorem tX8_rank_30 {p : Program} {e : Env} {s : State} {m : MethodId} {args : Array Value} {below : List Frame} {meth : Method} {c : Code} (hst : l.stackTraces = false) (hc : CT p s m args c cX8_rank 5 RX8 wsX8_rank D (tyW cI cZ cO)) (hr : meth.sig.returnType = (some .int)) (hlk : meth.locks = false) (hout : ∀ z ∈ c.exceptionTable.toList, False) (hE : EvX tF (AA 72 a s.heap.size) s) (k30 : Int32 → Int32 → Int32 → Int32 → St → Option RX) (hk30 : ∀ (x1 : Int32) (x2 : Int32) (x3 : Int32) (x4 : Int32) (S : St), GF p l e rX8_rank s m args below meth c D 72 a (cX cI cZ cO a) (AA 72 a s.heap.size) 5 0 0 (fun res : RX => vx_MQ below (QXi D (tyW cI cZ cO) 72 a (cX cI cZ cO a) (AA 72 a s.heap.size) res) (XXc D (tyW cI cZ cO) 72 a (cX cI cZ cO a) (AA 72 a s.heap.size) res) args s rX8_rank.cells rX8_rank.slots (AA 72 a s.heap.size)) (k30 x1 x2 x3 x4 S) 30 [(0, .ref (a 0)), (1, .int x1), (2, .int x2), (3, .int x3), (4, .int x4)] [] S) (x1 : Int32) (x2 : Int32) (x3 : Int32) (x4 : Int32) (S : St) : GF p l e rX8_rank s m args below meth c D 72 a (cX cI cZ cO a) (AA 72 a s.heap.size) 5 0 0 (fun res : RX => vx_MQ below (QXi D (tyW cI cZ cO) 72 a (cX cI cZ cO a) (AA 72 a s.heap.size) res) (XXc D (tyW cI cZ cO) 72 a (cX cI cZ cO a) (AA 72 a s.heap.size) res) args s rX8_rank.cells rX8_rank.slots (AA 72 a s.heap.size)) (bX8_rank_30 k30 x1 x2 x3 x4 S) 30 [(0, .ref (a 0)), (1, .int x1), (2, .int x2), (3, .int x3), (4, .int x4)] [] S := by
  unfold bX8_rank_30
  refine g_iload (j := 4) hc dX8_rank_30 rfl ?_
  refine g_bipush (v := 16) hc dX8_rank_32 (by decide) ?_
  refine g_icmp_ge (tgt := 67) hc dX8_rank_34 (by decide) ?_ ?_
  · refine g_iload_n (j := 3) hc dX8_rank_67 rfl rfl ?_
    exact g_xiret hc hr hlk (by decide) (by decide) dX8_rank_68
  · refine g_iload_n (j := 2) hc dX8_rank_37 rfl rfl ?_
    refine g_iload (j := 4) hc dX8_rank_38 rfl ?_
    refine g_ishr hc dX8_rank_40 ?_
    refine g_iconst (v := 1) hc dX8_rank_41 (by decide) ?_
    refine g_iand hc dX8_rank_42 ?_
    refine g_if_eq (tgt := 61) hc dX8_rank_43 (by decide) ?_ ?_
    · exact tX8_rank_61 hst hc hr hlk hout hE k30 hk30 x1 x2 x3 x4 S
    · refine g_iload_n (j := 3) hc dX8_rank_46 rfl rfl ?_
      refine g_aload_n (j := 0) hc dX8_rank_47 rfl rfl ?_
      refine g_get (C0 := RX8) (T := TX8) (M := 9) (k := 0) (ci := 8) hc inX8_rank_X8 (by decide) rfl rfl 7 (by decide) (List.mem_of_getElem? (i := 4) rfl) rfl rfl dX8_rank_48 ?_
      refine g_iload_n (j := 1) hc dX8_rank_51 rfl rfl ?_
      refine g_iload (j := 4) hc dX8_rank_52 rfl ?_
      refine g_callVi (As := [.int x1, .int x4]) (rest := [.int x3]) (k := 8) (ci := 1) (q0 := (RX1, TX1, 4)) hc hE trX rfl (fun _ h => mX1_inForce x1 x4 S _ h) (cwV 2 hc.1.2.2.2.2 gX8_rank_X1_inForce rfl rfl rfl (by decide +kernel) ⟨by decide, by decide⟩) (by decide) rfl rfl rfl rfl (Nat.le_of_ble_eq_true rfl) dX8_rank_54 ⟨by decide, by decide⟩ (fun v1 S2 => ?_)
      refine g_max hc (List.mem_of_getElem? (i := 5) rfl) (List.mem_of_getElem? (i := 6) rfl) (List.mem_of_getElem? (i := 7) rfl) (List.mem_of_getElem? (i := 8) rfl) (by decide) (Nat.le_of_ble_eq_true rfl) (by decide) (by decide) dX8_rank_57 ?_
      refine g_istore_n (L := fun v3 => [(3, .int v3), (0, .ref (a 0)), (1, .int x1), (2, .int x2), (4, .int x4)]) hc dX8_rank_60 rfl (by decide) (fun _ => rfl) (fun v3 => ?_)
      refine g_lv [1, 2, 3, 0, 4] rfl ?_
      exact tX8_rank_61 hst hc hr hlk hout hE k30 hk30 x1 x2 v3 x4 S2
set_option maxHeartbeats 4000000 in
set_option maxRecDepth 100000 in
theorem TX8_rank_30 {p : Program} {e : Env} {s : State} {m : MethodId} {args : Array Value} {below : List Frame} {meth : Method} {c : Code} (hst : l.stackTraces = false) (hc : CT p s m args c cX8_rank 5 RX8 wsX8_rank D (tyW cI cZ cO)) (hr : meth.sig.returnType = (some .int)) (hlk : meth.locks = false) (hout : ∀ z ∈ c.exceptionTable.toList, False) (hE : EvX tF (AA 72 a s.heap.size) s) (n : Nat) (x1 : Int32) (x2 : Int32) (x3 : Int32) (x4 : Int32) (S : St) : GF p l e rX8_rank s m args below meth c D 72 a (cX cI cZ cO a) (AA 72 a s.heap.size) 5 0 0 (fun res : RX => vx_MQ below (QXi D (tyW cI cZ cO) 72 a (cX cI cZ cO a) (AA 72 a s.heap.size) res) (XXc D (tyW cI cZ cO) 72 a (cX cI cZ cO a) (AA 72 a s.heap.size) res) args s rX8_rank.cells rX8_rank.slots (AA 72 a s.heap.size)) (lX8_rank_30 n x1 x2 x3 x4 S) 30 [(0, .ref (a 0)), (1, .int x1), (2, .int x2), (3, .int x3), (4, .int x4)] [] S :=
  lp_ind (P := fun k : Int32 → Int32 → Int32 → Int32 → St → Option RX => ∀ (x1 : Int32) (x2 : Int32) (x3 : Int32) (x4 : Int32) (S : St), GF p l e rX8_rank s m args below meth c D 72 a (cX cI cZ cO a) (AA 72 a s.heap.size) 5 0 0 (fun res : RX => vx_MQ below (QXi D (tyW cI cZ cO) 72 a (cX cI cZ cO a) (AA 72 a s.heap.size) res) (XXc D (tyW cI cZ cO) 72 a (cX cI cZ cO a) (AA 72 a s.heap.size) res) args s rX8_rank.cells rX8_rank.slots (AA 72 a s.heap.size)) (k x1 x2 x3 x4 S) 30 [(0, .ref (a 0)), (1, .int x1), (2, .int x2), (3, .int x3), (4, .int x4)] [] S) (fun _ _ _ _ _ => g_none) (fun k30 hk30 => tX8_rank_30 hst hc hr hlk hout hE k30 hk30) n x1 x2 x3 x4 S
set_option maxHeartbeats 4000000 in
set_option maxRecDepth 100000 in
theorem mX8_rank (hst : l.stackTraces = false) (x1 : Int32) (S : St) : ∀ q, uX8_rank x1 S = some q → Xi l yX8_rank wsX8_rank rX8_rank D (tyW cI cZ cO) 72 a (cX cI cZ cO a) (EvX tF) [.ref (a 0), .int x1] S q := by
  refine m_Xi (cc := cX8_rank) (nL := 5) (ret := (some .int)) (lv := [(0, .ref (a 0)), (1, .int x1)]) (by decide) rfl (Nat.le_of_ble_eq_true rfl) rfl ?_
  intro p e s m args below meth c hc hr hlk hout hE
  unfold uX8_rank
  refine g_iload_n (j := 1) hc dX8_rank_0 rfl rfl ?_
  refine g_callSi (As := [.int x1]) (rest := []) hc hE trX rfl (fun _ h => mX8_isDay x1 S _ h) (va_cwS 1 hc.1.2.2.2.2 gX8_rank_X8_isDay rfl rfl rfl (by decide +kernel) ⟨by decide, by decide⟩) rfl rfl (Nat.le_of_ble_eq_true rfl) dX8_rank_1 ⟨by decide, by decide⟩ (fun v1 S2 => ?_)
  refine g_if_ne (tgt := 17) hc dX8_rank_4 (by decide) ?_ ?_
  · refine g_aload_n (j := 0) hc dX8_rank_17 rfl rfl ?_
    refine g_get (C0 := RX8) (T := TX8) (M := 9) (k := 0) (ci := 8) hc inX8_rank_X8 (by decide) rfl rfl 2 (by decide) (List.mem_of_getElem? (i := 3) rfl) rfl rfl dX8_rank_18 ?_
    refine g_callVi (As := []) (rest := []) (k := 3) (ci := 0) (q0 := (RX0, TX0, 7)) hc hE trX rfl (fun _ h => mX0_coloursWorn S2 _ h) (cwV 0 hc.1.2.2.2.2 gX8_rank_X0_coloursWorn rfl rfl rfl (by decide +kernel) ⟨by decide, by decide⟩) (by decide) rfl rfl rfl rfl (Nat.le_of_ble_eq_true rfl) dX8_rank_21 ⟨by decide, by decide⟩ (fun v3 S4 => ?_)
    refine g_istore_n (L := fun v5 => [(2, .int v5), (0, .ref (a 0)), (1, .int x1)]) hc dX8_rank_24 rfl (by decide) (fun _ => rfl) (fun v5 => ?_)
    refine g_iconst (v := 0) hc dX8_rank_25 (by decide) ?_
    refine g_istore_n (L := fun v6 => [(3, .int v6), (2, .int v5), (0, .ref (a 0)), (1, .int x1)]) hc dX8_rank_26 rfl (by decide) (fun _ => rfl) (fun v6 => ?_)
    refine g_iconst (v := 0) hc dX8_rank_27 (by decide) ?_
    refine g_istore (L := fun v7 => [(4, .int v7), (3, .int v6), (2, .int v5), (0, .ref (a 0)), (1, .int x1)]) hc dX8_rank_28 (by decide) (fun _ => rfl) (fun v7 => ?_)
    refine g_lv [3, 4, 2, 1, 0] rfl ?_
    exact TX8_rank_30 hst hc hr hlk hout hE FU x1 v5 v6 v7 S4
  · exact g_throwSI (ic := 77) (names := ["java/lang/RuntimeException", "java/lang/Exception"]) hc hout hlk hst hE (List.mem_of_getElem? (i := 1) rfl) (List.mem_of_getElem? (i := 2) rfl) (hE.2.2.2.2.2.1 (255, "day") (by decide +kernel)) (fun w h => hc.1.2.2.2.2 w (atX8_rank_77 w h)) (by decide +kernel) (by decide +kernel) (by decide +kernel) (by decide +kernel) dX8_rank_7 dX8_rank_10 dX8_rank_11 dX8_rank_13 dX8_rank_16 (by decide) (Nat.le_of_ble_eq_true rfl) (by decide) (by decide) (by decide) (by decide)
end
