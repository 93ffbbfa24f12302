-- X9_thrown
def rX9_thrown : Room := { frames := 0, cells := 0, slots := 0, locals := 0 }
theorem inX9_thrown_X9 : ∀ w ∈ u_ws RX9 TX9 24, w ∈ wsX9_thrown := by decide +kernel
def uX9_thrown (S : St) : Option (Int32 × St) :=
  some (S 0 0, S)
-- X9_right
def rX9_right : Room := { frames := 0, cells := 0, slots := 0, locals := 0 }
theorem inX9_right_X9 : ∀ w ∈ u_ws RX9 TX9 24, w ∈ wsX9_right := by decide +kernel
def bX9_right_28 (y0 : Int32) (S : St) : Option (Int32 × St) :=
  rz y0 (some (y0, S))
def bX9_right_16 (S : St) : Option (Int32 × St) :=
  if (S 0 0) = 0 then bX9_right_28 1 S else bX9_right_28 0 S
def uX9_right (x1 : Int32) (x2 : Int32) (S : St) : Option (Int32 × St) :=
  if (S 0 0) = 0 then if x1 = 0 then lz (s2 S 0 0 x2) (fun S1 => bX9_right_16 S1) else bX9_right_16 S else bX9_right_16 S
-- X9_undyed
def rX9_undyed : Room := { frames := 0, cells := 0, slots := 0, locals := 0 }
theorem inX9_undyed_X9 : ∀ w ∈ u_ws RX9 TX9 24, w ∈ wsX9_undyed := by decide +kernel
def bX9_undyed_2 (k2 : Int32 → St → Option (Int32 × St)) (x1 : Int32) (S : St) : Option (Int32 × St) :=
  if 192 ≤ x1 then some (0, S) else ck x1 192 (lz (s2 S 2 x1.toNatClampNeg 0) (fun S1 => ck x1 192 (lz (s2 S1 9 x1.toNatClampNeg (0 &&& 1)) (fun S2 => lt (x1 + 1) (fun v3 => k2 v3 S2)))))
def lX9_undyed_2 (n : Nat) : Int32 → St → Option (Int32 × St) :=
  lp (fun k2 => bX9_undyed_2 k2) (fun _ _ => none) n
def uX9_undyed (S : St) : Option (Int32 × St) :=
  lt 0 (fun v1 => lX9_undyed_2 FU v1 S)
-- X9_frame
def rX9_frame : Room := { frames := 1, cells := 0, slots := 0, locals := 22 }
theorem inX9_frame_X9 : ∀ w ∈ u_ws RX9 TX9 24, w ∈ wsX9_frame := by decide +kernel
def bX9_frame_110 (k110 : Int32 → St → Option (Int32 × St)) (x3 : Int32) (S : St) : Option (Int32 × St) :=
  if 8 ≤ x3 then lz (s2 S 0 17 0) (fun S1 => cl (uX9_undyed S1) (fun _ S3 => some (0, S3))) else ck x3 8 (lz (s2 S 8 x3.toNatClampNeg (0 &&& 1)) (fun S4 => lt (x3 + 1) (fun v5 => k110 v5 S4)))
def lX9_frame_110 (n : Nat) : Int32 → St → Option (Int32 × St) :=
  lp (fun k110 => bX9_frame_110 k110) (fun _ _ => none) n
def bX9_frame_75 (k75 : Int32 → St → Option (Int32 × St)) (x3 : Int32) (S : St) : Option (Int32 × St) :=
  if 16 ≤ x3 then lt 0 (fun v1 => lX9_frame_110 FU v1 S) else ck x3 16 (lz (s2 S 1 x3.toNatClampNeg 0) (fun S2 => ck x3 16 (lz (s2 S2 6 x3.toNatClampNeg 0) (fun S3 => ck x3 16 (lz (s2 S3 7 x3.toNatClampNeg 0) (fun S4 => lt (x3 + 1) (fun v5 => k75 v5 S4)))))))
def lX9_frame_75 (n : Nat) : Int32 → St → Option (Int32 × St) :=
  lp (fun k75 => bX9_frame_75 k75) (fun _ _ => none) n
def bX9_frame_53 (k53 : Int32 → St → Option (Int32 × St)) (x3 : Int32) (S : St) : Option (Int32 × St) :=
  if 384 ≤ x3 then lt 0 (fun v1 => lX9_frame_75 FU v1 S) else ck x3 384 (lz (s2 S 5 x3.toNatClampNeg 0) (fun S2 => lt (x3 + 1) (fun v3 => k53 v3 S2)))
def lX9_frame_53 (n : Nat) : Int32 → St → Option (Int32 × St) :=
  lp (fun k53 => bX9_frame_53 k53) (fun _ _ => none) n
def bX9_frame_33 (x1 : Int32) (x2 : Int32) (y1 : Int32) (S : St) : Option (Int32 × St) :=
  cl (uX9_right y1 1 S) (fun v1 S2 => if v1 = 0 then some (0, S2) else lz (s2 S2 0 1 x1) (fun S3 => lz (s2 S3 0 2 x2) (fun S4 => lt 0 (fun v5 => lX9_frame_53 FU v5 S4))))
def bX9_frame_32 (x1 : Int32) (x2 : Int32) (S : St) : Option (Int32 × St) :=
  bX9_frame_33 x1 x2 0 S
def uX9_frame (x1 : Int32) (x2 : Int32) (S : St) : Option (Int32 × St) :=
  lz (s2 S 0 0 0) (fun S1 => if x1 < 1 then bX9_frame_32 x1 x2 S1 else if 16 < x1 then bX9_frame_32 x1 x2 S1 else if x2 < 1 then bX9_frame_32 x1 x2 S1 else if 24 < x2 then bX9_frame_32 x1 x2 S1 else bX9_frame_33 x1 x2 1 S1)
-- X9_isThread
def rX9_isThread : Room := { frames := 1, cells := 0, slots := 0, locals := 22 }
theorem inX9_isThread_X9 : ∀ w ∈ u_ws RX9 TX9 24, w ∈ wsX9_isThread := by decide +kernel
def bX9_isThread_18 (y1 : Int32) (S : St) : Option (Int32 × St) :=
  cl (uX9_right y1 1 S) (fun v1 S2 => rz v1 (some (v1, S2)))
def bX9_isThread_17 (S : St) : Option (Int32 × St) :=
  bX9_isThread_18 0 S
def uX9_isThread (x1 : Int32) (S : St) : Option (Int32 × St) :=
  if x1 < 0 then bX9_isThread_17 S else if (S 0 1) ≤ x1 then bX9_isThread_17 S else bX9_isThread_18 1 S
-- X9_isBundle
def rX9_isBundle : Room := { frames := 1, cells := 0, slots := 0, locals := 22 }
def bX9_isBundle_16 (y1 : Int32) (S : St) : Option (Int32 × St) :=
  cl (uX9_right y1 1 S) (fun v1 S2 => rz v1 (some (v1, S2)))
def bX9_isBundle_15 (S : St) : Option (Int32 × St) :=
  bX9_isBundle_16 0 S
def uX9_isBundle (x1 : Int32) (S : St) : Option (Int32 × St) :=
  if x1 < 0 then bX9_isBundle_15 S else if 8 ≤ x1 then bX9_isBundle_15 S else bX9_isBundle_16 1 S
-- X9_isPlace
def rX9_isPlace : Room := { frames := 1, cells := 0, slots := 0, locals := 22 }
theorem inX9_isPlace_X9 : ∀ w ∈ u_ws RX9 TX9 24, w ∈ wsX9_isPlace := by decide +kernel
def bX9_isPlace_18 (y1 : Int32) (S : St) : Option (Int32 × St) :=
  cl (uX9_right y1 1 S) (fun v1 S2 => rz v1 (some (v1, S2)))
def bX9_isPlace_17 (S : St) : Option (Int32 × St) :=
  bX9_isPlace_18 0 S
def uX9_isPlace (x1 : Int32) (S : St) : Option (Int32 × St) :=
  if x1 < 0 then bX9_isPlace_17 S else if (S 0 2) ≤ x1 then bX9_isPlace_17 S else bX9_isPlace_18 1 S
-- X9_into
def rX9_into : Room := { frames := 2, cells := 0, slots := 0, locals := 43 }
theorem inX9_into_X9 : ∀ w ∈ u_ws RX9 TX9 24, w ∈ wsX9_into := by decide +kernel
def bX9_into_21 (S : St) : Option (Int32 × St) :=
  some (0, S)
def uX9_into (x1 : Int32) (x2 : Int32) (S : St) : Option (Int32 × St) :=
  lz (s2 S 0 0 0) (fun S1 => cl (uX9_isThread x1 S1) (fun v2 S3 => if v2 = 0 then bX9_into_21 S3 else cl (uX9_isBundle x2 S3) (fun v4 S5 => if v4 = 0 then bX9_into_21 S5 else ck x1 16 (lt (S5 1 x1.toNatClampNeg) (fun v6 => ck x1 16 (lz (s2 S5 1 x1.toNatClampNeg x2) (fun S7 => lz (s2 S7 0 17 0) (fun S8 => cl (uX9_undyed S8) (fun _ S10 => some (v6, S10))))))))))
-- X9_fold
def rX9_fold : Room := { frames := 2, cells := 0, slots := 0, locals := 43 }
theorem inX9_fold_X9 : ∀ w ∈ u_ws RX9 TX9 24, w ∈ wsX9_fold := by decide +kernel
def uX9_fold (x1 : Int32) (x2 : Int32) (S : St) : Option (Int32 × St) :=
  lz (s2 S 0 0 0) (fun S1 => cl (uX9_isBundle x1 S1) (fun v2 S3 => if v2 = 0 then rz 0 (some (0, S3)) else ck x1 8 (lt (S3 8 x1.toNatClampNeg) (fun v4 => ck x1 8 (lz (s2 S3 8 x1.toNatClampNeg (x2 &&& 1)) (fun S5 => lz (s2 S5 0 17 0) (fun S6 => cl (uX9_undyed S6) (fun _ S8 => rz v4 (some (v4, S8))))))))))
-- X9_table
def rX9_table : Room := { frames := 1, cells := 0, slots := 0, locals := 22 }
theorem inX9_table_X9 : ∀ w ∈ u_ws RX9 TX9 24, w ∈ wsX9_table := by decide +kernel
def bX9_table_60 (S : St) : Option (Int32 × St) :=
  some (0, S)
def bX9_table_53 (x1 : Int32) (x2 : Int32) (x3 : Int32) (y1 : Int32) (S : St) : Option (Int32 × St) :=
  cl (uX9_right y1 2 S) (fun v1 S2 => if v1 = 0 then bX9_table_60 S2 else ck ((4 * x1) + x2) 64 (lt (S2 3 ((4 * x1) + x2).toNatClampNeg) (fun v3 => ck ((4 * x1) + x2) 64 (lz (s2 S2 3 ((4 * x1) + x2).toNatClampNeg x3) (fun S4 => lz (s2 S4 0 17 0) (fun S5 => some (v3, S5)))))))
def bX9_table_52 (x1 : Int32) (x2 : Int32) (x3 : Int32) (S : St) : Option (Int32 × St) :=
  bX9_table_53 x1 x2 x3 0 S
def bX9_table_30 (x1 : Int32) (x2 : Int32) (x3 : Int32) (y1 : Int32) (S : St) : Option (Int32 × St) :=
  cl (uX9_right y1 1 S) (fun v1 S2 => if v1 = 0 then bX9_table_60 S2 else if x3 < 0 then bX9_table_52 x1 x2 x3 S2 else if 16 ≤ x3 then bX9_table_52 x1 x2 x3 S2 else bX9_table_53 x1 x2 x3 1 S2)
def bX9_table_29 (x1 : Int32) (x2 : Int32) (x3 : Int32) (S : St) : Option (Int32 × St) :=
  bX9_table_30 x1 x2 x3 0 S
def uX9_table (x1 : Int32) (x2 : Int32) (x3 : Int32) (S : St) : Option (Int32 × St) :=
  lz (s2 S 0 0 0) (fun S1 => if x1 < 0 then bX9_table_29 x1 x2 x3 S1 else if 16 ≤ x1 then bX9_table_29 x1 x2 x3 S1 else if x2 < 0 then bX9_table_29 x1 x2 x3 S1 else if 4 ≤ x2 then bX9_table_29 x1 x2 x3 S1 else bX9_table_30 x1 x2 x3 1 S1)
-- X9_vat
def rX9_vat : Room := { frames := 1, cells := 0, slots := 0, locals := 22 }
theorem inX9_vat_X9 : ∀ w ∈ u_ws RX9 TX9 24, w ∈ wsX9_vat := by decide +kernel
def bX9_vat_47 (S : St) : Option (Int32 × St) :=
  some ((-1), S)
def bX9_vat_20 (x1 : Int32) (x2 : Int32) (y1 : Int32) (S : St) : Option (Int32 × St) :=
  cl (uX9_right y1 1 S) (fun v1 S2 => if v1 = 0 then some (0, S2) else if x2 < 1 then bX9_vat_47 S2 else ck x1 4 (if x2 ≤ (1000000 - (S2 4 x1.toNatClampNeg)) then ck x1 4 (ck x1 4 (lz (s2 S2 4 x1.toNatClampNeg ((S2 4 x1.toNatClampNeg) + x2)) (fun S3 => ck x1 4 (some (S3 4 x1.toNatClampNeg, S3))))) else bX9_vat_47 S2))
def bX9_vat_19 (x1 : Int32) (x2 : Int32) (S : St) : Option (Int32 × St) :=
  bX9_vat_20 x1 x2 0 S
def uX9_vat (x1 : Int32) (x2 : Int32) (S : St) : Option (Int32 × St) :=
  lz (s2 S 0 0 0) (fun S1 => if x1 < 0 then bX9_vat_19 x1 x2 S1 else if 4 ≤ x1 then bX9_vat_19 x1 x2 S1 else bX9_vat_20 x1 x2 1 S1)
-- X9_many
def rX9_many : Room := { frames := 0, cells := 0, slots := 0, locals := 0 }
theorem inX9_many_X9 : ∀ w ∈ u_ws RX9 TX9 24, w ∈ wsX9_many := by decide +kernel
def bX9_many_25 (k4 : Int32 → Int32 → Int32 → St → Option (Int32 × St)) (x1 : Int32) (x2 : Int32) (x3 : Int32) (S : St) : Option (Int32 × St) :=
  lt (x3 + 1) (fun v1 => k4 x1 x2 v1 S)
def bX9_many_4 (k4 : Int32 → Int32 → Int32 → St → Option (Int32 × St)) (x1 : Int32) (x2 : Int32) (x3 : Int32) (S : St) : Option (Int32 × St) :=
  if (S 0 1) ≤ x3 then some (x2, S) else ck x3 16 (if (S 1 x3.toNatClampNeg) = x1 then lt (x2 + 1) (fun v1 => bX9_many_25 k4 x1 v1 x3 S) else bX9_many_25 k4 x1 x2 x3 S)
def lX9_many_4 (n : Nat) : Int32 → Int32 → Int32 → St → Option (Int32 × St) :=
  lp (fun k4 => bX9_many_4 k4) (fun _ _ _ _ => none) n
def uX9_many (x1 : Int32) (S : St) : Option (Int32 × St) :=
  lt 0 (fun v1 => lt 0 (fun v2 => lX9_many_4 FU x1 v1 v2 S))
-- X9_binds
def rX9_binds : Room := { frames := 0, cells := 0, slots := 0, locals := 0 }
theorem inX9_binds_X9 : ∀ w ∈ u_ws RX9 TX9 24, w ∈ wsX9_binds := by decide +kernel
def uX9_binds (x1 : Int32) (x2 : Int32) (x3 : Int32) (S : St) : Option (Int32 × St) :=
  lt ((24 * x1) + x2) (fun v1 => ck v1 192 (if (S 9 v1.toNatClampNeg) = x3 then some (0, S) else ck v1 192 (lz (s2 S 9 v1.toNatClampNeg (x3 &&& 1)) (fun S2 => some (1, S2)))))
-- X9_ties
def rX9_ties : Room := { frames := 2, cells := 0, slots := 0, locals := 43 }
theorem inX9_ties_X9 : ∀ w ∈ u_ws RX9 TX9 24, w ∈ wsX9_ties := by decide +kernel
def bX9_ties_105 (k55 : Int32 → Int32 → Int32 → Int32 → Int32 → St → Option (Int32 × St)) (x1 : Int32) (x3 : Int32) (x4 : Int32) (x5 : Int32) (x6 : Int32) (S : St) : Option (Int32 × St) :=
  lt (x6 + 1) (fun v1 => k55 x1 x3 x4 x5 v1 S)
def bX9_ties_55 (k55 : Int32 → Int32 → Int32 → Int32 → Int32 → St → Option (Int32 × St)) (x1 : Int32) (x3 : Int32) (x4 : Int32) (x5 : Int32) (x6 : Int32) (S : St) : Option (Int32 × St) :=
  if x3 < x6 then some (x5, S) else cl (uX9_binds x1 x6 x4 S) (fun v1 S2 => lt (x5 + v1) (fun v3 => ck x1 8 (if (S2 8 x1.toNatClampNeg) = 0 then bX9_ties_105 k55 x1 x3 x4 v3 x6 S2 else cl (uX9_binds x1 (((S2 0 2) - 1) - x6) x4 S2) (fun v4 S5 => lt (v3 + v4) (fun v6 => bX9_ties_105 k55 x1 x3 x4 v6 x6 S5)))))
def lX9_ties_55 (n : Nat) : Int32 → Int32 → Int32 → Int32 → Int32 → St → Option (Int32 × St) :=
  lp (fun k55 => bX9_ties_55 k55) (fun _ _ _ _ _ _ => none) n
def bX9_ties_47 (S : St) : Option (Int32 × St) :=
  some (0, S)
def bX9_ties_40 (x1 : Int32) (x2 : Int32) (x3 : Int32) (x4 : Int32) (y1 : Int32) (S : St) : Option (Int32 × St) :=
  cl (uX9_right y1 2 S) (fun v1 S2 => if v1 = 0 then bX9_ties_47 S2 else lt 0 (fun v3 => lt x2 (fun v4 => lX9_ties_55 FU x1 x3 x4 v3 v4 S2)))
def uX9_ties (x1 : Int32) (x2 : Int32) (x3 : Int32) (x4 : Int32) (S : St) : Option (Int32 × St) :=
  lz (s2 S 0 0 0) (fun S1 => cl (uX9_isBundle x1 S1) (fun v2 S3 => if v2 = 0 then bX9_ties_47 S3 else cl (uX9_isPlace x2 S3) (fun v4 S5 => if v4 = 0 then bX9_ties_47 S5 else cl (uX9_isPlace x3 S5) (fun v6 S7 => if v6 = 0 then bX9_ties_47 S7 else if x3 < x2 then bX9_ties_40 x1 x2 x3 x4 0 S7 else bX9_ties_40 x1 x2 x3 x4 1 S7))))
-- X9_tie
def rX9_tie : Room := { frames := 3, cells := 0, slots := 0, locals := 69 }
def uX9_tie (x1 : Int32) (x2 : Int32) (x3 : Int32) (S : St) : Option (Int32 × St) :=
  cl (uX9_ties x1 x2 x3 1 S) (fun v1 S2 => some (v1, S2))
-- X9_untie
def rX9_untie : Room := { frames := 3, cells := 0, slots := 0, locals := 69 }
def uX9_untie (x1 : Int32) (x2 : Int32) (x3 : Int32) (S : St) : Option (Int32 × St) :=
  cl (uX9_ties x1 x2 x3 0 S) (fun v1 S2 => some (v1, S2))
-- X9_taken
def rX9_taken : Room := { frames := 1, cells := 0, slots := 0, locals := 23 }
theorem inX9_taken_X9 : ∀ w ∈ u_ws RX9 TX9 24, w ∈ wsX9_taken := by decide +kernel
def bX9_taken_42 (k4 : Int32 → Int32 → St → Option (Int32 × St)) (k12 : Int32 → Int32 → Int32 → St → Option (Int32 × St)) (x1 : Int32) (x2 : Int32) (x3 : Int32) (S : St) : Option (Int32 × St) :=
  lt (x3 + 1) (fun v1 => k12 x1 x2 v1 S)
def bX9_taken_12 (k4 : Int32 → Int32 → St → Option (Int32 × St)) (k12 : Int32 → Int32 → Int32 → St → Option (Int32 × St)) (x1 : Int32) (x2 : Int32) (x3 : Int32) (S : St) : Option (Int32 × St) :=
  if (S 0 2) ≤ x3 then lt (x2 + 1) (fun v1 => k4 x1 v1 S) else ck ((24 * x2) + x3) 192 (if (S 9 ((24 * x2) + x3).toNatClampNeg) = 0 then cl (uX9_many x2 S) (fun v2 S3 => lt (x1 + v2) (fun v4 => bX9_taken_42 k4 k12 v4 x2 x3 S3)) else bX9_taken_42 k4 k12 x1 x2 x3 S)
def lX9_taken_12 (k4 : Int32 → Int32 → St → Option (Int32 × St)) (n : Nat) : Int32 → Int32 → Int32 → St → Option (Int32 × St) :=
  lp (fun k12 => bX9_taken_12 k4 k12) (fun _ _ _ _ => none) n
def bX9_taken_4 (k4 : Int32 → Int32 → St → Option (Int32 × St)) (x1 : Int32) (x2 : Int32) (S : St) : Option (Int32 × St) :=
  if 8 ≤ x2 then some (x1, S) else lt 0 (fun v1 => lX9_taken_12 k4 FU x1 x2 v1 S)
def lX9_taken_4 (n : Nat) : Int32 → Int32 → St → Option (Int32 × St) :=
  lp (fun k4 => bX9_taken_4 k4) (fun _ _ _ => none) n
def uX9_taken (S : St) : Option (Int32 × St) :=
  lt 0 (fun v1 => lt 0 (fun v2 => lX9_taken_4 FU v1 v2 S))
-- X9_bathes
def rX9_bathes : Room := { frames := 0, cells := 0, slots := 0, locals := 0 }
theorem inX9_bathes_X9 : ∀ w ∈ u_ws RX9 TX9 24, w ∈ wsX9_bathes := by decide +kernel
def bX9_bathes_63 (k2 : Int32 → Int32 → St → Option (Int32 × St)) (k10 : Int32 → Int32 → Int32 → St → Option (Int32 × St)) (x1 : Int32) (x2 : Int32) (x3 : Int32) (S : St) : Option (Int32 × St) :=
  lt (x3 + 1) (fun v1 => k10 x1 x2 v1 S)
def bX9_bathes_10 (k2 : Int32 → Int32 → St → Option (Int32 × St)) (k10 : Int32 → Int32 → Int32 → St → Option (Int32 × St)) (x1 : Int32) (x2 : Int32) (x3 : Int32) (S : St) : Option (Int32 × St) :=
  if (S 0 2) ≤ x3 then lt (x2 + 1) (fun v1 => k2 x1 v1 S) else ck ((24 * x2) + x3) 192 (if (S 9 ((24 * x2) + x3).toNatClampNeg) = 0 then ck ((24 * x2) + x3) 192 (ck ((4 * (S 2 ((24 * x2) + x3).toNatClampNeg)) + x1) 64 (ck ((24 * x2) + x3) 192 (lz (s2 S 2 ((24 * x2) + x3).toNatClampNeg (S 3 ((4 * (S 2 ((24 * x2) + x3).toNatClampNeg)) + x1).toNatClampNeg)) (fun S2 => bX9_bathes_63 k2 k10 x1 x2 x3 S2)))) else bX9_bathes_63 k2 k10 x1 x2 x3 S)
def lX9_bathes_10 (k2 : Int32 → Int32 → St → Option (Int32 × St)) (n : Nat) : Int32 → Int32 → Int32 → St → Option (Int32 × St) :=
  lp (fun k10 => bX9_bathes_10 k2 k10) (fun _ _ _ _ => none) n
def bX9_bathes_2 (k2 : Int32 → Int32 → St → Option (Int32 × St)) (x1 : Int32) (x2 : Int32) (S : St) : Option (Int32 × St) :=
  if 8 ≤ x2 then lz (s2 S 0 3 ((S 0 3) + 1)) (fun S1 => some (0, S1)) else lt 0 (fun v2 => lX9_bathes_10 k2 FU x1 x2 v2 S)
def lX9_bathes_2 (n : Nat) : Int32 → Int32 → St → Option (Int32 × St) :=
  lp (fun k2 => bX9_bathes_2 k2) (fun _ _ _ => none) n
def uX9_bathes (x1 : Int32) (S : St) : Option (Int32 × St) :=
  lt 0 (fun v1 => lX9_bathes_2 FU x1 v1 S)
-- X9_bath
def rX9_bath : Room := { frames := 2, cells := 0, slots := 0, locals := 46 }
theorem inX9_bath_X9 : ∀ w ∈ u_ws RX9 TX9 24, w ∈ wsX9_bath := by decide +kernel
def bX9_bath_20 (x1 : Int32) (y1 : Int32) (S : St) : Option (Int32 × St) :=
  cl (uX9_right y1 1 S) (fun v1 S2 => if v1 = 0 then some (0, S2) else cl (uX9_taken S2) (fun v3 S4 => lt v3 (fun v5 => ck x1 4 (if v5 ≤ (S4 4 x1.toNatClampNeg) then ck x1 4 (ck x1 4 (lz (s2 S4 4 x1.toNatClampNeg ((S4 4 x1.toNatClampNeg) - v5)) (fun S6 => cl (uX9_bathes x1 S6) (fun _ S8 => some (v5, S8))))) else some ((-1), S4)))))
def bX9_bath_19 (x1 : Int32) (S : St) : Option (Int32 × St) :=
  bX9_bath_20 x1 0 S
def uX9_bath (x1 : Int32) (S : St) : Option (Int32 × St) :=
  lz (s2 S 0 0 0) (fun S1 => if x1 < 0 then bX9_bath_19 x1 S1 else if 4 ≤ x1 then bX9_bath_19 x1 S1 else bX9_bath_20 x1 1 S1)
-- X9_colourOf
def rX9_colourOf : Room := { frames := 0, cells := 0, slots := 0, locals := 0 }
theorem inX9_colourOf_X9 : ∀ w ∈ u_ws RX9 TX9 24, w ∈ wsX9_colourOf := by decide +kernel
def uX9_colourOf (x1 : Int32) (x2 : Int32) (S : St) : Option (Int32 × St) :=
  ck x1 16 (ck ((24 * (S 1 x1.toNatClampNeg)) + x2) 192 (some (S 2 ((24 * (S 1 x1.toNatClampNeg)) + x2).toNatClampNeg, S)))
-- X9_colour
def rX9_colour : Room := { frames := 2, cells := 0, slots := 0, locals := 43 }
theorem inX9_colour_X9 : ∀ w ∈ u_ws RX9 TX9 24, w ∈ wsX9_colour := by decide +kernel
def bX9_colour_31 (y0 : Int32) (S : St) : Option (Int32 × St) :=
  some (y0, S)
def bX9_colour_30 (S : St) : Option (Int32 × St) :=
  bX9_colour_31 0 S
def uX9_colour (x1 : Int32) (x2 : Int32) (S : St) : Option (Int32 × St) :=
  lz (s2 S 0 0 0) (fun S1 => cl (uX9_isThread x1 S1) (fun v2 S3 => if v2 = 0 then bX9_colour_30 S3 else cl (uX9_isPlace x2 S3) (fun v4 S5 => if v4 = 0 then bX9_colour_30 S5 else cl (uX9_colourOf x1 x2 S5) (fun v6 S7 => bX9_colour_31 v6 S7))))
-- X9_bound
def rX9_bound : Room := { frames := 2, cells := 0, slots := 0, locals := 43 }
theorem inX9_bound_X9 : ∀ w ∈ u_ws RX9 TX9 24, w ∈ wsX9_bound := by decide +kernel
def bX9_bound_40 (y0 : Int32) (S : St) : Option (Int32 × St) :=
  rz y0 (some (y0, S))
def bX9_bound_39 (S : St) : Option (Int32 × St) :=
  bX9_bound_40 0 S
def uX9_bound (x1 : Int32) (x2 : Int32) (S : St) : Option (Int32 × St) :=
  lz (s2 S 0 0 0) (fun S1 => cl (uX9_isBundle x1 S1) (fun v2 S3 => if v2 = 0 then bX9_bound_39 S3 else cl (uX9_isPlace x2 S3) (fun v4 S5 => if v4 = 0 then bX9_bound_39 S5 else ck ((24 * x1) + x2) 192 (if (S5 9 ((24 * x1) + x2).toNatClampNeg) = 0 then bX9_bound_39 S5 else bX9_bound_40 1 S5))))
-- X9_want
def rX9_want : Room := { frames := 2, cells := 0, slots := 0, locals := 43 }
theorem inX9_want_X9 : ∀ w ∈ u_ws RX9 TX9 24, w ∈ wsX9_want := by decide +kernel
def bX9_want_44 (S : St) : Option (Int32 × St) :=
  some (0, S)
def bX9_want_37 (x1 : Int32) (x2 : Int32) (x3 : Int32) (y1 : Int32) (S : St) : Option (Int32 × St) :=
  cl (uX9_right y1 2 S) (fun v1 S2 => if v1 = 0 then bX9_want_44 S2 else ck ((24 * x1) + x2) 384 (lt (S2 5 ((24 * x1) + x2).toNatClampNeg) (fun v3 => ck ((24 * x1) + x2) 384 (lz (s2 S2 5 ((24 * x1) + x2).toNatClampNeg x3) (fun S4 => lz (s2 S4 0 17 0) (fun S5 => some (v3, S5)))))))
def bX9_want_36 (x1 : Int32) (x2 : Int32) (x3 : Int32) (S : St) : Option (Int32 × St) :=
  bX9_want_37 x1 x2 x3 0 S
def uX9_want (x1 : Int32) (x2 : Int32) (x3 : Int32) (S : St) : Option (Int32 × St) :=
  lz (s2 S 0 0 0) (fun S1 => cl (uX9_isThread x1 S1) (fun v2 S3 => if v2 = 0 then bX9_want_44 S3 else cl (uX9_isPlace x2 S3) (fun v4 S5 => if v4 = 0 then bX9_want_44 S5 else if x3 < 0 then bX9_want_36 x1 x2 x3 S5 else if 16 ≤ x3 then bX9_want_36 x1 x2 x3 S5 else bX9_want_37 x1 x2 x3 1 S5)))
section
variable {N : Nat} {C : St → Nat → va_E} {Ev : (Nat → Prop) → State → Prop} {tys : List (ClassId × FieldType)} {l : Launch} {D : va_G} {cI cZ cO cJ : ClassId} {a : Nat → Nat} {tF : Nat}
set_option maxHeartbeats 4000000 in
set_option maxRecDepth 100000 in
theorem mX9_thrown (S : St) : ∀ q, uX9_thrown S = some q → Ki l yX9_thrown wsX9_thrown rX9_thrown D (tyW cI cZ cO) 17 a (cM cI cZ a) (EvM) [.ref (a 0)] S q := by
  refine m_Ki (cc := cX9_thrown) (nL := 1) (ret := (some .int)) (lv := [(0, .ref (a 0))]) (by decide) rfl (Nat.le_of_ble_eq_true rfl) rfl ?_
  intro p e s m args below meth c hc hr hlk hE
  unfold uX9_thrown
  refine g_aload_n (j := 0) hc dX9_thrown_0 rfl rfl ?_
  refine g_get (C0 := RX9) (T := TX9) (M := 24) (k := 0) (ci := 9) hc inX9_thrown_X9 (by decide) rfl rfl 0 (by decide) (List.mem_of_getElem? (i := 1) rfl) rfl rfl dX9_thrown_1 ?_
  exact g_iret hc hr hlk dX9_thrown_4
set_option maxHeartbeats 4000000 in
set_option maxRecDepth 100000 in
theorem tX9_right_28 {p : Program} {e : Env} {s : State} {m : MethodId} {args : Array Value} {below : List Frame} {meth : Method} {c : Code} (hc : CT p s m args c cX9_right 3 RX9 wsX9_right D (tyW cI cZ cO)) (hr : meth.sig.returnType = (some .boolean)) (hlk : meth.locks = false) (hE : EvM (AA 17 a s.heap.size) s) (y0 : Int32) (S : St) : GF p l e rX9_right s m args below meth c D 17 a (cM cI cZ a) (AA 17 a s.heap.size) 3 0 0 (fun res => MQ below (va_Qi (fun r u => (r, u) = res) (Bw D (tyW cI cZ cO) 17 a (cM cI cZ a) (AA 17 a s.heap.size)) (AA 17 a s.heap.size)) args s 0 0 (AA 17 a s.heap.size)) (bX9_right_28 y0 S) 28 [] [.int y0] S := by
  unfold bX9_right_28
  exact g_zret hc hr hlk dX9_right_28
set_option maxHeartbeats 4000000 in
set_option maxRecDepth 100000 in
theorem tX9_right_16 {p : Program} {e : Env} {s : State} {m : MethodId} {args : Array Value} {below : List Frame} {meth : Method} {c : Code} (hc : CT p s m args c cX9_right 3 RX9 wsX9_right D (tyW cI cZ cO)) (hr : meth.sig.returnType = (some .boolean)) (hlk : meth.locks = false) (hE : EvM (AA 17 a s.heap.size) s) (S : St) : GF p l e rX9_right s m args below meth c D 17 a (cM cI cZ a) (AA 17 a s.heap.size) 3 0 0 (fun res => MQ below (va_Qi (fun r u => (r, u) = res) (Bw D (tyW cI cZ cO) 17 a (cM cI cZ a) (AA 17 a s.heap.size)) (AA 17 a s.heap.size)) args s 0 0 (AA 17 a s.heap.size)) (bX9_right_16 S) 16 [(0, .ref (a 0))] [] S := by
  unfold bX9_right_16
  refine g_aload_n (j := 0) hc dX9_right_16 rfl rfl ?_
  refine g_get (C0 := RX9) (T := TX9) (M := 24) (k := 0) (ci := 9) hc inX9_right_X9 (by decide) rfl rfl 0 (by decide) (List.mem_of_getElem? (i := 1) rfl) rfl rfl dX9_right_17 ?_
  refine g_if_ne (tgt := 27) hc dX9_right_20 (by decide) ?_ ?_
  · refine g_iconst (v := 0) hc dX9_right_27 (by decide) ?_
    refine g_lv [] rfl ?_
    exact tX9_right_28 hc hr hlk hE 0 S
  · refine g_iconst (v := 1) hc dX9_right_23 (by decide) ?_
    refine g_goto (tgt := 28) hc dX9_right_24 (by decide) ?_
    refine g_lv [] rfl ?_
    exact tX9_right_28 hc hr hlk hE 1 S
set_option maxHeartbeats 4000000 in
set_option maxRecDepth 100000 in
theorem mX9_right (x1 : Int32) (x2 : Int32) (S : St) : ∀ q, uX9_right x1 x2 S = some q → Ki l yX9_right wsX9_right rX9_right D (tyW cI cZ cO) 17 a (cM cI cZ a) (EvM) [.ref (a 0), .int x1, .int x2] S q := by
  refine m_Ki (cc := cX9_right) (nL := 3) (ret := (some .boolean)) (lv := [(0, .ref (a 0)), (1, .int x1), (2, .int x2)]) (by decide) rfl (Nat.le_of_ble_eq_true rfl) rfl ?_
  intro p e s m args below meth c hc hr hlk hE
  unfold uX9_right
  refine g_aload_n (j := 0) hc dX9_right_0 rfl rfl ?_
  refine g_get (C0 := RX9) (T := TX9) (M := 24) (k := 0) (ci := 9) hc inX9_right_X9 (by decide) rfl rfl 0 (by decide) (List.mem_of_getElem? (i := 1) rfl) rfl rfl dX9_right_1 ?_
  refine g_if_ne (tgt := 16) hc dX9_right_4 (by decide) ?_ ?_
  · refine g_lv [0] rfl ?_
    exact tX9_right_16 hc hr hlk hE S
  · refine g_iload_n (j := 1) hc dX9_right_7 rfl rfl ?_
    refine g_if_ne (tgt := 16) hc dX9_right_8 (by decide) ?_ ?_
    · refine g_lv [0] rfl ?_
      exact tX9_right_16 hc hr hlk hE S
    · refine g_aload_n (j := 0) hc dX9_right_11 rfl rfl ?_
      refine g_iload_n (j := 2) hc dX9_right_12 rfl rfl ?_
      refine g_put (ty := .int) (C0 := RX9) (T := TX9) (M := 24) (k := 0) (ci := 9) hc locM tyX9 tyX9_ok nmX9 inX9_right_X9 (by decide) rfl rfl 0 (by decide) (List.mem_of_getElem? (i := 1) rfl) rfl rfl (by decide +kernel) rfl rfl (Nat.le_of_ble_eq_true rfl) rfl rfl dX9_right_13 (fun S1 => ?_)
      refine g_lv [0] rfl ?_
      exact tX9_right_16 hc hr hlk hE S1
set_option maxHeartbeats 4000000 in
set_option maxRecDepth 100000 in
theorem tX9_undyed_2 {p : Program} {e : Env} {s : State} {m : MethodId} {args : Array Value} {below : List Frame} {meth : Method} {c : Code} (hc : CT p s m args c cX9_undyed 2 RX9 wsX9_undyed D (tyW cI cZ cO)) (hr : meth.sig.returnType = none) (hlk : meth.locks = false) (hE : EvM (AA 17 a s.heap.size) s) (k2 : Int32 → St → Option (Int32 × St)) (hk2 : ∀ (x1 : Int32) (S : St), GF p l e rX9_undyed s m args below meth c D 17 a (cM cI cZ a) (AA 17 a s.heap.size) 2 0 0 (fun res => MQ below (va_Qv (fun u => ((0 : Int32), u) = res) (Bw D (tyW cI cZ cO) 17 a (cM cI cZ a) (AA 17 a s.heap.size)) (AA 17 a s.heap.size)) args s 0 0 (AA 17 a s.heap.size)) (k2 x1 S) 2 [(0, .ref (a 0)), (1, .int x1)] [] S) (x1 : Int32) (S : St) : GF p l e rX9_undyed s m args below meth c D 17 a (cM cI cZ a) (AA 17 a s.heap.size) 2 0 0 (fun res => MQ below (va_Qv (fun u => ((0 : Int32), u) = res) (Bw D (tyW cI cZ cO) 17 a (cM cI cZ a) (AA 17 a s.heap.size)) (AA 17 a s.heap.size)) args s 0 0 (AA 17 a s.heap.size)) (bX9_undyed_2 k2 x1 S) 2 [(0, .ref (a 0)), (1, .int x1)] [] S := by
  unfold bX9_undyed_2
  refine g_iload_n (j := 1) hc dX9_undyed_2 rfl rfl ?_
  refine g_sipush (v := 192) hc dX9_undyed_3 (by decide) ?_
  refine g_icmp_ge (tgt := 29) hc dX9_undyed_6 (by decide) ?_ ?_
  · exact g_vret hc hr hlk dX9_undyed_29
  · refine g_aload_n (j := 0) hc dX9_undyed_9 rfl rfl ?_
    refine g_get (C0 := RX9) (T := TX9) (M := 24) (k := 0) (ci := 9) hc inX9_undyed_X9 (by decide) rfl rfl 6 (by decide) (List.mem_of_getElem? (i := 1) rfl) rfl rfl dX9_undyed_10 ?_
    refine g_iload_n (j := 1) hc dX9_undyed_13 rfl rfl ?_
    refine g_iconst (v := 0) hc dX9_undyed_14 (by decide) ?_
    refine g_iast (k := 2) (t0 := 0) hc locM (by decide) rfl rfl rfl dX9_undyed_15 (fun S1 => ?_)
    refine g_aload_n (j := 0) hc dX9_undyed_16 rfl rfl ?_
    refine g_get (C0 := RX9) (T := TX9) (M := 24) (k := 0) (ci := 9) hc inX9_undyed_X9 (by decide) rfl rfl 13 (by decide) (List.mem_of_getElem? (i := 2) rfl) rfl rfl dX9_undyed_17 ?_
    refine g_iload_n (j := 1) hc dX9_undyed_20 rfl rfl ?_
    refine g_iconst (v := 0) hc dX9_undyed_21 (by decide) ?_
    refine g_zast (k := 9) (t0 := 1) hc locM (by decide) rfl rfl rfl dX9_undyed_22 (fun S2 => ?_)
    refine g_iinc (j := 1) (w := x1 + 1) (L := fun v3 => [(1, .int v3), (0, .ref (a 0))]) hc dX9_undyed_23 rfl (by rfl) (by decide) (fun _ => rfl) (fun v3 => ?_)
    refine g_goto (tgt := 2) hc dX9_undyed_26 (by decide) ?_
    refine g_lv [1, 0] rfl ?_
    exact hk2 v3 S2
set_option maxHeartbeats 4000000 in
set_option maxRecDepth 100000 in
theorem TX9_undyed_2 {p : Program} {e : Env} {s : State} {m : MethodId} {args : Array Value} {below : List Frame} {meth : Method} {c : Code} (hc : CT p s m args c cX9_undyed 2 RX9 wsX9_undyed D (tyW cI cZ cO)) (hr : meth.sig.returnType = none) (hlk : meth.locks = false) (hE : EvM (AA 17 a s.heap.size) s) (n : Nat) (x1 : Int32) (S : St) : GF p l e rX9_undyed s m args below meth c D 17 a (cM cI cZ a) (AA 17 a s.heap.size) 2 0 0 (fun res => MQ below (va_Qv (fun u => ((0 : Int32), u) = res) (Bw D (tyW cI cZ cO) 17 a (cM cI cZ a) (AA 17 a s.heap.size)) (AA 17 a s.heap.size)) args s 0 0 (AA 17 a s.heap.size)) (lX9_undyed_2 n x1 S) 2 [(0, .ref (a 0)), (1, .int x1)] [] S :=
  lp_ind (P := fun k : Int32 → St → Option (Int32 × St) => ∀ (x1 : Int32) (S : St), GF p l e rX9_undyed s m args below meth c D 17 a (cM cI cZ a) (AA 17 a s.heap.size) 2 0 0 (fun res => MQ below (va_Qv (fun u => ((0 : Int32), u) = res) (Bw D (tyW cI cZ cO) 17 a (cM cI cZ a) (AA 17 a s.heap.size)) (AA 17 a s.heap.size)) args s 0 0 (AA 17 a s.heap.size)) (k x1 S) 2 [(0, .ref (a 0)), (1, .int x1)] [] S) (fun _ _ => g_none) (fun k2 hk2 => tX9_undyed_2 hc hr hlk hE k2 hk2) n x1 S
set_option maxHeartbeats 4000000 in
set_option maxRecDepth 100000 in
theorem mX9_undyed (S : St) : ∀ q, uX9_undyed S = some q → Kv l yX9_undyed wsX9_undyed rX9_undyed D (tyW cI cZ cO) 17 a (cM cI cZ a) (EvM) [.ref (a 0)] S q := by
  refine m_Kv (cc := cX9_undyed) (nL := 2) (ret := none) (lv := [(0, .ref (a 0))]) (by decide) rfl (Nat.le_of_ble_eq_true rfl) rfl ?_
  intro p e s m args below meth c hc hr hlk hE
  unfold uX9_undyed
  refine g_iconst (v := 0) hc dX9_undyed_0 (by decide) ?_
  refine g_istore_n (L := fun v1 => [(1, .int v1), (0, .ref (a 0))]) hc dX9_undyed_1 rfl (by decide) (fun _ => rfl) (fun v1 => ?_)
  refine g_lv [1, 0] rfl ?_
  exact TX9_undyed_2 hc hr hlk hE FU v1 S
set_option maxHeartbeats 4000000 in
set_option maxRecDepth 100000 in
theorem tX9_frame_110 {p : Program} {e : Env} {s : State} {m : MethodId} {args : Array Value} {below : List Frame} {meth : Method} {c : Code} (hc : CT p s m args c cX9_frame 4 RX9 wsX9_frame D (tyW cI cZ cO)) (hr : meth.sig.returnType = none) (hlk : meth.locks = false) (hE : EvM (AA 17 a s.heap.size) s) (k110 : Int32 → St → Option (Int32 × St)) (hk110 : ∀ (x3 : Int32) (S : St), GF p l e rX9_frame s m args below meth c D 17 a (cM cI cZ a) (AA 17 a s.heap.size) 4 0 0 (fun res => MQ below (va_Qv (fun u => ((0 : Int32), u) = res) (Bw D (tyW cI cZ cO) 17 a (cM cI cZ a) (AA 17 a s.heap.size)) (AA 17 a s.heap.size)) args s 0 0 (AA 17 a s.heap.size)) (k110 x3 S) 110 [(0, .ref (a 0)), (3, .int x3)] [] S) (x3 : Int32) (S : St) : GF p l e rX9_frame s m args below meth c D 17 a (cM cI cZ a) (AA 17 a s.heap.size) 4 0 0 (fun res => MQ below (va_Qv (fun u => ((0 : Int32), u) = res) (Bw D (tyW cI cZ cO) 17 a (cM cI cZ a) (AA 17 a s.heap.size)) (AA 17 a s.heap.size)) args s 0 0 (AA 17 a s.heap.size)) (bX9_frame_110 k110 x3 S) 110 [(0, .ref (a 0)), (3, .int x3)] [] S := by
  unfold bX9_frame_110
  refine g_iload_n (j := 1) hc dX9_frame_110 rfl rfl ?_
  refine g_bipush (v := 8) hc dX9_frame_111 (by decide) ?_
  refine g_icmp_ge (tgt := 129) hc dX9_frame_113 (by decide) ?_ ?_
  · refine g_aload_n (j := 0) hc dX9_frame_129 rfl rfl ?_
    refine g_iconst (v := 0) hc dX9_frame_130 (by decide) ?_
    refine g_put (ty := .boolean) (C0 := RX9) (T := TX9) (M := 24) (k := 0) (ci := 9) hc locM tyX9 tyX9_ok nmX9 inX9_frame_X9 (by decide) rfl rfl 17 (by decide) (List.mem_of_getElem? (i := 9) rfl) rfl rfl (by decide +kernel) (by decide) (by decide) (Nat.le_of_ble_eq_true rfl) rfl rfl dX9_frame_131 (fun S1 => ?_)
    refine g_aload_n (j := 0) hc dX9_frame_134 rfl rfl ?_
    refine g_callVv (As := []) (rest := []) (k := 0) (ci := 9) (q0 := (RX9, TX9, 24)) hc hE trM rfl (fun _ h => mX9_undyed S1 _ h) (cwV 0 hc.1.2.2.2.2 gX9_frame_X9_undyed rfl rfl rfl (by decide +kernel) ⟨by decide, by decide⟩) (by decide) rfl rfl rfl rfl (Nat.le_of_ble_eq_true rfl) dX9_frame_135 ⟨by decide, by decide⟩ (fun S3 => ?_)
    exact g_vret hc hr hlk dX9_frame_138
  · refine g_aload_n (j := 0) hc dX9_frame_116 rfl rfl ?_
    refine g_get (C0 := RX9) (T := TX9) (M := 24) (k := 0) (ci := 9) hc inX9_frame_X9 (by decide) rfl rfl 12 (by decide) (List.mem_of_getElem? (i := 8) rfl) rfl rfl dX9_frame_117 ?_
    refine g_iload_n (j := 1) hc dX9_frame_120 rfl rfl ?_
    refine g_iconst (v := 0) hc dX9_frame_121 (by decide) ?_
    refine g_zast (k := 8) (t0 := 1) hc locM (by decide) rfl rfl rfl dX9_frame_122 (fun S4 => ?_)
    refine g_iinc (j := 1) (w := x3 + 1) (L := fun v5 => [(3, .int v5), (0, .ref (a 0))]) hc dX9_frame_123 rfl (by rfl) (by decide) (fun _ => rfl) (fun v5 => ?_)
    refine g_goto (tgt := 110) hc dX9_frame_126 (by decide) ?_
    refine g_lv [1, 0] rfl ?_
    exact hk110 v5 S4
set_option maxHeartbeats 4000000 in
set_option maxRecDepth 100000 in
theorem TX9_frame_110 {p : Program} {e : Env} {s : State} {m : MethodId} {args : Array Value} {below : List Frame} {meth : Method} {c : Code} (hc : CT p s m args c cX9_frame 4 RX9 wsX9_frame D (tyW cI cZ cO)) (hr : meth.sig.returnType = none) (hlk : meth.locks = false) (hE : EvM (AA 17 a s.heap.size) s) (n : Nat) (x3 : Int32) (S : St) : GF p l e rX9_frame s m args below meth c D 17 a (cM cI cZ a) (AA 17 a s.heap.size) 4 0 0 (fun res => MQ below (va_Qv (fun u => ((0 : Int32), u) = res) (Bw D (tyW cI cZ cO) 17 a (cM cI cZ a) (AA 17 a s.heap.size)) (AA 17 a s.heap.size)) args s 0 0 (AA 17 a s.heap.size)) (lX9_frame_110 n x3 S) 110 [(0, .ref (a 0)), (3, .int x3)] [] S :=
  lp_ind (P := fun k : Int32 → St → Option (Int32 × St) => ∀ (x3 : Int32) (S : St), GF p l e rX9_frame s m args below meth c D 17 a (cM cI cZ a) (AA 17 a s.heap.size) 4 0 0 (fun res => MQ below (va_Qv (fun u => ((0 : Int32), u) = res) (Bw D (tyW cI cZ cO) 17 a (cM cI cZ a) (AA 17 a s.heap.size)) (AA 17 a s.heap.size)) args s 0 0 (AA 17 a s.heap.size)) (k x3 S) 110 [(0, .ref (a 0)), (3, .int x3)] [] S) (fun _ _ => g_none) (fun k110 hk110 => tX9_frame_110 hc hr hlk hE k110 hk110) n x3 S
set_option maxHeartbeats 4000000 in
set_option maxRecDepth 100000 in
theorem tX9_frame_75 {p : Program} {e : Env} {s : State} {m : MethodId} {args : Array Value} {below : List Frame} {meth : Method} {c : Code} (hc : CT p s m args c cX9_frame 4 RX9 wsX9_frame D (tyW cI cZ cO)) (hr : meth.sig.returnType = none) (hlk : meth.locks = false) (hE : EvM (AA 17 a s.heap.size) s) (k75 : Int32 → St → Option (Int32 × St)) (hk75 : ∀ (x3 : Int32) (S : St), GF p l e rX9_frame s m args below meth c D 17 a (cM cI cZ a) (AA 17 a s.heap.size) 4 0 0 (fun res => MQ below (va_Qv (fun u => ((0 : Int32), u) = res) (Bw D (tyW cI cZ cO) 17 a (cM cI cZ a) (AA 17 a s.heap.size)) (AA 17 a s.heap.size)) args s 0 0 (AA 17 a s.heap.size)) (k75 x3 S) 75 [(0, .ref (a 0)), (3, .int x3)] [] S) (x3 : Int32) (S : St) : GF p l e rX9_frame s m args below meth c D 17 a (cM cI cZ a) (AA 17 a s.heap.size) 4 0 0 (fun res => MQ below (va_Qv (fun u => ((0 : Int32), u) = res) (Bw D (tyW cI cZ cO) 17 a (cM cI cZ a) (AA 17 a s.heap.size)) (AA 17 a s.heap.size)) args s 0 0 (AA 17 a s.heap.size)) (bX9_frame_75 k75 x3 S) 75 [(0, .ref (a 0)), (3, .int x3)] [] S := by
  unfold bX9_frame_75
  refine g_iload_n (j := 1) hc dX9_frame_75 rfl rfl ?_
  refine g_bipush (v := 16) hc dX9_frame_76 (by decide) ?_
  refine g_icmp_ge (tgt := 108) hc dX9_frame_78 (by decide) ?_ ?_
  · refine g_iconst (v := 0) hc dX9_frame_108 (by decide) ?_
    refine g_istore_n (L := fun v1 => [(3, .int v1), (0, .ref (a 0))]) hc dX9_frame_109 rfl (by decide) (fun _ => rfl) (fun v1 => ?_)
    refine g_lv [1, 0] rfl ?_
    exact TX9_frame_110 hc hr hlk hE FU v1 S
  · refine g_aload_n (j := 0) hc dX9_frame_81 rfl rfl ?_
    refine g_get (C0 := RX9) (T := TX9) (M := 24) (k := 0) (ci := 9) hc inX9_frame_X9 (by decide) rfl rfl 5 (by decide) (List.mem_of_getElem? (i := 5) rfl) rfl rfl dX9_frame_82 ?_
    refine g_iload_n (j := 1) hc dX9_frame_85 rfl rfl ?_
    refine g_iconst (v := 0) hc dX9_frame_86 (by decide) ?_
    refine g_iast (k := 1) (t0 := 0) hc locM (by decide) rfl rfl rfl dX9_frame_87 (fun S2 => ?_)
    refine g_aload_n (j := 0) hc dX9_frame_88 rfl rfl ?_
    refine g_get (C0 := RX9) (T := TX9) (M := 24) (k := 0) (ci := 9) hc inX9_frame_X9 (by decide) rfl rfl 10 (by decide) (List.mem_of_getElem? (i := 6) rfl) rfl rfl dX9_frame_89 ?_
    refine g_iload_n (j := 1) hc dX9_frame_92 rfl rfl ?_
    refine g_iconst (v := 0) hc dX9_frame_93 (by decide) ?_
    refine g_iast (k := 6) (t0 := 0) hc locM (by decide) rfl rfl rfl dX9_frame_94 (fun S3 => ?_)
    refine g_aload_n (j := 0) hc dX9_frame_95 rfl rfl ?_
    refine g_get (C0 := RX9) (T := TX9) (M := 24) (k := 0) (ci := 9) hc inX9_frame_X9 (by decide) rfl rfl 11 (by decide) (List.mem_of_getElem? (i := 7) rfl) rfl rfl dX9_frame_96 ?_
    refine g_iload_n (j := 1) hc dX9_frame_99 rfl rfl ?_
    refine g_iconst (v := 0) hc dX9_frame_100 (by decide) ?_
    refine g_iast (k := 7) (t0 := 0) hc locM (by decide) rfl rfl rfl dX9_frame_101 (fun S4 => ?_)
    refine g_iinc (j := 1) (w := x3 + 1) (L := fun v5 => [(3, .int v5), (0, .ref (a 0))]) hc dX9_frame_102 rfl (by rfl) (by decide) (fun _ => rfl) (fun v5 => ?_)
    refine g_goto (tgt := 75) hc dX9_frame_105 (by decide) ?_
    refine g_lv [1, 0] rfl ?_
    exact hk75 v5 S4
set_option maxHeartbeats 4000000 in
set_option maxRecDepth 100000 in
theorem TX9_frame_75 {p : Program} {e : Env} {s : State} {m : MethodId} {args : Array Value} {below : List Frame} {meth : Method} {c : Code} (hc : CT p s m args c cX9_frame 4 RX9 wsX9_frame D (tyW cI cZ cO)) (hr : meth.sig.returnType = none) (hlk : meth.locks = false) (hE : EvM (AA 17 a s.heap.size) s) (n : Nat) (x3 : Int32) (S : St) : GF p l e rX9_frame s m args below meth c D 17 a (cM cI cZ a) (AA 17 a s.heap.size) 4 0 0 (fun res => MQ below (va_Qv (fun u => ((0 : Int32), u) = res) (Bw D (tyW cI cZ cO) 17 a (cM cI cZ a) (AA 17 a s.heap.size)) (AA 17 a s.heap.size)) args s 0 0 (AA 17 a s.heap.size)) (lX9_frame_75 n x3 S) 75 [(0, .ref (a 0)), (3, .int x3)] [] S :=
  lp_ind (P := fun k : Int32 → St → Option (Int32 × St) => ∀ (x3 : Int32) (S : St), GF p l e rX9_frame s m args below meth c D 17 a (cM cI cZ a) (AA 17 a s.heap.size) 4 0 0 (fun res => MQ below (va_Qv (fun u => ((0 : Int32), u) = res) (Bw D (tyW cI cZ cO) 17 a (cM cI cZ a) (AA 17 a s.heap.size)) (AA 17 a s.heap.size)) args s 0 0 (AA 17 a s.heap.size)) (k x3 S) 75 [(0, .ref (a 0)), (3, .int x3)] [] S) (fun _ _ => g_none) (fun k75 hk75 => tX9_frame_75 hc hr hlk hE k75 hk75) n x3 S
set_option maxHeartbeats 4000000 in
set_option maxRecDepth 100000 in
theorem tX9_frame_53 {p : Program} {e : Env} {s : State} {m : MethodId} {args : Array Value} {below : List Frame} {meth : Method} {c : Code} (hc : CT p s m args c cX9_frame 4 RX9 wsX9_frame D (tyW cI cZ cO)) (hr : meth.sig.returnType = none) (hlk : meth.locks = false) (hE : EvM (AA 17 a s.heap.size) s) (k53 : Int32 → St → Option (Int32 × St)) (hk53 : ∀ (x3 : Int32) (S : St), GF p l e rX9_frame s m args below meth c D 17 a (cM cI cZ a) (AA 17 a s.heap.size) 4 0 0 (fun res => MQ below (va_Qv (fun u => ((0 : Int32), u) = res) (Bw D (tyW cI cZ cO) 17 a (cM cI cZ a) (AA 17 a s.heap.size)) (AA 17 a s.heap.size)) args s 0 0 (AA 17 a s.heap.size)) (k53 x3 S) 53 [(0, .ref (a 0)), (3, .int x3)] [] S) (x3 : Int32) (S : St) : GF p l e rX9_frame s m args below meth c D 17 a (cM cI cZ a) (AA 17 a s.heap.size) 4 0 0 (fun res => MQ below (va_Qv (fun u => ((0 : Int32), u) = res) (Bw D (tyW cI cZ cO) 17 a (cM cI cZ a) (AA 17 a s.heap.size)) (AA 17 a s.heap.size)) args s 0 0 (AA 17 a s.heap.size)) (bX9_frame_53 k53 x3 S) 53 [(0, .ref (a 0)), (3, .int x3)] [] S := by
  unfold bX9_frame_53
  refine g_iload_n (j := 1) hc dX9_frame_53 rfl rfl ?_
  refine g_sipush (v := 384) hc dX9_frame_54 (by decide) ?_
  refine g_icmp_ge (tgt := 73) hc dX9_frame_57 (by decide) ?_ ?_
  · refine g_iconst (v := 0) hc dX9_frame_73 (by decide) ?_
    refine g_istore_n (L := fun v1 => [(3, .int v1), (0, .ref (a 0))]) hc dX9_frame_74 rfl (by decide) (fun _ => rfl) (fun v1 => ?_)
    refine g_lv [1, 0] rfl ?_
    exact TX9_frame_75 hc hr hlk hE FU v1 S
  · refine g_aload_n (j := 0) hc dX9_frame_60 rfl rfl ?_
    refine g_get (C0 := RX9) (T := TX9) (M := 24) (k := 0) (ci := 9) hc inX9_frame_X9 (by decide) rfl rfl 9 (by decide) (List.mem_of_getElem? (i := 4) rfl) rfl rfl dX9_frame_61 ?_
    refine g_iload_n (j := 1) hc dX9_frame_64 rfl rfl ?_
    refine g_iconst (v := 0) hc dX9_frame_65 (by decide) ?_
    refine g_iast (k := 5) (t0 := 0) hc locM (by decide) rfl rfl rfl dX9_frame_66 (fun S2 => ?_)
    refine g_iinc (j := 1) (w := x3 + 1) (L := fun v3 => [(3, .int v3), (0, .ref (a 0))]) hc dX9_frame_67 rfl (by rfl) (by decide) (fun _ => rfl) (fun v3 => ?_)
    refine g_goto (tgt := 53) hc dX9_frame_70 (by decide) ?_
    refine g_lv [1, 0] rfl ?_
    exact hk53 v3 S2
set_option maxHeartbeats 4000000 in
set_option maxRecDepth 100000 in
theorem TX9_frame_53 {p : Program} {e : Env} {s : State} {m : MethodId} {args : Array Value} {below : List Frame} {meth : Method} {c : Code} (hc : CT p s m args c cX9_frame 4 RX9 wsX9_frame D (tyW cI cZ cO)) (hr : meth.sig.returnType = none) (hlk : meth.locks = false) (hE : EvM (AA 17 a s.heap.size) s) (n : Nat) (x3 : Int32) (S : St) : GF p l e rX9_frame s m args below meth c D 17 a (cM cI cZ a) (AA 17 a s.heap.size) 4 0 0 (fun res => MQ below (va_Qv (fun u => ((0 : Int32), u) = res) (Bw D (tyW cI cZ cO) 17 a (cM cI cZ a) (AA 17 a s.heap.size)) (AA 17 a s.heap.size)) args s 0 0 (AA 17 a s.heap.size)) (lX9_frame_53 n x3 S) 53 [(0, .ref (a 0)), (3, .int x3)] [] S :=
  lp_ind (P := fun k : Int32 → St → Option (Int32 × St) => ∀ (x3 : Int32) (S : St), GF p l e rX9_frame s m args below meth c D 17 a (cM cI cZ a) (AA 17 a s.heap.size) 4 0 0 (fun res => MQ below (va_Qv (fun u => ((0 : Int32), u) = res) (Bw D (tyW cI cZ cO) 17 a (cM cI cZ a) (AA 17 a s.heap.size)) (AA 17 a s.heap.size)) args s 0 0 (AA 17 a s.heap.size)) (k x3 S) 53 [(0, .ref (a 0)), (3, .int x3)] [] S) (fun _ _ => g_none) (fun k53 hk53 => tX9_frame_53 hc hr hlk hE k53 hk53) n x3 S
set_option maxHeartbeats 4000000 in
set_option maxRecDepth 100000 in
theorem tX9_frame_33 {p : Program} {e : Env} {s : State} {m : MethodId} {args : Array Value} {below : List Frame} {meth : Method} {c : Code} (hc : CT p s m args c cX9_frame 4 RX9 wsX9_frame D (tyW cI cZ cO)) (hr : meth.sig.returnType = none) (hlk : meth.locks = false) (hE : EvM (AA 17 a s.heap.size) s) (x1 : Int32) (x2 : Int32) (y1 : Int32) (S : St) : GF p l e rX9_frame s m args below meth c D 17 a (cM cI cZ a) (AA 17 a s.heap.size) 4 0 0 (fun res => MQ below (va_Qv (fun u => ((0 : Int32), u) = res) (Bw D (tyW cI cZ cO) 17 a (cM cI cZ a) (AA 17 a s.heap.size)) (AA 17 a s.heap.size)) args s 0 0 (AA 17 a s.heap.size)) (bX9_frame_33 x1 x2 y1 S) 33 [(0, .ref (a 0)), (1, .int x1), (2, .int x2)] [.int y1, .ref (a 0)] S := by
  unfold bX9_frame_33
  refine g_iconst (v := 1) hc dX9_frame_33 (by decide) ?_
  refine g_callVi (As := [.int y1, .int 1]) (rest := []) (k := 0) (ci := 9) (q0 := (RX9, TX9, 24)) hc hE trM rfl (fun _ h => mX9_right y1 1 S _ h) (cwV 2 hc.1.2.2.2.2 gX9_frame_X9_right rfl rfl rfl (by decide +kernel) ⟨by decide, by decide⟩) (by decide) rfl rfl rfl rfl (Nat.le_of_ble_eq_true rfl) dX9_frame_34 ⟨by decide, by decide⟩ (fun v1 S2 => ?_)
  refine g_if_ne (tgt := 41) hc dX9_frame_37 (by decide) ?_ ?_
  · refine g_aload_n (j := 0) hc dX9_frame_41 rfl rfl ?_
    refine g_iload_n (j := 1) hc dX9_frame_42 rfl rfl ?_
    refine g_put (ty := .int) (C0 := RX9) (T := TX9) (M := 24) (k := 0) (ci := 9) hc locM tyX9 tyX9_ok nmX9 inX9_frame_X9 (by decide) rfl rfl 1 (by decide) (List.mem_of_getElem? (i := 2) rfl) rfl rfl (by decide +kernel) rfl rfl (Nat.le_of_ble_eq_true rfl) rfl rfl dX9_frame_43 (fun S3 => ?_)
    refine g_aload_n (j := 0) hc dX9_frame_46 rfl rfl ?_
    refine g_iload_n (j := 2) hc dX9_frame_47 rfl rfl ?_
    refine g_put (ty := .int) (C0 := RX9) (T := TX9) (M := 24) (k := 0) (ci := 9) hc locM tyX9 tyX9_ok nmX9 inX9_frame_X9 (by decide) rfl rfl 2 (by decide) (List.mem_of_getElem? (i := 3) rfl) rfl rfl (by decide +kernel) rfl rfl (Nat.le_of_ble_eq_true rfl) rfl rfl dX9_frame_48 (fun S4 => ?_)
    refine g_iconst (v := 0) hc dX9_frame_51 (by decide) ?_
    refine g_istore_n (L := fun v5 => [(3, .int v5), (0, .ref (a 0)), (1, .int x1), (2, .int x2)]) hc dX9_frame_52 rfl (by decide) (fun _ => rfl) (fun v5 => ?_)
    refine g_lv [1, 0] rfl ?_
    exact TX9_frame_53 hc hr hlk hE FU v5 S4
  · exact g_vret hc hr hlk dX9_frame_40
set_option maxHeartbeats 4000000 in
set_option maxRecDepth 100000 in
theorem tX9_frame_32 {p : Program} {e : Env} {s : State} {m : MethodId} {args : Array Value} {below : List Frame} {meth : Method} {c : Code} (hc : CT p s m args c cX9_frame 4 RX9 wsX9_frame D (tyW cI cZ cO)) (hr : meth.sig.returnType = none) (hlk : meth.locks = false) (hE : EvM (AA 17 a s.heap.size) s) (x1 : Int32) (x2 : Int32) (S : St) : GF p l e rX9_frame s m args below meth c D 17 a (cM cI cZ a) (AA 17 a s.heap.size) 4 0 0 (fun res => MQ below (va_Qv (fun u => ((0 : Int32), u) = res) (Bw D (tyW cI cZ cO) 17 a (cM cI cZ a) (AA 17 a s.heap.size)) (AA 17 a s.heap.size)) args s 0 0 (AA 17 a s.heap.size)) (bX9_frame_32 x1 x2 S) 32 [(0, .ref (a 0)), (1, .int x1), (2, .int x2)] [.ref (a 0)] S := by
  unfold bX9_frame_32
  refine g_iconst (v := 0) hc dX9_frame_32 (by decide) ?_
  exact tX9_frame_33 hc hr hlk hE x1 x2 0 S
set_option maxHeartbeats 4000000 in
set_option maxRecDepth 100000 in
theorem mX9_frame (x1 : Int32) (x2 : Int32) (S : St) : ∀ q, uX9_frame x1 x2 S = some q → Kv l yX9_frame wsX9_frame rX9_frame D (tyW cI cZ cO) 17 a (cM cI cZ a) (EvM) [.ref (a 0), .int x1, .int x2] S q := by
  refine m_Kv (cc := cX9_frame) (nL := 4) (ret := none) (lv := [(0, .ref (a 0)), (1, .int x1), (2, .int x2)]) (by decide) rfl (Nat.le_of_ble_eq_true rfl) rfl ?_
  intro p e s m args below meth c hc hr hlk hE
  unfold uX9_frame
  refine g_aload_n (j := 0) hc dX9_frame_0 rfl rfl ?_
  refine g_iconst (v := 0) hc dX9_frame_1 (by decide) ?_
  refine g_put (ty := .int) (C0 := RX9) (T := TX9) (M := 24) (k := 0) (ci := 9) hc locM tyX9 tyX9_ok nmX9 inX9_frame_X9 (by decide) rfl rfl 0 (by decide) (List.mem_of_getElem? (i := 1) rfl) rfl rfl (by decide +kernel) rfl rfl (Nat.le_of_ble_eq_true rfl) rfl rfl dX9_frame_2 (fun S1 => ?_)
  refine g_aload_n (j := 0) hc dX9_frame_5 rfl rfl ?_
  refine g_iload_n (j := 1) hc dX9_frame_6 rfl rfl ?_
  refine g_iconst (v := 1) hc dX9_frame_7 (by decide) ?_
  refine g_icmp_lt (tgt := 32) hc dX9_frame_8 (by decide) ?_ ?_
  · exact tX9_frame_32 hc hr hlk hE x1 x2 S1
  · refine g_iload_n (j := 1) hc dX9_frame_11 rfl rfl ?_
    refine g_bipush (v := 16) hc dX9_frame_12 (by decide) ?_
    refine g_icmp_gt (tgt := 32) hc dX9_frame_14 (by decide) ?_ ?_
    · exact tX9_frame_32 hc hr hlk hE x1 x2 S1
    · refine g_iload_n (j := 2) hc dX9_frame_17 rfl rfl ?_
      refine g_iconst (v := 1) hc dX9_frame_18 (by decide) ?_
      refine g_icmp_lt (tgt := 32) hc dX9_frame_19 (by decide) ?_ ?_
      · exact tX9_frame_32 hc hr hlk hE x1 x2 S1
      · refine g_iload_n (j := 2) hc dX9_frame_22 rfl rfl ?_
        refine g_bipush (v := 24) hc dX9_frame_23 (by decide) ?_
        refine g_icmp_gt (tgt := 32) hc dX9_frame_25 (by decide) ?_ ?_
        · exact tX9_frame_32 hc hr hlk hE x1 x2 S1
        · refine g_iconst (v := 1) hc dX9_frame_28 (by decide) ?_
          refine g_goto (tgt := 33) hc dX9_frame_29 (by decide) ?_
          exact tX9_frame_33 hc hr hlk hE x1 x2 1 S1
set_option maxHeartbeats 4000000 in
set_option maxRecDepth 100000 in
theorem tX9_isThread_18 {p : Program} {e : Env} {s : State} {m : MethodId} {args : Array Value} {below : List Frame} {meth : Method} {c : Code} (hc : CT p s m args c cX9_isThread 2 RX9 wsX9_isThread D (tyW cI cZ cO)) (hr : meth.sig.returnType = (some .boolean)) (hlk : meth.locks = false) (hE : EvM (AA 17 a s.heap.size) s) (y1 : Int32) (S : St) : GF p l e rX9_isThread s m args below meth c D 17 a (cM cI cZ a) (AA 17 a s.heap.size) 2 0 0 (fun res => MQ below (va_Qi (fun r u => (r, u) = res) (Bw D (tyW cI cZ cO) 17 a (cM cI cZ a) (AA 17 a s.heap.size)) (AA 17 a s.heap.size)) args s 0 0 (AA 17 a s.heap.size)) (bX9_isThread_18 y1 S) 18 [] [.int y1, .ref (a 0)] S := by
  unfold bX9_isThread_18
  refine g_iconst (v := 1) hc dX9_isThread_18 (by decide) ?_
  refine g_callVi (As := [.int y1, .int 1]) (rest := []) (k := 0) (ci := 9) (q0 := (RX9, TX9, 24)) hc hE trM rfl (fun _ h => mX9_right y1 1 S _ h) (cwV 2 hc.1.2.2.2.2 gX9_isThread_X9_right rfl rfl rfl (by decide +kernel) ⟨by decide, by decide⟩) (by decide) rfl rfl rfl rfl (Nat.le_of_ble_eq_true rfl) dX9_isThread_19 ⟨by decide, by decide⟩ (fun v1 S2 => ?_)
  exact g_zret hc hr hlk dX9_isThread_22
set_option maxHeartbeats 4000000 in
set_option maxRecDepth 100000 in
theorem tX9_isThread_17 {p : Program} {e : Env} {s : State} {m : MethodId} {args : Array Value} {below : List Frame} {meth : Method} {c : Code} (hc : CT p s m args c cX9_isThread 2 RX9 wsX9_isThread D (tyW cI cZ cO)) (hr : meth.sig.returnType = (some .boolean)) (hlk : meth.locks = false) (hE : EvM (AA 17 a s.heap.size) s) (S : St) : GF p l e rX9_isThread s m args below meth c D 17 a (cM cI cZ a) (AA 17 a s.heap.size) 2 0 0 (fun res => MQ below (va_Qi (fun r u => (r, u) = res) (Bw D (tyW cI cZ cO) 17 a (cM cI cZ a) (AA 17 a s.heap.size)) (AA 17 a s.heap.size)) args s 0 0 (AA 17 a s.heap.size)) (bX9_isThread_17 S) 17 [] [.ref (a 0)] S := by
  unfold bX9_isThread_17
  refine g_iconst (v := 0) hc dX9_isThread_17 (by decide) ?_
  exact tX9_isThread_18 hc hr hlk hE 0 S
set_option maxHeartbeats 4000000 in
set_option maxRecDepth 100000 in
theorem mX9_isThread (x1 : Int32) (S : St) : ∀ q, uX9_isThread x1 S = some q → Ki l yX9_isThread wsX9_isThread rX9_isThread D (tyW cI cZ cO) 17 a (cM cI cZ a) (EvM) [.ref (a 0), .int x1] S q := by
  refine m_Ki (cc := cX9_isThread) (nL := 2) (ret := (some .boolean)) (lv := [(0, .ref (a 0)), (1, .int x1)]) (by decide) rfl (Nat.le_of_ble_eq_true rfl) rfl ?_
  intro p e s m args below meth c hc hr hlk hE
  unfold uX9_isThread
  refine g_aload_n (j := 0) hc dX9_isThread_0 rfl rfl ?_
  refine g_iload_n (j := 1) hc dX9_isThread_1 rfl rfl ?_
  refine g_if_lt (tgt := 17) hc dX9_isThread_2 (by decide) ?_ ?_
  · refine g_lv [] rfl ?_
    exact tX9_isThread_17 hc hr hlk hE S
  · refine g_iload_n (j := 1) hc dX9_isThread_5 rfl rfl ?_
    refine g_aload_n (j := 0) hc dX9_isThread_6 rfl rfl ?_
    refine g_get (C0 := RX9) (T := TX9) (M := 24) (k := 0) (ci := 9) hc inX9_isThread_X9 (by decide) rfl rfl 1 (by decide) (List.mem_of_getElem? (i := 1) rfl) rfl rfl dX9_isThread_7 ?_
    refine g_icmp_ge (tgt := 17) hc dX9_isThread_10 (by decide) ?_ ?_
    · refine g_lv [] rfl ?_
      exact tX9_isThread_17 hc hr hlk hE S
    · refine g_iconst (v := 1) hc dX9_isThread_13 (by decide) ?_
      refine g_goto (tgt := 18) hc dX9_isThread_14 (by decide) ?_
      refine g_lv [] rfl ?_
      exact tX9_isThread_18 hc hr hlk hE 1 S
set_option maxHeartbeats 4000000 in
set_option maxRecDepth 100000 in
theorem tX9_isBundle_16 {p : Program} {e : Env} {s : State} {m : MethodId} {args : Array Value} {below : List Frame} {meth : Method} {c : Code} (hc : CT p s m args c cX9_isBundle 2 RX9 wsX9_isBundle D (tyW cI cZ cO)) (hr : meth.sig.returnType = (some .boolean)) (hlk : meth.locks = false) (hE : EvM (AA 17 a s.heap.size) s) (y1 : Int32) (S : St) : GF p l e rX9_isBundle s m args below meth c D 17 a (cM cI cZ a) (AA 17 a s.heap.size) 2 0 0 (fun res => MQ below (va_Qi (fun r u => (r, u) = res) (Bw D (tyW cI cZ cO) 17 a (cM cI cZ a) (AA 17 a s.heap.size)) (AA 17 a s.heap.size)) args s 0 0 (AA 17 a s.heap.size)) (bX9_isBundle_16 y1 S) 16 [] [.int y1, .ref (a 0)] S := by
  unfold bX9_isBundle_16
  refine g_iconst (v := 1) hc dX9_isBundle_16 (by decide) ?_
  refine g_callVi (As := [.int y1, .int 1]) (rest := []) (k := 0) (ci := 9) (q0 := (RX9, TX9, 24)) hc hE trM rfl (fun _ h => mX9_right y1 1 S _ h) (cwV 2 hc.1.2.2.2.2 gX9_isBundle_X9_right rfl rfl rfl (by decide +kernel) ⟨by decide, by decide⟩) (by decide) rfl rfl rfl rfl (Nat.le_of_ble_eq_true rfl) dX9_isBundle_17 ⟨by decide, by decide⟩ (fun v1 S2 => ?_)
  exact g_zret hc hr hlk dX9_isBundle_20
set_option maxHeartbeats 4000000 in
set_option maxRecDepth 100000 in
theorem tX9_isBundle_15 {p : Program} {e : Env} {s : State} {m : MethodId} {args : Array Value} {below : List Frame} {meth : Method} {c : Code} (hc : CT p s m args c cX9_isBundle 2 RX9 wsX9_isBundle D (tyW cI cZ cO)) (hr : meth.sig.returnType = (some .boolean)) (hlk : meth.locks = false) (hE : EvM (AA 17 a s.heap.size) s) (S : St) : GF p l e rX9_isBundle s m args below meth c D 17 a (cM cI cZ a) (AA 17 a s.heap.size) 2 0 0 (fun res => MQ below (va_Qi (fun r u => (r, u) = res) (Bw D (tyW cI cZ cO) 17 a (cM cI cZ a) (AA 17 a s.heap.size)) (AA 17 a s.heap.size)) args s 0 0 (AA 17 a s.heap.size)) (bX9_isBundle_15 S) 15 [] [.ref (a 0)] S := by
  unfold bX9_isBundle_15
  refine g_iconst (v := 0) hc dX9_isBundle_15 (by decide) ?_
  exact tX9_isBundle_16 hc hr hlk hE 0 S
set_option maxHeartbeats 4000000 in
set_option maxRecDepth 100000 in
theorem mX9_isBundle (x1 : Int32) (S : St) : ∀ q, uX9_isBundle x1 S = some q → Ki l yX9_isBundle wsX9_isBundle rX9_isBundle D (tyW cI cZ cO) 17 a (cM cI cZ a) (EvM) [.ref (a 0), .int x1] S q := by
  refine m_Ki (cc := cX9_isBundle) (nL := 2) (ret := (some .boolean)) (lv := [(0, .ref (a 0)), (1, .int x1)]) (by decide) rfl (Nat.le_of_ble_eq_true rfl) rfl ?_
  intro p e s m args below meth c hc hr hlk hE
  unfold uX9_isBundle
  refine g_aload_n (j := 0) hc dX9_isBundle_0 rfl rfl ?_
  refine g_iload_n (j := 1) hc dX9_isBundle_1 rfl rfl ?_
  refine g_if_lt (tgt := 15) hc dX9_isBundle_2 (by decide) ?_ ?_
  · refine g_lv [] rfl ?_
    exact tX9_isBundle_15 hc hr hlk hE S
  · refine g_iload_n (j := 1) hc dX9_isBundle_5 rfl rfl ?_
    refine g_bipush (v := 8) hc dX9_isBundle_6 (by decide) ?_
    refine g_icmp_ge (tgt := 15) hc dX9_isBundle_8 (by decide) ?_ ?_
    · refine g_lv [] rfl ?_
      exact tX9_isBundle_15 hc hr hlk hE S
    · refine g_iconst (v := 1) hc dX9_isBundle_11 (by decide) ?_
      refine g_goto (tgt := 16) hc dX9_isBundle_12 (by decide) ?_
      refine g_lv [] rfl ?_
      exact tX9_isBundle_16 hc hr hlk hE 1 S
set_option maxHeartbeats 4000000 in
set_option maxRecDepth 100000 in
theorem tX9_isPlace_18 {p : Program} {e : Env} {s : State} {m : MethodId} {args : Array Value} {below : List Frame} {meth : Method} {c : Code} (hc : CT p s m args c cX9_isPlace 2 RX9 wsX9_isPlace D (tyW cI cZ cO)) (hr : meth.sig.returnType = (some .boolean)) (hlk : meth.locks = false) (hE : EvM (AA 17 a s.heap.size) s) (y1 : Int32) (S : St) : GF p l e rX9_isPlace s m args below meth c D 17 a (cM cI cZ a) (AA 17 a s.heap.size) 2 0 0 (fun res => MQ below (va_Qi (fun r u => (r, u) = res) (Bw D (tyW cI cZ cO) 17 a (cM cI cZ a) (AA 17 a s.heap.size)) (AA 17 a s.heap.size)) args s 0 0 (AA 17 a s.heap.size)) (bX9_isPlace_18 y1 S) 18 [] [.int y1, .ref (a 0)] S := by
  unfold bX9_isPlace_18
  refine g_iconst (v := 1) hc dX9_isPlace_18 (by decide) ?_
  refine g_callVi (As := [.int y1, .int 1]) (rest := []) (k := 0) (ci := 9) (q0 := (RX9, TX9, 24)) hc hE trM rfl (fun _ h => mX9_right y1 1 S _ h) (cwV 2 hc.1.2.2.2.2 gX9_isPlace_X9_right rfl rfl rfl (by decide +kernel) ⟨by decide, by decide⟩) (by decide) rfl rfl rfl rfl (Nat.le_of_ble_eq_true rfl) dX9_isPlace_19 ⟨by decide, by decide⟩ (fun v1 S2 => ?_)
  exact g_zret hc hr hlk dX9_isPlace_22
set_option maxHeartbeats 4000000 in
set_option maxRecDepth 100000 in
theorem tX9_isPlace_17 {p : Program} {e : Env} {s : State} {m : MethodId} {args : Array Value} {below : List Frame} {meth : Method} {c : Code} (hc : CT p s m args c cX9_isPlace 2 RX9 wsX9_isPlace D (tyW cI cZ cO)) (hr : meth.sig.returnType = (some .boolean)) (hlk : meth.locks = false) (hE : EvM (AA 17 a s.heap.size) s) (S : St) : GF p l e rX9_isPlace s m args below meth c D 17 a (cM cI cZ a) (AA 17 a s.heap.size) 2 0 0 (fun res => MQ below (va_Qi (fun r u => (r, u) = res) (Bw D (tyW cI cZ cO) 17 a (cM cI cZ a) (AA 17 a s.heap.size)) (AA 17 a s.heap.size)) args s 0 0 (AA 17 a s.heap.size)) (bX9_isPlace_17 S) 17 [] [.ref (a 0)] S := by
  unfold bX9_isPlace_17
  refine g_iconst (v := 0) hc dX9_isPlace_17 (by decide) ?_
  exact tX9_isPlace_18 hc hr hlk hE 0 S
set_option maxHeartbeats 4000000 in
set_option maxRecDepth 100000 in
theorem mX9_isPlace (x1 : Int32) (S : St) : ∀ q, uX9_isPlace x1 S = some q → Ki l yX9_isPlace wsX9_isPlace rX9_isPlace D (tyW cI cZ cO) 17 a (cM cI cZ a) (EvM) [.ref (a 0), .int x1] S q := by
  refine m_Ki (cc := cX9_isPlace) (nL := 2) (ret := (some .boolean)) (lv := [(0, .ref (a 0)), (1, .int x1)]) (by decide) rfl (Nat.le_of_ble_eq_true rfl) rfl ?_
  intro p e s m args below meth c hc hr hlk hE
  unfold uX9_isPlace
  refine g_aload_n (j := 0) hc dX9_isPlace_0 rfl rfl ?_
  refine g_iload_n (j := 1) hc dX9_isPlace_1 rfl rfl ?_
  refine g_if_lt (tgt := 17) hc dX9_isPlace_2 (by decide) ?_ ?_
  · refine g_lv [] rfl ?_
    exact tX9_isPlace_17 hc hr hlk hE S
  · refine g_iload_n (j := 1) hc dX9_isPlace_5 rfl rfl ?_
    refine g_aload_n (j := 0) hc dX9_isPlace_6 rfl rfl ?_
    refine g_get (C0 := RX9) (T := TX9) (M := 24) (k := 0) (ci := 9) hc inX9_isPlace_X9 (by decide) rfl rfl 2 (by decide) (List.mem_of_getElem? (i := 1) rfl) rfl rfl dX9_isPlace_7 ?_
    refine g_icmp_ge (tgt := 17) hc dX9_isPlace_10 (by decide) ?_ ?_
    · refine g_lv [] rfl ?_
      exact tX9_isPlace_17 hc hr hlk hE S
    · refine g_iconst (v := 1) hc dX9_isPlace_13 (by decide) ?_
      refine g_goto (tgt := 18) hc dX9_isPlace_14 (by decide) ?_
      refine g_lv [] rfl ?_
      exact tX9_isPlace_18 hc hr hlk hE 1 S
set_option maxHeartbeats 4000000 in
set_option maxRecDepth 100000 in
theorem tX9_into_21 {p : Program} {e : Env} {s : State} {m : MethodId} {args : Array Value} {below : List Frame} {meth : Method} {c : Code} (hc : CT p s m args c cX9_into 4 RX9 wsX9_into D (tyW cI cZ cO)) (hr : meth.sig.returnType = (some .int)) (hlk : meth.locks = false) (hE : EvM (AA 17 a s.heap.size) s) (S : St) : GF p l e rX9_into s m args below meth c D 17 a (cM cI cZ a) (AA 17 a s.heap.size) 4 0 0 (fun res => MQ below (va_Qi (fun r u => (r, u) = res) (Bw D (tyW cI cZ cO) 17 a (cM cI cZ a) (AA 17 a s.heap.size)) (AA 17 a s.heap.size)) args s 0 0 (AA 17 a s.heap.size)) (bX9_into_21 S) 21 [] [] S := by
  unfold bX9_into_21
  refine g_iconst (v := 0) hc dX9_into_21 (by decide) ?_
  exact g_iret hc hr hlk dX9_into_22
set_option maxHeartbeats 4000000 in
set_option maxRecDepth 100000 in
theorem mX9_into (x1 : Int32) (x2 : Int32) (S : St) : ∀ q, uX9_into x1 x2 S = some q → Ki l yX9_into wsX9_into rX9_into D (tyW cI cZ cO) 17 a (cM cI cZ a) (EvM) [.ref (a 0), .int x1, .int x2] S q := by
  refine m_Ki (cc := cX9_into) (nL := 4) (ret := (some .int)) (lv := [(0, .ref (a 0)), (1, .int x1), (2, .int x2)]) (by decide) rfl (Nat.le_of_ble_eq_true rfl) rfl ?_
  intro p e s m args below meth c hc hr hlk hE
  unfold uX9_into
  refine g_aload_n (j := 0) hc dX9_into_0 rfl rfl ?_
  refine g_iconst (v := 0) hc dX9_into_1 (by decide) ?_
  refine g_put (ty := .int) (C0 := RX9) (T := TX9) (M := 24) (k := 0) (ci := 9) hc locM tyX9 tyX9_ok nmX9 inX9_into_X9 (by decide) rfl rfl 0 (by decide) (List.mem_of_getElem? (i := 1) rfl) rfl rfl (by decide +kernel) rfl rfl (Nat.le_of_ble_eq_true rfl) rfl rfl dX9_into_2 (fun S1 => ?_)
  refine g_aload_n (j := 0) hc dX9_into_5 rfl rfl ?_
  refine g_iload_n (j := 1) hc dX9_into_6 rfl rfl ?_
  refine g_callVi (As := [.int x1]) (rest := []) (k := 0) (ci := 9) (q0 := (RX9, TX9, 24)) hc hE trM rfl (fun _ h => mX9_isThread x1 S1 _ h) (cwV 1 hc.1.2.2.2.2 gX9_into_X9_isThread rfl rfl rfl (by decide +kernel) ⟨by decide, by decide⟩) (by decide) rfl rfl rfl rfl (Nat.le_of_ble_eq_true rfl) dX9_into_7 ⟨by decide, by decide⟩ (fun v2 S3 => ?_)
  refine g_if_eq (tgt := 21) hc dX9_into_10 (by decide) ?_ ?_
  · refine g_lv [] rfl ?_
    exact tX9_into_21 hc hr hlk hE S3
  · refine g_aload_n (j := 0) hc dX9_into_13 rfl rfl ?_
    refine g_iload_n (j := 2) hc dX9_into_14 rfl rfl ?_
    refine g_callVi (As := [.int x2]) (rest := []) (k := 0) (ci := 9) (q0 := (RX9, TX9, 24)) hc hE trM rfl (fun _ h => mX9_isBundle x2 S3 _ h) (cwV 1 hc.1.2.2.2.2 gX9_into_X9_isBundle rfl rfl rfl (by decide +kernel) ⟨by decide, by decide⟩) (by decide) rfl rfl rfl rfl (Nat.le_of_ble_eq_true rfl) dX9_into_15 ⟨by decide, by decide⟩ (fun v4 S5 => ?_)
    refine g_if_ne (tgt := 23) hc dX9_into_18 (by decide) ?_ ?_
    · refine g_aload_n (j := 0) hc dX9_into_23 rfl rfl ?_
      refine g_get (C0 := RX9) (T := TX9) (M := 24) (k := 0) (ci := 9) hc inX9_into_X9 (by decide) rfl rfl 5 (by decide) (List.mem_of_getElem? (i := 2) rfl) rfl rfl dX9_into_24 ?_
      refine g_iload_n (j := 1) hc dX9_into_27 rfl rfl ?_
      refine g_iald (k := 1) (t0 := 0) hc (by decide) rfl rfl dX9_into_28 ?_
      refine g_istore_n (L := fun v6 => [(3, .int v6), (0, .ref (a 0)), (1, .int x1), (2, .int x2)]) hc dX9_into_29 rfl (by decide) (fun _ => rfl) (fun v6 => ?_)
      refine g_aload_n (j := 1) hc dX9_into_30 rfl rfl ?_
      refine g_get (C0 := RX9) (T := TX9) (M := 24) (k := 0) (ci := 9) hc inX9_into_X9 (by decide) rfl rfl 5 (by decide) (List.mem_of_getElem? (i := 2) rfl) rfl rfl dX9_into_31 ?_
      refine g_iload_n (j := 2) hc dX9_into_34 rfl rfl ?_
      refine g_iload_n (j := 3) hc dX9_into_35 rfl rfl ?_
      refine g_iast (k := 1) (t0 := 0) hc locM (by decide) rfl rfl rfl dX9_into_36 (fun S7 => ?_)
      refine g_aload_n (j := 1) hc dX9_into_37 rfl rfl ?_
      refine g_iconst (v := 0) hc dX9_into_38 (by decide) ?_
      refine g_put (ty := .boolean) (C0 := RX9) (T := TX9) (M := 24) (k := 0) (ci := 9) hc locM tyX9 tyX9_ok nmX9 inX9_into_X9 (by decide) rfl rfl 17 (by decide) (List.mem_of_getElem? (i := 3) rfl) rfl rfl (by decide +kernel) (by decide) (by decide) (Nat.le_of_ble_eq_true rfl) rfl rfl dX9_into_39 (fun S8 => ?_)
      refine g_aload_n (j := 1) hc dX9_into_42 rfl rfl ?_
      refine g_callVv (As := []) (rest := []) (k := 0) (ci := 9) (q0 := (RX9, TX9, 24)) hc hE trM rfl (fun _ h => mX9_undyed S8 _ h) (cwV 0 hc.1.2.2.2.2 gX9_into_X9_undyed rfl rfl rfl (by decide +kernel) ⟨by decide, by decide⟩) (by decide) rfl rfl rfl rfl (Nat.le_of_ble_eq_true rfl) dX9_into_43 ⟨by decide, by decide⟩ (fun S10 => ?_)
      refine g_iload_n (j := 0) hc dX9_into_46 rfl rfl ?_
      exact g_iret hc hr hlk dX9_into_47
    · refine g_lv [] rfl ?_
      exact tX9_into_21 hc hr hlk hE S5
set_option maxHeartbeats 4000000 in
set_option maxRecDepth 100000 in
theorem mX9_fold (x1 : Int32) (x2 : Int32) (S : St) : ∀ q, uX9_fold x1 x2 S = some q → Ki l yX9_fold wsX9_fold rX9_fold D (tyW cI cZ cO) 17 a (cM cI cZ a) (EvM) [.ref (a 0), .int x1, .int x2] S q := by
  refine m_Ki (cc := cX9_fold) (nL := 4) (ret := (some .boolean)) (lv := [(0, .ref (a 0)), (1, .int x1), (2, .int x2)]) (by decide) rfl (Nat.le_of_ble_eq_true rfl) rfl ?_
  intro p e s m args below meth c hc hr hlk hE
  unfold uX9_fold
  refine g_aload_n (j := 0) hc dX9_fold_0 rfl rfl ?_
  refine g_iconst (v := 0) hc dX9_fold_1 (by decide) ?_
  refine g_put (ty := .int) (C0 := RX9) (T := TX9) (M := 24) (k := 0) (ci := 9) hc locM tyX9 tyX9_ok nmX9 inX9_fold_X9 (by decide) rfl rfl 0 (by decide) (List.mem_of_getElem? (i := 1) rfl) rfl rfl (by decide +kernel) rfl rfl (Nat.le_of_ble_eq_true rfl) rfl rfl dX9_fold_2 (fun S1 => ?_)
  refine g_aload_n (j := 0) hc dX9_fold_5 rfl rfl ?_
  refine g_iload_n (j := 1) hc dX9_fold_6 rfl rfl ?_
  refine g_callVi (As := [.int x1]) (rest := []) (k := 0) (ci := 9) (q0 := (RX9, TX9, 24)) hc hE trM rfl (fun _ h => mX9_isBundle x1 S1 _ h) (cwV 1 hc.1.2.2.2.2 gX9_fold_X9_isBundle rfl rfl rfl (by decide +kernel) ⟨by decide, by decide⟩) (by decide) rfl rfl rfl rfl (Nat.le_of_ble_eq_true rfl) dX9_fold_7 ⟨by decide, by decide⟩ (fun v2 S3 => ?_)
  refine g_if_ne (tgt := 15) hc dX9_fold_10 (by decide) ?_ ?_
  · refine g_aload_n (j := 0) hc dX9_fold_15 rfl rfl ?_
    refine g_get (C0 := RX9) (T := TX9) (M := 24) (k := 0) (ci := 9) hc inX9_fold_X9 (by decide) rfl rfl 12 (by decide) (List.mem_of_getElem? (i := 2) rfl) rfl rfl dX9_fold_16 ?_
    refine g_iload_n (j := 1) hc dX9_fold_19 rfl rfl ?_
    refine g_zald (k := 8) (t0 := 1) hc (by decide) rfl rfl dX9_fold_20 ?_
    refine g_istore_n (L := fun v4 => [(3, .int v4), (0, .ref (a 0)), (1, .int x1), (2, .int x2)]) hc dX9_fold_21 rfl (by decide) (fun _ => rfl) (fun v4 => ?_)
    refine g_aload_n (j := 1) hc dX9_fold_22 rfl rfl ?_
    refine g_get (C0 := RX9) (T := TX9) (M := 24) (k := 0) (ci := 9) hc inX9_fold_X9 (by decide) rfl rfl 12 (by decide) (List.mem_of_getElem? (i := 2) rfl) rfl rfl dX9_fold_23 ?_
    refine g_iload_n (j := 2) hc dX9_fold_26 rfl rfl ?_
    refine g_iload_n (j := 3) hc dX9_fold_27 rfl rfl ?_
    refine g_zast (k := 8) (t0 := 1) hc locM (by decide) rfl rfl rfl dX9_fold_28 (fun S5 => ?_)
    refine g_aload_n (j := 1) hc dX9_fold_29 rfl rfl ?_
    refine g_iconst (v := 0) hc dX9_fold_30 (by decide) ?_
    refine g_put (ty := .boolean) (C0 := RX9) (T := TX9) (M := 24) (k := 0) (ci := 9) hc locM tyX9 tyX9_ok nmX9 inX9_fold_X9 (by decide) rfl rfl 17 (by decide) (List.mem_of_getElem? (i := 3) rfl) rfl rfl (by decide +kernel) (by decide) (by decide) (Nat.le_of_ble_eq_true rfl) rfl rfl dX9_fold_31 (fun S6 => ?_)
    refine g_aload_n (j := 1) hc dX9_fold_34 rfl rfl ?_
    refine g_callVv (As := []) (rest := []) (k := 0) (ci := 9) (q0 := (RX9, TX9, 24)) hc hE trM rfl (fun _ h => mX9_undyed S6 _ h) (cwV 0 hc.1.2.2.2.2 gX9_fold_X9_undyed rfl rfl rfl (by decide +kernel) ⟨by decide, by decide⟩) (by decide) rfl rfl rfl rfl (Nat.le_of_ble_eq_true rfl) dX9_fold_35 ⟨by decide, by decide⟩ (fun S8 => ?_)
    refine g_iload_n (j := 0) hc dX9_fold_38 rfl rfl ?_
    exact g_zret hc hr hlk dX9_fold_39
  · refine g_iconst (v := 0) hc dX9_fold_13 (by decide) ?_
    exact g_zret hc hr hlk dX9_fold_14
set_option maxHeartbeats 4000000 in
set_option maxRecDepth 100000 in
theorem tX9_table_60 {p : Program} {e : Env} {s : State} {m : MethodId} {args : Array Value} {below : List Frame} {meth : Method} {c : Code} (hc : CT p s m args c cX9_table 5 RX9 wsX9_table D (tyW cI cZ cO)) (hr : meth.sig.returnType = (some .int)) (hlk : meth.locks = false) (hE : EvM (AA 17 a s.heap.size) s) (S : St) : GF p l e rX9_table s m args below meth c D 17 a (cM cI cZ a) (AA 17 a s.heap.size) 5 0 0 (fun res => MQ below (va_Qi (fun r u => (r, u) = res) (Bw D (tyW cI cZ cO) 17 a (cM cI cZ a) (AA 17 a s.heap.size)) (AA 17 a s.heap.size)) args s 0 0 (AA 17 a s.heap.size)) (bX9_table_60 S) 60 [] [] S := by
  unfold bX9_table_60
  refine g_iconst (v := 0) hc dX9_table_60 (by decide) ?_
  exact g_iret hc hr hlk dX9_table_61
set_option maxHeartbeats 4000000 in
set_option maxRecDepth 100000 in
theorem tX9_table_53 {p : Program} {e : Env} {s : State} {m : MethodId} {args : Array Value} {below : List Frame} {meth : Method} {c : Code} (hc : CT p s m args c cX9_table 5 RX9 wsX9_table D (tyW cI cZ cO)) (hr : meth.sig.returnType = (some .int)) (hlk : meth.locks = false) (hE : EvM (AA 17 a s.heap.size) s) (x1 : Int32) (x2 : Int32) (x3 : Int32) (y1 : Int32) (S : St) : GF p l e rX9_table s m args below meth c D 17 a (cM cI cZ a) (AA 17 a s.heap.size) 5 0 0 (fun res => MQ below (va_Qi (fun r u => (r, u) = res) (Bw D (tyW cI cZ cO) 17 a (cM cI cZ a) (AA 17 a s.heap.size)) (AA 17 a s.heap.size)) args s 0 0 (AA 17 a s.heap.size)) (bX9_table_53 x1 x2 x3 y1 S) 53 [(0, .ref (a 0)), (1, .int x1), (2, .int x2), (3, .int x3)] [.int y1, .ref (a 0)] S := by
  unfold bX9_table_53
  refine g_iconst (v := 2) hc dX9_table_53 (by decide) ?_
  refine g_callVi (As := [.int y1, .int 2]) (rest := []) (k := 0) (ci := 9) (q0 := (RX9, TX9, 24)) hc hE trM rfl (fun _ h => mX9_right y1 2 S _ h) (cwV 2 hc.1.2.2.2.2 gX9_table_X9_right rfl rfl rfl (by decide +kernel) ⟨by decide, by decide⟩) (by decide) rfl rfl rfl rfl (Nat.le_of_ble_eq_true rfl) dX9_table_54 ⟨by decide, by decide⟩ (fun v1 S2 => ?_)
  refine g_if_ne (tgt := 62) hc dX9_table_57 (by decide) ?_ ?_
  · refine g_aload_n (j := 0) hc dX9_table_62 rfl rfl ?_
    refine g_get (C0 := RX9) (T := TX9) (M := 24) (k := 0) (ci := 9) hc inX9_table_X9 (by decide) rfl rfl 7 (by decide) (List.mem_of_getElem? (i := 2) rfl) rfl rfl dX9_table_63 ?_
    refine g_iconst (v := 4) hc dX9_table_66 (by decide) ?_
    refine g_iload_n (j := 1) hc dX9_table_67 rfl rfl ?_
    refine g_imul hc dX9_table_68 ?_
    refine g_iload_n (j := 2) hc dX9_table_69 rfl rfl ?_
    refine g_iadd hc dX9_table_70 ?_
    refine g_iald (k := 3) (t0 := 0) hc (by decide) rfl rfl dX9_table_71 ?_
    refine g_istore (L := fun v3 => [(4, .int v3), (0, .ref (a 0)), (1, .int x1), (2, .int x2), (3, .int x3)]) hc dX9_table_72 (by decide) (fun _ => rfl) (fun v3 => ?_)
    refine g_aload_n (j := 1) hc dX9_table_74 rfl rfl ?_
    refine g_get (C0 := RX9) (T := TX9) (M := 24) (k := 0) (ci := 9) hc inX9_table_X9 (by decide) rfl rfl 7 (by decide) (List.mem_of_getElem? (i := 2) rfl) rfl rfl dX9_table_75 ?_
    refine g_iconst (v := 4) hc dX9_table_78 (by decide) ?_
    refine g_iload_n (j := 2) hc dX9_table_79 rfl rfl ?_
    refine g_imul hc dX9_table_80 ?_
    refine g_iload_n (j := 3) hc dX9_table_81 rfl rfl ?_
    refine g_iadd hc dX9_table_82 ?_
    refine g_iload_n (j := 4) hc dX9_table_83 rfl rfl ?_
    refine g_iast (k := 3) (t0 := 0) hc locM (by decide) rfl rfl rfl dX9_table_84 (fun S4 => ?_)
    refine g_aload_n (j := 1) hc dX9_table_85 rfl rfl ?_
    refine g_iconst (v := 0) hc dX9_table_86 (by decide) ?_
    refine g_put (ty := .boolean) (C0 := RX9) (T := TX9) (M := 24) (k := 0) (ci := 9) hc locM tyX9 tyX9_ok nmX9 inX9_table_X9 (by decide) rfl rfl 17 (by decide) (List.mem_of_getElem? (i := 3) rfl) rfl rfl (by decide +kernel) (by decide) (by decide) (Nat.le_of_ble_eq_true rfl) rfl rfl dX9_table_87 (fun S5 => ?_)
    refine g_iload (j := 0) hc dX9_table_90 rfl ?_
    exact g_iret hc hr hlk dX9_table_92
  · refine g_lv [] rfl ?_
    exact tX9_table_60 hc hr hlk hE S2
set_option maxHeartbeats 4000000 in
set_option maxRecDepth 100000 in
theorem tX9_table_52 {p : Program} {e : Env} {s : State} {m : MethodId} {args : Array Value} {below : List Frame} {meth : Method} {c : Code} (hc : CT p s m args c cX9_table 5 RX9 wsX9_table D (tyW cI cZ cO)) (hr : meth.sig.returnType = (some .int)) (hlk : meth.locks = false) (hE : EvM (AA 17 a s.heap.size) s) (x1 : Int32) (x2 : Int32) (x3 : Int32) (S : St) : GF p l e rX9_table s m args below meth c D 17 a (cM cI cZ a) (AA 17 a s.heap.size) 5 0 0 (fun res => MQ below (va_Qi (fun r u => (r, u) = res) (Bw D (tyW cI cZ cO) 17 a (cM cI cZ a) (AA 17 a s.heap.size)) (AA 17 a s.heap.size)) args s 0 0 (AA 17 a s.heap.size)) (bX9_table_52 x1 x2 x3 S) 52 [(0, .ref (a 0)), (1, .int x1), (2, .int x2), (3, .int x3)] [.ref (a 0)] S := by
  unfold bX9_table_52
  refine g_iconst (v := 0) hc dX9_table_52 (by decide) ?_
  exact tX9_table_53 hc hr hlk hE x1 x2 x3 0 S
set_option maxHeartbeats 4000000 in
set_option maxRecDepth 100000 in
theorem tX9_table_30 {p : Program} {e : Env} {s : State} {m : MethodId} {args : Array Value} {below : List Frame} {meth : Method} {c : Code} (hc : CT p s m args c cX9_table 5 RX9 wsX9_table D (tyW cI cZ cO)) (hr : meth.sig.returnType = (some .int)) (hlk : meth.locks = false) (hE : EvM (AA 17 a s.heap.size) s) (x1 : Int32) (x2 : Int32) (x3 : Int32) (y1 : Int32) (S : St) : GF p l e rX9_table s m args below meth c D 17 a (cM cI cZ a) (AA 17 a s.heap.size) 5 0 0 (fun res => MQ below (va_Qi (fun r u => (r, u) = res) (Bw D (tyW cI cZ cO) 17 a (cM cI cZ a) (AA 17 a s.heap.size)) (AA 17 a s.heap.size)) args s 0 0 (AA 17 a s.heap.size)) (bX9_table_30 x1 x2 x3 y1 S) 30 [(0, .ref (a 0)), (1, .int x1), (2, .int x2), (3, .int x3)] [.int y1, .ref (a 0)] S := by
  unfold bX9_table_30
  refine g_iconst (v := 1) hc dX9_table_30 (by decide) ?_
  refine g_callVi (As := [.int y1, .int 1]) (rest := []) (k := 0) (ci := 9) (q0 := (RX9, TX9, 24)) hc hE trM rfl (fun _ h => mX9_right y1 1 S _ h) (cwV 2 hc.1.2.2.2.2 gX9_table_X9_right rfl rfl rfl (by decide +kernel) ⟨by decide, by decide⟩) (by decide) rfl rfl rfl rfl (Nat.le_of_ble_eq_true rfl) dX9_table_31 ⟨by decide, by decide⟩ (fun v1 S2 => ?_)
  refine g_if_eq (tgt := 60) hc dX9_table_34 (by decide) ?_ ?_
  · refine g_lv [] rfl ?_
    exact tX9_table_60 hc hr hlk hE S2
  · refine g_aload_n (j := 0) hc dX9_table_37 rfl rfl ?_
    refine g_iload_n (j := 3) hc dX9_table_38 rfl rfl ?_
    refine g_if_lt (tgt := 52) hc dX9_table_39 (by decide) ?_ ?_
    · exact tX9_table_52 hc hr hlk hE x1 x2 x3 S2
    · refine g_iload_n (j := 3) hc dX9_table_42 rfl rfl ?_
      refine g_bipush (v := 16) hc dX9_table_43 (by decide) ?_
      refine g_icmp_ge (tgt := 52) hc dX9_table_45 (by decide) ?_ ?_
      · exact tX9_table_52 hc hr hlk hE x1 x2 x3 S2
      · refine g_iconst (v := 1) hc dX9_table_48 (by decide) ?_
        refine g_goto (tgt := 53) hc dX9_table_49 (by decide) ?_
        exact tX9_table_53 hc hr hlk hE x1 x2 x3 1 S2
set_option maxHeartbeats 4000000 in
set_option maxRecDepth 100000 in
theorem tX9_table_29 {p : Program} {e : Env} {s : State} {m : MethodId} {args : Array Value} {below : List Frame} {meth : Method} {c : Code} (hc : CT p s m args c cX9_table 5 RX9 wsX9_table D (tyW cI cZ cO)) (hr : meth.sig.returnType = (some .int)) (hlk : meth.locks = false) (hE : EvM (AA 17 a s.heap.size) s) (x1 : Int32) (x2 : Int32) (x3 : Int32) (S : St) : GF p l e rX9_table s m args below meth c D 17 a (cM cI cZ a) (AA 17 a s.heap.size) 5 0 0 (fun res => MQ below (va_Qi (fun r u => (r, u) = res) (Bw D (tyW cI cZ cO) 17 a (cM cI cZ a) (AA 17 a s.heap.size)) (AA 17 a s.heap.size)) args s 0 0 (AA 17 a s.heap.size)) (bX9_table_29 x1 x2 x3 S) 29 [(0, .ref (a 0)), (1, .int x1), (2, .int x2), (3, .int x3)] [.ref (a 0)] S := by
  unfold bX9_table_29
  refine g_iconst (v := 0) hc dX9_table_29 (by decide) ?_
  exact tX9_table_30 hc hr hlk hE x1 x2 x3 0 S
set_option maxHeartbeats 4000000 in
set_option maxRecDepth 100000 in
theorem mX9_table (x1 : Int32) (x2 : Int32) (x3 : Int32) (S : St) : ∀ q, uX9_table x1 x2 x3 S = some q → Ki l yX9_table wsX9_table rX9_table D (tyW cI cZ cO) 17 a (cM cI cZ a) (EvM) [.ref (a 0), .int x1, .int x2, .int x3] S q := by
  refine m_Ki (cc := cX9_table) (nL := 5) (ret := (some .int)) (lv := [(0, .ref (a 0)), (1, .int x1), (2, .int x2), (3, .int x3)]) (by decide) rfl (Nat.le_of_ble_eq_true rfl) rfl ?_
  intro p e s m args below meth c hc hr hlk hE
  unfold uX9_table
  refine g_aload_n (j := 0) hc dX9_table_0 rfl rfl ?_
  refine g_iconst (v := 0) hc dX9_table_1 (by decide) ?_
  refine g_put (ty := .int) (C0 := RX9) (T := TX9) (M := 24) (k := 0) (ci := 9) hc locM tyX9 tyX9_ok nmX9 inX9_table_X9 (by decide) rfl rfl 0 (by decide) (List.mem_of_getElem? (i := 1) rfl) rfl rfl (by decide +kernel) rfl rfl (Nat.le_of_ble_eq_true rfl) rfl rfl dX9_table_2 (fun S1 => ?_)
  refine g_aload_n (j := 0) hc dX9_table_5 rfl rfl ?_
  refine g_iload_n (j := 1) hc dX9_table_6 rfl rfl ?_
  refine g_if_lt (tgt := 29) hc dX9_table_7 (by decide) ?_ ?_
  · exact tX9_table_29 hc hr hlk hE x1 x2 x3 S1
  · refine g_iload_n (j := 1) hc dX9_table_10 rfl rfl ?_
    refine g_bipush (v := 16) hc dX9_table_11 (by decide) ?_
    refine g_icmp_ge (tgt := 29) hc dX9_table_13 (by decide) ?_ ?_
    · exact tX9_table_29 hc hr hlk hE x1 x2 x3 S1
    · refine g_iload_n (j := 2) hc dX9_table_16 rfl rfl ?_
      refine g_if_lt (tgt := 29) hc dX9_table_17 (by decide) ?_ ?_
      · exact tX9_table_29 hc hr hlk hE x1 x2 x3 S1
      · refine g_iload_n (j := 2) hc dX9_table_20 rfl rfl ?_
        refine g_iconst (v := 4) hc dX9_table_21 (by decide) ?_
        refine g_icmp_ge (tgt := 29) hc dX9_table_22 (by decide) ?_ ?_
        · exact tX9_table_29 hc hr hlk hE x1 x2 x3 S1
        · refine g_iconst (v := 1) hc dX9_table_25 (by decide) ?_
          refine g_goto (tgt := 30) hc dX9_table_26 (by decide) ?_
          exact tX9_table_30 hc hr hlk hE x1 x2 x3 1 S1
set_option maxHeartbeats 4000000 in
set_option maxRecDepth 100000 in
theorem tX9_vat_47 {p : Program} {e : Env} {s : State} {m : MethodId} {args : Array Value} {below : List Frame} {meth : Method} {c : Code} (hc : CT p s m args c cX9_vat 3 RX9 wsX9_vat D (tyW cI cZ cO)) (hr : meth.sig.returnType = (some .int)) (hlk : meth.locks = false) (hE : EvM (AA 17 a s.heap.size) s) (S : St) : GF p l e rX9_vat s m args below meth c D 17 a (cM cI cZ a) (AA 17 a s.heap.size) 3 0 0 (fun res => MQ below (va_Qi (fun r u => (r, u) = res) (Bw D (tyW cI cZ cO) 17 a (cM cI cZ a) (AA 17 a s.heap.size)) (AA 17 a s.heap.size)) args s 0 0 (AA 17 a s.heap.size)) (bX9_vat_47 S) 47 [] [] S := by
  unfold bX9_vat_47
  refine g_iconst (v := -1) hc dX9_vat_47 (by decide) ?_
  exact g_iret hc hr hlk dX9_vat_48
set_option maxHeartbeats 4000000 in
set_option maxRecDepth 100000 in
theorem tX9_vat_20 {p : Program} {e : Env} {s : State} {m : MethodId} {args : Array Value} {below : List Frame} {meth : Method} {c : Code} (hc : CT p s m args c cX9_vat 3 RX9 wsX9_vat D (tyW cI cZ cO)) (hr : meth.sig.returnType = (some .int)) (hlk : meth.locks = false) (hE : EvM (AA 17 a s.heap.size) s) (x1 : Int32) (x2 : Int32) (y1 : Int32) (S : St) : GF p l e rX9_vat s m args below meth c D 17 a (cM cI cZ a) (AA 17 a s.heap.size) 3 0 0 (fun res => MQ below (va_Qi (fun r u => (r, u) = res) (Bw D (tyW cI cZ cO) 17 a (cM cI cZ a) (AA 17 a s.heap.size)) (AA 17 a s.heap.size)) args s 0 0 (AA 17 a s.heap.size)) (bX9_vat_20 x1 x2 y1 S) 20 [(0, .ref (a 0)), (1, .int x1), (2, .int x2)] [.int y1, .ref (a 0)] S := by
  unfold bX9_vat_20
  refine g_iconst (v := 1) hc dX9_vat_20 (by decide) ?_
  refine g_callVi (As := [.int y1, .int 1]) (rest := []) (k := 0) (ci := 9) (q0 := (RX9, TX9, 24)) hc hE trM rfl (fun _ h => mX9_right y1 1 S _ h) (cwV 2 hc.1.2.2.2.2 gX9_vat_X9_right rfl rfl rfl (by decide +kernel) ⟨by decide, by decide⟩) (by decide) rfl rfl rfl rfl (Nat.le_of_ble_eq_true rfl) dX9_vat_21 ⟨by decide, by decide⟩ (fun v1 S2 => ?_)
  refine g_if_ne (tgt := 29) hc dX9_vat_24 (by decide) ?_ ?_
  · refine g_iload_n (j := 2) hc dX9_vat_29 rfl rfl ?_
    refine g_iconst (v := 1) hc dX9_vat_30 (by decide) ?_
    refine g_icmp_lt (tgt := 47) hc dX9_vat_31 (by decide) ?_ ?_
    · refine g_lv [] rfl ?_
      exact tX9_vat_47 hc hr hlk hE S2
    · refine g_iload_n (j := 2) hc dX9_vat_34 rfl rfl ?_
      refine g_ldc (v := 1000000) hc dX9_vat_35 (List.mem_of_getElem? (i := 2) rfl) ?_
      refine g_aload_n (j := 0) hc dX9_vat_37 rfl rfl ?_
      refine g_get (C0 := RX9) (T := TX9) (M := 24) (k := 0) (ci := 9) hc inX9_vat_X9 (by decide) rfl rfl 8 (by decide) (List.mem_of_getElem? (i := 3) rfl) rfl rfl dX9_vat_38 ?_
      refine g_iload_n (j := 1) hc dX9_vat_41 rfl rfl ?_
      refine g_iald (k := 4) (t0 := 0) hc (by decide) rfl rfl dX9_vat_42 ?_
      refine g_isub hc dX9_vat_43 ?_
      refine g_icmp_le (tgt := 49) hc dX9_vat_44 (by decide) ?_ ?_
      · refine g_aload_n (j := 0) hc dX9_vat_49 rfl rfl ?_
        refine g_get (C0 := RX9) (T := TX9) (M := 24) (k := 0) (ci := 9) hc inX9_vat_X9 (by decide) rfl rfl 8 (by decide) (List.mem_of_getElem? (i := 3) rfl) rfl rfl dX9_vat_50 ?_
        refine g_iload_n (j := 1) hc dX9_vat_53 rfl rfl ?_
        refine g_dup2 hc dX9_vat_54 rfl rfl ?_
        refine g_iald (k := 4) (t0 := 0) hc (by decide) rfl rfl dX9_vat_55 ?_
        refine g_iload_n (j := 2) hc dX9_vat_56 rfl rfl ?_
        refine g_iadd hc dX9_vat_57 ?_
        refine g_iast (k := 4) (t0 := 0) hc locM (by decide) rfl rfl rfl dX9_vat_58 (fun S3 => ?_)
        refine g_aload_n (j := 0) hc dX9_vat_59 rfl rfl ?_
        refine g_get (C0 := RX9) (T := TX9) (M := 24) (k := 0) (ci := 9) hc inX9_vat_X9 (by decide) rfl rfl 8 (by decide) (List.mem_of_getElem? (i := 3) rfl) rfl rfl dX9_vat_60 ?_
        refine g_iload_n (j := 1) hc dX9_vat_63 rfl rfl ?_
        refine g_iald (k := 4) (t0 := 0) hc (by decide) rfl rfl dX9_vat_64 ?_
        exact g_iret hc hr hlk dX9_vat_65
      · refine g_lv [] rfl ?_
        exact tX9_vat_47 hc hr hlk hE S2
  · refine g_iconst (v := 0) hc dX9_vat_27 (by decide) ?_
    exact g_iret hc hr hlk dX9_vat_28
set_option maxHeartbeats 4000000 in
set_option maxRecDepth 100000 in
theorem tX9_vat_19 {p : Program} {e : Env} {s : State} {m : MethodId} {args : Array Value} {below : List Frame} {meth : Method} {c : Code} (hc : CT p s m args c cX9_vat 3 RX9 wsX9_vat D (tyW cI cZ cO)) (hr : meth.sig.returnType = (some .int)) (hlk : meth.locks = false) (hE : EvM (AA 17 a s.heap.size) s) (x1 : Int32) (x2 : Int32) (S : St) : GF p l e rX9_vat s m args below meth c D 17 a (cM cI cZ a) (AA 17 a s.heap.size) 3 0 0 (fun res => MQ below (va_Qi (fun r u => (r, u) = res) (Bw D (tyW cI cZ cO) 17 a (cM cI cZ a) (AA 17 a s.heap.size)) (AA 17 a s.heap.size)) args s 0 0 (AA 17 a s.heap.size)) (bX9_vat_19 x1 x2 S) 19 [(0, .ref (a 0)), (1, .int x1), (2, .int x2)] [.ref (a 0)] S := by
  unfold bX9_vat_19
  refine g_iconst (v := 0) hc dX9_vat_19 (by decide) ?_
  exact tX9_vat_20 hc hr hlk hE x1 x2 0 S
set_option maxHeartbeats 4000000 in
set_option maxRecDepth 100000 in
theorem mX9_vat (x1 : Int32) (x2 : Int32) (S : St) : ∀ q, uX9_vat x1 x2 S = some q → Ki l yX9_vat wsX9_vat rX9_vat D (tyW cI cZ cO) 17 a (cM cI cZ a) (EvM) [.ref (a 0), .int x1, .int x2] S q := by
  refine m_Ki (cc := cX9_vat) (nL := 3) (ret := (some .int)) (lv := [(0, .ref (a 0)), (1, .int x1), (2, .int x2)]) (by decide) rfl (Nat.le_of_ble_eq_true rfl) rfl ?_
  intro p e s m args below meth c hc hr hlk hE
  unfold uX9_vat
  refine g_aload_n (j := 0) hc dX9_vat_0 rfl rfl ?_
  refine g_iconst (v := 0) hc dX9_vat_1 (by decide) ?_
  refine g_put (ty := .int) (C0 := RX9) (T := TX9) (M := 24) (k := 0) (ci := 9) hc locM tyX9 tyX9_ok nmX9 inX9_vat_X9 (by decide) rfl rfl 0 (by decide) (List.mem_of_getElem? (i := 1) rfl) rfl rfl (by decide +kernel) rfl rfl (Nat.le_of_ble_eq_true rfl) rfl rfl dX9_vat_2 (fun S1 => ?_)
  refine g_aload_n (j := 0) hc dX9_vat_5 rfl rfl ?_
  refine g_iload_n (j := 1) hc dX9_vat_6 rfl rfl ?_
  refine g_if_lt (tgt := 19) hc dX9_vat_7 (by decide) ?_ ?_
  · exact tX9_vat_19 hc hr hlk hE x1 x2 S1
  · refine g_iload_n (j := 1) hc dX9_vat_10 rfl rfl ?_
    refine g_iconst (v := 4) hc dX9_vat_11 (by decide) ?_
    refine g_icmp_ge (tgt := 19) hc dX9_vat_12 (by decide) ?_ ?_
    · exact tX9_vat_19 hc hr hlk hE x1 x2 S1
    · refine g_iconst (v := 1) hc dX9_vat_15 (by decide) ?_
      refine g_goto (tgt := 20) hc dX9_vat_16 (by decide) ?_
      exact tX9_vat_20 hc hr hlk hE x1 x2 1 S1
set_option maxHeartbeats 4000000 in
set_option maxRecDepth 100000 in
theorem tX9_many_25 {p : Program} {e : Env} {s : State} {m : MethodId} {args : Array Value} {below : List Frame} {meth : Method} {c : Code} (hc : CT p s m args c cX9_many 4 RX9 wsX9_many D (tyW cI cZ cO)) (hr : meth.sig.returnType = (some .int)) (hlk : meth.locks = false) (hE : EvM (AA 17 a s.heap.size) s) (k4 : Int32 → Int32 → Int32 → St → Option (Int32 × St)) (hk4 : ∀ (x1 : Int32) (x2 : Int32) (x3 : Int32) (S : St), GF p l e rX9_many s m args below meth c D 17 a (cM cI cZ a) (AA 17 a s.heap.size) 4 0 0 (fun res => MQ below (va_Qi (fun r u => (r, u) = res) (Bw D (tyW cI cZ cO) 17 a (cM cI cZ a) (AA 17 a s.heap.size)) (AA 17 a s.heap.size)) args s 0 0 (AA 17 a s.heap.size)) (k4 x1 x2 x3 S) 4 [(0, .ref (a 0)), (1, .int x1), (2, .int x2), (3, .int x3)] [] S) (x1 : Int32) (x2 : Int32) (x3 : Int32) (S : St) : GF p l e rX9_many s m args below meth c D 17 a (cM cI cZ a) (AA 17 a s.heap.size) 4 0 0 (fun res => MQ below (va_Qi (fun r u => (r, u) = res) (Bw D (tyW cI cZ cO) 17 a (cM cI cZ a) (AA 17 a s.heap.size)) (AA 17 a s.heap.size)) args s 0 0 (AA 17 a s.heap.size)) (bX9_many_25 k4 x1 x2 x3 S) 25 [(0, .ref (a 0)), (1, .int x1), (2, .int x2), (3, .int x3)] [] S := by
  unfold bX9_many_25
  refine g_iinc (j := 3) (w := x3 + 1) (L := fun v1 => [(3, .int v1), (0, .ref (a 0)), (1, .int x1), (2, .int x2)]) hc dX9_many_25 rfl (by rfl) (by decide) (fun _ => rfl) (fun v1 => ?_)
  refine g_goto (tgt := 4) hc dX9_many_28 (by decide) ?_
  refine g_lv [1, 2, 3, 0] rfl ?_
  exact hk4 x1 x2 v1 S
set_option maxHeartbeats 4000000 in
set_option maxRecDepth 100000 in
theorem tX9_many_4 {p : Program} {e : Env} {s : State} {m : MethodId} {args : Array Value} {below : List Frame} {meth : Method} {c : Code} (hc : CT p s m args c cX9_many 4 RX9 wsX9_many D (tyW cI cZ cO)) (hr : meth.sig.returnType = (some .int)) (hlk : meth.locks = false) (hE : EvM (AA 17 a s.heap.size) s) (k4 : Int32 → Int32 → Int32 → St → Option (Int32 × St)) (hk4 : ∀ (x1 : Int32) (x2 : Int32) (x3 : Int32) (S : St), GF p l e rX9_many s m args below meth c D 17 a (cM cI cZ a) (AA 17 a s.heap.size) 4 0 0 (fun res => MQ below (va_Qi (fun r u => (r, u) = res) (Bw D (tyW cI cZ cO) 17 a (cM cI cZ a) (AA 17 a s.heap.size)) (AA 17 a s.heap.size)) args s 0 0 (AA 17 a s.heap.size)) (k4 x1 x2 x3 S) 4 [(0, .ref (a 0)), (1, .int x1), (2, .int x2), (3, .int x3)] [] S) (x1 : Int32) (x2 : Int32) (x3 : Int32) (S : St) : GF p l e rX9_many s m args below meth c D 17 a (cM cI cZ a) (AA 17 a s.heap.size) 4 0 0 (fun res => MQ below (va_Qi (fun r u => (r, u) = res) (Bw D (tyW cI cZ cO) 17 a (cM cI cZ a) (AA 17 a s.heap.size)) (AA 17 a s.heap.size)) args s 0 0 (AA 17 a s.heap.size)) (bX9_many_4 k4 x1 x2 x3 S) 4 [(0, .ref (a 0)), (1, .int x1), (2, .int x2), (3, .int x3)] [] S := by
  unfold bX9_many_4
  refine g_iload_n (j := 3) hc dX9_many_4 rfl rfl ?_
  refine g_aload_n (j := 0) hc dX9_many_5 rfl rfl ?_
  refine g_get (C0 := RX9) (T := TX9) (M := 24) (k := 0) (ci := 9) hc inX9_many_X9 (by decide) rfl rfl 1 (by decide) (List.mem_of_getElem? (i := 1) rfl) rfl rfl dX9_many_6 ?_
  refine g_icmp_ge (tgt := 31) hc dX9_many_9 (by decide) ?_ ?_
  · refine g_iload_n (j := 2) hc dX9_many_31 rfl rfl ?_
    exact g_iret hc hr hlk dX9_many_32
  · refine g_aload_n (j := 0) hc dX9_many_12 rfl rfl ?_
    refine g_get (C0 := RX9) (T := TX9) (M := 24) (k := 0) (ci := 9) hc inX9_many_X9 (by decide) rfl rfl 5 (by decide) (List.mem_of_getElem? (i := 2) rfl) rfl rfl dX9_many_13 ?_
    refine g_iload_n (j := 3) hc dX9_many_16 rfl rfl ?_
    refine g_iald (k := 1) (t0 := 0) hc (by decide) rfl rfl dX9_many_17 ?_
    refine g_iload_n (j := 1) hc dX9_many_18 rfl rfl ?_
    refine g_icmp_ne (tgt := 25) hc dX9_many_19 (by decide) ?_ ?_
    · exact tX9_many_25 hc hr hlk hE k4 hk4 x1 x2 x3 S
    · refine g_iinc (j := 2) (w := x2 + 1) (L := fun v1 => [(2, .int v1), (0, .ref (a 0)), (1, .int x1), (3, .int x3)]) hc dX9_many_22 rfl (by rfl) (by decide) (fun _ => rfl) (fun v1 => ?_)
      refine g_lv [1, 2, 0, 3] rfl ?_
      exact tX9_many_25 hc hr hlk hE k4 hk4 x1 v1 x3 S
set_option maxHeartbeats 4000000 in
set_option maxRecDepth 100000 in
theorem TX9_many_4 {p : Program} {e : Env} {s : State} {m : MethodId} {args : Array Value} {below : List Frame} {meth : Method} {c : Code} (hc : CT p s m args c cX9_many 4 RX9 wsX9_many D (tyW cI cZ cO)) (hr : meth.sig.returnType = (some .int)) (hlk : meth.locks = false) (hE : EvM (AA 17 a s.heap.size) s) (n : Nat) (x1 : Int32) (x2 : Int32) (x3 : Int32) (S : St) : GF p l e rX9_many s m args below meth c D 17 a (cM cI cZ a) (AA 17 a s.heap.size) 4 0 0 (fun res => MQ below (va_Qi (fun r u => (r, u) = res) (Bw D (tyW cI cZ cO) 17 a (cM cI cZ a) (AA 17 a s.heap.size)) (AA 17 a s.heap.size)) args s 0 0 (AA 17 a s.heap.size)) (lX9_many_4 n x1 x2 x3 S) 4 [(0, .ref (a 0)), (1, .int x1), (2, .int x2), (3, .int x3)] [] S :=
  lp_ind (P := fun k : Int32 → Int32 → Int32 → St → Option (Int32 × St) => ∀ (x1 : Int32) (x2 : Int32) (x3 : Int32) (S : St), GF p l e rX9_many s m args below meth c D 17 a (cM cI cZ a) (AA 17 a s.heap.size) 4 0 0 (fun res => MQ below (va_Qi (fun r u => (r, u) = res) (Bw D (tyW cI cZ cO) 17 a (cM cI cZ a) (AA 17 a s.heap.size)) (AA 17 a s.heap.size)) args s 0 0 (AA 17 a s.heap.size)) (k x1 x2 x3 S) 4 [(0, .ref (a 0)), (1, .int x1), (2, .int x2), (3, .int x3)] [] S) (fun _ _ _ _ => g_none) (fun k4 hk4 => tX9_many_4 hc hr hlk hE k4 hk4) n x1 x2 x3 S
set_option maxHeartbeats 4000000 in
set_option maxRecDepth 100000 in
theorem mX9_many (x1 : Int32) (S : St) : ∀ q, uX9_many x1 S = some q → Ki l yX9_many wsX9_many rX9_many D (tyW cI cZ cO) 17 a (cM cI cZ a) (EvM) [.ref (a 0), .int x1] S q := by
  refine m_Ki (cc := cX9_many) (nL := 4) (ret := (some .int)) (lv := [(0, .ref (a 0)), (1, .int x1)]) (by decide) rfl (Nat.le_of_ble_eq_true rfl) rfl ?_
  intro p e s m args below meth c hc hr hlk hE
  unfold uX9_many
  refine g_iconst (v := 0) hc dX9_many_0 (by decide) ?_
  refine g_istore_n (L := fun v1 => [(2, .int v1), (0, .ref (a 0)), (1, .int x1)]) hc dX9_many_1 rfl (by decide) (fun _ => rfl) (fun v1 => ?_)
  refine g_iconst (v := 0) hc dX9_many_2 (by decide) ?_
  refine g_istore_n (L := fun v2 => [(3, .int v2), (2, .int v1), (0, .ref (a 0)), (1, .int x1)]) hc dX9_many_3 rfl (by decide) (fun _ => rfl) (fun v2 => ?_)
  refine g_lv [2, 3, 1, 0] rfl ?_
  exact TX9_many_4 hc hr hlk hE FU x1 v1 v2 S
set_option maxHeartbeats 4000000 in
set_option maxRecDepth 100000 in
theorem mX9_binds (x1 : Int32) (x2 : Int32) (x3 : Int32) (S : St) : ∀ q, uX9_binds x1 x2 x3 S = some q → Ki l yX9_binds wsX9_binds rX9_binds D (tyW cI cZ cO) 17 a (cM cI cZ a) (EvM) [.ref (a 0), .int x1, .int x2, .int x3] S q := by
  refine m_Ki (cc := cX9_binds) (nL := 5) (ret := (some .int)) (lv := [(0, .ref (a 0)), (1, .int x1), (2, .int x2), (3, .int x3)]) (by decide) rfl (Nat.le_of_ble_eq_true rfl) rfl ?_
  intro p e s m args below meth c hc hr hlk hE
  unfold uX9_binds
  refine g_bipush (v := 24) hc dX9_binds_0 (by decide) ?_
  refine g_iload_n (j := 1) hc dX9_binds_2 rfl rfl ?_
  refine g_imul hc dX9_binds_3 ?_
  refine g_iload_n (j := 2) hc dX9_binds_4 rfl rfl ?_
  refine g_iadd hc dX9_binds_5 ?_
  refine g_istore (L := fun v1 => [(4, .int v1), (0, .ref (a 0)), (1, .int x1), (2, .int x2), (3, .int x3)]) hc dX9_binds_6 (by decide) (fun _ => rfl) (fun v1 => ?_)
  refine g_aload_n (j := 1) hc dX9_binds_8 rfl rfl ?_
  refine g_get (C0 := RX9) (T := TX9) (M := 24) (k := 0) (ci := 9) hc inX9_binds_X9 (by decide) rfl rfl 13 (by decide) (List.mem_of_getElem? (i := 1) rfl) rfl rfl dX9_binds_9 ?_
  refine g_iload (j := 0) hc dX9_binds_12 rfl ?_
  refine g_zald (k := 9) (t0 := 1) hc (by decide) rfl rfl dX9_binds_14 ?_
  refine g_iload_n (j := 4) hc dX9_binds_15 rfl rfl ?_
  refine g_icmp_ne (tgt := 21) hc dX9_binds_16 (by decide) ?_ ?_
  · refine g_aload_n (j := 1) hc dX9_binds_21 rfl rfl ?_
    refine g_get (C0 := RX9) (T := TX9) (M := 24) (k := 0) (ci := 9) hc inX9_binds_X9 (by decide) rfl rfl 13 (by decide) (List.mem_of_getElem? (i := 1) rfl) rfl rfl dX9_binds_22 ?_
    refine g_iload (j := 0) hc dX9_binds_25 rfl ?_
    refine g_iload_n (j := 4) hc dX9_binds_27 rfl rfl ?_
    refine g_zast (k := 9) (t0 := 1) hc locM (by decide) rfl rfl rfl dX9_binds_28 (fun S2 => ?_)
    refine g_iconst (v := 1) hc dX9_binds_29 (by decide) ?_
    exact g_iret hc hr hlk dX9_binds_30
  · refine g_iconst (v := 0) hc dX9_binds_19 (by decide) ?_
    exact g_iret hc hr hlk dX9_binds_20
set_option maxHeartbeats 4000000 in
set_option maxRecDepth 100000 in
theorem tX9_ties_105 {p : Program} {e : Env} {s : State} {m : MethodId} {args : Array Value} {below : List Frame} {meth : Method} {c : Code} (hc : CT p s m args c cX9_ties 7 RX9 wsX9_ties D (tyW cI cZ cO)) (hr : meth.sig.returnType = (some .int)) (hlk : meth.locks = false) (hE : EvM (AA 17 a s.heap.size) s) (k55 : Int32 → Int32 → Int32 → Int32 → Int32 → St → Option (Int32 × St)) (hk55 : ∀ (x1 : Int32) (x3 : Int32) (x4 : Int32) (x5 : Int32) (x6 : Int32) (S : St), GF p l e rX9_ties s m args below meth c D 17 a (cM cI cZ a) (AA 17 a s.heap.size) 7 0 0 (fun res => MQ below (va_Qi (fun r u => (r, u) = res) (Bw D (tyW cI cZ cO) 17 a (cM cI cZ a) (AA 17 a s.heap.size)) (AA 17 a s.heap.size)) args s 0 0 (AA 17 a s.heap.size)) (k55 x1 x3 x4 x5 x6 S) 55 [(0, .ref (a 0)), (1, .int x1), (3, .int x3), (4, .int x4), (5, .int x5), (6, .int x6)] [] S) (x1 : Int32) (x3 : Int32) (x4 : Int32) (x5 : Int32) (x6 : Int32) (S : St) : GF p l e rX9_ties s m args below meth c D 17 a (cM cI cZ a) (AA 17 a s.heap.size) 7 0 0 (fun res => MQ below (va_Qi (fun r u => (r, u) = res) (Bw D (tyW cI cZ cO) 17 a (cM cI cZ a) (AA 17 a s.heap.size)) (AA 17 a s.heap.size)) args s 0 0 (AA 17 a s.heap.size)) (bX9_ties_105 k55 x1 x3 x4 x5 x6 S) 105 [(0, .ref (a 0)), (1, .int x1), (3, .int x3), (4, .int x4), (5, .int x5), (6, .int x6)] [] S := by
  unfold bX9_ties_105
  refine g_iinc (j := 5) (w := x6 + 1) (L := fun v1 => [(6, .int v1), (0, .ref (a 0)), (1, .int x1), (3, .int x3), (4, .int x4), (5, .int x5)]) hc dX9_ties_105 rfl (by rfl) (by decide) (fun _ => rfl) (fun v1 => ?_)
  refine g_goto (tgt := 55) hc dX9_ties_108 (by decide) ?_
  refine g_lv [1, 2, 3, 4, 5, 0] rfl ?_
  exact hk55 x1 x3 x4 x5 v1 S
set_option maxHeartbeats 4000000 in
set_option maxRecDepth 100000 in
theorem tX9_ties_55 {p : Program} {e : Env} {s : State} {m : MethodId} {args : Array Value} {below : List Frame} {meth : Method} {c : Code} (hc : CT p s m args c cX9_ties 7 RX9 wsX9_ties D (tyW cI cZ cO)) (hr : meth.sig.returnType = (some .int)) (hlk : meth.locks = false) (hE : EvM (AA 17 a s.heap.size) s) (k55 : Int32 → Int32 → Int32 → Int32 → Int32 → St → Option (Int32 × St)) (hk55 : ∀ (x1 : Int32) (x3 : Int32) (x4 : Int32) (x5 : Int32) (x6 : Int32) (S : St), GF p l e rX9_ties s m args below meth c D 17 a (cM cI cZ a) (AA 17 a s.heap.size) 7 0 0 (fun res => MQ below (va_Qi (fun r u => (r, u) = res) (Bw D (tyW cI cZ cO) 17 a (cM cI cZ a) (AA 17 a s.heap.size)) (AA 17 a s.heap.size)) args s 0 0 (AA 17 a s.heap.size)) (k55 x1 x3 x4 x5 x6 S) 55 [(0, .ref (a 0)), (1, .int x1), (3, .int x3), (4, .int x4), (5, .int x5), (6, .int x6)] [] S) (x1 : Int32) (x3 : Int32) (x4 : Int32) (x5 : Int32) (x6 : Int32) (S : St) : GF p l e rX9_ties s m args below meth c D 17 a (cM cI cZ a) (AA 17 a s.heap.size) 7 0 0 (fun res => MQ below (va_Qi (fun r u => (r, u) = res) (Bw D (tyW cI cZ cO) 17 a (cM cI cZ a) (AA 17 a s.heap.size)) (AA 17 a s.heap.size)) args s 0 0 (AA 17 a s.heap.size)) (bX9_ties_55 k55 x1 x3 x4 x5 x6 S) 55 [(0, .ref (a 0)), (1, .int x1), (3, .int x3), (4, .int x4), (5, .int x5), (6, .int x6)] [] S := by
  unfold bX9_ties_55
  refine g_iload (j := 5) hc dX9_ties_55 rfl ?_
  refine g_iload_n (j := 2) hc dX9_ties_57 rfl rfl ?_
  refine g_icmp_gt (tgt := 111) hc dX9_ties_58 (by decide) ?_ ?_
  · refine g_iload (j := 4) hc dX9_ties_111 rfl ?_
    exact g_iret hc hr hlk dX9_ties_113
  · refine g_iload (j := 4) hc dX9_ties_61 rfl ?_
    refine g_aload_n (j := 0) hc dX9_ties_63 rfl rfl ?_
    refine g_iload_n (j := 1) hc dX9_ties_64 rfl rfl ?_
    refine g_iload (j := 5) hc dX9_ties_65 rfl ?_
    refine g_iload (j := 3) hc dX9_ties_67 rfl ?_
    refine g_callVi (As := [.int x1, .int x6, .int x4]) (rest := [.int x5]) (k := 0) (ci := 9) (q0 := (RX9, TX9, 24)) hc hE trM rfl (fun _ h => mX9_binds x1 x6 x4 S _ h) (cwV 3 hc.1.2.2.2.2 gX9_ties_X9_binds rfl rfl rfl (by decide +kernel) ⟨by decide, by decide⟩) (by decide) rfl rfl rfl rfl (Nat.le_of_ble_eq_true rfl) dX9_ties_69 ⟨by decide, by decide⟩ (fun v1 S2 => ?_)
    refine g_iadd hc dX9_ties_72 ?_
    refine g_istore (L := fun v3 => [(5, .int v3), (0, .ref (a 0)), (1, .int x1), (3, .int x3), (4, .int x4), (6, .int x6)]) hc dX9_ties_73 (by decide) (fun _ => rfl) (fun v3 => ?_)
    refine g_aload_n (j := 1) hc dX9_ties_75 rfl rfl ?_
    refine g_get (C0 := RX9) (T := TX9) (M := 24) (k := 0) (ci := 9) hc inX9_ties_X9 (by decide) rfl rfl 12 (by decide) (List.mem_of_getElem? (i := 2) rfl) rfl rfl dX9_ties_76 ?_
    refine g_iload_n (j := 2) hc dX9_ties_79 rfl rfl ?_
    refine g_zald (k := 8) (t0 := 1) hc (by decide) rfl rfl dX9_ties_80 ?_
    refine g_if_eq (tgt := 105) hc dX9_ties_81 (by decide) ?_ ?_
    · refine g_lv [1, 2, 3, 4, 0, 5] rfl ?_
      exact tX9_ties_105 hc hr hlk hE k55 hk55 x1 x3 x4 v3 x6 S2
    · refine g_iload (j := 0) hc dX9_ties_84 rfl ?_
      refine g_aload_n (j := 1) hc dX9_ties_86 rfl rfl ?_
      refine g_iload_n (j := 2) hc dX9_ties_87 rfl rfl ?_
      refine g_aload_n (j := 1) hc dX9_ties_88 rfl rfl ?_
      refine g_get (C0 := RX9) (T := TX9) (M := 24) (k := 0) (ci := 9) hc inX9_ties_X9 (by decide) rfl rfl 2 (by decide) (List.mem_of_getElem? (i := 3) rfl) rfl rfl dX9_ties_89 ?_
      refine g_iconst (v := 1) hc dX9_ties_92 (by decide) ?_
      refine g_isub hc dX9_ties_93 ?_
      refine g_iload (j := 5) hc dX9_ties_94 rfl ?_
      refine g_isub hc dX9_ties_96 ?_
      refine g_iload (j := 4) hc dX9_ties_97 rfl ?_
      refine g_callVi (As := [.int x1, .int (((S2 0 2) - 1) - x6), .int x4]) (rest := [.int v3]) (k := 0) (ci := 9) (q0 := (RX9, TX9, 24)) hc hE trM rfl (fun _ h => mX9_binds x1 (((S2 0 2) - 1) - x6) x4 S2 _ h) (cwV 3 hc.1.2.2.2.2 gX9_ties_X9_binds rfl rfl rfl (by decide +kernel) ⟨by decide, by decide⟩) (by decide) rfl rfl rfl rfl (Nat.le_of_ble_eq_true rfl) dX9_ties_99 ⟨by decide, by decide⟩ (fun v4 S5 => ?_)
      refine g_iadd hc dX9_ties_102 ?_
      refine g_istore (L := fun v6 => [(5, .int v6), (0, .ref (a 0)), (1, .int x1), (3, .int x3), (4, .int x4), (6, .int x6)]) hc dX9_ties_103 (by decide) (fun _ => rfl) (fun v6 => ?_)
      refine g_lv [1, 2, 3, 4, 0, 5] rfl ?_
      exact tX9_ties_105 hc hr hlk hE k55 hk55 x1 x3 x4 v6 x6 S5
set_option maxHeartbeats 4000000 in
set_option maxRecDepth 100000 in
theorem TX9_ties_55 {p : Program} {e : Env} {s : State} {m : MethodId} {args : Array Value} {below : List Frame} {meth : Method} {c : Code} (hc : CT p s m args c cX9_ties 7 RX9 wsX9_ties D (tyW cI cZ cO)) (hr : meth.sig.returnType = (some .int)) (hlk : meth.locks = false) (hE : EvM (AA 17 a s.heap.size) s) (n : Nat) (x1 : Int32) (x3 : Int32) (x4 : Int32) (x5 : Int32) (x6 : Int32) (S : St) : GF p l e rX9_ties s m args below meth c D 17 a (cM cI cZ a) (AA 17 a s.heap.size) 7 0 0 (fun res => MQ below (va_Qi (fun r u => (r, u) = res) (Bw D (tyW cI cZ cO) 17 a (cM cI cZ a) (AA 17 a s.heap.size)) (AA 17 a s.heap.size)) args s 0 0 (AA 17 a s.heap.size)) (lX9_ties_55 n x1 x3 x4 x5 x6 S) 55 [(0, .ref (a 0)), (1, .int x1), (3, .int x3), (4, .int x4), (5, .int x5), (6, .int x6)] [] S :=
  lp_ind (P := fun k : Int32 → Int32 → Int32 → Int32 → Int32 → St → Option (Int32 × St) => ∀ (x1 : Int32) (x3 : Int32) (x4 : Int32) (x5 : Int32) (x6 : Int32) (S : St), GF p l e rX9_ties s m args below meth c D 17 a (cM cI cZ a) (AA 17 a s.heap.size) 7 0 0 (fun res => MQ below (va_Qi (fun r u => (r, u) = res) (Bw D (tyW cI cZ cO) 17 a (cM cI cZ a) (AA 17 a s.heap.size)) (AA 17 a s.heap.size)) args s 0 0 (AA 17 a s.heap.size)) (k x1 x3 x4 x5 x6 S) 55 [(0, .ref (a 0)), (1, .int x1), (3, .int x3), (4, .int x4), (5, .int x5), (6, .int x6)] [] S) (fun _ _ _ _ _ _ => g_none) (fun k55 hk55 => tX9_ties_55 hc hr hlk hE k55 hk55) n x1 x3 x4 x5 x6 S
set_option maxHeartbeats 4000000 in
set_option maxRecDepth 100000 in
theorem tX9_ties_47 {p : Program} {e : Env} {s : State} {m : MethodId} {args : Array Value} {below : List Frame} {meth : Method} {c : Code} (hc : CT p s m args c cX9_ties 7 RX9 wsX9_ties D (tyW cI cZ cO)) (hr : meth.sig.returnType = (some .int)) (hlk : meth.locks = false) (hE : EvM (AA 17 a s.heap.size) s) (S : St) : GF p l e rX9_ties s m args below meth c D 17 a (cM cI cZ a) (AA 17 a s.heap.size) 7 0 0 (fun res => MQ below (va_Qi (fun r u => (r, u) = res) (Bw D (tyW cI cZ cO) 17 a (cM cI cZ a) (AA 17 a s.heap.size)) (AA 17 a s.heap.size)) args s 0 0 (AA 17 a s.heap.size)) (bX9_ties_47 S) 47 [] [] S := by
  unfold bX9_ties_47
  refine g_iconst (v := 0) hc dX9_ties_47 (by decide) ?_
  exact g_iret hc hr hlk dX9_ties_48
set_option maxHeartbeats 4000000 in
set_option maxRecDepth 100000 in
theorem tX9_ties_40 {p : Program} {e : Env} {s : State} {m : MethodId} {args : Array Value} {below : List Frame} {meth : Method} {c : Code} (hc : CT p s m args c cX9_ties 7 RX9 wsX9_ties D (tyW cI cZ cO)) (hr : meth.sig.returnType = (some .int)) (hlk : meth.locks = false) (hE : EvM (AA 17 a s.heap.size) s) (x1 : Int32) (x2 : Int32) (x3 : Int32) (x4 : Int32) (y1 : Int32) (S : St) : GF p l e rX9_ties s m args below meth c D 17 a (cM cI cZ a) (AA 17 a s.heap.size) 7 0 0 (fun res => MQ below (va_Qi (fun r u => (r, u) = res) (Bw D (tyW cI cZ cO) 17 a (cM cI cZ a) (AA 17 a s.heap.size)) (AA 17 a s.heap.size)) args s 0 0 (AA 17 a s.heap.size)) (bX9_ties_40 x1 x2 x3 x4 y1 S) 40 [(0, .ref (a 0)), (1, .int x1), (2, .int x2), (3, .int x3), (4, .int x4)] [.int y1, .ref (a 0)] S := by
  unfold bX9_ties_40
  refine g_iconst (v := 2) hc dX9_ties_40 (by decide) ?_
  refine g_callVi (As := [.int y1, .int 2]) (rest := []) (k := 0) (ci := 9) (q0 := (RX9, TX9, 24)) hc hE trM rfl (fun _ h => mX9_right y1 2 S _ h) (cwV 2 hc.1.2.2.2.2 gX9_ties_X9_right rfl rfl rfl (by decide +kernel) ⟨by decide, by decide⟩) (by decide) rfl rfl rfl rfl (Nat.le_of_ble_eq_true rfl) dX9_ties_41 ⟨by decide, by decide⟩ (fun v1 S2 => ?_)
  refine g_if_ne (tgt := 49) hc dX9_ties_44 (by decide) ?_ ?_
  · refine g_iconst (v := 0) hc dX9_ties_49 (by decide) ?_
    refine g_istore (L := fun v3 => [(5, .int v3), (0, .ref (a 0)), (1, .int x1), (2, .int x2), (3, .int x3), (4, .int x4)]) hc dX9_ties_50 (by decide) (fun _ => rfl) (fun v3 => ?_)
    refine g_iload_n (j := 3) hc dX9_ties_52 rfl rfl ?_
    refine g_istore (L := fun v4 => [(6, .int v4), (5, .int v3), (0, .ref (a 0)), (1, .int x1), (2, .int x2), (3, .int x3), (4, .int x4)]) hc dX9_ties_53 (by decide) (fun _ => rfl) (fun v4 => ?_)
    refine g_lv [2, 3, 5, 6, 1, 0] rfl ?_
    exact TX9_ties_55 hc hr hlk hE FU x1 x3 x4 v3 v4 S2
  · refine g_lv [] rfl ?_
    exact tX9_ties_47 hc hr hlk hE S2
set_option maxHeartbeats 4000000 in
set_option maxRecDepth 100000 in
theorem mX9_ties (x1 : Int32) (x2 : Int32) (x3 : Int32) (x4 : Int32) (S : St) : ∀ q, uX9_ties x1 x2 x3 x4 S = some q → Ki l yX9_ties wsX9_ties rX9_ties D (tyW cI cZ cO) 17 a (cM cI cZ a) (EvM) [.ref (a 0), .int x1, .int x2, .int x3, .int x4] S q := by
  refine m_Ki (cc := cX9_ties) (nL := 7) (ret := (some .int)) (lv := [(0, .ref (a 0)), (1, .int x1), (2, .int x2), (3, .int x3), (4, .int x4)]) (by decide) rfl (Nat.le_of_ble_eq_true rfl) rfl ?_
  intro p e s m args below meth c hc hr hlk hE
  unfold uX9_ties
  refine g_aload_n (j := 0) hc dX9_ties_0 rfl rfl ?_
  refine g_iconst (v := 0) hc dX9_ties_1 (by decide) ?_
  refine g_put (ty := .int) (C0 := RX9) (T := TX9) (M := 24) (k := 0) (ci := 9) hc locM tyX9 tyX9_ok nmX9 inX9_ties_X9 (by decide) rfl rfl 0 (by decide) (List.mem_of_getElem? (i := 1) rfl) rfl rfl (by decide +kernel) rfl rfl (Nat.le_of_ble_eq_true rfl) rfl rfl dX9_ties_2 (fun S1 => ?_)
  refine g_aload_n (j := 0) hc dX9_ties_5 rfl rfl ?_
  refine g_iload_n (j := 1) hc dX9_ties_6 rfl rfl ?_
  refine g_callVi (As := [.int x1]) (rest := []) (k := 0) (ci := 9) (q0 := (RX9, TX9, 24)) hc hE trM rfl (fun _ h => mX9_isBundle x1 S1 _ h) (cwV 1 hc.1.2.2.2.2 gX9_ties_X9_isBundle rfl rfl rfl (by decide +kernel) ⟨by decide, by decide⟩) (by decide) rfl rfl rfl rfl (Nat.le_of_ble_eq_true rfl) dX9_ties_7 ⟨by decide, by decide⟩ (fun v2 S3 => ?_)
  refine g_if_eq (tgt := 47) hc dX9_ties_10 (by decide) ?_ ?_
  · refine g_lv [] rfl ?_
    exact tX9_ties_47 hc hr hlk hE S3
  · refine g_aload_n (j := 0) hc dX9_ties_13 rfl rfl ?_
    refine g_iload_n (j := 2) hc dX9_ties_14 rfl rfl ?_
    refine g_callVi (As := [.int x2]) (rest := []) (k := 0) (ci := 9) (q0 := (RX9, TX9, 24)) hc hE trM rfl (fun _ h => mX9_isPlace x2 S3 _ h) (cwV 1 hc.1.2.2.2.2 gX9_ties_X9_isPlace rfl rfl rfl (by decide +kernel) ⟨by decide, by decide⟩) (by decide) rfl rfl rfl rfl (Nat.le_of_ble_eq_true rfl) dX9_ties_15 ⟨by decide, by decide⟩ (fun v4 S5 => ?_)
    refine g_if_eq (tgt := 47) hc dX9_ties_18 (by decide) ?_ ?_
    · refine g_lv [] rfl ?_
      exact tX9_ties_47 hc hr hlk hE S5
    · refine g_aload_n (j := 0) hc dX9_ties_21 rfl rfl ?_
      refine g_iload_n (j := 3) hc dX9_ties_22 rfl rfl ?_
      refine g_callVi (As := [.int x3]) (rest := []) (k := 0) (ci := 9) (q0 := (RX9, TX9, 24)) hc hE trM rfl (fun _ h => mX9_isPlace x3 S5 _ h) (cwV 1 hc.1.2.2.2.2 gX9_ties_X9_isPlace rfl rfl rfl (by decide +kernel) ⟨by decide, by decide⟩) (by decide) rfl rfl rfl rfl (Nat.le_of_ble_eq_true rfl) dX9_ties_23 ⟨by decide, by decide⟩ (fun v6 S7 => ?_)
      refine g_if_eq (tgt := 47) hc dX9_ties_26 (by decide) ?_ ?_
      · refine g_lv [] rfl ?_
        exact tX9_ties_47 hc hr hlk hE S7
      · refine g_aload_n (j := 0) hc dX9_ties_29 rfl rfl ?_
        refine g_iload_n (j := 2) hc dX9_ties_30 rfl rfl ?_
        refine g_iload_n (j := 3) hc dX9_ties_31 rfl rfl ?_
        refine g_icmp_gt (tgt := 39) hc dX9_ties_32 (by decide) ?_ ?_
        · refine g_iconst (v := 0) hc dX9_ties_39 (by decide) ?_
          exact tX9_ties_40 hc hr hlk hE x1 x2 x3 x4 0 S7
        · refine g_iconst (v := 1) hc dX9_ties_35 (by decide) ?_
          refine g_goto (tgt := 40) hc dX9_ties_36 (by decide) ?_
          exact tX9_ties_40 hc hr hlk hE x1 x2 x3 x4 1 S7
set_option maxHeartbeats 4000000 in
set_option maxRecDepth 100000 in
theorem mX9_tie (x1 : Int32) (x2 : Int32) (x3 : Int32) (S : St) : ∀ q, uX9_tie x1 x2 x3 S = some q → Ki l yX9_tie wsX9_tie rX9_tie D (tyW cI cZ cO) 17 a (cM cI cZ a) (EvM) [.ref (a 0), .int x1, .int x2, .int x3] S q := by
  refine m_Ki (cc := cX9_tie) (nL := 4) (ret := (some .int)) (lv := [(0, .ref (a 0)), (1, .int x1), (2, .int x2), (3, .int x3)]) (by decide) rfl (Nat.le_of_ble_eq_true rfl) rfl ?_
  intro p e s m args below meth c hc hr hlk hE
  unfold uX9_tie
  refine g_aload_n (j := 0) hc dX9_tie_0 rfl rfl ?_
  refine g_iload_n (j := 1) hc dX9_tie_1 rfl rfl ?_
  refine g_iload_n (j := 2) hc dX9_tie_2 rfl rfl ?_
  refine g_iload_n (j := 3) hc dX9_tie_3 rfl rfl ?_
  refine g_iconst (v := 1) hc dX9_tie_4 (by decide) ?_
  refine g_callVi (As := [.int x1, .int x2, .int x3, .int 1]) (rest := []) (k := 0) (ci := 9) (q0 := (RX9, TX9, 24)) hc hE trM rfl (fun _ h => mX9_ties x1 x2 x3 1 S _ h) (cwV 4 hc.1.2.2.2.2 gX9_tie_X9_ties rfl rfl rfl (by decide +kernel) ⟨by decide, by decide⟩) (by decide) rfl rfl rfl rfl (Nat.le_of_ble_eq_true rfl) dX9_tie_5 ⟨by decide, by decide⟩ (fun v1 S2 => ?_)
  exact g_iret hc hr hlk dX9_tie_8
set_option maxHeartbeats 4000000 in
set_option maxRecDepth 100000 in
theorem mX9_untie (x1 : Int32) (x2 : Int32) (x3 : Int32) (S : St) : ∀ q, uX9_untie x1 x2 x3 S = some q → Ki l yX9_untie wsX9_untie rX9_untie D (tyW cI cZ cO) 17 a (cM cI cZ a) (EvM) [.ref (a 0), .int x1, .int x2, .int x3] S q := by
  refine m_Ki (cc := cX9_untie) (nL := 4) (ret := (some .int)) (lv := [(0, .ref (a 0)), (1, .int x1), (2, .int x2), (3, .int x3)]) (by decide) rfl (Nat.le_of_ble_eq_true rfl) rfl ?_
  intro p e s m args below meth c hc hr hlk hE
  unfold uX9_untie
  refine g_aload_n (j := 0) hc dX9_untie_0 rfl rfl ?_
  refine g_iload_n (j := 1) hc dX9_untie_1 rfl rfl ?_
  refine g_iload_n (j := 2) hc dX9_untie_2 rfl rfl ?_
  refine g_iload_n (j := 3) hc dX9_untie_3 rfl rfl ?_
  refine g_iconst (v := 0) hc dX9_untie_4 (by decide) ?_
  refine g_callVi (As := [.int x1, .int x2, .int x3, .int 0]) (rest := []) (k := 0) (ci := 9) (q0 := (RX9, TX9, 24)) hc hE trM rfl (fun _ h => mX9_ties x1 x2 x3 0 S _ h) (cwV 4 hc.1.2.2.2.2 gX9_untie_X9_ties rfl rfl rfl (by decide +kernel) ⟨by decide, by decide⟩) (by decide) rfl rfl rfl rfl (Nat.le_of_ble_eq_true rfl) dX9_untie_5 ⟨by decide, by decide⟩ (fun v1 S2 => ?_)
  exact g_iret hc hr hlk dX9_untie_8
set_option maxHeartbeats 4000000 in
set_option maxRecDepth 100000 in
theorem tX9_taken_42 {p : Program} {e : Env} {s : State} {m : MethodId} {args : Array Value} {below : List Frame} {meth : Method} {c : Code} (hc : CT p s m args c cX9_taken 4 RX9 wsX9_taken D (tyW cI cZ cO)) (hr : meth.sig.returnType = (some .int)) (hlk : meth.locks = false) (hE : EvM (AA 17 a s.heap.size) s) (k4 : Int32 → Int32 → St → Option (Int32 × St)) (hk4 : ∀ (x1 : Int32) (x2 : Int32) (S : St), GF p l e rX9_taken s m args below meth c D 17 a (cM cI cZ a) (AA 17 a s.heap.size) 4 0 0 (fun res => MQ below (va_Qi (fun r u => (r, u) = res) (Bw D (tyW cI cZ cO) 17 a (cM cI cZ a) (AA 17 a s.heap.size)) (AA 17 a s.heap.size)) args s 0 0 (AA 17 a s.heap.size)) (k4 x1 x2 S) 4 [(0, .ref (a 0)), (1, .int x1), (2, .int x2)] [] S) (k12 : Int32 → Int32 → Int32 → St → Option (Int32 × St)) (hk12 : ∀ (x1 : Int32) (x2 : Int32) (x3 : Int32) (S : St), GF p l e rX9_taken s m args below meth c D 17 a (cM cI cZ a) (AA 17 a s.heap.size) 4 0 0 (fun res => MQ below (va_Qi (fun r u => (r, u) = res) (Bw D (tyW cI cZ cO) 17 a (cM cI cZ a) (AA 17 a s.heap.size)) (AA 17 a s.heap.size)) args s 0 0 (AA 17 a s.heap.size)) (k12 x1 x2 x3 S) 12 [(0, .ref (a 0)), (1, .int x1), (2, .int x2), (3, .int x3)] [] S) (x1 : Int32) (x2 : Int32) (x3 : Int32) (S : St) : GF p l e rX9_taken s m args below meth c D 17 a (cM cI cZ a) (AA 17 a s.heap.size) 4 0 0 (fun res => MQ below (va_Qi (fun r u => (r, u) = res) (Bw D (tyW cI cZ cO) 17 a (cM cI cZ a) (AA 17 a s.heap.size)) (AA 17 a s.heap.size)) args s 0 0 (AA 17 a s.heap.size)) (bX9_taken_42 k4 k12 x1 x2 x3 S) 42 [(0, .ref (a 0)), (1, .int x1), (2, .int x2), (3, .int x3)] [] S := by
  unfold bX9_taken_42
  refine g_iinc (j := 3) (w := x3 + 1) (L := fun v1 => [(3, .int v1), (0, .ref (a 0)), (1, .int x1), (2, .int x2)]) hc dX9_taken_42 rfl (by rfl) (by decide) (fun _ => rfl) (fun v1 => ?_)
  refine g_goto (tgt := 12) hc dX9_taken_45 (by decide) ?_
  refine g_lv [1, 2, 3, 0] rfl ?_
  exact hk12 x1 x2 v1 S
set_option maxHeartbeats 4000000 in
set_option maxRecDepth 100000 in
theorem tX9_taken_12 {p : Program} {e : Env} {s : State} {m : MethodId} {args : Array Value} {below : List Frame} {meth : Method} {c : Code} (hc : CT p s m args c cX9_taken 4 RX9 wsX9_taken D (tyW cI cZ cO)) (hr : meth.sig.returnType = (some .int)) (hlk : meth.locks = false) (hE : EvM (AA 17 a s.heap.size) s) (k4 : Int32 → Int32 → St → Option (Int32 × St)) (hk4 : ∀ (x1 : Int32) (x2 : Int32) (S : St), GF p l e rX9_taken s m args below meth c D 17 a (cM cI cZ a) (AA 17 a s.heap.size) 4 0 0 (fun res => MQ below (va_Qi (fun r u => (r, u) = res) (Bw D (tyW cI cZ cO) 17 a (cM cI cZ a) (AA 17 a s.heap.size)) (AA 17 a s.heap.size)) args s 0 0 (AA 17 a s.heap.size)) (k4 x1 x2 S) 4 [(0, .ref (a 0)), (1, .int x1), (2, .int x2)] [] S) (k12 : Int32 → Int32 → Int32 → St → Option (Int32 × St)) (hk12 : ∀ (x1 : Int32) (x2 : Int32) (x3 : Int32) (S : St), GF p l e rX9_taken s m args below meth c D 17 a (cM cI cZ a) (AA 17 a s.heap.size) 4 0 0 (fun res => MQ below (va_Qi (fun r u => (r, u) = res) (Bw D (tyW cI cZ cO) 17 a (cM cI cZ a) (AA 17 a s.heap.size)) (AA 17 a s.heap.size)) args s 0 0 (AA 17 a s.heap.size)) (k12 x1 x2 x3 S) 12 [(0, .ref (a 0)), (1, .int x1), (2, .int x2), (3, .int x3)] [] S) (x1 : Int32) (x2 : Int32) (x3 : Int32) (S : St) : GF p l e rX9_taken s m args below meth c D 17 a (cM cI cZ a) (AA 17 a s.heap.size) 4 0 0 (fun res => MQ below (va_Qi (fun r u => (r, u) = res) (Bw D (tyW cI cZ cO) 17 a (cM cI cZ a) (AA 17 a s.heap.size)) (AA 17 a s.heap.size)) args s 0 0 (AA 17 a s.heap.size)) (bX9_taken_12 k4 k12 x1 x2 x3 S) 12 [(0, .ref (a 0)), (1, .int x1), (2, .int x2), (3, .int x3)] [] S := by
  unfold bX9_taken_12
  refine g_iload_n (j := 3) hc dX9_taken_12 rfl rfl ?_
  refine g_aload_n (j := 0) hc dX9_taken_13 rfl rfl ?_
  refine g_get (C0 := RX9) (T := TX9) (M := 24) (k := 0) (ci := 9) hc inX9_taken_X9 (by decide) rfl rfl 2 (by decide) (List.mem_of_getElem? (i := 1) rfl) rfl rfl dX9_taken_14 ?_
  refine g_icmp_ge (tgt := 48) hc dX9_taken_17 (by decide) ?_ ?_
  · refine g_iinc (j := 2) (w := x2 + 1) (L := fun v1 => [(2, .int v1), (0, .ref (a 0)), (1, .int x1), (3, .int x3)]) hc dX9_taken_48 rfl (by rfl) (by decide) (fun _ => rfl) (fun v1 => ?_)
    refine g_goto (tgt := 4) hc dX9_taken_51 (by decide) ?_
    refine g_lv [1, 2, 0] rfl ?_
    exact hk4 x1 v1 S
  · refine g_aload_n (j := 0) hc dX9_taken_20 rfl rfl ?_
    refine g_get (C0 := RX9) (T := TX9) (M := 24) (k := 0) (ci := 9) hc inX9_taken_X9 (by decide) rfl rfl 13 (by decide) (List.mem_of_getElem? (i := 2) rfl) rfl rfl dX9_taken_21 ?_
    refine g_bipush (v := 24) hc dX9_taken_24 (by decide) ?_
    refine g_iload_n (j := 2) hc dX9_taken_26 rfl rfl ?_
    refine g_imul hc dX9_taken_27 ?_
    refine g_iload_n (j := 3) hc dX9_taken_28 rfl rfl ?_
    refine g_iadd hc dX9_taken_29 ?_
    refine g_zald (k := 9) (t0 := 1) hc (by decide) rfl rfl dX9_taken_30 ?_
    refine g_if_ne (tgt := 42) hc dX9_taken_31 (by decide) ?_ ?_
    · exact tX9_taken_42 hc hr hlk hE k4 hk4 k12 hk12 x1 x2 x3 S
    · refine g_iload_n (j := 1) hc dX9_taken_34 rfl rfl ?_
      refine g_aload_n (j := 0) hc dX9_taken_35 rfl rfl ?_
      refine g_iload_n (j := 2) hc dX9_taken_36 rfl rfl ?_
      refine g_callVi (As := [.int x2]) (rest := [.int x1]) (k := 0) (ci := 9) (q0 := (RX9, TX9, 24)) hc hE trM rfl (fun _ h => mX9_many x2 S _ h) (cwV 1 hc.1.2.2.2.2 gX9_taken_X9_many rfl rfl rfl (by decide +kernel) ⟨by decide, by decide⟩) (by decide) rfl rfl rfl rfl (Nat.le_of_ble_eq_true rfl) dX9_taken_37 ⟨by decide, by decide⟩ (fun v2 S3 => ?_)
      refine g_iadd hc dX9_taken_40 ?_
      refine g_istore_n (L := fun v4 => [(1, .int v4), (0, .ref (a 0)), (2, .int x2), (3, .int x3)]) hc dX9_taken_41 rfl (by decide) (fun _ => rfl) (fun v4 => ?_)
      refine g_lv [1, 0, 2, 3] rfl ?_
      exact tX9_taken_42 hc hr hlk hE k4 hk4 k12 hk12 v4 x2 x3 S3
set_option maxHeartbeats 4000000 in
set_option maxRecDepth 100000 in
theorem TX9_taken_12 {p : Program} {e : Env} {s : State} {m : MethodId} {args : Array Value} {below : List Frame} {meth : Method} {c : Code} (hc : CT p s m args c cX9_taken 4 RX9 wsX9_taken D (tyW cI cZ cO)) (hr : meth.sig.returnType = (some .int)) (hlk : meth.locks = false) (hE : EvM (AA 17 a s.heap.size) s) (k4 : Int32 → Int32 → St → Option (Int32 × St)) (hk4 : ∀ (x1 : Int32) (x2 : Int32) (S : St), GF p l e rX9_taken s m args below meth c D 17 a (cM cI cZ a) (AA 17 a s.heap.size) 4 0 0 (fun res => MQ below (va_Qi (fun r u => (r, u) = res) (Bw D (tyW cI cZ cO) 17 a (cM cI cZ a) (AA 17 a s.heap.size)) (AA 17 a s.heap.size)) args s 0 0 (AA 17 a s.heap.size)) (k4 x1 x2 S) 4 [(0, .ref (a 0)), (1, .int x1), (2, .int x2)] [] S) (n : Nat) (x1 : Int32) (x2 : Int32) (x3 : Int32) (S : St) : GF p l e rX9_taken s m args below meth c D 17 a (cM cI cZ a) (AA 17 a s.heap.size) 4 0 0 (fun res => MQ below (va_Qi (fun r u => (r, u) = res) (Bw D (tyW cI cZ cO) 17 a (cM cI cZ a) (AA 17 a s.heap.size)) (AA 17 a s.heap.size)) args s 0 0 (AA 17 a s.heap.size)) (lX9_taken_12 k4 n x1 x2 x3 S) 12 [(0, .ref (a 0)), (1, .int x1), (2, .int x2), (3, .int x3)] [] S :=
  lp_ind (P := fun k : Int32 → Int32 → Int32 → St → Option (Int32 × St) => ∀ (x1 : Int32) (x2 : Int32) (x3 : Int32) (S : St), GF p l e rX9_taken s m args below meth c D 17 a (cM cI cZ a) (AA 17 a s.heap.size) 4 0 0 (fun res => MQ below (va_Qi (fun r u => (r, u) = res) (Bw D (tyW cI cZ cO) 17 a (cM cI cZ a) (AA 17 a s.heap.size)) (AA 17 a s.heap.size)) args s 0 0 (AA 17 a s.heap.size)) (k x1 x2 x3 S) 12 [(0, .ref (a 0)), (1, .int x1), (2, .int x2), (3, .int x3)] [] S) (fun _ _ _ _ => g_none) (fun k12 hk12 => tX9_taken_12 hc hr hlk hE k4 hk4 k12 hk12) n x1 x2 x3 S
set_option maxHeartbeats 4000000 in
set_option maxRecDepth 100000 in
theorem tX9_taken_4 {p : Program} {e : Env} {s : State} {m : MethodId} {args : Array Value} {below : List Frame} {meth : Method} {c : Code} (hc : CT p s m args c cX9_taken 4 RX9 wsX9_taken D (tyW cI cZ cO)) (hr : meth.sig.returnType = (some .int)) (hlk : meth.locks = false) (hE : EvM (AA 17 a s.heap.size) s) (k4 : Int32 → Int32 → St → Option (Int32 × St)) (hk4 : ∀ (x1 : Int32) (x2 : Int32) (S : St), GF p l e rX9_taken s m args below meth c D 17 a (cM cI cZ a) (AA 17 a s.heap.size) 4 0 0 (fun res => MQ below (va_Qi (fun r u => (r, u) = res) (Bw D (tyW cI cZ cO) 17 a (cM cI cZ a) (AA 17 a s.heap.size)) (AA 17 a s.heap.size)) args s 0 0 (AA 17 a s.heap.size)) (k4 x1 x2 S) 4 [(0, .ref (a 0)), (1, .int x1), (2, .int x2)] [] S) (x1 : Int32) (x2 : Int32) (S : St) : GF p l e rX9_taken s m args below meth c D 17 a (cM cI cZ a) (AA 17 a s.heap.size) 4 0 0 (fun res => MQ below (va_Qi (fun r u => (r, u) = res) (Bw D (tyW cI cZ cO) 17 a (cM cI cZ a) (AA 17 a s.heap.size)) (AA 17 a s.heap.size)) args s 0 0 (AA 17 a s.heap.size)) (bX9_taken_4 k4 x1 x2 S) 4 [(0, .ref (a 0)), (1, .int x1), (2, .int x2)] [] S := by
  unfold bX9_taken_4
  refine g_iload_n (j := 2) hc dX9_taken_4 rfl rfl ?_
  refine g_bipush (v := 8) hc dX9_taken_5 (by decide) ?_
  refine g_icmp_ge (tgt := 54) hc dX9_taken_7 (by decide) ?_ ?_
  · refine g_iload_n (j := 1) hc dX9_taken_54 rfl rfl ?_
    exact g_iret hc hr hlk dX9_taken_55
  · refine g_iconst (v := 0) hc dX9_taken_10 (by decide) ?_
    refine g_istore_n (L := fun v1 => [(3, .int v1), (0, .ref (a 0)), (1, .int x1), (2, .int x2)]) hc dX9_taken_11 rfl (by decide) (fun _ => rfl) (fun v1 => ?_)
    refine g_lv [1, 2, 3, 0] rfl ?_
    exact TX9_taken_12 hc hr hlk hE k4 hk4 FU x1 x2 v1 S
set_option maxHeartbeats 4000000 in
set_option maxRecDepth 100000 in
theorem TX9_taken_4 {p : Program} {e : Env} {s : State} {m : MethodId} {args : Array Value} {below : List Frame} {meth : Method} {c : Code} (hc : CT p s m args c cX9_taken 4 RX9 wsX9_taken D (tyW cI cZ cO)) (hr : meth.sig.returnType = (some .int)) (hlk : meth.locks = false) (hE : EvM (AA 17 a s.heap.size) s) (n : Nat) (x1 : Int32) (x2 : Int32) (S : St) : GF p l e rX9_taken s m args below meth c D 17 a (cM cI cZ a) (AA 17 a s.heap.size) 4 0 0 (fun res => MQ below (va_Qi (fun r u => (r, u) = res) (Bw D (tyW cI cZ cO) 17 a (cM cI cZ a) (AA 17 a s.heap.size)) (AA 17 a s.heap.size)) args s 0 0 (AA 17 a s.heap.size)) (lX9_taken_4 n x1 x2 S) 4 [(0, .ref (a 0)), (1, .int x1), (2, .int x2)] [] S :=
  lp_ind (P := fun k : Int32 → Int32 → St → Option (Int32 × St) => ∀ (x1 : Int32) (x2 : Int32) (S : St), GF p l e rX9_taken s m args below meth c D 17 a (cM cI cZ a) (AA 17 a s.heap.size) 4 0 0 (fun res => MQ below (va_Qi (fun r u => (r, u) = res) (Bw D (tyW cI cZ cO) 17 a (cM cI cZ a) (AA 17 a s.heap.size)) (AA 17 a s.heap.size)) args s 0 0 (AA 17 a s.heap.size)) (k x1 x2 S) 4 [(0, .ref (a 0)), (1, .int x1), (2, .int x2)] [] S) (fun _ _ _ => g_none) (fun k4 hk4 => tX9_taken_4 hc hr hlk hE k4 hk4) n x1 x2 S
set_option maxHeartbeats 4000000 in
set_option maxRecDepth 100000 in
theorem mX9_taken (S : St) : ∀ q, uX9_taken S = some q → Ki l yX9_taken wsX9_taken rX9_taken D (tyW cI cZ cO) 17 a (cM cI cZ a) (EvM) [.ref (a 0)] S q := by
  refine m_Ki (cc := cX9_taken) (nL := 4) (ret := (some .int)) (lv := [(0, .ref (a 0))]) (by decide) rfl (Nat.le_of_ble_eq_true rfl) rfl ?_
  intro p e s m args below meth c hc hr hlk hE
  unfold uX9_taken
  refine g_iconst (v := 0) hc dX9_taken_0 (by decide) ?_
  refine g_istore_n (L := fun v1 => [(1, .int v1), (0, .ref (a 0))]) hc dX9_taken_1 rfl (by decide) (fun _ => rfl) (fun v1 => ?_)
  refine g_iconst (v := 0) hc dX9_taken_2 (by decide) ?_
  refine g_istore_n (L := fun v2 => [(2, .int v2), (1, .int v1), (0, .ref (a 0))]) hc dX9_taken_3 rfl (by decide) (fun _ => rfl) (fun v2 => ?_)
  refine g_lv [2, 1, 0] rfl ?_
  exact TX9_taken_4 hc hr hlk hE FU v1 v2 S
set_option maxHeartbeats 4000000 in
set_option maxRecDepth 100000 in
theorem tX9_bathes_63 {p : Program} {e : Env} {s : State} {m : MethodId} {args : Array Value} {below : List Frame} {meth : Method} {c : Code} (hc : CT p s m args c cX9_bathes 4 RX9 wsX9_bathes D (tyW cI cZ cO)) (hr : meth.sig.returnType = none) (hlk : meth.locks = false) (hE : EvM (AA 17 a s.heap.size) s) (k2 : Int32 → Int32 → St → Option (Int32 × St)) (hk2 : ∀ (x1 : Int32) (x2 : Int32) (S : St), GF p l e rX9_bathes s m args below meth c D 17 a (cM cI cZ a) (AA 17 a s.heap.size) 4 0 0 (fun res => MQ below (va_Qv (fun u => ((0 : Int32), u) = res) (Bw D (tyW cI cZ cO) 17 a (cM cI cZ a) (AA 17 a s.heap.size)) (AA 17 a s.heap.size)) args s 0 0 (AA 17 a s.heap.size)) (k2 x1 x2 S) 2 [(0, .ref (a 0)), (1, .int x1), (2, .int x2)] [] S) (k10 : Int32 → Int32 → Int32 → St → Option (Int32 × St)) (hk10 : ∀ (x1 : Int32) (x2 : Int32) (x3 : Int32) (S : St), GF p l e rX9_bathes s m args below meth c D 17 a (cM cI cZ a) (AA 17 a s.heap.size) 4 0 0 (fun res => MQ below (va_Qv (fun u => ((0 : Int32), u) = res) (Bw D (tyW cI cZ cO) 17 a (cM cI cZ a) (AA 17 a s.heap.size)) (AA 17 a s.heap.size)) args s 0 0 (AA 17 a s.heap.size)) (k10 x1 x2 x3 S) 10 [(0, .ref (a 0)), (1, .int x1), (2, .int x2), (3, .int x3)] [] S) (x1 : Int32) (x2 : Int32) (x3 : Int32) (S : St) : GF p l e rX9_bathes s m args below meth c D 17 a (cM cI cZ a) (AA 17 a s.heap.size) 4 0 0 (fun res => MQ below (va_Qv (fun u => ((0 : Int32), u) = res) (Bw D (tyW cI cZ cO) 17 a (cM cI cZ a) (AA 17 a s.heap.size)) (AA 17 a s.heap.size)) args s 0 0 (AA 17 a s.heap.size)) (bX9_bathes_63 k2 k10 x1 x2 x3 S) 63 [(0, .ref (a 0)), (1, .int x1), (2, .int x2), (3, .int x3)] [] S := by
  unfold bX9_bathes_63
  refine g_iinc (j := 3) (w := x3 + 1) (L := fun v1 => [(3, .int v1), (0, .ref (a 0)), (1, .int x1), (2, .int x2)]) hc dX9_bathes_63 rfl (by rfl) (by decide) (fun _ => rfl) (fun v1 => ?_)
  refine g_goto (tgt := 10) hc dX9_bathes_66 (by decide) ?_
  refine g_lv [1, 2, 3, 0] rfl ?_
  exact hk10 x1 x2 v1 S
set_option maxHeartbeats 4000000 in
set_option maxRecDepth 100000 in
theorem tX9_bathes_10 {p : Program} {e : Env} {s : State} {m : MethodId} {args : Array Value} {below : List Frame} {meth : Method} {c : Code} (hc : CT p s m args c cX9_bathes 4 RX9 wsX9_bathes D (tyW cI cZ cO)) (hr : meth.sig.returnType = none) (hlk : meth.locks = false) (hE : EvM (AA 17 a s.heap.size) s) (k2 : Int32 → Int32 → St → Option (Int32 × St)) (hk2 : ∀ (x1 : Int32) (x2 : Int32) (S : St), GF p l e rX9_bathes s m args below meth c D 17 a (cM cI cZ a) (AA 17 a s.heap.size) 4 0 0 (fun res => MQ below (va_Qv (fun u => ((0 : Int32), u) = res) (Bw D (tyW cI cZ cO) 17 a (cM cI cZ a) (AA 17 a s.heap.size)) (AA 17 a s.heap.size)) args s 0 0 (AA 17 a s.heap.size)) (k2 x1 x2 S) 2 [(0, .ref (a 0)), (1, .int x1), (2, .int x2)] [] S) (k10 : Int32 → Int32 → Int32 → St → Option (Int32 × St)) (hk10 : ∀ (x1 : Int32) (x2 : Int32) (x3 : Int32) (S : St), GF p l e rX9_bathes s m args below meth c D 17 a (cM cI cZ a) (AA 17 a s.heap.size) 4 0 0 (fun res => MQ below (va_Qv (fun u => ((0 : Int32), u) = res) (Bw D (tyW cI cZ cO) 17 a (cM cI cZ a) (AA 17 a s.heap.size)) (AA 17 a s.heap.size)) args s 0 0 (AA 17 a s.heap.size)) (k10 x1 x2 x3 S) 10 [(0, .ref (a 0)), (1, .int x1), (2, .int x2), (3, .int x3)] [] S) (x1 : Int32) (x2 : Int32) (x3 : Int32) (S : St) : GF p l e rX9_bathes s m args below meth c D 17 a (cM cI cZ a) (AA 17 a s.heap.size) 4 0 0 (fun res => MQ below (va_Qv (fun u => ((0 : Int32), u) = res) (Bw D (tyW cI cZ cO) 17 a (cM cI cZ a) (AA 17 a s.heap.size)) (AA 17 a s.heap.size)) args s 0 0 (AA 17 a s.heap.size)) (bX9_bathes_10 k2 k10 x1 x2 x3 S) 10 [(0, .ref (a 0)), (1, .int x1), (2, .int x2), (3, .int x3)] [] S := by
  unfold bX9_bathes_10
  refine g_iload_n (j := 3) hc dX9_bathes_10 rfl rfl ?_
  refine g_aload_n (j := 0) hc dX9_bathes_11 rfl rfl ?_
  refine g_get (C0 := RX9) (T := TX9) (M := 24) (k := 0) (ci := 9) hc inX9_bathes_X9 (by decide) rfl rfl 2 (by decide) (List.mem_of_getElem? (i := 1) rfl) rfl rfl dX9_bathes_12 ?_
  refine g_icmp_ge (tgt := 69) hc dX9_bathes_15 (by decide) ?_ ?_
  · refine g_iinc (j := 2) (w := x2 + 1) (L := fun v1 => [(2, .int v1), (0, .ref (a 0)), (1, .int x1), (3, .int x3)]) hc dX9_bathes_69 rfl (by rfl) (by decide) (fun _ => rfl) (fun v1 => ?_)
    refine g_goto (tgt := 2) hc dX9_bathes_72 (by decide) ?_
    refine g_lv [1, 2, 0] rfl ?_
    exact hk2 x1 v1 S
  · refine g_aload_n (j := 0) hc dX9_bathes_18 rfl rfl ?_
    refine g_get (C0 := RX9) (T := TX9) (M := 24) (k := 0) (ci := 9) hc inX9_bathes_X9 (by decide) rfl rfl 13 (by decide) (List.mem_of_getElem? (i := 2) rfl) rfl rfl dX9_bathes_19 ?_
    refine g_bipush (v := 24) hc dX9_bathes_22 (by decide) ?_
    refine g_iload_n (j := 2) hc dX9_bathes_24 rfl rfl ?_
    refine g_imul hc dX9_bathes_25 ?_
    refine g_iload_n (j := 3) hc dX9_bathes_26 rfl rfl ?_
    refine g_iadd hc dX9_bathes_27 ?_
    refine g_zald (k := 9) (t0 := 1) hc (by decide) rfl rfl dX9_bathes_28 ?_
    refine g_if_ne (tgt := 63) hc dX9_bathes_29 (by decide) ?_ ?_
    · exact tX9_bathes_63 hc hr hlk hE k2 hk2 k10 hk10 x1 x2 x3 S
    · refine g_aload_n (j := 0) hc dX9_bathes_32 rfl rfl ?_
      refine g_get (C0 := RX9) (T := TX9) (M := 24) (k := 0) (ci := 9) hc inX9_bathes_X9 (by decide) rfl rfl 6 (by decide) (List.mem_of_getElem? (i := 3) rfl) rfl rfl dX9_bathes_33 ?_
      refine g_bipush (v := 24) hc dX9_bathes_36 (by decide) ?_
      refine g_iload_n (j := 2) hc dX9_bathes_38 rfl rfl ?_
      refine g_imul hc dX9_bathes_39 ?_
      refine g_iload_n (j := 3) hc dX9_bathes_40 rfl rfl ?_
      refine g_iadd hc dX9_bathes_41 ?_
      refine g_aload_n (j := 0) hc dX9_bathes_42 rfl rfl ?_
      refine g_get (C0 := RX9) (T := TX9) (M := 24) (k := 0) (ci := 9) hc inX9_bathes_X9 (by decide) rfl rfl 7 (by decide) (List.mem_of_getElem? (i := 4) rfl) rfl rfl dX9_bathes_43 ?_
      refine g_iconst (v := 4) hc dX9_bathes_46 (by decide) ?_
      refine g_aload_n (j := 0) hc dX9_bathes_47 rfl rfl ?_
      refine g_get (C0 := RX9) (T := TX9) (M := 24) (k := 0) (ci := 9) hc inX9_bathes_X9 (by decide) rfl rfl 6 (by decide) (List.mem_of_getElem? (i := 3) rfl) rfl rfl dX9_bathes_48 ?_
      refine g_bipush (v := 24) hc dX9_bathes_51 (by decide) ?_
      refine g_iload_n (j := 2) hc dX9_bathes_53 rfl rfl ?_
      refine g_imul hc dX9_bathes_54 ?_
      refine g_iload_n (j := 3) hc dX9_bathes_55 rfl rfl ?_
      refine g_iadd hc dX9_bathes_56 ?_
      refine g_iald (k := 2) (t0 := 0) hc (by decide) rfl rfl dX9_bathes_57 ?_
      refine g_imul hc dX9_bathes_58 ?_
      refine g_iload_n (j := 1) hc dX9_bathes_59 rfl rfl ?_
      refine g_iadd hc dX9_bathes_60 ?_
      refine g_iald (k := 3) (t0 := 0) hc (by decide) rfl rfl dX9_bathes_61 ?_
      refine g_iast (k := 2) (t0 := 0) hc locM (by decide) rfl rfl rfl dX9_bathes_62 (fun S2 => ?_)
      exact tX9_bathes_63 hc hr hlk hE k2 hk2 k10 hk10 x1 x2 x3 S2
set_option maxHeartbeats 4000000 in
set_option maxRecDepth 100000 in
theorem TX9_bathes_10 {p : Program} {e : Env} {s : State} {m : MethodId} {args : Array Value} {below : List Frame} {meth : Method} {c : Code} (hc : CT p s m args c cX9_bathes 4 RX9 wsX9_bathes D (tyW cI cZ cO)) (hr : meth.sig.returnType = none) (hlk : meth.locks = false) (hE : EvM (AA 17 a s.heap.size) s) (k2 : Int32 → Int32 → St → Option (Int32 × St)) (hk2 : ∀ (x1 : Int32) (x2 : Int32) (S : St), GF p l e rX9_bathes s m args below meth c D 17 a (cM cI cZ a) (AA 17 a s.heap.size) 4 0 0 (fun res => MQ below (va_Qv (fun u => ((0 : Int32), u) = res) (Bw D (tyW cI cZ cO) 17 a (cM cI cZ a) (AA 17 a s.heap.size)) (AA 17 a s.heap.size)) args s 0 0 (AA 17 a s.heap.size)) (k2 x1 x2 S) 2 [(0, .ref (a 0)), (1, .int x1), (2, .int x2)] [] S) (n : Nat) (x1 : Int32) (x2 : Int32) (x3 : Int32) (S : St) : GF p l e rX9_bathes s m args below meth c D 17 a (cM cI cZ a) (AA 17 a s.heap.size) 4 0 0 (fun res => MQ below (va_Qv (fun u => ((0 : Int32), u) = res) (Bw D (tyW cI cZ cO) 17 a (cM cI cZ a) (AA 17 a s.heap.size)) (AA 17 a s.heap.size)) args s 0 0 (AA 17 a s.heap.size)) (lX9_bathes_10 k2 n x1 x2 x3 S) 10 [(0, .ref (a 0)), (1, .int x1), (2, .int x2), (3, .int x3)] [] S :=
  lp_ind (P := fun k : Int32 → Int32 → Int32 → St → Option (Int32 × St) => ∀ (x1 : Int32) (x2 : Int32) (x3 : Int32) (S : St), GF p l e rX9_bathes s m args below meth c D 17 a (cM cI cZ a) (AA 17 a s.heap.size) 4 0 0 (fun res => MQ below (va_Qv (fun u => ((0 : Int32), u) = res) (Bw D (tyW cI cZ cO) 17 a (cM cI cZ a) (AA 17 a s.heap.size)) (AA 17 a s.heap.size)) args s 0 0 (AA 17 a s.heap.size)) (k x1 x2 x3 S) 10 [(0, .ref (a 0)), (1, .int x1), (2, .int x2), (3, .int x3)] [] S) (fun _ _ _ _ => g_none) (fun k10 hk10 => tX9_bathes_10 hc hr hlk hE k2 hk2 k10 hk10) n x1 x2 x3 S
set_option maxHeartbeats 4000000 in
set_option maxRecDepth 100000 in
theorem tX9_bathes_2 {p : Program} {e : Env} {s : State} {m : MethodId} {args : Array Value} {below : List Frame} {meth : Method} {c : Code} (hc : CT p s m args c cX9_bathes 4 RX9 wsX9_bathes D (tyW cI cZ cO)) (hr : meth.sig.returnType = none) (hlk : meth.locks = false) (hE : EvM (AA 17 a s.heap.size) s) (k2 : Int32 → Int32 → St → Option (Int32 × St)) (hk2 : ∀ (x1 : Int32) (x2 : Int32) (S : St), GF p l e rX9_bathes s m args below meth c D 17 a (cM cI cZ a) (AA 17 a s.heap.size) 4 0 0 (fun res => MQ below (va_Qv (fun u => ((0 : Int32), u) = res) (Bw D (tyW cI cZ cO) 17 a (cM cI cZ a) (AA 17 a s.heap.size)) (AA 17 a s.heap.size)) args s 0 0 (AA 17 a s.heap.size)) (k2 x1 x2 S) 2 [(0, .ref (a 0)), (1, .int x1), (2, .int x2)] [] S) (x1 : Int32) (x2 : Int32) (S : St) : GF p l e rX9_bathes s m args below meth c D 17 a (cM cI cZ a) (AA 17 a s.heap.size) 4 0 0 (fun res => MQ below (va_Qv (fun u => ((0 : Int32), u) = res) (Bw D (tyW cI cZ cO) 17 a (cM cI cZ a) (AA 17 a s.heap.size)) (AA 17 a s.heap.size)) args s 0 0 (AA 17 a s.heap.size)) (bX9_bathes_2 k2 x1 x2 S) 2 [(0, .ref (a 0)), (1, .int x1), (2, .int x2)] [] S := by
  unfold bX9_bathes_2
  refine g_iload_n (j := 2) hc dX9_bathes_2 rfl rfl ?_
  refine g_bipush (v := 8) hc dX9_bathes_3 (by decide) ?_
  refine g_icmp_ge (tgt := 75) hc dX9_bathes_5 (by decide) ?_ ?_
  · refine g_aload_n (j := 0) hc dX9_bathes_75 rfl rfl ?_
    refine g_dup hc dX9_bathes_76 rfl ?_
    refine g_get (C0 := RX9) (T := TX9) (M := 24) (k := 0) (ci := 9) hc inX9_bathes_X9 (by decide) rfl rfl 3 (by decide) (List.mem_of_getElem? (i := 5) rfl) rfl rfl dX9_bathes_77 ?_
    refine g_iconst (v := 1) hc dX9_bathes_80 (by decide) ?_
    refine g_iadd hc dX9_bathes_81 ?_
    refine g_put (ty := .int) (C0 := RX9) (T := TX9) (M := 24) (k := 0) (ci := 9) hc locM tyX9 tyX9_ok nmX9 inX9_bathes_X9 (by decide) rfl rfl 3 (by decide) (List.mem_of_getElem? (i := 5) rfl) rfl rfl (by decide +kernel) rfl rfl (Nat.le_of_ble_eq_true rfl) rfl rfl dX9_bathes_82 (fun S1 => ?_)
    exact g_vret hc hr hlk dX9_bathes_85
  · refine g_iconst (v := 0) hc dX9_bathes_8 (by decide) ?_
    refine g_istore_n (L := fun v2 => [(3, .int v2), (0, .ref (a 0)), (1, .int x1), (2, .int x2)]) hc dX9_bathes_9 rfl (by decide) (fun _ => rfl) (fun v2 => ?_)
    refine g_lv [1, 2, 3, 0] rfl ?_
    exact TX9_bathes_10 hc hr hlk hE k2 hk2 FU x1 x2 v2 S
set_option maxHeartbeats 4000000 in
set_option maxRecDepth 100000 in
theorem TX9_bathes_2 {p : Program} {e : Env} {s : State} {m : MethodId} {args : Array Value} {below : List Frame} {meth : Method} {c : Code} (hc : CT p s m args c cX9_bathes 4 RX9 wsX9_bathes D (tyW cI cZ cO)) (hr : meth.sig.returnType = none) (hlk : meth.locks = false) (hE : EvM (AA 17 a s.heap.size) s) (n : Nat) (x1 : Int32) (x2 : Int32) (S : St) : GF p l e rX9_bathes s m args below meth c D 17 a (cM cI cZ a) (AA 17 a s.heap.size) 4 0 0 (fun res => MQ below (va_Qv (fun u => ((0 : Int32), u) = res) (Bw D (tyW cI cZ cO) 17 a (cM cI cZ a) (AA 17 a s.heap.size)) (AA 17 a s.heap.size)) args s 0 0 (AA 17 a s.heap.size)) (lX9_bathes_2 n x1 x2 S) 2 [(0, .ref (a 0)), (1, .int x1), (2, .int x2)] [] S :=
  lp_ind (P := fun k : Int32 → Int32 → St → Option (Int32 × St) => ∀ (x1 : Int32) (x2 : Int32) (S : St), GF p l e rX9_bathes s m args below meth c D 17 a (cM cI cZ a) (AA 17 a s.heap.size) 4 0 0 (fun res => MQ below (va_Qv (fun u => ((0 : Int32), u) = res) (Bw D (tyW cI cZ cO) 17 a (cM cI cZ a) (AA 17 a s.heap.size)) (AA 17 a s.heap.size)) args s 0 0 (AA 17 a s.heap.size)) (k x1 x2 S) 2 [(0, .ref (a 0)), (1, .int x1), (2, .int x2)] [] S) (fun _ _ _ => g_none) (fun k2 hk2 => tX9_bathes_2 hc hr hlk hE k2 hk2) n x1 x2 S
set_option maxHeartbeats 4000000 in
set_option maxRecDepth 100000 in
theorem mX9_bathes (x1 : Int32) (S : St) : ∀ q, uX9_bathes x1 S = some q → Kv l yX9_bathes wsX9_bathes rX9_bathes D (tyW cI cZ cO) 17 a (cM cI cZ a) (EvM) [.ref (a 0), .int x1] S q := by
  refine m_Kv (cc := cX9_bathes) (nL := 4) (ret := none) (lv := [(0, .ref (a 0)), (1, .int x1)]) (by decide) rfl (Nat.le_of_ble_eq_true rfl) rfl ?_
  intro p e s m args below meth c hc hr hlk hE
  unfold uX9_bathes
  refine g_iconst (v := 0) hc dX9_bathes_0 (by decide) ?_
  refine g_istore_n (L := fun v1 => [(2, .int v1), (0, .ref (a 0)), (1, .int x1)]) hc dX9_bathes_1 rfl (by decide) (fun _ => rfl) (fun v1 => ?_)
  refine g_lv [1, 2, 0] rfl ?_
  exact TX9_bathes_2 hc hr hlk hE FU x1 v1 S
set_option maxHeartbeats 4000000 in
set_option maxRecDepth 100000 in
theorem tX9_bath_20 {p : Program} {e : Env} {s : State} {m : MethodId} {args : Array Value} {below : List Frame} {meth : Method} {c : Code} (hc : CT p s m args c cX9_bath 3 RX9 wsX9_bath D (tyW cI cZ cO)) (hr : meth.sig.returnType = (some .int)) (hlk : meth.locks = false) (hE : EvM (AA 17 a s.heap.size) s) (x1 : Int32) (y1 : Int32) (S : St) : GF p l e rX9_bath s m args below meth c D 17 a (cM cI cZ a) (AA 17 a s.heap.size) 3 0 0 (fun res => MQ below (va_Qi (fun r u => (r, u) = res) (Bw D (tyW cI cZ cO) 17 a (cM cI cZ a) (AA 17 a s.heap.size)) (AA 17 a s.heap.size)) args s 0 0 (AA 17 a s.heap.size)) (bX9_bath_20 x1 y1 S) 20 [(0, .ref (a 0)), (1, .int x1)] [.int y1, .ref (a 0)] S := by
  unfold bX9_bath_20
  refine g_iconst (v := 1) hc dX9_bath_20 (by decide) ?_
  refine g_callVi (As := [.int y1, .int 1]) (rest := []) (k := 0) (ci := 9) (q0 := (RX9, TX9, 24)) hc hE trM rfl (fun _ h => mX9_right y1 1 S _ h) (cwV 2 hc.1.2.2.2.2 gX9_bath_X9_right rfl rfl rfl (by decide +kernel) ⟨by decide, by decide⟩) (by decide) rfl rfl rfl rfl (Nat.le_of_ble_eq_true rfl) dX9_bath_21 ⟨by decide, by decide⟩ (fun v1 S2 => ?_)
  refine g_if_ne (tgt := 29) hc dX9_bath_24 (by decide) ?_ ?_
  · refine g_aload_n (j := 0) hc dX9_bath_29 rfl rfl ?_
    refine g_callVi (As := []) (rest := []) (k := 0) (ci := 9) (q0 := (RX9, TX9, 24)) hc hE trM rfl (fun _ h => mX9_taken S2 _ h) (cwV 0 hc.1.2.2.2.2 gX9_bath_X9_taken rfl rfl rfl (by decide +kernel) ⟨by decide, by decide⟩) (by decide) rfl rfl rfl rfl (Nat.le_of_ble_eq_true rfl) dX9_bath_30 ⟨by decide, by decide⟩ (fun v3 S4 => ?_)
    refine g_istore_n (L := fun v5 => [(2, .int v5), (0, .ref (a 0)), (1, .int x1)]) hc dX9_bath_33 rfl (by decide) (fun _ => rfl) (fun v5 => ?_)
    refine g_aload_n (j := 1) hc dX9_bath_34 rfl rfl ?_
    refine g_get (C0 := RX9) (T := TX9) (M := 24) (k := 0) (ci := 9) hc inX9_bath_X9 (by decide) rfl rfl 8 (by decide) (List.mem_of_getElem? (i := 2) rfl) rfl rfl dX9_bath_35 ?_
    refine g_iload_n (j := 2) hc dX9_bath_38 rfl rfl ?_
    refine g_iald (k := 4) (t0 := 0) hc (by decide) rfl rfl dX9_bath_39 ?_
    refine g_iload_n (j := 0) hc dX9_bath_40 rfl rfl ?_
    refine g_icmp_ge (tgt := 46) hc dX9_bath_41 (by decide) ?_ ?_
    · refine g_aload_n (j := 1) hc dX9_bath_46 rfl rfl ?_
      refine g_get (C0 := RX9) (T := TX9) (M := 24) (k := 0) (ci := 9) hc inX9_bath_X9 (by decide) rfl rfl 8 (by decide) (List.mem_of_getElem? (i := 2) rfl) rfl rfl dX9_bath_47 ?_
      refine g_iload_n (j := 2) hc dX9_bath_50 rfl rfl ?_
      refine g_dup2 hc dX9_bath_51 rfl rfl ?_
      refine g_iald (k := 4) (t0 := 0) hc (by decide) rfl rfl dX9_bath_52 ?_
      refine g_iload_n (j := 0) hc dX9_bath_53 rfl rfl ?_
      refine g_isub hc dX9_bath_54 ?_
      refine g_iast (k := 4) (t0 := 0) hc locM (by decide) rfl rfl rfl dX9_bath_55 (fun S6 => ?_)
      refine g_aload_n (j := 1) hc dX9_bath_56 rfl rfl ?_
      refine g_iload_n (j := 2) hc dX9_bath_57 rfl rfl ?_
      refine g_callVv (As := [.int x1]) (rest := []) (k := 0) (ci := 9) (q0 := (RX9, TX9, 24)) hc hE trM rfl (fun _ h => mX9_bathes x1 S6 _ h) (cwV 1 hc.1.2.2.2.2 gX9_bath_X9_bathes rfl rfl rfl (by decide +kernel) ⟨by decide, by decide⟩) (by decide) rfl rfl rfl rfl (Nat.le_of_ble_eq_true rfl) dX9_bath_58 ⟨by decide, by decide⟩ (fun S8 => ?_)
      refine g_iload_n (j := 0) hc dX9_bath_61 rfl rfl ?_
      exact g_iret hc hr hlk dX9_bath_62
    · refine g_iconst (v := -1) hc dX9_bath_44 (by decide) ?_
      exact g_iret hc hr hlk dX9_bath_45
  · refine g_iconst (v := 0) hc dX9_bath_27 (by decide) ?_
    exact g_iret hc hr hlk dX9_bath_28
set_option maxHeartbeats 4000000 in
set_option maxRecDepth 100000 in
theorem tX9_bath_19 {p : Program} {e : Env} {s : State} {m : MethodId} {args : Array Value} {below : List Frame} {meth : Method} {c : Code} (hc : CT p s m args c cX9_bath 3 RX9 wsX9_bath D (tyW cI cZ cO)) (hr : meth.sig.returnType = (some .int)) (hlk : meth.locks = false) (hE : EvM (AA 17 a s.heap.size) s) (x1 : Int32) (S : St) : GF p l e rX9_bath s m args below meth c D 17 a (cM cI cZ a) (AA 17 a s.heap.size) 3 0 0 (fun res => MQ below (va_Qi (fun r u => (r, u) = res) (Bw D (tyW cI cZ cO) 17 a (cM cI cZ a) (AA 17 a s.heap.size)) (AA 17 a s.heap.size)) args s 0 0 (AA 17 a s.heap.size)) (bX9_bath_19 x1 S) 19 [(0, .ref (a 0)), (1, .int x1)] [.ref (a 0)] S := by
  unfold bX9_bath_19
  refine g_iconst (v := 0) hc dX9_bath_19 (by decide) ?_
  exact tX9_bath_20 hc hr hlk hE x1 0 S
set_option maxHeartbeats 4000000 in
set_option maxRecDepth 100000 in
theorem mX9_bath (x1 : Int32) (S : St) : ∀ q, uX9_bath x1 S = some q → Ki l yX9_bath wsX9_bath rX9_bath D (tyW cI cZ cO) 17 a (cM cI cZ a) (EvM) [.ref (a 0), .int x1] S q := by
  refine m_Ki (cc := cX9_bath) (nL := 3) (ret := (some .int)) (lv := [(0, .ref (a 0)), (1, .int x1)]) (by decide) rfl (Nat.le_of_ble_eq_true rfl) rfl ?_
  intro p e s m args below meth c hc hr hlk hE
  unfold uX9_bath
  refine g_aload_n (j := 0) hc dX9_bath_0 rfl rfl ?_
  refine g_iconst (v := 0) hc dX9_bath_1 (by decide) ?_
  refine g_put (ty := .int) (C0 := RX9) (T := TX9) (M := 24) (k := 0) (ci := 9) hc locM tyX9 tyX9_ok nmX9 inX9_bath_X9 (by decide) rfl rfl 0 (by decide) (List.mem_of_getElem? (i := 1) rfl) rfl rfl (by decide +kernel) rfl rfl (Nat.le_of_ble_eq_true rfl) rfl rfl dX9_bath_2 (fun S1 => ?_)
  refine g_aload_n (j := 0) hc dX9_bath_5 rfl rfl ?_
  refine g_iload_n (j := 1) hc dX9_bath_6 rfl rfl ?_
  refine g_if_lt (tgt := 19) hc dX9_bath_7 (by decide) ?_ ?_
  · exact tX9_bath_19 hc hr hlk hE x1 S1
  · refine g_iload_n (j := 1) hc dX9_bath_10 rfl rfl ?_
    refine g_iconst (v := 4) hc dX9_bath_11 (by decide) ?_
    refine g_icmp_ge (tgt := 19) hc dX9_bath_12 (by decide) ?_ ?_
    · exact tX9_bath_19 hc hr hlk hE x1 S1
    · refine g_iconst (v := 1) hc dX9_bath_15 (by decide) ?_
      refine g_goto (tgt := 20) hc dX9_bath_16 (by decide) ?_
      exact tX9_bath_20 hc hr hlk hE x1 1 S1
set_option maxHeartbeats 4000000 in
set_option maxRecDepth 100000 in
theorem mX9_colourOf (x1 : Int32) (x2 : Int32) (S : St) : ∀ q, uX9_colourOf x1 x2 S = some q → Ki l yX9_colourOf wsX9_colourOf rX9_colourOf D (tyW cI cZ cO) 17 a (cM cI cZ a) (EvM) [.ref (a 0), .int x1, .int x2] S q := by
  refine m_Ki (cc := cX9_colourOf) (nL := 3) (ret := (some .int)) (lv := [(0, .ref (a 0)), (1, .int x1), (2, .int x2)]) (by decide) rfl (Nat.le_of_ble_eq_true rfl) rfl ?_
  intro p e s m args below meth c hc hr hlk hE
  unfold uX9_colourOf
  refine g_aload_n (j := 0) hc dX9_colourOf_0 rfl rfl ?_
  refine g_get (C0 := RX9) (T := TX9) (M := 24) (k := 0) (ci := 9) hc inX9_colourOf_X9 (by decide) rfl rfl 6 (by decide) (List.mem_of_getElem? (i := 1) rfl) rfl rfl dX9_colourOf_1 ?_
  refine g_bipush (v := 24) hc dX9_colourOf_4 (by decide) ?_
  refine g_aload_n (j := 0) hc dX9_colourOf_6 rfl rfl ?_
  refine g_get (C0 := RX9) (T := TX9) (M := 24) (k := 0) (ci := 9) hc inX9_colourOf_X9 (by decide) rfl rfl 5 (by decide) (List.mem_of_getElem? (i := 2) rfl) rfl rfl dX9_colourOf_7 ?_
  refine g_iload_n (j := 1) hc dX9_colourOf_10 rfl rfl ?_
  refine g_iald (k := 1) (t0 := 0) hc (by decide) rfl rfl dX9_colourOf_11 ?_
  refine g_imul hc dX9_colourOf_12 ?_
  refine g_iload_n (j := 2) hc dX9_colourOf_13 rfl rfl ?_
  refine g_iadd hc dX9_colourOf_14 ?_
  refine g_iald (k := 2) (t0 := 0) hc (by decide) rfl rfl dX9_colourOf_15 ?_
  exact g_iret hc hr hlk dX9_colourOf_16
set_option maxHeartbeats 4000000 in
set_option maxRecDepth 100000 in
theorem tX9_colour_31 {p : Program} {e : Env} {s : State} {m : MethodId} {args : Array Value} {below : List Frame} {meth : Method} {c : Code} (hc : CT p s m args c cX9_colour 3 RX9 wsX9_colour D (tyW cI cZ cO)) (hr : meth.sig.returnType = (some .int)) (hlk : meth.locks = false) (hE : EvM (AA 17 a s.heap.size) s) (y0 : Int32) (S : St) : GF p l e rX9_colour s m args below meth c D 17 a (cM cI cZ a) (AA 17 a s.heap.size) 3 0 0 (fun res => MQ below (va_Qi (fun r u => (r, u) = res) (Bw D (tyW cI cZ cO) 17 a (cM cI cZ a) (AA 17 a s.heap.size)) (AA 17 a s.heap.size)) args s 0 0 (AA 17 a s.heap.size)) (bX9_colour_31 y0 S) 31 [] [.int y0] S := by
  unfold bX9_colour_31
  exact g_iret hc hr hlk dX9_colour_31
set_option maxHeartbeats 4000000 in
set_option maxRecDepth 100000 in
theorem tX9_colour_30 {p : Program} {e : Env} {s : State} {m : MethodId} {args : Array Value} {below : List Frame} {meth : Method} {c : Code} (hc : CT p s m args c cX9_colour 3 RX9 wsX9_colour D (tyW cI cZ cO)) (hr : meth.sig.returnType = (some .int)) (hlk : meth.locks = false) (hE : EvM (AA 17 a s.heap.size) s) (S : St) : GF p l e rX9_colour s m args below meth c D 17 a (cM cI cZ a) (AA 17 a s.heap.size) 3 0 0 (fun res => MQ below (va_Qi (fun r u => (r, u) = res) (Bw D (tyW cI cZ cO) 17 a (cM cI cZ a) (AA 17 a s.heap.size)) (AA 17 a s.heap.size)) args s 0 0 (AA 17 a s.heap.size)) (bX9_colour_30 S) 30 [] [] S := by
  unfold bX9_colour_30
  refine g_iconst (v := 0) hc dX9_colour_30 (by decide) ?_
  exact tX9_colour_31 hc hr hlk hE 0 S
set_option maxHeartbeats 4000000 in
set_option maxRecDepth 100000 in
theorem mX9_colour (x1 : Int32) (x2 : Int32) (S : St) : ∀ q, uX9_colour x1 x2 S = some q → Ki l yX9_colour wsX9_colour rX9_colour D (tyW cI cZ cO) 17 a (cM cI cZ a) (EvM) [.ref (a 0), .int x1, .int x2] S q := by
  refine m_Ki (cc := cX9_colour) (nL := 3) (ret := (some .int)) (lv := [(0, .ref (a 0)), (1, .int x1), (2, .int x2)]) (by decide) rfl (Nat.le_of_ble_eq_true rfl) rfl ?_
  intro p e s m args below meth c hc hr hlk hE
  unfold uX9_colour
  refine g_aload_n (j := 0) hc dX9_colour_0 rfl rfl ?_
  refine g_iconst (v := 0) hc dX9_colour_1 (by decide) ?_
  refine g_put (ty := .int) (C0 := RX9) (T := TX9) (M := 24) (k := 0) (ci := 9) hc locM tyX9 tyX9_ok nmX9 inX9_colour_X9 (by decide) rfl rfl 0 (by decide) (List.mem_of_getElem? (i := 1) rfl) rfl rfl (by decide +kernel) rfl rfl (Nat.le_of_ble_eq_true rfl) rfl rfl dX9_colour_2 (fun S1 => ?_)
  refine g_aload_n (j := 0) hc dX9_colour_5 rfl rfl ?_
  refine g_iload_n (j := 1) hc dX9_colour_6 rfl rfl ?_
  refine g_callVi (As := [.int x1]) (rest := []) (k := 0) (ci := 9) (q0 := (RX9, TX9, 24)) hc hE trM rfl (fun _ h => mX9_isThread x1 S1 _ h) (cwV 1 hc.1.2.2.2.2 gX9_colour_X9_isThread rfl rfl rfl (by decide +kernel) ⟨by decide, by decide⟩) (by decide) rfl rfl rfl rfl (Nat.le_of_ble_eq_true rfl) dX9_colour_7 ⟨by decide, by decide⟩ (fun v2 S3 => ?_)
  refine g_if_eq (tgt := 30) hc dX9_colour_10 (by decide) ?_ ?_
  · refine g_lv [] rfl ?_
    exact tX9_colour_30 hc hr hlk hE S3
  · refine g_aload_n (j := 0) hc dX9_colour_13 rfl rfl ?_
    refine g_iload_n (j := 2) hc dX9_colour_14 rfl rfl ?_
    refine g_callVi (As := [.int x2]) (rest := []) (k := 0) (ci := 9) (q0 := (RX9, TX9, 24)) hc hE trM rfl (fun _ h => mX9_isPlace x2 S3 _ h) (cwV 1 hc.1.2.2.2.2 gX9_colour_X9_isPlace rfl rfl rfl (by decide +kernel) ⟨by decide, by decide⟩) (by decide) rfl rfl rfl rfl (Nat.le_of_ble_eq_true rfl) dX9_colour_15 ⟨by decide, by decide⟩ (fun v4 S5 => ?_)
    refine g_if_eq (tgt := 30) hc dX9_colour_18 (by decide) ?_ ?_
    · refine g_lv [] rfl ?_
      exact tX9_colour_30 hc hr hlk hE S5
    · refine g_aload_n (j := 0) hc dX9_colour_21 rfl rfl ?_
      refine g_iload_n (j := 1) hc dX9_colour_22 rfl rfl ?_
      refine g_iload_n (j := 2) hc dX9_colour_23 rfl rfl ?_
      refine g_callVi (As := [.int x1, .int x2]) (rest := []) (k := 0) (ci := 9) (q0 := (RX9, TX9, 24)) hc hE trM rfl (fun _ h => mX9_colourOf x1 x2 S5 _ h) (cwV 2 hc.1.2.2.2.2 gX9_colour_X9_colourOf rfl rfl rfl (by decide +kernel) ⟨by decide, by decide⟩) (by decide) rfl rfl rfl rfl (Nat.le_of_ble_eq_true rfl) dX9_colour_24 ⟨by decide, by decide⟩ (fun v6 S7 => ?_)
      refine g_goto (tgt := 31) hc dX9_colour_27 (by decide) ?_
      refine g_lv [] rfl ?_
      exact tX9_colour_31 hc hr hlk hE v6 S7
set_option maxHeartbeats 4000000 in
set_option maxRecDepth 100000 in
theorem tX9_bound_40 {p : Program} {e : Env} {s : State} {m : MethodId} {args : Array Value} {below : List Frame} {meth : Method} {c : Code} (hc : CT p s m args c cX9_bound 3 RX9 wsX9_bound D (tyW cI cZ cO)) (hr : meth.sig.returnType = (some .boolean)) (hlk : meth.locks = false) (hE : EvM (AA 17 a s.heap.size) s) (y0 : Int32) (S : St) : GF p l e rX9_bound s m args below meth c D 17 a (cM cI cZ a) (AA 17 a s.heap.size) 3 0 0 (fun res => MQ below (va_Qi (fun r u => (r, u) = res) (Bw D (tyW cI cZ cO) 17 a (cM cI cZ a) (AA 17 a s.heap.size)) (AA 17 a s.heap.size)) args s 0 0 (AA 17 a s.heap.size)) (bX9_bound_40 y0 S) 40 [] [.int y0] S := by
  unfold bX9_bound_40
  exact g_zret hc hr hlk dX9_bound_40
set_option maxHeartbeats 4000000 in
set_option maxRecDepth 100000 in
theorem tX9_bound_39 {p : Program} {e : Env} {s : State} {m : MethodId} {args : Array Value} {below : List Frame} {meth : Method} {c : Code} (hc : CT p s m args c cX9_bound 3 RX9 wsX9_bound D (tyW cI cZ cO)) (hr : meth.sig.returnType = (some .boolean)) (hlk : meth.locks = false) (hE : EvM (AA 17 a s.heap.size) s) (S : St) : GF p l e rX9_bound s m args below meth c D 17 a (cM cI cZ a) (AA 17 a s.heap.size) 3 0 0 (fun res => MQ below (va_Qi (fun r u => (r, u) = res) (Bw D (tyW cI cZ cO) 17 a (cM cI cZ a) (AA 17 a s.heap.size)) (AA 17 a s.heap.size)) args s 0 0 (AA 17 a s.heap.size)) (bX9_bound_39 S) 39 [] [] S := by
  unfold bX9_bound_39
  refine g_iconst (v := 0) hc dX9_bound_39 (by decide) ?_
  exact tX9_bound_40 hc hr hlk hE 0 S
set_option maxHeartbeats 4000000 in
set_option maxRecDepth 100000 in
theorem mX9_bound (x1 : Int32) (x2 : Int32) (S : St) : ∀ q, uX9_bound x1 x2 S = some q → Ki l yX9_bound wsX9_bound rX9_bound D (tyW cI cZ cO) 17 a (cM cI cZ a) (EvM) [.ref (a 0), .int x1, .int x2] S q := by
  refine m_Ki (cc := cX9_bound) (nL := 3) (ret := (some .boolean)) (lv := [(0, .ref (a 0)), (1, .int x1), (2, .int x2)]) (by decide) rfl (Nat.le_of_ble_eq_true rfl) rfl ?_
  intro p e s m args below meth c hc hr hlk hE
  unfold uX9_bound
  refine g_aload_n (j := 0) hc dX9_bound_0 rfl rfl ?_
  refine g_iconst (v := 0) hc dX9_bound_1 (by decide) ?_
  refine g_put (ty := .int) (C0 := RX9) (T := TX9) (M := 24) (k := 0) (ci := 9) hc locM tyX9 tyX9_ok nmX9 inX9_bound_X9 (by decide) rfl rfl 0 (by decide) (List.mem_of_getElem? (i := 1) rfl) rfl rfl (by decide +kernel) rfl rfl (Nat.le_of_ble_eq_true rfl) rfl rfl dX9_bound_2 (fun S1 => ?_)
  refine g_aload_n (j := 0) hc dX9_bound_5 rfl rfl ?_
  refine g_iload_n (j := 1) hc dX9_bound_6 rfl rfl ?_
  refine g_callVi (As := [.int x1]) (rest := []) (k := 0) (ci := 9) (q0 := (RX9, TX9, 24)) hc hE trM rfl (fun _ h => mX9_isBundle x1 S1 _ h) (cwV 1 hc.1.2.2.2.2 gX9_bound_X9_isBundle rfl rfl rfl (by decide +kernel) ⟨by decide, by decide⟩) (by decide) rfl rfl rfl rfl (Nat.le_of_ble_eq_true rfl) dX9_bound_7 ⟨by decide, by decide⟩ (fun v2 S3 => ?_)
  refine g_if_eq (tgt := 39) hc dX9_bound_10 (by decide) ?_ ?_
  · refine g_lv [] rfl ?_
    exact tX9_bound_39 hc hr hlk hE S3
  · refine g_aload_n (j := 0) hc dX9_bound_13 rfl rfl ?_
    refine g_iload_n (j := 2) hc dX9_bound_14 rfl rfl ?_
    refine g_callVi (As := [.int x2]) (rest := []) (k := 0) (ci := 9) (q0 := (RX9, TX9, 24)) hc hE trM rfl (fun _ h => mX9_isPlace x2 S3 _ h) (cwV 1 hc.1.2.2.2.2 gX9_bound_X9_isPlace rfl rfl rfl (by decide +kernel) ⟨by decide, by decide⟩) (by decide) rfl rfl rfl rfl (Nat.le_of_ble_eq_true rfl) dX9_bound_15 ⟨by decide, by decide⟩ (fun v4 S5 => ?_)
    refine g_if_eq (tgt := 39) hc dX9_bound_18 (by decide) ?_ ?_
    · refine g_lv [] rfl ?_
      exact tX9_bound_39 hc hr hlk hE S5
    · refine g_aload_n (j := 0) hc dX9_bound_21 rfl rfl ?_
      refine g_get (C0 := RX9) (T := TX9) (M := 24) (k := 0) (ci := 9) hc inX9_bound_X9 (by decide) rfl rfl 13 (by decide) (List.mem_of_getElem? (i := 2) rfl) rfl rfl dX9_bound_22 ?_
      refine g_bipush (v := 24) hc dX9_bound_25 (by decide) ?_
      refine g_iload_n (j := 1) hc dX9_bound_27 rfl rfl ?_
      refine g_imul hc dX9_bound_28 ?_
      refine g_iload_n (j := 2) hc dX9_bound_29 rfl rfl ?_
      refine g_iadd hc dX9_bound_30 ?_
      refine g_zald (k := 9) (t0 := 1) hc (by decide) rfl rfl dX9_bound_31 ?_
      refine g_if_eq (tgt := 39) hc dX9_bound_32 (by decide) ?_ ?_
      · refine g_lv [] rfl ?_
        exact tX9_bound_39 hc hr hlk hE S5
      · refine g_iconst (v := 1) hc dX9_bound_35 (by decide) ?_
        refine g_goto (tgt := 40) hc dX9_bound_36 (by decide) ?_
        refine g_lv [] rfl ?_
        exact tX9_bound_40 hc hr hlk hE 1 S5
set_option maxHeartbeats 4000000 in
set_option maxRecDepth 100000 in
theorem tX9_want_44 {p : Program} {e : Env} {s : State} {m : MethodId} {args : Array Value} {below : List Frame} {meth : Method} {c : Code} (hc : CT p s m args c cX9_want 5 RX9 wsX9_want D (tyW cI cZ cO)) (hr : meth.sig.returnType = (some .int)) (hlk : meth.locks = false) (hE : EvM (AA 17 a s.heap.size) s) (S : St) : GF p l e rX9_want s m args below meth c D 17 a (cM cI cZ a) (AA 17 a s.heap.size) 5 0 0 (fun res => MQ below (va_Qi (fun r u => (r, u) = res) (Bw D (tyW cI cZ cO) 17 a (cM cI cZ a) (AA 17 a s.heap.size)) (AA 17 a s.heap.size)) args s 0 0 (AA 17 a s.heap.size)) (bX9_want_44 S) 44 [] [] S := by
  unfold bX9_want_44
  refine g_iconst (v := 0) hc dX9_want_44 (by decide) ?_
  exact g_iret hc hr hlk dX9_want_45
set_option maxHeartbeats 4000000 in
set_option maxRecDepth 100000 in
theorem tX9_want_37 {p : Program} {e : Env} {s : State} {m : MethodId} {args : Array Value} {below : List Frame} {meth : Method} {c : Code} (hc : CT p s m args c cX9_want 5 RX9 wsX9_want D (tyW cI cZ cO)) (hr : meth.sig.returnType = (some .int)) (hlk : meth.locks = false) (hE : EvM (AA 17 a s.heap.size) s) (x1 : Int32) (x2 : Int32) (x3 : Int32) (y1 : Int32) (S : St) : GF p l e rX9_want s m args below meth c D 17 a (cM cI cZ a) (AA 17 a s.heap.size) 5 0 0 (fun res => MQ below (va_Qi (fun r u => (r, u) = res) (Bw D (tyW cI cZ cO) 17 a (cM cI cZ a) (AA 17 a s.heap.size)) (AA 17 a s.heap.size)) args s 0 0 (AA 17 a s.heap.size)) (bX9_want_37 x1 x2 x3 y1 S) 37 [(0, .ref (a 0)), (1, .int x1), (2, .int x2), (3, .int x3)] [.int y1, .ref (a 0)] S := by
  unfold bX9_want_37
  refine g_iconst (v := 2) hc dX9_want_37 (by decide) ?_
  refine g_callVi (As := [.int y1, .int 2]) (rest := []) (k := 0) (ci := 9) (q0 := (RX9, TX9, 24)) hc hE trM rfl (fun _ h => mX9_right y1 2 S _ h) (cwV 2 hc.1.2.2.2.2 gX9_want_X9_right rfl rfl rfl (by decide +kernel) ⟨by decide, by decide⟩) (by decide) rfl rfl rfl rfl (Nat.le_of_ble_eq_true rfl) dX9_want_38 ⟨by decide, by decide⟩ (fun v1 S2 => ?_)
  refine g_if_ne (tgt := 46) hc dX9_want_41 (by decide) ?_ ?_
  · refine g_aload_n (j := 0) hc dX9_want_46 rfl rfl ?_
    refine g_get (C0 := RX9) (T := TX9) (M := 24) (k := 0) (ci := 9) hc inX9_want_X9 (by decide) rfl rfl 9 (by decide) (List.mem_of_getElem? (i := 2) rfl) rfl rfl dX9_want_47 ?_
    refine g_bipush (v := 24) hc dX9_want_50 (by decide) ?_
    refine g_iload_n (j := 1) hc dX9_want_52 rfl rfl ?_
    refine g_imul hc dX9_want_53 ?_
    refine g_iload_n (j := 2) hc dX9_want_54 rfl rfl ?_
    refine g_iadd hc dX9_want_55 ?_
    refine g_iald (k := 5) (t0 := 0) hc (by decide) rfl rfl dX9_want_56 ?_
    refine g_istore (L := fun v3 => [(4, .int v3), (0, .ref (a 0)), (1, .int x1), (2, .int x2), (3, .int x3)]) hc dX9_want_57 (by decide) (fun _ => rfl) (fun v3 => ?_)
    refine g_aload_n (j := 1) hc dX9_want_59 rfl rfl ?_
    refine g_get (C0 := RX9) (T := TX9) (M := 24) (k := 0) (ci := 9) hc inX9_want_X9 (by decide) rfl rfl 9 (by decide) (List.mem_of_getElem? (i := 2) rfl) rfl rfl dX9_want_60 ?_
    refine g_bipush (v := 24) hc dX9_want_63 (by decide) ?_
    refine g_iload_n (j := 2) hc dX9_want_65 rfl rfl ?_
    refine g_imul hc dX9_want_66 ?_
    refine g_iload_n (j := 3) hc dX9_want_67 rfl rfl ?_
    refine g_iadd hc dX9_want_68 ?_
    refine g_iload_n (j := 4) hc dX9_want_69 rfl rfl ?_
    refine g_iast (k := 5) (t0 := 0) hc locM (by decide) rfl rfl rfl dX9_want_70 (fun S4 => ?_)
    refine g_aload_n (j := 1) hc dX9_want_71 rfl rfl ?_
    refine g_iconst (v := 0) hc dX9_want_72 (by decide) ?_
    refine g_put (ty := .boolean) (C0 := RX9) (T := TX9) (M := 24) (k := 0) (ci := 9) hc locM tyX9 tyX9_ok nmX9 inX9_want_X9 (by decide) rfl rfl 17 (by decide) (List.mem_of_getElem? (i := 3) rfl) rfl rfl (by decide +kernel) (by decide) (by decide) (Nat.le_of_ble_eq_true rfl) rfl rfl dX9_want_73 (fun S5 => ?_)
    refine g_iload (j := 0) hc dX9_want_76 rfl ?_
    exact g_iret hc hr hlk dX9_want_78
  · refine g_lv [] rfl ?_
    exact tX9_want_44 hc hr hlk hE S2
set_option maxHeartbeats 4000000 in
set_option maxRecDepth 100000 in
theorem tX9_want_36 {p : Program} {e : Env} {s : State} {m : MethodId} {args : Array Value} {below : List Frame} {meth : Method} {c : Code} (hc : CT p s m args c cX9_want 5 RX9 wsX9_want D (tyW cI cZ cO)) (hr : meth.sig.returnType = (some .int)) (hlk : meth.locks = false) (hE : EvM (AA 17 a s.heap.size) s) (x1 : Int32) (x2 : Int32) (x3 : Int32) (S : St) : GF p l e rX9_want s m args below meth c D 17 a (cM cI cZ a) (AA 17 a s.heap.size) 5 0 0 (fun res => MQ below (va_Qi (fun r u => (r, u) = res) (Bw D (tyW cI cZ cO) 17 a (cM cI cZ a) (AA 17 a s.heap.size)) (AA 17 a s.heap.size)) args s 0 0 (AA 17 a s.heap.size)) (bX9_want_36 x1 x2 x3 S) 36 [(0, .ref (a 0)), (1, .int x1), (2, .int x2), (3, .int x3)] [.ref (a 0)] S := by
  unfold bX9_want_36
  refine g_iconst (v := 0) hc dX9_want_36 (by decide) ?_
  exact tX9_want_37 hc hr hlk hE x1 x2 x3 0 S
set_option maxHeartbeats 4000000 in
set_option maxRecDepth 100000 in
theorem mX9_want (x1 : Int32) (x2 : Int32) (x3 : Int32) (S : St) : ∀ q, uX9_want x1 x2 x3 S = some q → Ki l yX9_want wsX9_want rX9_want D (tyW cI cZ cO) 17 a (cM cI cZ a) (EvM) [.ref (a 0), .int x1, .int x2, .int x3] S q := by
  refine m_Ki (cc := cX9_want) (nL := 5) (ret := (some .int)) (lv := [(0, .ref (a 0)), (1, .int x1), (2, .int x2), (3, .int x3)]) (by decide) rfl (Nat.le_of_ble_eq_true rfl) rfl ?_
  intro p e s m args below meth c hc hr hlk hE
  unfold uX9_want
  refine g_aload_n (j := 0) hc dX9_want_0 rfl rfl ?_
  refine g_iconst (v := 0) hc dX9_want_1 (by decide) ?_
  refine g_put (ty := .int) (C0 := RX9) (T := TX9) (M := 24) (k := 0) (ci := 9) hc locM tyX9 tyX9_ok nmX9 inX9_want_X9 (by decide) rfl rfl 0 (by decide) (List.mem_of_getElem? (i := 1) rfl) rfl rfl (by decide +kernel) rfl rfl (Nat.le_of_ble_eq_true rfl) rfl rfl dX9_want_2 (fun S1 => ?_)
  refine g_aload_n (j := 0) hc dX9_want_5 rfl rfl ?_
  refine g_iload_n (j := 1) hc dX9_want_6 rfl rfl ?_
  refine g_callVi (As := [.int x1]) (rest := []) (k := 0) (ci := 9) (q0 := (RX9, TX9, 24)) hc hE trM rfl (fun _ h => mX9_isThread x1 S1 _ h) (cwV 1 hc.1.2.2.2.2 gX9_want_X9_isThread rfl rfl rfl (by decide +kernel) ⟨by decide, by decide⟩) (by decide) rfl rfl rfl rfl (Nat.le_of_ble_eq_true rfl) dX9_want_7 ⟨by decide, by decide⟩ (fun v2 S3 => ?_)
  refine g_if_eq (tgt := 44) hc dX9_want_10 (by decide) ?_ ?_
  · refine g_lv [] rfl ?_
    exact tX9_want_44 hc hr hlk hE S3
  · refine g_aload_n (j := 0) hc dX9_want_13 rfl rfl ?_
    refine g_iload_n (j := 2) hc dX9_want_14 rfl rfl ?_
    refine g_callVi (As := [.int x2]) (rest := []) (k := 0) (ci := 9) (q0 := (RX9, TX9, 24)) hc hE trM rfl (fun _ h => mX9_isPlace x2 S3 _ h) (cwV 1 hc.1.2.2.2.2 gX9_want_X9_isPlace rfl rfl rfl (by decide +kernel) ⟨by decide, by decide⟩) (by decide) rfl rfl rfl rfl (Nat.le_of_ble_eq_true rfl) dX9_want_15 ⟨by decide, by decide⟩ (fun v4 S5 => ?_)
    refine g_if_eq (tgt := 44) hc dX9_want_18 (by decide) ?_ ?_
    · refine g_lv [] rfl ?_
      exact tX9_want_44 hc hr hlk hE S5
    · refine g_aload_n (j := 0) hc dX9_want_21 rfl rfl ?_
      refine g_iload_n (j := 3) hc dX9_want_22 rfl rfl ?_
      refine g_if_lt (tgt := 36) hc dX9_want_23 (by decide) ?_ ?_
      · exact tX9_want_36 hc hr hlk hE x1 x2 x3 S5
      · refine g_iload_n (j := 3) hc dX9_want_26 rfl rfl ?_
        refine g_bipush (v := 16) hc dX9_want_27 (by decide) ?_
        refine g_icmp_ge (tgt := 36) hc dX9_want_29 (by decide) ?_ ?_
        · exact tX9_want_36 hc hr hlk hE x1 x2 x3 S5
        · refine g_iconst (v := 1) hc dX9_want_32 (by decide) ?_
          refine g_goto (tgt := 37) hc dX9_want_33 (by decide) ?_
          exact tX9_want_37 hc hr hlk hE x1 x2 x3 1 S5
end
