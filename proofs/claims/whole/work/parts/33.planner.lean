-- X5_freshOf
def rX5_freshOf : Room := { frames := 0, cells := 0, slots := 0, locals := 0 }
def uX5_freshOf (x0 : Int32) (S : St) : Option (Int32 × St) :=
  some (x0 &&& ((x0 <<< (1 &&& 31)) ^^^ ((-1))), S)
-- X5_rowOfTurn
def rX5_rowOfTurn : Room := { frames := 0, cells := 0, slots := 0, locals := 0 }
def bX5_rowOfTurn_4 (k4 : Int32 → Int32 → Int32 → Int32 → St → Option (Int32 × St)) (x0 : Int32) (x1 : Int32) (x2 : Int32) (x3 : Int32) (S : St) : Option (Int32 × St) :=
  if x1 ≤ x3 then some (x2, S) else lt ((x0 >>> ((2 * ((x1 - 1) - x3)) &&& 31)) &&& 3) (fun v1 => lt (x2 ||| ((v1 + 1) <<< ((3 * x3) &&& 31))) (fun v2 => lt (x3 + 1) (fun v3 => k4 x0 x1 v2 v3 S)))
def lX5_rowOfTurn_4 (n : Nat) : Int32 → Int32 → Int32 → Int32 → St → Option (Int32 × St) :=
  lp (fun k4 => bX5_rowOfTurn_4 k4) (fun _ _ _ _ _ => none) n
def uX5_rowOfTurn (x0 : Int32) (x1 : Int32) (S : St) : Option (Int32 × St) :=
  lt 0 (fun v1 => lt 0 (fun v2 => lX5_rowOfTurn_4 FU x0 x1 v1 v2 S))
-- X5_aimAt
def rX5_aimAt : Room := { frames := 2, cells := 0, slots := 0, locals := 43 }
theorem inX5_aimAt_X5 : ∀ w ∈ u_ws RX5 TX5 10, w ∈ wsX5_aimAt := by decide +kernel
def bX5_aimAt_147 (k70 : Int32 → St → Option (Int32 × St)) (k88 : Int32 → Int32 → Int32 → St → Option (Int32 × St)) (x3 : Int32) (x4 : Int32) (x5 : Int32) (x6 : Int32) (x7 : Int32) (S : St) : Option (Int32 × St) :=
  ck x4 8 (ckn x4.toNatClampNeg 8 (ck x7 24 (lz (s2 S (55 + x4.toNatClampNeg) x7.toNatClampNeg x6) (fun S1 => lz (s2 S1 5 2 ((S1 5 2) ||| (1 <<< (x6 &&& 31)))) (fun S2 => lt (x5 + 1) (fun v3 => k88 x3 x4 v3 S2))))))
def bX5_aimAt_88 (k70 : Int32 → St → Option (Int32 × St)) (k88 : Int32 → Int32 → Int32 → St → Option (Int32 × St)) (x3 : Int32) (x4 : Int32) (x5 : Int32) (S : St) : Option (Int32 × St) :=
  cl (uX0_places S) (fun v1 S2 => if v1 ≤ x5 then lt (x3 + 1) (fun v3 => k70 v3 S2) else cl (uX3_wantedAt x3 x5 S2) (fun v4 S5 => lt v4 (fun v6 => cl (uX0_underFold x4 x5 S5) (fun v7 S8 => lt v7 (fun v9 => ck x4 8 (ckn x4.toNatClampNeg 8 (ck v9 24 (if (S8 (55 + x4.toNatClampNeg) v9.toNatClampNeg) = ((-1)) then bX5_aimAt_147 k70 k88 x3 x4 x5 v6 v9 S8 else ck x4 8 (ckn x4.toNatClampNeg 8 (ck v9 24 (if (S8 (55 + x4.toNatClampNeg) v9.toNatClampNeg) = v6 then bX5_aimAt_147 k70 k88 x3 x4 x5 v6 v9 S8 else rz 0 (some (0, S8)))))))))))))
def lX5_aimAt_88 (k70 : Int32 → St → Option (Int32 × St)) (n : Nat) : Int32 → Int32 → Int32 → St → Option (Int32 × St) :=
  lp (fun k88 => bX5_aimAt_88 k70 k88) (fun _ _ _ _ => none) n
def bX5_aimAt_70 (k70 : Int32 → St → Option (Int32 × St)) (x3 : Int32) (S : St) : Option (Int32 × St) :=
  cl (uX0_threads S) (fun v1 S2 => if v1 ≤ x3 then rz 1 (some (1, S2)) else cl (uX0_bundleOf x3 S2) (fun v3 S4 => lt v3 (fun v5 => lt 0 (fun v6 => lX5_aimAt_88 k70 FU x3 v5 v6 S4))))
def lX5_aimAt_70 (n : Nat) : Int32 → St → Option (Int32 × St) :=
  lp (fun k70 => bX5_aimAt_70 k70) (fun _ _ => none) n
def bX5_aimAt_34 (k2 : Int32 → St → Option (Int32 × St)) (k34 : Int32 → Int32 → St → Option (Int32 × St)) (x3 : Int32) (x4 : Int32) (S : St) : Option (Int32 × St) :=
  if 24 ≤ x4 then lt (x3 + 1) (fun v1 => k2 v1 S) else ck x3 8 (ckn x3.toNatClampNeg 8 (ck x4 24 (lz (s2 S (55 + x3.toNatClampNeg) x4.toNatClampNeg ((-1))) (fun S2 => lt (x4 + 1) (fun v3 => k34 x3 v3 S2)))))
def lX5_aimAt_34 (k2 : Int32 → St → Option (Int32 × St)) (n : Nat) : Int32 → Int32 → St → Option (Int32 × St) :=
  lp (fun k34 => bX5_aimAt_34 k2 k34) (fun _ _ _ => none) n
def bX5_aimAt_30 (k2 : Int32 → St → Option (Int32 × St)) (x3 : Int32) (y1 : Int32) (y2 : Int32) (S : St) : Option (Int32 × St) :=
  ck y1 8 (lz (s2 S 18 y1.toNatClampNeg y2) (fun S1 => lt 0 (fun v2 => lX5_aimAt_34 k2 FU x3 v2 S1)))
def bX5_aimAt_2 (k2 : Int32 → St → Option (Int32 × St)) (x3 : Int32) (S : St) : Option (Int32 × St) :=
  if 8 ≤ x3 then lz (s2 S 5 2 0) (fun S1 => lt 0 (fun v2 => lX5_aimAt_70 FU v2 S1)) else cl (uX0_threadsIn x3 S) (fun v3 S4 => if v3 ≤ 0 then bX5_aimAt_30 k2 x3 x3 0 S4 else cl (uX0_freePlaces x3 S4) (fun v5 S6 => bX5_aimAt_30 k2 x3 x3 v5 S6))
def lX5_aimAt_2 (n : Nat) : Int32 → St → Option (Int32 × St) :=
  lp (fun k2 => bX5_aimAt_2 k2) (fun _ _ => none) n
def uX5_aimAt (S : St) : Option (Int32 × St) :=
  lt 0 (fun v1 => lX5_aimAt_2 FU v1 S)
-- X5_gatherWays
def rX5_gatherWays : Room := { frames := 1, cells := 0, slots := 0, locals := 20 }
theorem inX5_gatherWays_X5 : ∀ w ∈ u_ws RX5 TX5 10, w ∈ wsX5_gatherWays := by decide +kernel
def bX5_gatherWays_103 (y0 : Int32) (S : St) : Option (Int32 × St) :=
  rz y0 (some (y0, S))
def bX5_gatherWays_32 (k32 : Int32 → Int32 → Int32 → St → Option (Int32 × St)) (x1 : Int32) (x2 : Int32) (x3 : Int32) (S : St) : Option (Int32 × St) :=
  if x1 ≤ x3 then if ((S 5 2) &&& (x2 ^^^ ((-1)))) = 0 then bX5_gatherWays_103 1 S else bX5_gatherWays_103 0 S else ck x3 16 (lt (S 20 x3.toNatClampNeg) (fun v1 => ck v1 16 (ck v1 16 (lz (s2 S 21 v1.toNatClampNeg ((S 21 v1.toNatClampNeg) ||| (1 <<< (x3 &&& 31)))) (fun S2 => ck v1 16 (cl (uX5_freshOf x3 S2) (fun v3 S4 => ck v1 16 (lz (s2 S4 22 v1.toNatClampNeg ((S2 22 v1.toNatClampNeg) ||| (1 <<< (v3 &&& 31)))) (fun S5 => lt (x2 ||| (1 <<< (v1 &&& 31))) (fun v6 => lt (x3 + 1) (fun v7 => k32 x1 v6 v7 S5)))))))))))
def lX5_gatherWays_32 (n : Nat) : Int32 → Int32 → Int32 → St → Option (Int32 × St) :=
  lp (fun k32 => bX5_gatherWays_32 k32) (fun _ _ _ _ => none) n
def bX5_gatherWays_2 (k2 : Int32 → Int32 → St → Option (Int32 × St)) (x1 : Int32) (x2 : Int32) (S : St) : Option (Int32 × St) :=
  if 16 ≤ x2 then lt 0 (fun v1 => lt 0 (fun v2 => lX5_gatherWays_32 FU x1 v1 v2 S)) else ck x2 16 (lz (s2 S 21 x2.toNatClampNeg 0) (fun S3 => ck x2 16 (lz (s2 S3 22 x2.toNatClampNeg 0) (fun S4 => lt (x2 + 1) (fun v5 => k2 x1 v5 S4)))))
def lX5_gatherWays_2 (n : Nat) : Int32 → Int32 → St → Option (Int32 × St) :=
  lp (fun k2 => bX5_gatherWays_2 k2) (fun _ _ _ => none) n
def uX5_gatherWays (x1 : Int32) (S : St) : Option (Int32 × St) :=
  lt 0 (fun v1 => lX5_gatherWays_2 FU x1 v1 S)
-- X5_tryRow
def rX5_tryRow : Room := { frames := 2, cells := 0, slots := 0, locals := 44 }
theorem inX5_tryRow_X5 : ∀ w ∈ u_ws RX5 TX5 10, w ∈ wsX5_tryRow := by decide +kernel
def bX5_tryRow_49 (k23 : Int32 → Int32 → St → Option (Int32 × St)) (k49 : Int32 → Int32 → Int32 → Int32 → Int32 → St → Option (Int32 × St)) (x3 : Int32) (x4 : Int32) (x5 : Int32) (x6 : Int32) (x7 : Int32) (S : St) : Option (Int32 × St) :=
  if x5 ≤ x7 then lt (x4 + 1) (fun v1 => k23 x3 v1 S) else ck x7 16 (ck (x7 ||| x5) 16 (lz (s2 S 20 (x7 ||| x5).toNatClampNeg (S 20 x7.toNatClampNeg)) (fun S2 => ck x7 16 (cl (uX2_comesOf (S2 20 x7.toNatClampNeg) x6 S2) (fun v3 S4 => ck x7 16 (lz (s2 S4 20 x7.toNatClampNeg v3) (fun S5 => lt (x7 + 1) (fun v6 => k49 x3 x4 x5 x6 v6 S5))))))))
def lX5_tryRow_49 (k23 : Int32 → Int32 → St → Option (Int32 × St)) (n : Nat) : Int32 → Int32 → Int32 → Int32 → Int32 → St → Option (Int32 × St) :=
  lp (fun k49 => bX5_tryRow_49 k23 k49) (fun _ _ _ _ _ _ => none) n
def bX5_tryRow_23 (k23 : Int32 → Int32 → St → Option (Int32 × St)) (x3 : Int32) (x4 : Int32) (S : St) : Option (Int32 × St) :=
  if x3 ≤ x4 then cl (uX5_gatherWays (1 <<< (x3 &&& 31)) S) (fun v1 S2 => rz v1 (some (v1, S2))) else lt (1 <<< (x4 &&& 31)) (fun v3 => cl (uX8_dyeOf (S 5 3) x4 S) (fun v4 S5 => lt v4 (fun v6 => lt 0 (fun v7 => lX5_tryRow_49 k23 FU x3 x4 v3 v6 v7 S5))))
def lX5_tryRow_23 (n : Nat) : Int32 → Int32 → St → Option (Int32 × St) :=
  lp (fun k23 => bX5_tryRow_23 k23) (fun _ _ _ => none) n
def uX5_tryRow (x1 : Int32) (S : St) : Option (Int32 × St) :=
  lz (s2 S 5 3 x1) (fun S1 => cl (uX8_bathsOf (S1 5 3) S1) (fun v2 S3 => lt v2 (fun v4 => ck (0 : Int32) 16 (lz (s2 S3 20 (0 : Int32).toNatClampNeg 0) (fun S5 => lt 0 (fun v6 => lX5_tryRow_23 FU v4 v6 S5))))))
-- X5_withSupersets
def rX5_withSupersets : Room := { frames := 0, cells := 0, slots := 0, locals := 0 }
def uX5_withSupersets (x0 : Int32) (S : St) : Option (Int32 × St) :=
  lt (x0 ||| ((x0 &&& 21845) <<< (1 &&& 31))) (fun v1 => lt (v1 ||| ((v1 &&& 13107) <<< (2 &&& 31))) (fun v2 => lt (v2 ||| ((v2 &&& 3855) <<< (4 &&& 31))) (fun v3 => some (v3 ||| ((v3 &&& 255) <<< (8 &&& 31)), S))))
-- X5_lessOneBath
def rX5_lessOneBath : Room := { frames := 0, cells := 0, slots := 0, locals := 0 }
def uX5_lessOneBath (x0 : Int32) (S : St) : Option (Int32 × St) :=
  some (((((x0 &&& 43690) >>> (1 &&& 31)) ||| ((x0 &&& 52428) >>> (2 &&& 31))) ||| ((x0 &&& 61680) >>> (4 &&& 31))) ||| ((x0 &&& 65280) >>> (8 &&& 31)), S)
-- X5_weigh
def rX5_weigh : Room := { frames := 1, cells := 0, slots := 0, locals := 21 }
theorem inX5_weigh_X5 : ∀ w ∈ u_ws RX5 TX5 10, w ∈ wsX5_weigh := by decide +kernel
def bX5_weigh_63 (x1 : Int32) (x3 : Int32) (x4 : Int32) (x5 : Int32) (S : St) : Option (Int32 × St) :=
  ck x1 25 (lz (s2 S 23 x1.toNatClampNeg x3) (fun S1 => cl (uX5_withSupersets x4 S1) (fun v2 S3 => ck x1 25 (lz (s2 S3 24 x1.toNatClampNeg v2) (fun S4 => cl (uX5_lessOneBath x4 S4) (fun v5 S6 => cl (uX5_withSupersets (x5 ||| v5) S6) (fun v7 S8 => ck x1 25 (lz (s2 S8 25 x1.toNatClampNeg v7) (fun S9 => some (0, S9))))))))))
def bX5_weigh_36 (k36 : Int32 → Int32 → Int32 → Int32 → Int32 → Int32 → St → Option (Int32 × St)) (x1 : Int32) (x2 : Int32) (x3 : Int32) (x4 : Int32) (x5 : Int32) (x6 : Int32) (S : St) : Option (Int32 × St) :=
  if 2 < x6 then bX5_weigh_63 x1 x3 x4 x5 S else if x4 = 0 then lt (x3 + 1) (fun v1 => lt x5 (fun v2 => lt x2 (fun v3 => lt (x6 + 1) (fun v4 => k36 x1 x2 v1 v2 v3 v4 S)))) else bX5_weigh_63 x1 x3 x4 x5 S
def lX5_weigh_36 (n : Nat) : Int32 → Int32 → Int32 → Int32 → Int32 → Int32 → St → Option (Int32 × St) :=
  lp (fun k36 => bX5_weigh_36 k36) (fun _ _ _ _ _ _ _ => none) n
def uX5_weigh (x1 : Int32) (x2 : Int32) (S : St) : Option (Int32 × St) :=
  ck (x1 + 1) 25 (lt (S 23 (x1 + 1).toNatClampNeg) (fun v1 => ck (x1 + 1) 25 (lt (x2 &&& (S 24 (x1 + 1).toNatClampNeg)) (fun v2 => ck (x1 + 1) 25 (lt (x2 &&& (S 25 (x1 + 1).toNatClampNeg)) (fun v3 => lt 1 (fun v4 => lX5_weigh_36 FU x1 x2 v1 v2 v3 v4 S)))))))
-- X5_tiesFrom
def rX5_tiesFrom : Room := { frames := 0, cells := 0, slots := 0, locals := 0 }
theorem inX5_tiesFrom_X5 : ∀ w ∈ u_ws RX5 TX5 10, w ∈ wsX5_tiesFrom := by decide +kernel
def bX5_tiesFrom_44 (y0 : Int32) (y1 : Int32) (S : St) : Option (Int32 × St) :=
  some (y0 + y1, S)
def uX5_tiesFrom (x1 : Int32) (x2 : Int32) (S : St) : Option (Int32 × St) :=
  ck x1 25 (if (((S 24 x1.toNatClampNeg) >>> (x2 &&& 31)) &&& 1) = 0 then ck x1 25 (ck x1 25 (if (((S 25 x1.toNatClampNeg) >>> (x2 &&& 31)) &&& 1) = 0 then bX5_tiesFrom_44 (S 23 x1.toNatClampNeg) 2 S else bX5_tiesFrom_44 (S 23 x1.toNatClampNeg) 1 S)) else ck x1 25 (some (S 23 x1.toNatClampNeg, S)))
-- X5_tiesOf
def rX5_tiesOf : Room := { frames := 2, cells := 0, slots := 0, locals := 47 }
theorem inX5_tiesOf_X5 : ∀ w ∈ u_ws RX5 TX5 10, w ∈ wsX5_tiesOf := by decide +kernel
def bX5_tiesOf_34 (k34 : Int32 → Int32 → St → Option (Int32 × St)) (x1 : Int32) (x3 : Int32) (S : St) : Option (Int32 × St) :=
  if x3 < 0 then cl (uX5_tiesFrom 0 0 S) (fun v1 S2 => some (v1, S2)) else ck x1 8 (ckn x1.toNatClampNeg 8 (ck x3 24 (ck (S (55 + x1.toNatClampNeg) x3.toNatClampNeg) 16 (cl (uX5_weigh x3 (S 22 (S (55 + x1.toNatClampNeg) x3.toNatClampNeg).toNatClampNeg) S) (fun _ S4 => lt (x3 + (-1)) (fun v5 => k34 x1 v5 S4))))))
def lX5_tiesOf_34 (n : Nat) : Int32 → Int32 → St → Option (Int32 × St) :=
  lp (fun k34 => bX5_tiesOf_34 k34) (fun _ _ _ => none) n
def uX5_tiesOf (x1 : Int32) (S : St) : Option (Int32 × St) :=
  ck x1 8 (lt (S 18 x1.toNatClampNeg) (fun v1 => ck v1 25 (lz (s2 S 23 v1.toNatClampNeg 0) (fun S2 => ck v1 25 (lz (s2 S2 24 v1.toNatClampNeg 65535) (fun S3 => ck v1 25 (lz (s2 S3 25 v1.toNatClampNeg 65535) (fun S4 => lt (v1 - 1) (fun v5 => lX5_tiesOf_34 FU x1 v5 S4)))))))))
-- X5_tiesBelow
def rX5_tiesBelow : Room := { frames := 3, cells := 0, slots := 0, locals := 70 }
def bX5_tiesBelow_29 (x2 : Int32) (S : St) : Option (Int32 × St) :=
  some (x2, S)
def bX5_tiesBelow_4 (k4 : Int32 → Int32 → Int32 → St → Option (Int32 × St)) (x1 : Int32) (x2 : Int32) (x3 : Int32) (S : St) : Option (Int32 × St) :=
  if 8 ≤ x3 then bX5_tiesBelow_29 x2 S else if x1 ≤ x2 then bX5_tiesBelow_29 x2 S else cl (uX5_tiesOf x3 S) (fun v1 S2 => lt (x2 + v1) (fun v3 => lt (x3 + 1) (fun v4 => k4 x1 v3 v4 S2)))
def lX5_tiesBelow_4 (n : Nat) : Int32 → Int32 → Int32 → St → Option (Int32 × St) :=
  lp (fun k4 => bX5_tiesBelow_4 k4) (fun _ _ _ _ => none) n
def uX5_tiesBelow (x1 : Int32) (S : St) : Option (Int32 × St) :=
  lt 0 (fun v1 => lt 0 (fun v2 => lX5_tiesBelow_4 FU x1 v1 v2 S))
-- X5_bestRow
def rX5_bestRow : Room := { frames := 4, cells := 0, slots := 0, locals := 93 }
def bX5_bestRow_96 (x3 : Int32) (S : St) : Option (Int32 × St) :=
  some (x3, S)
def bX5_bestRow_90 (k9 : Int32 → Int32 → Int32 → Int32 → St → Option (Int32 × St)) (x1 : Int32) (x3 : Int32) (x4 : Int32) (x5 : Int32) (S : St) : Option (Int32 × St) :=
  lt (x5 + 1) (fun v1 => k9 x1 x3 x4 v1 S)
def bX5_bestRow_84 (k9 : Int32 → Int32 → Int32 → Int32 → St → Option (Int32 × St)) (k31 : Int32 → Int32 → Int32 → Int32 → Int32 → Int32 → St → Option (Int32 × St)) (x1 : Int32) (x3 : Int32) (x4 : Int32) (x5 : Int32) (x6 : Int32) (x7 : Int32) (S : St) : Option (Int32 × St) :=
  lt (x7 + 1) (fun v1 => k31 x1 x3 x4 x5 x6 v1 S)
def bX5_bestRow_31 (k9 : Int32 → Int32 → Int32 → Int32 → St → Option (Int32 × St)) (k31 : Int32 → Int32 → Int32 → Int32 → Int32 → Int32 → St → Option (Int32 × St)) (x1 : Int32) (x3 : Int32) (x4 : Int32) (x5 : Int32) (x6 : Int32) (x7 : Int32) (S : St) : Option (Int32 × St) :=
  if x6 ≤ x7 then bX5_bestRow_90 k9 x1 x3 x4 x5 S else if x4 ≤ 0 then bX5_bestRow_90 k9 x1 x3 x4 x5 S else cl (uX5_rowOfTurn x7 x5 S) (fun v1 S2 => lt v1 (fun v3 => cl (uX5_tryRow v3 S2) (fun v4 S5 => if v4 = 0 then bX5_bestRow_84 k9 k31 x1 x3 x4 x5 x6 x7 S5 else cl (uX5_tiesBelow x4 S5) (fun v6 S7 => lt v6 (fun v8 => if x4 ≤ v8 then bX5_bestRow_84 k9 k31 x1 x3 x4 x5 x6 x7 S7 else lt v8 (fun v9 => lt v3 (fun v10 => bX5_bestRow_84 k9 k31 x1 v10 v9 x5 x6 x7 S7)))))))
def lX5_bestRow_31 (k9 : Int32 → Int32 → Int32 → Int32 → St → Option (Int32 × St)) (n : Nat) : Int32 → Int32 → Int32 → Int32 → Int32 → Int32 → St → Option (Int32 × St) :=
  lp (fun k31 => bX5_bestRow_31 k9 k31) (fun _ _ _ _ _ _ _ => none) n
def bX5_bestRow_9 (k9 : Int32 → Int32 → Int32 → Int32 → St → Option (Int32 × St)) (x1 : Int32) (x3 : Int32) (x4 : Int32) (x5 : Int32) (S : St) : Option (Int32 × St) :=
  if x1 < x5 then bX5_bestRow_96 x3 S else if x4 ≤ 0 then bX5_bestRow_96 x3 S else lt (1 <<< ((2 * x5) &&& 31)) (fun v1 => lt 0 (fun v2 => lX5_bestRow_31 k9 FU x1 x3 x4 x5 v1 v2 S))
def lX5_bestRow_9 (n : Nat) : Int32 → Int32 → Int32 → Int32 → St → Option (Int32 × St) :=
  lp (fun k9 => bX5_bestRow_9 k9) (fun _ _ _ _ _ => none) n
def uX5_bestRow (x1 : Int32) (S : St) : Option (Int32 × St) :=
  lt ((-1)) (fun v1 => lt 1000000 (fun v2 => lt 0 (fun v3 => lX5_bestRow_9 FU x1 v1 v2 v3 S)))
-- X5_keepsFewest
def rX5_keepsFewest : Room := { frames := 1, cells := 0, slots := 0, locals := 22 }
def bX5_keepsFewest_49 (y0 : Int32) (S : St) : Option (Int32 × St) :=
  rz y0 (some (y0, S))
def bX5_keepsFewest_48 (S : St) : Option (Int32 × St) :=
  bX5_keepsFewest_49 0 S
def uX5_keepsFewest (x1 : Int32) (x2 : Int32) (x3 : Int32) (x4 : Int32) (S : St) : Option (Int32 × St) :=
  cl (uX5_freshOf x4 S) (fun v1 S2 => lt v1 (fun v3 => if ((x3 >>> (x4 &&& 31)) &&& 1) = 0 then bX5_keepsFewest_48 S2 else cl (uJ6_bitCount_0f7a4 (v3 &&& (x2 ^^^ ((-1)))) S2) (fun v4 S5 => cl (uX5_tiesFrom (x1 + 1) v3 S5) (fun v6 S7 => cl (uX5_tiesFrom x1 x2 S7) (fun v8 S9 => if (v4 + v6) = v8 then bX5_keepsFewest_49 1 S9 else bX5_keepsFewest_48 S9)))))
-- X5_leastBits
def rX5_leastBits : Room := { frames := 2, cells := 0, slots := 0, locals := 47 }
def bX5_leastBits_28 (x4 : Int32) (S : St) : Option (Int32 × St) :=
  some (x4, S)
def bX5_leastBits_3 (k3 : Int32 → Int32 → Int32 → Int32 → St → Option (Int32 × St)) (x1 : Int32) (x2 : Int32) (x3 : Int32) (x4 : Int32) (S : St) : Option (Int32 × St) :=
  if 15 ≤ x4 then bX5_leastBits_28 x4 S else cl (uX5_keepsFewest x1 x2 x3 x4 S) (fun v1 S2 => if v1 = 0 then lt (x4 + 1) (fun v3 => k3 x1 x2 x3 v3 S2) else bX5_leastBits_28 x4 S2)
def lX5_leastBits_3 (n : Nat) : Int32 → Int32 → Int32 → Int32 → St → Option (Int32 × St) :=
  lp (fun k3 => bX5_leastBits_3 k3) (fun _ _ _ _ _ => none) n
def uX5_leastBits (x1 : Int32) (x2 : Int32) (x3 : Int32) (S : St) : Option (Int32 × St) :=
  lt 0 (fun v1 => lX5_leastBits_3 FU x1 x2 x3 v1 S)
-- X5_writeInto
def rX5_writeInto : Room := { frames := 3, cells := 0, slots := 0, locals := 71 }
theorem inX5_writeInto_X5 : ∀ w ∈ u_ws RX5 TX5 10, w ∈ wsX5_writeInto := by decide +kernel
def bX5_writeInto_134 (k10 : Int32 → St → Option (Int32 × St)) (k96 : Int32 → Int32 → St → Option (Int32 × St)) (x3 : Int32) (x5 : Int32) (y1 : Int32) (y2 : Int32) (y3 : Int32) (S : St) : Option (Int32 × St) :=
  cl (uX4_write y1 y2 y3 S) (fun _ S2 => lt (x5 + 1) (fun v3 => k96 x3 v3 S2))
def bX5_writeInto_96 (k10 : Int32 → St → Option (Int32 × St)) (k96 : Int32 → Int32 → St → Option (Int32 × St)) (x3 : Int32) (x5 : Int32) (S : St) : Option (Int32 × St) :=
  cl (uX0_places S) (fun v1 S2 => if v1 ≤ x5 then lt (x3 + 1) (fun v3 => k10 v3 S2) else ck x3 8 (if (S2 18 x3.toNatClampNeg) = 0 then bX5_writeInto_134 k10 k96 x3 x5 x3 x5 0 S2 else cl (uX0_underFold x3 x5 S2) (fun v4 S5 => cl (uX4_bitsAt x3 v4 S5) (fun v6 S7 => bX5_writeInto_134 k10 k96 x3 x5 x3 x5 v6 S7))))
def lX5_writeInto_96 (k10 : Int32 → St → Option (Int32 × St)) (n : Nat) : Int32 → Int32 → St → Option (Int32 × St) :=
  lp (fun k96 => bX5_writeInto_96 k10 k96) (fun _ _ _ => none) n
def bX5_writeInto_31 (k10 : Int32 → St → Option (Int32 × St)) (k31 : Int32 → Int32 → Int32 → St → Option (Int32 × St)) (x3 : Int32) (x4 : Int32) (x5 : Int32) (S : St) : Option (Int32 × St) :=
  ck x3 8 (if (S 18 x3.toNatClampNeg) ≤ x5 then ck x3 8 (lt (S 18 x3.toNatClampNeg) (fun v1 => lX5_writeInto_96 k10 FU x3 v1 S)) else ck x3 8 (ckn x3.toNatClampNeg 8 (ck x5 24 (ck (S (55 + x3.toNatClampNeg) x5.toNatClampNeg) 16 (cl (uX5_leastBits x5 x4 (S 21 (S (55 + x3.toNatClampNeg) x5.toNatClampNeg).toNatClampNeg) S) (fun v2 S3 => lt v2 (fun v4 => cl (uX4_write x3 x5 v4 S3) (fun _ S6 => cl (uX5_freshOf v4 S6) (fun v7 S8 => lt v7 (fun v9 => lt (x5 + 1) (fun v10 => k31 x3 v9 v10 S8)))))))))))
def lX5_writeInto_31 (k10 : Int32 → St → Option (Int32 × St)) (n : Nat) : Int32 → Int32 → Int32 → St → Option (Int32 × St) :=
  lp (fun k31 => bX5_writeInto_31 k10 k31) (fun _ _ _ _ => none) n
def bX5_writeInto_10 (k10 : Int32 → St → Option (Int32 × St)) (x3 : Int32) (S : St) : Option (Int32 × St) :=
  if 8 ≤ x3 then some (0, S) else cl (uX5_tiesOf x3 S) (fun v1 S2 => cl (uX4_addTies v1 S2) (fun _ S4 => lt 0 (fun v5 => lt 0 (fun v6 => lX5_writeInto_31 k10 FU x3 v5 v6 S4))))
def lX5_writeInto_10 (n : Nat) : Int32 → St → Option (Int32 × St) :=
  lp (fun k10 => bX5_writeInto_10 k10) (fun _ _ => none) n
def uX5_writeInto (S : St) : Option (Int32 × St) :=
  cl (uX4_begin (S 5 3) S) (fun _ S2 => lt 0 (fun v3 => lX5_writeInto_10 FU v3 S2))
section
variable {N : Nat} {C : St → Nat → va_E} {Ev : (Nat → Prop) → State → Prop} {tys : List (ClassId × FieldType)} {l : Launch} {D : va_G} {cI cZ cO cJ : ClassId} {a : Nat → Nat} {tF : Nat}
set_option maxHeartbeats 4000000 in
set_option maxRecDepth 100000 in
theorem mX5_freshOf (x0 : Int32) (S : St) : ∀ q, uX5_freshOf x0 S = some q → Ki l yX5_freshOf wsX5_freshOf rX5_freshOf D (tyW cI cZ cO) 72 a (cX cI cZ cO a) (EvX tF) [.int x0] S q := by
  refine m_Ki (cc := cX5_freshOf) (nL := 1) (ret := (some .int)) (lv := [(0, .int x0)]) (by decide) rfl (Nat.le_of_ble_eq_true rfl) rfl ?_
  intro p e s m args below meth c hc hr hlk hE
  unfold uX5_freshOf
  refine g_iload_n (j := 0) hc dX5_freshOf_0 rfl rfl ?_
  refine g_iload_n (j := 0) hc dX5_freshOf_1 rfl rfl ?_
  refine g_iconst (v := 1) hc dX5_freshOf_2 (by decide) ?_
  refine g_ishl hc dX5_freshOf_3 ?_
  refine g_iconst (v := -1) hc dX5_freshOf_4 (by decide) ?_
  refine g_ixor hc dX5_freshOf_5 ?_
  refine g_iand hc dX5_freshOf_6 ?_
  exact g_iret hc hr hlk dX5_freshOf_7
set_option maxHeartbeats 4000000 in
set_option maxRecDepth 100000 in
theorem tX5_rowOfTurn_4 {p : Program} {e : Env} {s : State} {m : MethodId} {args : Array Value} {below : List Frame} {meth : Method} {c : Code} (hc : CT p s m args c cX5_rowOfTurn 5 RX5 wsX5_rowOfTurn D (tyW cI cZ cO)) (hr : meth.sig.returnType = (some .int)) (hlk : meth.locks = false) (hE : EvX tF (AA 72 a s.heap.size) s) (k4 : Int32 → Int32 → Int32 → Int32 → St → Option (Int32 × St)) (hk4 : ∀ (x0 : Int32) (x1 : Int32) (x2 : Int32) (x3 : Int32) (S : St), GF p l e rX5_rowOfTurn s m args below meth c D 72 a (cX cI cZ cO a) (AA 72 a s.heap.size) 5 0 0 (fun res => MQ below (va_Qi (fun r u => (r, u) = res) (Bw D (tyW cI cZ cO) 72 a (cX cI cZ cO a) (AA 72 a s.heap.size)) (AA 72 a s.heap.size)) args s 0 0 (AA 72 a s.heap.size)) (k4 x0 x1 x2 x3 S) 4 [(0, .int x0), (1, .int x1), (2, .int x2), (3, .int x3)] [] S) (x0 : Int32) (x1 : Int32) (x2 : Int32) (x3 : Int32) (S : St) : GF p l e rX5_rowOfTurn s m args below meth c D 72 a (cX cI cZ cO a) (AA 72 a s.heap.size) 5 0 0 (fun res => MQ below (va_Qi (fun r u => (r, u) = res) (Bw D (tyW cI cZ cO) 72 a (cX cI cZ cO a) (AA 72 a s.heap.size)) (AA 72 a s.heap.size)) args s 0 0 (AA 72 a s.heap.size)) (bX5_rowOfTurn_4 k4 x0 x1 x2 x3 S) 4 [(0, .int x0), (1, .int x1), (2, .int x2), (3, .int x3)] [] S := by
  unfold bX5_rowOfTurn_4
  refine g_iload_n (j := 3) hc dX5_rowOfTurn_4 rfl rfl ?_
  refine g_iload_n (j := 1) hc dX5_rowOfTurn_5 rfl rfl ?_
  refine g_icmp_ge (tgt := 39) hc dX5_rowOfTurn_6 (by decide) ?_ ?_
  · refine g_iload_n (j := 2) hc dX5_rowOfTurn_39 rfl rfl ?_
    exact g_iret hc hr hlk dX5_rowOfTurn_40
  · refine g_iload_n (j := 0) hc dX5_rowOfTurn_9 rfl rfl ?_
    refine g_iconst (v := 2) hc dX5_rowOfTurn_10 (by decide) ?_
    refine g_iload_n (j := 1) hc dX5_rowOfTurn_11 rfl rfl ?_
    refine g_iconst (v := 1) hc dX5_rowOfTurn_12 (by decide) ?_
    refine g_isub hc dX5_rowOfTurn_13 ?_
    refine g_iload_n (j := 3) hc dX5_rowOfTurn_14 rfl rfl ?_
    refine g_isub hc dX5_rowOfTurn_15 ?_
    refine g_imul hc dX5_rowOfTurn_16 ?_
    refine g_ishr hc dX5_rowOfTurn_17 ?_
    refine g_iconst (v := 3) hc dX5_rowOfTurn_18 (by decide) ?_
    refine g_iand hc dX5_rowOfTurn_19 ?_
    refine g_istore (L := fun v1 => [(4, .int v1), (0, .int x0), (1, .int x1), (2, .int x2), (3, .int x3)]) hc dX5_rowOfTurn_20 (by decide) (fun _ => rfl) (fun v1 => ?_)
    refine g_iload_n (j := 3) hc dX5_rowOfTurn_22 rfl rfl ?_
    refine g_iload (j := 0) hc dX5_rowOfTurn_23 rfl ?_
    refine g_iconst (v := 1) hc dX5_rowOfTurn_25 (by decide) ?_
    refine g_iadd hc dX5_rowOfTurn_26 ?_
    refine g_iconst (v := 3) hc dX5_rowOfTurn_27 (by decide) ?_
    refine g_iload_n (j := 4) hc dX5_rowOfTurn_28 rfl rfl ?_
    refine g_imul hc dX5_rowOfTurn_29 ?_
    refine g_ishl hc dX5_rowOfTurn_30 ?_
    refine g_ior hc dX5_rowOfTurn_31 ?_
    refine g_istore_n (L := fun v2 => [(2, .int v2), (4, .int v1), (0, .int x0), (1, .int x1), (3, .int x3)]) hc dX5_rowOfTurn_32 rfl (by decide) (fun _ => rfl) (fun v2 => ?_)
    refine g_iinc (j := 4) (w := x3 + 1) (L := fun v3 => [(3, .int v3), (2, .int v2), (4, .int v1), (0, .int x0), (1, .int x1)]) hc dX5_rowOfTurn_33 rfl (by rfl) (by decide) (fun _ => rfl) (fun v3 => ?_)
    refine g_goto (tgt := 4) hc dX5_rowOfTurn_36 (by decide) ?_
    refine g_lv [3, 4, 1, 0] rfl ?_
    exact hk4 x0 x1 v2 v3 S
set_option maxHeartbeats 4000000 in
set_option maxRecDepth 100000 in
theorem TX5_rowOfTurn_4 {p : Program} {e : Env} {s : State} {m : MethodId} {args : Array Value} {below : List Frame} {meth : Method} {c : Code} (hc : CT p s m args c cX5_rowOfTurn 5 RX5 wsX5_rowOfTurn D (tyW cI cZ cO)) (hr : meth.sig.returnType = (some .int)) (hlk : meth.locks = false) (hE : EvX tF (AA 72 a s.heap.size) s) (n : Nat) (x0 : Int32) (x1 : Int32) (x2 : Int32) (x3 : Int32) (S : St) : GF p l e rX5_rowOfTurn s m args below meth c D 72 a (cX cI cZ cO a) (AA 72 a s.heap.size) 5 0 0 (fun res => MQ below (va_Qi (fun r u => (r, u) = res) (Bw D (tyW cI cZ cO) 72 a (cX cI cZ cO a) (AA 72 a s.heap.size)) (AA 72 a s.heap.size)) args s 0 0 (AA 72 a s.heap.size)) (lX5_rowOfTurn_4 n x0 x1 x2 x3 S) 4 [(0, .int x0), (1, .int x1), (2, .int x2), (3, .int x3)] [] S :=
  lp_ind (P := fun k : Int32 → Int32 → Int32 → Int32 → St → Option (Int32 × St) => ∀ (x0 : Int32) (x1 : Int32) (x2 : Int32) (x3 : Int32) (S : St), GF p l e rX5_rowOfTurn s m args below meth c D 72 a (cX cI cZ cO a) (AA 72 a s.heap.size) 5 0 0 (fun res => MQ below (va_Qi (fun r u => (r, u) = res) (Bw D (tyW cI cZ cO) 72 a (cX cI cZ cO a) (AA 72 a s.heap.size)) (AA 72 a s.heap.size)) args s 0 0 (AA 72 a s.heap.size)) (k x0 x1 x2 x3 S) 4 [(0, .int x0), (1, .int x1), (2, .int x2), (3, .int x3)] [] S) (fun _ _ _ _ _ => g_none) (fun k4 hk4 => tX5_rowOfTurn_4 hc hr hlk hE k4 hk4) n x0 x1 x2 x3 S
set_option maxHeartbeats 4000000 in
set_option maxRecDepth 100000 in
theorem mX5_rowOfTurn (x0 : Int32) (x1 : Int32) (S : St) : ∀ q, uX5_rowOfTurn x0 x1 S = some q → Ki l yX5_rowOfTurn wsX5_rowOfTurn rX5_rowOfTurn D (tyW cI cZ cO) 72 a (cX cI cZ cO a) (EvX tF) [.int x0, .int x1] S q := by
  refine m_Ki (cc := cX5_rowOfTurn) (nL := 5) (ret := (some .int)) (lv := [(0, .int x0), (1, .int x1)]) (by decide) rfl (Nat.le_of_ble_eq_true rfl) rfl ?_
  intro p e s m args below meth c hc hr hlk hE
  unfold uX5_rowOfTurn
  refine g_iconst (v := 0) hc dX5_rowOfTurn_0 (by decide) ?_
  refine g_istore_n (L := fun v1 => [(2, .int v1), (0, .int x0), (1, .int x1)]) hc dX5_rowOfTurn_1 rfl (by decide) (fun _ => rfl) (fun v1 => ?_)
  refine g_iconst (v := 0) hc dX5_rowOfTurn_2 (by decide) ?_
  refine g_istore_n (L := fun v2 => [(3, .int v2), (2, .int v1), (0, .int x0), (1, .int x1)]) hc dX5_rowOfTurn_3 rfl (by decide) (fun _ => rfl) (fun v2 => ?_)
  refine g_lv [2, 3, 1, 0] rfl ?_
  exact TX5_rowOfTurn_4 hc hr hlk hE FU x0 x1 v1 v2 S
set_option maxHeartbeats 4000000 in
set_option maxRecDepth 100000 in
theorem tX5_aimAt_147 {p : Program} {e : Env} {s : State} {m : MethodId} {args : Array Value} {below : List Frame} {meth : Method} {c : Code} (hc : CT p s m args c cX5_aimAt 8 RX5 wsX5_aimAt D (tyW cI cZ cO)) (hr : meth.sig.returnType = (some .boolean)) (hlk : meth.locks = false) (hE : EvX tF (AA 72 a s.heap.size) s) (k70 : Int32 → St → Option (Int32 × St)) (hk70 : ∀ (x3 : Int32) (S : St), GF p l e rX5_aimAt s m args below meth c D 72 a (cX cI cZ cO a) (AA 72 a s.heap.size) 8 0 0 (fun res => MQ below (va_Qi (fun r u => (r, u) = res) (Bw D (tyW cI cZ cO) 72 a (cX cI cZ cO a) (AA 72 a s.heap.size)) (AA 72 a s.heap.size)) args s 0 0 (AA 72 a s.heap.size)) (k70 x3 S) 70 [(0, .ref (a 5)), (1, .ref (a 3)), (2, .ref (a 4)), (3, .int x3)] [] S) (k88 : Int32 → Int32 → Int32 → St → Option (Int32 × St)) (hk88 : ∀ (x3 : Int32) (x4 : Int32) (x5 : Int32) (S : St), GF p l e rX5_aimAt s m args below meth c D 72 a (cX cI cZ cO a) (AA 72 a s.heap.size) 8 0 0 (fun res => MQ below (va_Qi (fun r u => (r, u) = res) (Bw D (tyW cI cZ cO) 72 a (cX cI cZ cO a) (AA 72 a s.heap.size)) (AA 72 a s.heap.size)) args s 0 0 (AA 72 a s.heap.size)) (k88 x3 x4 x5 S) 88 [(0, .ref (a 5)), (1, .ref (a 3)), (2, .ref (a 4)), (3, .int x3), (4, .int x4), (5, .int x5)] [] S) (x3 : Int32) (x4 : Int32) (x5 : Int32) (x6 : Int32) (x7 : Int32) (S : St) : GF p l e rX5_aimAt s m args below meth c D 72 a (cX cI cZ cO a) (AA 72 a s.heap.size) 8 0 0 (fun res => MQ below (va_Qi (fun r u => (r, u) = res) (Bw D (tyW cI cZ cO) 72 a (cX cI cZ cO a) (AA 72 a s.heap.size)) (AA 72 a s.heap.size)) args s 0 0 (AA 72 a s.heap.size)) (bX5_aimAt_147 k70 k88 x3 x4 x5 x6 x7 S) 147 [(0, .ref (a 5)), (1, .ref (a 3)), (2, .ref (a 4)), (3, .int x3), (4, .int x4), (5, .int x5), (6, .int x6), (7, .int x7)] [] S := by
  unfold bX5_aimAt_147
  refine g_aload_n (j := 0) hc dX5_aimAt_147 rfl rfl ?_
  refine g_get (C0 := RX5) (T := TX5) (M := 10) (k := 5) (ci := 5) hc inX5_aimAt_X5 (by decide) rfl rfl 1 (by decide) (List.mem_of_getElem? (i := 2) rfl) rfl rfl dX5_aimAt_148 ?_
  refine g_iload (j := 4) hc dX5_aimAt_151 rfl ?_
  refine g_aald (k := 19) (base := 55) (t0 := 2) hc (by decide) rfl rfl dX5_aimAt_153 ?_
  refine g_iload (j := 7) hc dX5_aimAt_154 rfl ?_
  refine g_iload (j := 6) hc dX5_aimAt_156 rfl ?_
  refine g_iastr (base := 55) (cnt := 8) (t0 := 0) hc locX (by decide) (fun S r h => rowX_55 S h) rfl dX5_aimAt_158 (fun S1 => ?_)
  refine g_aload_n (j := 0) hc dX5_aimAt_159 rfl rfl ?_
  refine g_dup hc dX5_aimAt_160 rfl ?_
  refine g_get (C0 := RX5) (T := TX5) (M := 10) (k := 5) (ci := 5) hc inX5_aimAt_X5 (by decide) rfl rfl 2 (by decide) (List.mem_of_getElem? (i := 3) rfl) rfl rfl dX5_aimAt_161 ?_
  refine g_iconst (v := 1) hc dX5_aimAt_164 (by decide) ?_
  refine g_iload (j := 6) hc dX5_aimAt_165 rfl ?_
  refine g_ishl hc dX5_aimAt_167 ?_
  refine g_ior hc dX5_aimAt_168 ?_
  refine g_put (ty := .int) (C0 := RX5) (T := TX5) (M := 10) (k := 5) (ci := 5) hc locX tyX5 tyX5_ok nmX5 inX5_aimAt_X5 (by decide) rfl rfl 2 (by decide) (List.mem_of_getElem? (i := 3) rfl) rfl rfl (by decide +kernel) rfl rfl (Nat.le_of_ble_eq_true rfl) rfl rfl dX5_aimAt_169 (fun S2 => ?_)
  refine g_iinc (j := 5) (w := x5 + 1) (L := fun v3 => [(5, .int v3), (0, .ref (a 5)), (1, .ref (a 3)), (2, .ref (a 4)), (3, .int x3), (4, .int x4), (6, .int x6), (7, .int x7)]) hc dX5_aimAt_172 rfl (by rfl) (by decide) (fun _ => rfl) (fun v3 => ?_)
  refine g_goto (tgt := 88) hc dX5_aimAt_175 (by decide) ?_
  refine g_lv [1, 2, 3, 4, 5, 0] rfl ?_
  exact hk88 x3 x4 v3 S2
set_option maxHeartbeats 4000000 in
set_option maxRecDepth 100000 in
theorem tX5_aimAt_88 {p : Program} {e : Env} {s : State} {m : MethodId} {args : Array Value} {below : List Frame} {meth : Method} {c : Code} (hc : CT p s m args c cX5_aimAt 8 RX5 wsX5_aimAt D (tyW cI cZ cO)) (hr : meth.sig.returnType = (some .boolean)) (hlk : meth.locks = false) (hE : EvX tF (AA 72 a s.heap.size) s) (k70 : Int32 → St → Option (Int32 × St)) (hk70 : ∀ (x3 : Int32) (S : St), GF p l e rX5_aimAt s m args below meth c D 72 a (cX cI cZ cO a) (AA 72 a s.heap.size) 8 0 0 (fun res => MQ below (va_Qi (fun r u => (r, u) = res) (Bw D (tyW cI cZ cO) 72 a (cX cI cZ cO a) (AA 72 a s.heap.size)) (AA 72 a s.heap.size)) args s 0 0 (AA 72 a s.heap.size)) (k70 x3 S) 70 [(0, .ref (a 5)), (1, .ref (a 3)), (2, .ref (a 4)), (3, .int x3)] [] S) (k88 : Int32 → Int32 → Int32 → St → Option (Int32 × St)) (hk88 : ∀ (x3 : Int32) (x4 : Int32) (x5 : Int32) (S : St), GF p l e rX5_aimAt s m args below meth c D 72 a (cX cI cZ cO a) (AA 72 a s.heap.size) 8 0 0 (fun res => MQ below (va_Qi (fun r u => (r, u) = res) (Bw D (tyW cI cZ cO) 72 a (cX cI cZ cO a) (AA 72 a s.heap.size)) (AA 72 a s.heap.size)) args s 0 0 (AA 72 a s.heap.size)) (k88 x3 x4 x5 S) 88 [(0, .ref (a 5)), (1, .ref (a 3)), (2, .ref (a 4)), (3, .int x3), (4, .int x4), (5, .int x5)] [] S) (x3 : Int32) (x4 : Int32) (x5 : Int32) (S : St) : GF p l e rX5_aimAt s m args below meth c D 72 a (cX cI cZ cO a) (AA 72 a s.heap.size) 8 0 0 (fun res => MQ below (va_Qi (fun r u => (r, u) = res) (Bw D (tyW cI cZ cO) 72 a (cX cI cZ cO a) (AA 72 a s.heap.size)) (AA 72 a s.heap.size)) args s 0 0 (AA 72 a s.heap.size)) (bX5_aimAt_88 k70 k88 x3 x4 x5 S) 88 [(0, .ref (a 5)), (1, .ref (a 3)), (2, .ref (a 4)), (3, .int x3), (4, .int x4), (5, .int x5)] [] S := by
  unfold bX5_aimAt_88
  refine g_iload (j := 5) hc dX5_aimAt_88 rfl ?_
  refine g_aload_n (j := 1) hc dX5_aimAt_90 rfl rfl ?_
  refine g_callVi (As := []) (rest := [.int x5]) (k := 3) (ci := 0) (q0 := (RX0, TX0, 7)) hc hE trX rfl (fun _ h => mX0_places S _ h) (cwV 0 hc.1.2.2.2.2 gX5_aimAt_X0_places rfl rfl rfl (by decide +kernel) ⟨by decide, by decide⟩) (by decide) rfl rfl rfl rfl (Nat.le_of_ble_eq_true rfl) dX5_aimAt_91 ⟨by decide, by decide⟩ (fun v1 S2 => ?_)
  refine g_icmp_ge (tgt := 178) hc dX5_aimAt_94 (by decide) ?_ ?_
  · refine g_iinc (j := 3) (w := x3 + 1) (L := fun v3 => [(3, .int v3), (0, .ref (a 5)), (1, .ref (a 3)), (2, .ref (a 4)), (4, .int x4), (5, .int x5)]) hc dX5_aimAt_178 rfl (by rfl) (by decide) (fun _ => rfl) (fun v3 => ?_)
    refine g_goto (tgt := 70) hc dX5_aimAt_181 (by decide) ?_
    refine g_lv [1, 2, 3, 0] rfl ?_
    exact hk70 v3 S2
  · refine g_aload_n (j := 2) hc dX5_aimAt_97 rfl rfl ?_
    refine g_iload_n (j := 3) hc dX5_aimAt_98 rfl rfl ?_
    refine g_iload (j := 5) hc dX5_aimAt_99 rfl ?_
    refine g_callVi (As := [.int x3, .int x5]) (rest := []) (k := 4) (ci := 3) (q0 := (RX3, TX3, 1)) hc hE trX rfl (fun _ h => mX3_wantedAt x3 x5 S2 _ h) (cwV 2 hc.1.2.2.2.2 gX5_aimAt_X3_wantedAt rfl rfl rfl (by decide +kernel) ⟨by decide, by decide⟩) (by decide) rfl rfl rfl rfl (Nat.le_of_ble_eq_true rfl) dX5_aimAt_101 ⟨by decide, by decide⟩ (fun v4 S5 => ?_)
    refine g_istore (L := fun v6 => [(6, .int v6), (0, .ref (a 5)), (1, .ref (a 3)), (2, .ref (a 4)), (3, .int x3), (4, .int x4), (5, .int x5)]) hc dX5_aimAt_104 (by decide) (fun _ => rfl) (fun v6 => ?_)
    refine g_aload_n (j := 2) hc dX5_aimAt_106 rfl rfl ?_
    refine g_iload (j := 5) hc dX5_aimAt_107 rfl ?_
    refine g_iload (j := 6) hc dX5_aimAt_109 rfl ?_
    refine g_callVi (As := [.int x4, .int x5]) (rest := []) (k := 3) (ci := 0) (q0 := (RX0, TX0, 7)) hc hE trX rfl (fun _ h => mX0_underFold x4 x5 S5 _ h) (cwV 2 hc.1.2.2.2.2 gX5_aimAt_X0_underFold rfl rfl rfl (by decide +kernel) ⟨by decide, by decide⟩) (by decide) rfl rfl rfl rfl (Nat.le_of_ble_eq_true rfl) dX5_aimAt_111 ⟨by decide, by decide⟩ (fun v7 S8 => ?_)
    refine g_istore (L := fun v9 => [(7, .int v9), (6, .int v6), (0, .ref (a 5)), (1, .ref (a 3)), (2, .ref (a 4)), (3, .int x3), (4, .int x4), (5, .int x5)]) hc dX5_aimAt_114 (by decide) (fun _ => rfl) (fun v9 => ?_)
    refine g_aload_n (j := 2) hc dX5_aimAt_116 rfl rfl ?_
    refine g_get (C0 := RX5) (T := TX5) (M := 10) (k := 5) (ci := 5) hc inX5_aimAt_X5 (by decide) rfl rfl 1 (by decide) (List.mem_of_getElem? (i := 2) rfl) rfl rfl dX5_aimAt_117 ?_
    refine g_iload (j := 6) hc dX5_aimAt_120 rfl ?_
    refine g_aald (k := 19) (base := 55) (t0 := 2) hc (by decide) rfl rfl dX5_aimAt_122 ?_
    refine g_iload (j := 0) hc dX5_aimAt_123 rfl ?_
    refine g_ialdr (base := 55) (cnt := 8) (t0 := 0) hc (by decide) (fun S r h => rowX_55 S h) rfl dX5_aimAt_125 ?_
    refine g_iconst (v := -1) hc dX5_aimAt_126 (by decide) ?_
    refine g_icmp_eq (tgt := 147) hc dX5_aimAt_127 (by decide) ?_ ?_
    · refine g_lv [2, 3, 4, 5, 6, 7, 1, 0] rfl ?_
      exact tX5_aimAt_147 hc hr hlk hE k70 hk70 k88 hk88 x3 x4 x5 v6 v9 S8
    · refine g_aload_n (j := 2) hc dX5_aimAt_130 rfl rfl ?_
      refine g_get (C0 := RX5) (T := TX5) (M := 10) (k := 5) (ci := 5) hc inX5_aimAt_X5 (by decide) rfl rfl 1 (by decide) (List.mem_of_getElem? (i := 2) rfl) rfl rfl dX5_aimAt_131 ?_
      refine g_iload (j := 6) hc dX5_aimAt_134 rfl ?_
      refine g_aald (k := 19) (base := 55) (t0 := 2) hc (by decide) rfl rfl dX5_aimAt_136 ?_
      refine g_iload (j := 0) hc dX5_aimAt_137 rfl ?_
      refine g_ialdr (base := 55) (cnt := 8) (t0 := 0) hc (by decide) (fun S r h => rowX_55 S h) rfl dX5_aimAt_139 ?_
      refine g_iload (j := 1) hc dX5_aimAt_140 rfl ?_
      refine g_icmp_eq (tgt := 147) hc dX5_aimAt_142 (by decide) ?_ ?_
      · refine g_lv [2, 3, 4, 5, 6, 7, 1, 0] rfl ?_
        exact tX5_aimAt_147 hc hr hlk hE k70 hk70 k88 hk88 x3 x4 x5 v6 v9 S8
      · refine g_iconst (v := 0) hc dX5_aimAt_145 (by decide) ?_
        exact g_zret hc hr hlk dX5_aimAt_146
set_option maxHeartbeats 4000000 in
set_option maxRecDepth 100000 in
theorem TX5_aimAt_88 {p : Program} {e : Env} {s : State} {m : MethodId} {args : Array Value} {below : List Frame} {meth : Method} {c : Code} (hc : CT p s m args c cX5_aimAt 8 RX5 wsX5_aimAt D (tyW cI cZ cO)) (hr : meth.sig.returnType = (some .boolean)) (hlk : meth.locks = false) (hE : EvX tF (AA 72 a s.heap.size) s) (k70 : Int32 → St → Option (Int32 × St)) (hk70 : ∀ (x3 : Int32) (S : St), GF p l e rX5_aimAt s m args below meth c D 72 a (cX cI cZ cO a) (AA 72 a s.heap.size) 8 0 0 (fun res => MQ below (va_Qi (fun r u => (r, u) = res) (Bw D (tyW cI cZ cO) 72 a (cX cI cZ cO a) (AA 72 a s.heap.size)) (AA 72 a s.heap.size)) args s 0 0 (AA 72 a s.heap.size)) (k70 x3 S) 70 [(0, .ref (a 5)), (1, .ref (a 3)), (2, .ref (a 4)), (3, .int x3)] [] S) (n : Nat) (x3 : Int32) (x4 : Int32) (x5 : Int32) (S : St) : GF p l e rX5_aimAt s m args below meth c D 72 a (cX cI cZ cO a) (AA 72 a s.heap.size) 8 0 0 (fun res => MQ below (va_Qi (fun r u => (r, u) = res) (Bw D (tyW cI cZ cO) 72 a (cX cI cZ cO a) (AA 72 a s.heap.size)) (AA 72 a s.heap.size)) args s 0 0 (AA 72 a s.heap.size)) (lX5_aimAt_88 k70 n x3 x4 x5 S) 88 [(0, .ref (a 5)), (1, .ref (a 3)), (2, .ref (a 4)), (3, .int x3), (4, .int x4), (5, .int x5)] [] S :=
  lp_ind (P := fun k : Int32 → Int32 → Int32 → St → Option (Int32 × St) => ∀ (x3 : Int32) (x4 : Int32) (x5 : Int32) (S : St), GF p l e rX5_aimAt s m args below meth c D 72 a (cX cI cZ cO a) (AA 72 a s.heap.size) 8 0 0 (fun res => MQ below (va_Qi (fun r u => (r, u) = res) (Bw D (tyW cI cZ cO) 72 a (cX cI cZ cO a) (AA 72 a s.heap.size)) (AA 72 a s.heap.size)) args s 0 0 (AA 72 a s.heap.size)) (k x3 x4 x5 S) 88 [(0, .ref (a 5)), (1, .ref (a 3)), (2, .ref (a 4)), (3, .int x3), (4, .int x4), (5, .int x5)] [] S) (fun _ _ _ _ => g_none) (fun k88 hk88 => tX5_aimAt_88 hc hr hlk hE k70 hk70 k88 hk88) n x3 x4 x5 S
set_option maxHeartbeats 4000000 in
set_option maxRecDepth 100000 in
theorem tX5_aimAt_70 {p : Program} {e : Env} {s : State} {m : MethodId} {args : Array Value} {below : List Frame} {meth : Method} {c : Code} (hc : CT p s m args c cX5_aimAt 8 RX5 wsX5_aimAt D (tyW cI cZ cO)) (hr : meth.sig.returnType = (some .boolean)) (hlk : meth.locks = false) (hE : EvX tF (AA 72 a s.heap.size) s) (k70 : Int32 → St → Option (Int32 × St)) (hk70 : ∀ (x3 : Int32) (S : St), GF p l e rX5_aimAt s m args below meth c D 72 a (cX cI cZ cO a) (AA 72 a s.heap.size) 8 0 0 (fun res => MQ below (va_Qi (fun r u => (r, u) = res) (Bw D (tyW cI cZ cO) 72 a (cX cI cZ cO a) (AA 72 a s.heap.size)) (AA 72 a s.heap.size)) args s 0 0 (AA 72 a s.heap.size)) (k70 x3 S) 70 [(0, .ref (a 5)), (1, .ref (a 3)), (2, .ref (a 4)), (3, .int x3)] [] S) (x3 : Int32) (S : St) : GF p l e rX5_aimAt s m args below meth c D 72 a (cX cI cZ cO a) (AA 72 a s.heap.size) 8 0 0 (fun res => MQ below (va_Qi (fun r u => (r, u) = res) (Bw D (tyW cI cZ cO) 72 a (cX cI cZ cO a) (AA 72 a s.heap.size)) (AA 72 a s.heap.size)) args s 0 0 (AA 72 a s.heap.size)) (bX5_aimAt_70 k70 x3 S) 70 [(0, .ref (a 5)), (1, .ref (a 3)), (2, .ref (a 4)), (3, .int x3)] [] S := by
  unfold bX5_aimAt_70
  refine g_iload_n (j := 3) hc dX5_aimAt_70 rfl rfl ?_
  refine g_aload_n (j := 1) hc dX5_aimAt_71 rfl rfl ?_
  refine g_callVi (As := []) (rest := [.int x3]) (k := 3) (ci := 0) (q0 := (RX0, TX0, 7)) hc hE trX rfl (fun _ h => mX0_threads S _ h) (cwV 0 hc.1.2.2.2.2 gX5_aimAt_X0_threads rfl rfl rfl (by decide +kernel) ⟨by decide, by decide⟩) (by decide) rfl rfl rfl rfl (Nat.le_of_ble_eq_true rfl) dX5_aimAt_72 ⟨by decide, by decide⟩ (fun v1 S2 => ?_)
  refine g_icmp_ge (tgt := 184) hc dX5_aimAt_75 (by decide) ?_ ?_
  · refine g_iconst (v := 1) hc dX5_aimAt_184 (by decide) ?_
    exact g_zret hc hr hlk dX5_aimAt_185
  · refine g_aload_n (j := 1) hc dX5_aimAt_78 rfl rfl ?_
    refine g_iload_n (j := 3) hc dX5_aimAt_79 rfl rfl ?_
    refine g_callVi (As := [.int x3]) (rest := []) (k := 3) (ci := 0) (q0 := (RX0, TX0, 7)) hc hE trX rfl (fun _ h => mX0_bundleOf x3 S2 _ h) (cwV 1 hc.1.2.2.2.2 gX5_aimAt_X0_bundleOf rfl rfl rfl (by decide +kernel) ⟨by decide, by decide⟩) (by decide) rfl rfl rfl rfl (Nat.le_of_ble_eq_true rfl) dX5_aimAt_80 ⟨by decide, by decide⟩ (fun v3 S4 => ?_)
    refine g_istore (L := fun v5 => [(4, .int v5), (0, .ref (a 5)), (1, .ref (a 3)), (2, .ref (a 4)), (3, .int x3)]) hc dX5_aimAt_83 (by decide) (fun _ => rfl) (fun v5 => ?_)
    refine g_iconst (v := 0) hc dX5_aimAt_85 (by decide) ?_
    refine g_istore (L := fun v6 => [(5, .int v6), (4, .int v5), (0, .ref (a 5)), (1, .ref (a 3)), (2, .ref (a 4)), (3, .int x3)]) hc dX5_aimAt_86 (by decide) (fun _ => rfl) (fun v6 => ?_)
    refine g_lv [2, 3, 4, 5, 1, 0] rfl ?_
    exact TX5_aimAt_88 hc hr hlk hE k70 hk70 FU x3 v5 v6 S4
set_option maxHeartbeats 4000000 in
set_option maxRecDepth 100000 in
theorem TX5_aimAt_70 {p : Program} {e : Env} {s : State} {m : MethodId} {args : Array Value} {below : List Frame} {meth : Method} {c : Code} (hc : CT p s m args c cX5_aimAt 8 RX5 wsX5_aimAt D (tyW cI cZ cO)) (hr : meth.sig.returnType = (some .boolean)) (hlk : meth.locks = false) (hE : EvX tF (AA 72 a s.heap.size) s) (n : Nat) (x3 : Int32) (S : St) : GF p l e rX5_aimAt s m args below meth c D 72 a (cX cI cZ cO a) (AA 72 a s.heap.size) 8 0 0 (fun res => MQ below (va_Qi (fun r u => (r, u) = res) (Bw D (tyW cI cZ cO) 72 a (cX cI cZ cO a) (AA 72 a s.heap.size)) (AA 72 a s.heap.size)) args s 0 0 (AA 72 a s.heap.size)) (lX5_aimAt_70 n x3 S) 70 [(0, .ref (a 5)), (1, .ref (a 3)), (2, .ref (a 4)), (3, .int x3)] [] S :=
  lp_ind (P := fun k : Int32 → St → Option (Int32 × St) => ∀ (x3 : Int32) (S : St), GF p l e rX5_aimAt s m args below meth c D 72 a (cX cI cZ cO a) (AA 72 a s.heap.size) 8 0 0 (fun res => MQ below (va_Qi (fun r u => (r, u) = res) (Bw D (tyW cI cZ cO) 72 a (cX cI cZ cO a) (AA 72 a s.heap.size)) (AA 72 a s.heap.size)) args s 0 0 (AA 72 a s.heap.size)) (k x3 S) 70 [(0, .ref (a 5)), (1, .ref (a 3)), (2, .ref (a 4)), (3, .int x3)] [] S) (fun _ _ => g_none) (fun k70 hk70 => tX5_aimAt_70 hc hr hlk hE k70 hk70) n x3 S
set_option maxHeartbeats 4000000 in
set_option maxRecDepth 100000 in
theorem tX5_aimAt_34 {p : Program} {e : Env} {s : State} {m : MethodId} {args : Array Value} {below : List Frame} {meth : Method} {c : Code} (hc : CT p s m args c cX5_aimAt 8 RX5 wsX5_aimAt D (tyW cI cZ cO)) (hr : meth.sig.returnType = (some .boolean)) (hlk : meth.locks = false) (hE : EvX tF (AA 72 a s.heap.size) s) (k2 : Int32 → St → Option (Int32 × St)) (hk2 : ∀ (x3 : Int32) (S : St), GF p l e rX5_aimAt s m args below meth c D 72 a (cX cI cZ cO a) (AA 72 a s.heap.size) 8 0 0 (fun res => MQ below (va_Qi (fun r u => (r, u) = res) (Bw D (tyW cI cZ cO) 72 a (cX cI cZ cO a) (AA 72 a s.heap.size)) (AA 72 a s.heap.size)) args s 0 0 (AA 72 a s.heap.size)) (k2 x3 S) 2 [(0, .ref (a 5)), (1, .ref (a 3)), (2, .ref (a 4)), (3, .int x3)] [] S) (k34 : Int32 → Int32 → St → Option (Int32 × St)) (hk34 : ∀ (x3 : Int32) (x4 : Int32) (S : St), GF p l e rX5_aimAt s m args below meth c D 72 a (cX cI cZ cO a) (AA 72 a s.heap.size) 8 0 0 (fun res => MQ below (va_Qi (fun r u => (r, u) = res) (Bw D (tyW cI cZ cO) 72 a (cX cI cZ cO a) (AA 72 a s.heap.size)) (AA 72 a s.heap.size)) args s 0 0 (AA 72 a s.heap.size)) (k34 x3 x4 S) 34 [(0, .ref (a 5)), (1, .ref (a 3)), (2, .ref (a 4)), (3, .int x3), (4, .int x4)] [] S) (x3 : Int32) (x4 : Int32) (S : St) : GF p l e rX5_aimAt s m args below meth c D 72 a (cX cI cZ cO a) (AA 72 a s.heap.size) 8 0 0 (fun res => MQ below (va_Qi (fun r u => (r, u) = res) (Bw D (tyW cI cZ cO) 72 a (cX cI cZ cO a) (AA 72 a s.heap.size)) (AA 72 a s.heap.size)) args s 0 0 (AA 72 a s.heap.size)) (bX5_aimAt_34 k2 k34 x3 x4 S) 34 [(0, .ref (a 5)), (1, .ref (a 3)), (2, .ref (a 4)), (3, .int x3), (4, .int x4)] [] S := by
  unfold bX5_aimAt_34
  refine g_iload (j := 4) hc dX5_aimAt_34 rfl ?_
  refine g_bipush (v := 24) hc dX5_aimAt_36 (by decide) ?_
  refine g_icmp_ge (tgt := 57) hc dX5_aimAt_38 (by decide) ?_ ?_
  · refine g_iinc (j := 3) (w := x3 + 1) (L := fun v1 => [(3, .int v1), (0, .ref (a 5)), (1, .ref (a 3)), (2, .ref (a 4)), (4, .int x4)]) hc dX5_aimAt_57 rfl (by rfl) (by decide) (fun _ => rfl) (fun v1 => ?_)
    refine g_goto (tgt := 2) hc dX5_aimAt_60 (by decide) ?_
    refine g_lv [1, 2, 3, 0] rfl ?_
    exact hk2 v1 S
  · refine g_aload_n (j := 0) hc dX5_aimAt_41 rfl rfl ?_
    refine g_get (C0 := RX5) (T := TX5) (M := 10) (k := 5) (ci := 5) hc inX5_aimAt_X5 (by decide) rfl rfl 1 (by decide) (List.mem_of_getElem? (i := 2) rfl) rfl rfl dX5_aimAt_42 ?_
    refine g_iload_n (j := 3) hc dX5_aimAt_45 rfl rfl ?_
    refine g_aald (k := 19) (base := 55) (t0 := 2) hc (by decide) rfl rfl dX5_aimAt_46 ?_
    refine g_iload (j := 4) hc dX5_aimAt_47 rfl ?_
    refine g_iconst (v := -1) hc dX5_aimAt_49 (by decide) ?_
    refine g_iastr (base := 55) (cnt := 8) (t0 := 0) hc locX (by decide) (fun S r h => rowX_55 S h) rfl dX5_aimAt_50 (fun S2 => ?_)
    refine g_iinc (j := 4) (w := x4 + 1) (L := fun v3 => [(4, .int v3), (0, .ref (a 5)), (1, .ref (a 3)), (2, .ref (a 4)), (3, .int x3)]) hc dX5_aimAt_51 rfl (by rfl) (by decide) (fun _ => rfl) (fun v3 => ?_)
    refine g_goto (tgt := 34) hc dX5_aimAt_54 (by decide) ?_
    refine g_lv [1, 2, 3, 4, 0] rfl ?_
    exact hk34 x3 v3 S2
set_option maxHeartbeats 4000000 in
set_option maxRecDepth 100000 in
theorem TX5_aimAt_34 {p : Program} {e : Env} {s : State} {m : MethodId} {args : Array Value} {below : List Frame} {meth : Method} {c : Code} (hc : CT p s m args c cX5_aimAt 8 RX5 wsX5_aimAt D (tyW cI cZ cO)) (hr : meth.sig.returnType = (some .boolean)) (hlk : meth.locks = false) (hE : EvX tF (AA 72 a s.heap.size) s) (k2 : Int32 → St → Option (Int32 × St)) (hk2 : ∀ (x3 : Int32) (S : St), GF p l e rX5_aimAt s m args below meth c D 72 a (cX cI cZ cO a) (AA 72 a s.heap.size) 8 0 0 (fun res => MQ below (va_Qi (fun r u => (r, u) = res) (Bw D (tyW cI cZ cO) 72 a (cX cI cZ cO a) (AA 72 a s.heap.size)) (AA 72 a s.heap.size)) args s 0 0 (AA 72 a s.heap.size)) (k2 x3 S) 2 [(0, .ref (a 5)), (1, .ref (a 3)), (2, .ref (a 4)), (3, .int x3)] [] S) (n : Nat) (x3 : Int32) (x4 : Int32) (S : St) : GF p l e rX5_aimAt s m args below meth c D 72 a (cX cI cZ cO a) (AA 72 a s.heap.size) 8 0 0 (fun res => MQ below (va_Qi (fun r u => (r, u) = res) (Bw D (tyW cI cZ cO) 72 a (cX cI cZ cO a) (AA 72 a s.heap.size)) (AA 72 a s.heap.size)) args s 0 0 (AA 72 a s.heap.size)) (lX5_aimAt_34 k2 n x3 x4 S) 34 [(0, .ref (a 5)), (1, .ref (a 3)), (2, .ref (a 4)), (3, .int x3), (4, .int x4)] [] S :=
  lp_ind (P := fun k : Int32 → Int32 → St → Option (Int32 × St) => ∀ (x3 : Int32) (x4 : Int32) (S : St), GF p l e rX5_aimAt s m args below meth c D 72 a (cX cI cZ cO a) (AA 72 a s.heap.size) 8 0 0 (fun res => MQ below (va_Qi (fun r u => (r, u) = res) (Bw D (tyW cI cZ cO) 72 a (cX cI cZ cO a) (AA 72 a s.heap.size)) (AA 72 a s.heap.size)) args s 0 0 (AA 72 a s.heap.size)) (k x3 x4 S) 34 [(0, .ref (a 5)), (1, .ref (a 3)), (2, .ref (a 4)), (3, .int x3), (4, .int x4)] [] S) (fun _ _ _ => g_none) (fun k34 hk34 => tX5_aimAt_34 hc hr hlk hE k2 hk2 k34 hk34) n x3 x4 S
set_option maxHeartbeats 4000000 in
set_option maxRecDepth 100000 in
theorem tX5_aimAt_30 {p : Program} {e : Env} {s : State} {m : MethodId} {args : Array Value} {below : List Frame} {meth : Method} {c : Code} (hc : CT p s m args c cX5_aimAt 8 RX5 wsX5_aimAt D (tyW cI cZ cO)) (hr : meth.sig.returnType = (some .boolean)) (hlk : meth.locks = false) (hE : EvX tF (AA 72 a s.heap.size) s) (k2 : Int32 → St → Option (Int32 × St)) (hk2 : ∀ (x3 : Int32) (S : St), GF p l e rX5_aimAt s m args below meth c D 72 a (cX cI cZ cO a) (AA 72 a s.heap.size) 8 0 0 (fun res => MQ below (va_Qi (fun r u => (r, u) = res) (Bw D (tyW cI cZ cO) 72 a (cX cI cZ cO a) (AA 72 a s.heap.size)) (AA 72 a s.heap.size)) args s 0 0 (AA 72 a s.heap.size)) (k2 x3 S) 2 [(0, .ref (a 5)), (1, .ref (a 3)), (2, .ref (a 4)), (3, .int x3)] [] S) (x3 : Int32) (y1 : Int32) (y2 : Int32) (S : St) : GF p l e rX5_aimAt s m args below meth c D 72 a (cX cI cZ cO a) (AA 72 a s.heap.size) 8 0 0 (fun res => MQ below (va_Qi (fun r u => (r, u) = res) (Bw D (tyW cI cZ cO) 72 a (cX cI cZ cO a) (AA 72 a s.heap.size)) (AA 72 a s.heap.size)) args s 0 0 (AA 72 a s.heap.size)) (bX5_aimAt_30 k2 x3 y1 y2 S) 30 [(0, .ref (a 5)), (1, .ref (a 3)), (2, .ref (a 4)), (3, .int x3)] [.int y2, .int y1, .ref (a 18)] S := by
  unfold bX5_aimAt_30
  refine g_iast (k := 18) (t0 := 0) hc locX (by decide) rfl rfl rfl dX5_aimAt_30 (fun S1 => ?_)
  refine g_iconst (v := 0) hc dX5_aimAt_31 (by decide) ?_
  refine g_istore (L := fun v2 => [(4, .int v2), (0, .ref (a 5)), (1, .ref (a 3)), (2, .ref (a 4)), (3, .int x3)]) hc dX5_aimAt_32 (by decide) (fun _ => rfl) (fun v2 => ?_)
  refine g_lv [1, 2, 3, 4, 0] rfl ?_
  exact TX5_aimAt_34 hc hr hlk hE k2 hk2 FU x3 v2 S1
set_option maxHeartbeats 4000000 in
set_option maxRecDepth 100000 in
theorem tX5_aimAt_2 {p : Program} {e : Env} {s : State} {m : MethodId} {args : Array Value} {below : List Frame} {meth : Method} {c : Code} (hc : CT p s m args c cX5_aimAt 8 RX5 wsX5_aimAt D (tyW cI cZ cO)) (hr : meth.sig.returnType = (some .boolean)) (hlk : meth.locks = false) (hE : EvX tF (AA 72 a s.heap.size) s) (k2 : Int32 → St → Option (Int32 × St)) (hk2 : ∀ (x3 : Int32) (S : St), GF p l e rX5_aimAt s m args below meth c D 72 a (cX cI cZ cO a) (AA 72 a s.heap.size) 8 0 0 (fun res => MQ below (va_Qi (fun r u => (r, u) = res) (Bw D (tyW cI cZ cO) 72 a (cX cI cZ cO a) (AA 72 a s.heap.size)) (AA 72 a s.heap.size)) args s 0 0 (AA 72 a s.heap.size)) (k2 x3 S) 2 [(0, .ref (a 5)), (1, .ref (a 3)), (2, .ref (a 4)), (3, .int x3)] [] S) (x3 : Int32) (S : St) : GF p l e rX5_aimAt s m args below meth c D 72 a (cX cI cZ cO a) (AA 72 a s.heap.size) 8 0 0 (fun res => MQ below (va_Qi (fun r u => (r, u) = res) (Bw D (tyW cI cZ cO) 72 a (cX cI cZ cO a) (AA 72 a s.heap.size)) (AA 72 a s.heap.size)) args s 0 0 (AA 72 a s.heap.size)) (bX5_aimAt_2 k2 x3 S) 2 [(0, .ref (a 5)), (1, .ref (a 3)), (2, .ref (a 4)), (3, .int x3)] [] S := by
  unfold bX5_aimAt_2
  refine g_iload_n (j := 3) hc dX5_aimAt_2 rfl rfl ?_
  refine g_bipush (v := 8) hc dX5_aimAt_3 (by decide) ?_
  refine g_icmp_ge (tgt := 63) hc dX5_aimAt_5 (by decide) ?_ ?_
  · refine g_aload_n (j := 0) hc dX5_aimAt_63 rfl rfl ?_
    refine g_iconst (v := 0) hc dX5_aimAt_64 (by decide) ?_
    refine g_put (ty := .int) (C0 := RX5) (T := TX5) (M := 10) (k := 5) (ci := 5) hc locX tyX5 tyX5_ok nmX5 inX5_aimAt_X5 (by decide) rfl rfl 2 (by decide) (List.mem_of_getElem? (i := 3) rfl) rfl rfl (by decide +kernel) rfl rfl (Nat.le_of_ble_eq_true rfl) rfl rfl dX5_aimAt_65 (fun S1 => ?_)
    refine g_iconst (v := 0) hc dX5_aimAt_68 (by decide) ?_
    refine g_istore_n (L := fun v2 => [(3, .int v2), (0, .ref (a 5)), (1, .ref (a 3)), (2, .ref (a 4))]) hc dX5_aimAt_69 rfl (by decide) (fun _ => rfl) (fun v2 => ?_)
    refine g_lv [1, 2, 3, 0] rfl ?_
    exact TX5_aimAt_70 hc hr hlk hE FU v2 S1
  · refine g_aload_n (j := 0) hc dX5_aimAt_8 rfl rfl ?_
    refine g_get (C0 := RX5) (T := TX5) (M := 10) (k := 5) (ci := 5) hc inX5_aimAt_X5 (by decide) rfl rfl 0 (by decide) (List.mem_of_getElem? (i := 1) rfl) rfl rfl dX5_aimAt_9 ?_
    refine g_iload_n (j := 3) hc dX5_aimAt_12 rfl rfl ?_
    refine g_aload_n (j := 1) hc dX5_aimAt_13 rfl rfl ?_
    refine g_iload_n (j := 3) hc dX5_aimAt_14 rfl rfl ?_
    refine g_callVi (As := [.int x3]) (rest := [.int x3, .ref (a 18)]) (k := 3) (ci := 0) (q0 := (RX0, TX0, 7)) hc hE trX rfl (fun _ h => mX0_threadsIn x3 S _ h) (cwV 1 hc.1.2.2.2.2 gX5_aimAt_X0_threadsIn rfl rfl rfl (by decide +kernel) ⟨by decide, by decide⟩) (by decide) rfl rfl rfl rfl (Nat.le_of_ble_eq_true rfl) dX5_aimAt_15 ⟨by decide, by decide⟩ (fun v3 S4 => ?_)
    refine g_if_le (tgt := 29) hc dX5_aimAt_18 (by decide) ?_ ?_
    · refine g_iconst (v := 0) hc dX5_aimAt_29 (by decide) ?_
      exact tX5_aimAt_30 hc hr hlk hE k2 hk2 x3 x3 0 S4
    · refine g_aload_n (j := 1) hc dX5_aimAt_21 rfl rfl ?_
      refine g_iload_n (j := 3) hc dX5_aimAt_22 rfl rfl ?_
      refine g_callVi (As := [.int x3]) (rest := [.int x3, .ref (a 18)]) (k := 3) (ci := 0) (q0 := (RX0, TX0, 7)) hc hE trX rfl (fun _ h => mX0_freePlaces x3 S4 _ h) (cwV 1 hc.1.2.2.2.2 gX5_aimAt_X0_freePlaces rfl rfl rfl (by decide +kernel) ⟨by decide, by decide⟩) (by decide) rfl rfl rfl rfl (Nat.le_of_ble_eq_true rfl) dX5_aimAt_23 ⟨by decide, by decide⟩ (fun v5 S6 => ?_)
      refine g_goto (tgt := 30) hc dX5_aimAt_26 (by decide) ?_
      exact tX5_aimAt_30 hc hr hlk hE k2 hk2 x3 x3 v5 S6
set_option maxHeartbeats 4000000 in
set_option maxRecDepth 100000 in
theorem TX5_aimAt_2 {p : Program} {e : Env} {s : State} {m : MethodId} {args : Array Value} {below : List Frame} {meth : Method} {c : Code} (hc : CT p s m args c cX5_aimAt 8 RX5 wsX5_aimAt D (tyW cI cZ cO)) (hr : meth.sig.returnType = (some .boolean)) (hlk : meth.locks = false) (hE : EvX tF (AA 72 a s.heap.size) s) (n : Nat) (x3 : Int32) (S : St) : GF p l e rX5_aimAt s m args below meth c D 72 a (cX cI cZ cO a) (AA 72 a s.heap.size) 8 0 0 (fun res => MQ below (va_Qi (fun r u => (r, u) = res) (Bw D (tyW cI cZ cO) 72 a (cX cI cZ cO a) (AA 72 a s.heap.size)) (AA 72 a s.heap.size)) args s 0 0 (AA 72 a s.heap.size)) (lX5_aimAt_2 n x3 S) 2 [(0, .ref (a 5)), (1, .ref (a 3)), (2, .ref (a 4)), (3, .int x3)] [] S :=
  lp_ind (P := fun k : Int32 → St → Option (Int32 × St) => ∀ (x3 : Int32) (S : St), GF p l e rX5_aimAt s m args below meth c D 72 a (cX cI cZ cO a) (AA 72 a s.heap.size) 8 0 0 (fun res => MQ below (va_Qi (fun r u => (r, u) = res) (Bw D (tyW cI cZ cO) 72 a (cX cI cZ cO a) (AA 72 a s.heap.size)) (AA 72 a s.heap.size)) args s 0 0 (AA 72 a s.heap.size)) (k x3 S) 2 [(0, .ref (a 5)), (1, .ref (a 3)), (2, .ref (a 4)), (3, .int x3)] [] S) (fun _ _ => g_none) (fun k2 hk2 => tX5_aimAt_2 hc hr hlk hE k2 hk2) n x3 S
set_option maxHeartbeats 4000000 in
set_option maxRecDepth 100000 in
theorem mX5_aimAt (S : St) : ∀ q, uX5_aimAt S = some q → Ki l yX5_aimAt wsX5_aimAt rX5_aimAt D (tyW cI cZ cO) 72 a (cX cI cZ cO a) (EvX tF) [.ref (a 5), .ref (a 3), .ref (a 4)] S q := by
  refine m_Ki (cc := cX5_aimAt) (nL := 8) (ret := (some .boolean)) (lv := [(0, .ref (a 5)), (1, .ref (a 3)), (2, .ref (a 4))]) (by decide) rfl (Nat.le_of_ble_eq_true rfl) rfl ?_
  intro p e s m args below meth c hc hr hlk hE
  unfold uX5_aimAt
  refine g_iconst (v := 0) hc dX5_aimAt_0 (by decide) ?_
  refine g_istore_n (L := fun v1 => [(3, .int v1), (0, .ref (a 5)), (1, .ref (a 3)), (2, .ref (a 4))]) hc dX5_aimAt_1 rfl (by decide) (fun _ => rfl) (fun v1 => ?_)
  refine g_lv [1, 2, 3, 0] rfl ?_
  exact TX5_aimAt_2 hc hr hlk hE FU v1 S
set_option maxHeartbeats 4000000 in
set_option maxRecDepth 100000 in
theorem tX5_gatherWays_103 {p : Program} {e : Env} {s : State} {m : MethodId} {args : Array Value} {below : List Frame} {meth : Method} {c : Code} (hc : CT p s m args c cX5_gatherWays 5 RX5 wsX5_gatherWays D (tyW cI cZ cO)) (hr : meth.sig.returnType = (some .boolean)) (hlk : meth.locks = false) (hE : EvX tF (AA 72 a s.heap.size) s) (y0 : Int32) (S : St) : GF p l e rX5_gatherWays s m args below meth c D 72 a (cX cI cZ cO a) (AA 72 a s.heap.size) 5 0 0 (fun res => MQ below (va_Qi (fun r u => (r, u) = res) (Bw D (tyW cI cZ cO) 72 a (cX cI cZ cO a) (AA 72 a s.heap.size)) (AA 72 a s.heap.size)) args s 0 0 (AA 72 a s.heap.size)) (bX5_gatherWays_103 y0 S) 103 [] [.int y0] S := by
  unfold bX5_gatherWays_103
  exact g_zret hc hr hlk dX5_gatherWays_103
set_option maxHeartbeats 4000000 in
set_option maxRecDepth 100000 in
theorem tX5_gatherWays_32 {p : Program} {e : Env} {s : State} {m : MethodId} {args : Array Value} {below : List Frame} {meth : Method} {c : Code} (hc : CT p s m args c cX5_gatherWays 5 RX5 wsX5_gatherWays D (tyW cI cZ cO)) (hr : meth.sig.returnType = (some .boolean)) (hlk : meth.locks = false) (hE : EvX tF (AA 72 a s.heap.size) s) (k32 : Int32 → Int32 → Int32 → St → Option (Int32 × St)) (hk32 : ∀ (x1 : Int32) (x2 : Int32) (x3 : Int32) (S : St), GF p l e rX5_gatherWays s m args below meth c D 72 a (cX cI cZ cO a) (AA 72 a s.heap.size) 5 0 0 (fun res => MQ below (va_Qi (fun r u => (r, u) = res) (Bw D (tyW cI cZ cO) 72 a (cX cI cZ cO a) (AA 72 a s.heap.size)) (AA 72 a s.heap.size)) args s 0 0 (AA 72 a s.heap.size)) (k32 x1 x2 x3 S) 32 [(0, .ref (a 5)), (1, .int x1), (2, .int x2), (3, .int x3)] [] S) (x1 : Int32) (x2 : Int32) (x3 : Int32) (S : St) : GF p l e rX5_gatherWays s m args below meth c D 72 a (cX cI cZ cO a) (AA 72 a s.heap.size) 5 0 0 (fun res => MQ below (va_Qi (fun r u => (r, u) = res) (Bw D (tyW cI cZ cO) 72 a (cX cI cZ cO a) (AA 72 a s.heap.size)) (AA 72 a s.heap.size)) args s 0 0 (AA 72 a s.heap.size)) (bX5_gatherWays_32 k32 x1 x2 x3 S) 32 [(0, .ref (a 5)), (1, .int x1), (2, .int x2), (3, .int x3)] [] S := by
  unfold bX5_gatherWays_32
  refine g_iload_n (j := 3) hc dX5_gatherWays_32 rfl rfl ?_
  refine g_iload_n (j := 1) hc dX5_gatherWays_33 rfl rfl ?_
  refine g_icmp_ge (tgt := 87) hc dX5_gatherWays_34 (by decide) ?_ ?_
  · refine g_aload_n (j := 0) hc dX5_gatherWays_87 rfl rfl ?_
    refine g_get (C0 := RX5) (T := TX5) (M := 10) (k := 5) (ci := 5) hc inX5_gatherWays_X5 (by decide) rfl rfl 2 (by decide) (List.mem_of_getElem? (i := 4) rfl) rfl rfl dX5_gatherWays_88 ?_
    refine g_iload_n (j := 2) hc dX5_gatherWays_91 rfl rfl ?_
    refine g_iconst (v := -1) hc dX5_gatherWays_92 (by decide) ?_
    refine g_ixor hc dX5_gatherWays_93 ?_
    refine g_iand hc dX5_gatherWays_94 ?_
    refine g_if_ne (tgt := 102) hc dX5_gatherWays_95 (by decide) ?_ ?_
    · refine g_iconst (v := 0) hc dX5_gatherWays_102 (by decide) ?_
      refine g_lv [] rfl ?_
      exact tX5_gatherWays_103 hc hr hlk hE 0 S
    · refine g_iconst (v := 1) hc dX5_gatherWays_98 (by decide) ?_
      refine g_goto (tgt := 103) hc dX5_gatherWays_99 (by decide) ?_
      refine g_lv [] rfl ?_
      exact tX5_gatherWays_103 hc hr hlk hE 1 S
  · refine g_aload_n (j := 0) hc dX5_gatherWays_37 rfl rfl ?_
    refine g_get (C0 := RX5) (T := TX5) (M := 10) (k := 5) (ci := 5) hc inX5_gatherWays_X5 (by decide) rfl rfl 4 (by decide) (List.mem_of_getElem? (i := 3) rfl) rfl rfl dX5_gatherWays_38 ?_
    refine g_iload_n (j := 3) hc dX5_gatherWays_41 rfl rfl ?_
    refine g_iald (k := 20) (t0 := 0) hc (by decide) rfl rfl dX5_gatherWays_42 ?_
    refine g_istore (L := fun v1 => [(4, .int v1), (0, .ref (a 5)), (1, .int x1), (2, .int x2), (3, .int x3)]) hc dX5_gatherWays_43 (by decide) (fun _ => rfl) (fun v1 => ?_)
    refine g_aload_n (j := 1) hc dX5_gatherWays_45 rfl rfl ?_
    refine g_get (C0 := RX5) (T := TX5) (M := 10) (k := 5) (ci := 5) hc inX5_gatherWays_X5 (by decide) rfl rfl 5 (by decide) (List.mem_of_getElem? (i := 1) rfl) rfl rfl dX5_gatherWays_46 ?_
    refine g_iload (j := 0) hc dX5_gatherWays_49 rfl ?_
    refine g_dup2 hc dX5_gatherWays_51 rfl rfl ?_
    refine g_iald (k := 21) (t0 := 0) hc (by decide) rfl rfl dX5_gatherWays_52 ?_
    refine g_iconst (v := 1) hc dX5_gatherWays_53 (by decide) ?_
    refine g_iload_n (j := 4) hc dX5_gatherWays_54 rfl rfl ?_
    refine g_ishl hc dX5_gatherWays_55 ?_
    refine g_ior hc dX5_gatherWays_56 ?_
    refine g_iast (k := 21) (t0 := 0) hc locX (by decide) rfl rfl rfl dX5_gatherWays_57 (fun S2 => ?_)
    refine g_aload_n (j := 1) hc dX5_gatherWays_58 rfl rfl ?_
    refine g_get (C0 := RX5) (T := TX5) (M := 10) (k := 5) (ci := 5) hc inX5_gatherWays_X5 (by decide) rfl rfl 6 (by decide) (List.mem_of_getElem? (i := 2) rfl) rfl rfl dX5_gatherWays_59 ?_
    refine g_iload (j := 0) hc dX5_gatherWays_62 rfl ?_
    refine g_dup2 hc dX5_gatherWays_64 rfl rfl ?_
    refine g_iald (k := 22) (t0 := 0) hc (by decide) rfl rfl dX5_gatherWays_65 ?_
    refine g_iconst (v := 1) hc dX5_gatherWays_66 (by decide) ?_
    refine g_iload_n (j := 4) hc dX5_gatherWays_67 rfl rfl ?_
    refine g_callSi (As := [.int x3]) (rest := [.int 1, .int (S2 22 v1.toNatClampNeg), .int v1, .ref (a 22)]) hc hE trX rfl (fun _ h => mX5_freshOf x3 S2 _ h) (va_cwS 1 hc.1.2.2.2.2 gX5_gatherWays_X5_freshOf rfl rfl rfl (by decide +kernel) ⟨by decide, by decide⟩) rfl rfl (Nat.le_of_ble_eq_true rfl) dX5_gatherWays_68 ⟨by decide, by decide⟩ (fun v3 S4 => ?_)
    refine g_ishl hc dX5_gatherWays_71 ?_
    refine g_ior hc dX5_gatherWays_72 ?_
    refine g_iast (k := 22) (t0 := 0) hc locX (by decide) rfl rfl rfl dX5_gatherWays_73 (fun S5 => ?_)
    refine g_iload_n (j := 3) hc dX5_gatherWays_74 rfl rfl ?_
    refine g_iconst (v := 1) hc dX5_gatherWays_75 (by decide) ?_
    refine g_iload (j := 0) hc dX5_gatherWays_76 rfl ?_
    refine g_ishl hc dX5_gatherWays_78 ?_
    refine g_ior hc dX5_gatherWays_79 ?_
    refine g_istore_n (L := fun v6 => [(2, .int v6), (4, .int v1), (0, .ref (a 5)), (1, .int x1), (3, .int x3)]) hc dX5_gatherWays_80 rfl (by decide) (fun _ => rfl) (fun v6 => ?_)
    refine g_iinc (j := 4) (w := x3 + 1) (L := fun v7 => [(3, .int v7), (2, .int v6), (4, .int v1), (0, .ref (a 5)), (1, .int x1)]) hc dX5_gatherWays_81 rfl (by rfl) (by decide) (fun _ => rfl) (fun v7 => ?_)
    refine g_goto (tgt := 32) hc dX5_gatherWays_84 (by decide) ?_
    refine g_lv [3, 4, 1, 0] rfl ?_
    exact hk32 x1 v6 v7 S5
set_option maxHeartbeats 4000000 in
set_option maxRecDepth 100000 in
theorem TX5_gatherWays_32 {p : Program} {e : Env} {s : State} {m : MethodId} {args : Array Value} {below : List Frame} {meth : Method} {c : Code} (hc : CT p s m args c cX5_gatherWays 5 RX5 wsX5_gatherWays D (tyW cI cZ cO)) (hr : meth.sig.returnType = (some .boolean)) (hlk : meth.locks = false) (hE : EvX tF (AA 72 a s.heap.size) s) (n : Nat) (x1 : Int32) (x2 : Int32) (x3 : Int32) (S : St) : GF p l e rX5_gatherWays s m args below meth c D 72 a (cX cI cZ cO a) (AA 72 a s.heap.size) 5 0 0 (fun res => MQ below (va_Qi (fun r u => (r, u) = res) (Bw D (tyW cI cZ cO) 72 a (cX cI cZ cO a) (AA 72 a s.heap.size)) (AA 72 a s.heap.size)) args s 0 0 (AA 72 a s.heap.size)) (lX5_gatherWays_32 n x1 x2 x3 S) 32 [(0, .ref (a 5)), (1, .int x1), (2, .int x2), (3, .int x3)] [] S :=
  lp_ind (P := fun k : Int32 → Int32 → Int32 → St → Option (Int32 × St) => ∀ (x1 : Int32) (x2 : Int32) (x3 : Int32) (S : St), GF p l e rX5_gatherWays s m args below meth c D 72 a (cX cI cZ cO a) (AA 72 a s.heap.size) 5 0 0 (fun res => MQ below (va_Qi (fun r u => (r, u) = res) (Bw D (tyW cI cZ cO) 72 a (cX cI cZ cO a) (AA 72 a s.heap.size)) (AA 72 a s.heap.size)) args s 0 0 (AA 72 a s.heap.size)) (k x1 x2 x3 S) 32 [(0, .ref (a 5)), (1, .int x1), (2, .int x2), (3, .int x3)] [] S) (fun _ _ _ _ => g_none) (fun k32 hk32 => tX5_gatherWays_32 hc hr hlk hE k32 hk32) n x1 x2 x3 S
set_option maxHeartbeats 4000000 in
set_option maxRecDepth 100000 in
theorem tX5_gatherWays_2 {p : Program} {e : Env} {s : State} {m : MethodId} {args : Array Value} {below : List Frame} {meth : Method} {c : Code} (hc : CT p s m args c cX5_gatherWays 5 RX5 wsX5_gatherWays D (tyW cI cZ cO)) (hr : meth.sig.returnType = (some .boolean)) (hlk : meth.locks = false) (hE : EvX tF (AA 72 a s.heap.size) s) (k2 : Int32 → Int32 → St → Option (Int32 × St)) (hk2 : ∀ (x1 : Int32) (x2 : Int32) (S : St), GF p l e rX5_gatherWays s m args below meth c D 72 a (cX cI cZ cO a) (AA 72 a s.heap.size) 5 0 0 (fun res => MQ below (va_Qi (fun r u => (r, u) = res) (Bw D (tyW cI cZ cO) 72 a (cX cI cZ cO a) (AA 72 a s.heap.size)) (AA 72 a s.heap.size)) args s 0 0 (AA 72 a s.heap.size)) (k2 x1 x2 S) 2 [(0, .ref (a 5)), (1, .int x1), (2, .int x2)] [] S) (x1 : Int32) (x2 : Int32) (S : St) : GF p l e rX5_gatherWays s m args below meth c D 72 a (cX cI cZ cO a) (AA 72 a s.heap.size) 5 0 0 (fun res => MQ below (va_Qi (fun r u => (r, u) = res) (Bw D (tyW cI cZ cO) 72 a (cX cI cZ cO a) (AA 72 a s.heap.size)) (AA 72 a s.heap.size)) args s 0 0 (AA 72 a s.heap.size)) (bX5_gatherWays_2 k2 x1 x2 S) 2 [(0, .ref (a 5)), (1, .int x1), (2, .int x2)] [] S := by
  unfold bX5_gatherWays_2
  refine g_iload_n (j := 2) hc dX5_gatherWays_2 rfl rfl ?_
  refine g_bipush (v := 16) hc dX5_gatherWays_3 (by decide) ?_
  refine g_icmp_ge (tgt := 28) hc dX5_gatherWays_5 (by decide) ?_ ?_
  · refine g_iconst (v := 0) hc dX5_gatherWays_28 (by decide) ?_
    refine g_istore_n (L := fun v1 => [(2, .int v1), (0, .ref (a 5)), (1, .int x1)]) hc dX5_gatherWays_29 rfl (by decide) (fun _ => rfl) (fun v1 => ?_)
    refine g_iconst (v := 0) hc dX5_gatherWays_30 (by decide) ?_
    refine g_istore_n (L := fun v2 => [(3, .int v2), (2, .int v1), (0, .ref (a 5)), (1, .int x1)]) hc dX5_gatherWays_31 rfl (by decide) (fun _ => rfl) (fun v2 => ?_)
    refine g_lv [2, 3, 1, 0] rfl ?_
    exact TX5_gatherWays_32 hc hr hlk hE FU x1 v1 v2 S
  · refine g_aload_n (j := 0) hc dX5_gatherWays_8 rfl rfl ?_
    refine g_get (C0 := RX5) (T := TX5) (M := 10) (k := 5) (ci := 5) hc inX5_gatherWays_X5 (by decide) rfl rfl 5 (by decide) (List.mem_of_getElem? (i := 1) rfl) rfl rfl dX5_gatherWays_9 ?_
    refine g_iload_n (j := 2) hc dX5_gatherWays_12 rfl rfl ?_
    refine g_iconst (v := 0) hc dX5_gatherWays_13 (by decide) ?_
    refine g_iast (k := 21) (t0 := 0) hc locX (by decide) rfl rfl rfl dX5_gatherWays_14 (fun S3 => ?_)
    refine g_aload_n (j := 0) hc dX5_gatherWays_15 rfl rfl ?_
    refine g_get (C0 := RX5) (T := TX5) (M := 10) (k := 5) (ci := 5) hc inX5_gatherWays_X5 (by decide) rfl rfl 6 (by decide) (List.mem_of_getElem? (i := 2) rfl) rfl rfl dX5_gatherWays_16 ?_
    refine g_iload_n (j := 2) hc dX5_gatherWays_19 rfl rfl ?_
    refine g_iconst (v := 0) hc dX5_gatherWays_20 (by decide) ?_
    refine g_iast (k := 22) (t0 := 0) hc locX (by decide) rfl rfl rfl dX5_gatherWays_21 (fun S4 => ?_)
    refine g_iinc (j := 2) (w := x2 + 1) (L := fun v5 => [(2, .int v5), (0, .ref (a 5)), (1, .int x1)]) hc dX5_gatherWays_22 rfl (by rfl) (by decide) (fun _ => rfl) (fun v5 => ?_)
    refine g_goto (tgt := 2) hc dX5_gatherWays_25 (by decide) ?_
    refine g_lv [1, 2, 0] rfl ?_
    exact hk2 x1 v5 S4
set_option maxHeartbeats 4000000 in
set_option maxRecDepth 100000 in
theorem TX5_gatherWays_2 {p : Program} {e : Env} {s : State} {m : MethodId} {args : Array Value} {below : List Frame} {meth : Method} {c : Code} (hc : CT p s m args c cX5_gatherWays 5 RX5 wsX5_gatherWays D (tyW cI cZ cO)) (hr : meth.sig.returnType = (some .boolean)) (hlk : meth.locks = false) (hE : EvX tF (AA 72 a s.heap.size) s) (n : Nat) (x1 : Int32) (x2 : Int32) (S : St) : GF p l e rX5_gatherWays s m args below meth c D 72 a (cX cI cZ cO a) (AA 72 a s.heap.size) 5 0 0 (fun res => MQ below (va_Qi (fun r u => (r, u) = res) (Bw D (tyW cI cZ cO) 72 a (cX cI cZ cO a) (AA 72 a s.heap.size)) (AA 72 a s.heap.size)) args s 0 0 (AA 72 a s.heap.size)) (lX5_gatherWays_2 n x1 x2 S) 2 [(0, .ref (a 5)), (1, .int x1), (2, .int x2)] [] S :=
  lp_ind (P := fun k : Int32 → Int32 → St → Option (Int32 × St) => ∀ (x1 : Int32) (x2 : Int32) (S : St), GF p l e rX5_gatherWays s m args below meth c D 72 a (cX cI cZ cO a) (AA 72 a s.heap.size) 5 0 0 (fun res => MQ below (va_Qi (fun r u => (r, u) = res) (Bw D (tyW cI cZ cO) 72 a (cX cI cZ cO a) (AA 72 a s.heap.size)) (AA 72 a s.heap.size)) args s 0 0 (AA 72 a s.heap.size)) (k x1 x2 S) 2 [(0, .ref (a 5)), (1, .int x1), (2, .int x2)] [] S) (fun _ _ _ => g_none) (fun k2 hk2 => tX5_gatherWays_2 hc hr hlk hE k2 hk2) n x1 x2 S
set_option maxHeartbeats 4000000 in
set_option maxRecDepth 100000 in
theorem mX5_gatherWays (x1 : Int32) (S : St) : ∀ q, uX5_gatherWays x1 S = some q → Ki l yX5_gatherWays wsX5_gatherWays rX5_gatherWays D (tyW cI cZ cO) 72 a (cX cI cZ cO a) (EvX tF) [.ref (a 5), .int x1] S q := by
  refine m_Ki (cc := cX5_gatherWays) (nL := 5) (ret := (some .boolean)) (lv := [(0, .ref (a 5)), (1, .int x1)]) (by decide) rfl (Nat.le_of_ble_eq_true rfl) rfl ?_
  intro p e s m args below meth c hc hr hlk hE
  unfold uX5_gatherWays
  refine g_iconst (v := 0) hc dX5_gatherWays_0 (by decide) ?_
  refine g_istore_n (L := fun v1 => [(2, .int v1), (0, .ref (a 5)), (1, .int x1)]) hc dX5_gatherWays_1 rfl (by decide) (fun _ => rfl) (fun v1 => ?_)
  refine g_lv [1, 2, 0] rfl ?_
  exact TX5_gatherWays_2 hc hr hlk hE FU x1 v1 S
set_option maxHeartbeats 4000000 in
set_option maxRecDepth 100000 in
theorem tX5_tryRow_49 {p : Program} {e : Env} {s : State} {m : MethodId} {args : Array Value} {below : List Frame} {meth : Method} {c : Code} (hc : CT p s m args c cX5_tryRow 8 RX5 wsX5_tryRow D (tyW cI cZ cO)) (hr : meth.sig.returnType = (some .boolean)) (hlk : meth.locks = false) (hE : EvX tF (AA 72 a s.heap.size) s) (k23 : Int32 → Int32 → St → Option (Int32 × St)) (hk23 : ∀ (x3 : Int32) (x4 : Int32) (S : St), GF p l e rX5_tryRow s m args below meth c D 72 a (cX cI cZ cO a) (AA 72 a s.heap.size) 8 0 0 (fun res => MQ below (va_Qi (fun r u => (r, u) = res) (Bw D (tyW cI cZ cO) 72 a (cX cI cZ cO a) (AA 72 a s.heap.size)) (AA 72 a s.heap.size)) args s 0 0 (AA 72 a s.heap.size)) (k23 x3 x4 S) 23 [(0, .ref (a 5)), (2, .ref (a 1)), (3, .int x3), (4, .int x4)] [] S) (k49 : Int32 → Int32 → Int32 → Int32 → Int32 → St → Option (Int32 × St)) (hk49 : ∀ (x3 : Int32) (x4 : Int32) (x5 : Int32) (x6 : Int32) (x7 : Int32) (S : St), GF p l e rX5_tryRow s m args below meth c D 72 a (cX cI cZ cO a) (AA 72 a s.heap.size) 8 0 0 (fun res => MQ below (va_Qi (fun r u => (r, u) = res) (Bw D (tyW cI cZ cO) 72 a (cX cI cZ cO a) (AA 72 a s.heap.size)) (AA 72 a s.heap.size)) args s 0 0 (AA 72 a s.heap.size)) (k49 x3 x4 x5 x6 x7 S) 49 [(0, .ref (a 5)), (2, .ref (a 1)), (3, .int x3), (4, .int x4), (5, .int x5), (6, .int x6), (7, .int x7)] [] S) (x3 : Int32) (x4 : Int32) (x5 : Int32) (x6 : Int32) (x7 : Int32) (S : St) : GF p l e rX5_tryRow s m args below meth c D 72 a (cX cI cZ cO a) (AA 72 a s.heap.size) 8 0 0 (fun res => MQ below (va_Qi (fun r u => (r, u) = res) (Bw D (tyW cI cZ cO) 72 a (cX cI cZ cO a) (AA 72 a s.heap.size)) (AA 72 a s.heap.size)) args s 0 0 (AA 72 a s.heap.size)) (bX5_tryRow_49 k23 k49 x3 x4 x5 x6 x7 S) 49 [(0, .ref (a 5)), (2, .ref (a 1)), (3, .int x3), (4, .int x4), (5, .int x5), (6, .int x6), (7, .int x7)] [] S := by
  unfold bX5_tryRow_49
  refine g_iload (j := 6) hc dX5_tryRow_49 rfl ?_
  refine g_iload (j := 4) hc dX5_tryRow_51 rfl ?_
  refine g_icmp_ge (tgt := 99) hc dX5_tryRow_53 (by decide) ?_ ?_
  · refine g_iinc (j := 3) (w := x4 + 1) (L := fun v1 => [(4, .int v1), (0, .ref (a 5)), (2, .ref (a 1)), (3, .int x3), (5, .int x5), (6, .int x6), (7, .int x7)]) hc dX5_tryRow_99 rfl (by rfl) (by decide) (fun _ => rfl) (fun v1 => ?_)
    refine g_goto (tgt := 23) hc dX5_tryRow_102 (by decide) ?_
    refine g_lv [1, 2, 3, 0] rfl ?_
    exact hk23 x3 v1 S
  · refine g_aload_n (j := 0) hc dX5_tryRow_56 rfl rfl ?_
    refine g_get (C0 := RX5) (T := TX5) (M := 10) (k := 5) (ci := 5) hc inX5_tryRow_X5 (by decide) rfl rfl 4 (by decide) (List.mem_of_getElem? (i := 2) rfl) rfl rfl dX5_tryRow_57 ?_
    refine g_iload (j := 6) hc dX5_tryRow_60 rfl ?_
    refine g_iload (j := 4) hc dX5_tryRow_62 rfl ?_
    refine g_ior hc dX5_tryRow_64 ?_
    refine g_aload_n (j := 0) hc dX5_tryRow_65 rfl rfl ?_
    refine g_get (C0 := RX5) (T := TX5) (M := 10) (k := 5) (ci := 5) hc inX5_tryRow_X5 (by decide) rfl rfl 4 (by decide) (List.mem_of_getElem? (i := 2) rfl) rfl rfl dX5_tryRow_66 ?_
    refine g_iload (j := 6) hc dX5_tryRow_69 rfl ?_
    refine g_iald (k := 20) (t0 := 0) hc (by decide) rfl rfl dX5_tryRow_71 ?_
    refine g_iast (k := 20) (t0 := 0) hc locX (by decide) rfl rfl rfl dX5_tryRow_72 (fun S2 => ?_)
    refine g_aload_n (j := 0) hc dX5_tryRow_73 rfl rfl ?_
    refine g_get (C0 := RX5) (T := TX5) (M := 10) (k := 5) (ci := 5) hc inX5_tryRow_X5 (by decide) rfl rfl 4 (by decide) (List.mem_of_getElem? (i := 2) rfl) rfl rfl dX5_tryRow_74 ?_
    refine g_iload (j := 6) hc dX5_tryRow_77 rfl ?_
    refine g_aload_n (j := 1) hc dX5_tryRow_79 rfl rfl ?_
    refine g_aload_n (j := 0) hc dX5_tryRow_80 rfl rfl ?_
    refine g_get (C0 := RX5) (T := TX5) (M := 10) (k := 5) (ci := 5) hc inX5_tryRow_X5 (by decide) rfl rfl 4 (by decide) (List.mem_of_getElem? (i := 2) rfl) rfl rfl dX5_tryRow_81 ?_
    refine g_iload (j := 6) hc dX5_tryRow_84 rfl ?_
    refine g_iald (k := 20) (t0 := 0) hc (by decide) rfl rfl dX5_tryRow_86 ?_
    refine g_iload (j := 5) hc dX5_tryRow_87 rfl ?_
    refine g_callVi (As := [.int (S2 20 x7.toNatClampNeg), .int x6]) (rest := [.int x7, .ref (a 20)]) (k := 1) (ci := 2) (q0 := (RX2, TX2, 1)) hc hE trX rfl (fun _ h => mX2_comesOf (S2 20 x7.toNatClampNeg) x6 S2 _ h) (cwV 2 hc.1.2.2.2.2 gX5_tryRow_X2_comesOf rfl rfl rfl (by decide +kernel) ⟨by decide, by decide⟩) (by decide) rfl rfl rfl rfl (Nat.le_of_ble_eq_true rfl) dX5_tryRow_89 ⟨by decide, by decide⟩ (fun v3 S4 => ?_)
    refine g_iast (k := 20) (t0 := 0) hc locX (by decide) rfl rfl rfl dX5_tryRow_92 (fun S5 => ?_)
    refine g_iinc (j := 6) (w := x7 + 1) (L := fun v6 => [(7, .int v6), (0, .ref (a 5)), (2, .ref (a 1)), (3, .int x3), (4, .int x4), (5, .int x5), (6, .int x6)]) hc dX5_tryRow_93 rfl (by rfl) (by decide) (fun _ => rfl) (fun v6 => ?_)
    refine g_goto (tgt := 49) hc dX5_tryRow_96 (by decide) ?_
    refine g_lv [1, 2, 3, 4, 5, 6, 0] rfl ?_
    exact hk49 x3 x4 x5 x6 v6 S5
set_option maxHeartbeats 4000000 in
set_option maxRecDepth 100000 in
theorem TX5_tryRow_49 {p : Program} {e : Env} {s : State} {m : MethodId} {args : Array Value} {below : List Frame} {meth : Method} {c : Code} (hc : CT p s m args c cX5_tryRow 8 RX5 wsX5_tryRow D (tyW cI cZ cO)) (hr : meth.sig.returnType = (some .boolean)) (hlk : meth.locks = false) (hE : EvX tF (AA 72 a s.heap.size) s) (k23 : Int32 → Int32 → St → Option (Int32 × St)) (hk23 : ∀ (x3 : Int32) (x4 : Int32) (S : St), GF p l e rX5_tryRow s m args below meth c D 72 a (cX cI cZ cO a) (AA 72 a s.heap.size) 8 0 0 (fun res => MQ below (va_Qi (fun r u => (r, u) = res) (Bw D (tyW cI cZ cO) 72 a (cX cI cZ cO a) (AA 72 a s.heap.size)) (AA 72 a s.heap.size)) args s 0 0 (AA 72 a s.heap.size)) (k23 x3 x4 S) 23 [(0, .ref (a 5)), (2, .ref (a 1)), (3, .int x3), (4, .int x4)] [] S) (n : Nat) (x3 : Int32) (x4 : Int32) (x5 : Int32) (x6 : Int32) (x7 : Int32) (S : St) : GF p l e rX5_tryRow s m args below meth c D 72 a (cX cI cZ cO a) (AA 72 a s.heap.size) 8 0 0 (fun res => MQ below (va_Qi (fun r u => (r, u) = res) (Bw D (tyW cI cZ cO) 72 a (cX cI cZ cO a) (AA 72 a s.heap.size)) (AA 72 a s.heap.size)) args s 0 0 (AA 72 a s.heap.size)) (lX5_tryRow_49 k23 n x3 x4 x5 x6 x7 S) 49 [(0, .ref (a 5)), (2, .ref (a 1)), (3, .int x3), (4, .int x4), (5, .int x5), (6, .int x6), (7, .int x7)] [] S :=
  lp_ind (P := fun k : Int32 → Int32 → Int32 → Int32 → Int32 → St → Option (Int32 × St) => ∀ (x3 : Int32) (x4 : Int32) (x5 : Int32) (x6 : Int32) (x7 : Int32) (S : St), GF p l e rX5_tryRow s m args below meth c D 72 a (cX cI cZ cO a) (AA 72 a s.heap.size) 8 0 0 (fun res => MQ below (va_Qi (fun r u => (r, u) = res) (Bw D (tyW cI cZ cO) 72 a (cX cI cZ cO a) (AA 72 a s.heap.size)) (AA 72 a s.heap.size)) args s 0 0 (AA 72 a s.heap.size)) (k x3 x4 x5 x6 x7 S) 49 [(0, .ref (a 5)), (2, .ref (a 1)), (3, .int x3), (4, .int x4), (5, .int x5), (6, .int x6), (7, .int x7)] [] S) (fun _ _ _ _ _ _ => g_none) (fun k49 hk49 => tX5_tryRow_49 hc hr hlk hE k23 hk23 k49 hk49) n x3 x4 x5 x6 x7 S
set_option maxHeartbeats 4000000 in
set_option maxRecDepth 100000 in
theorem tX5_tryRow_23 {p : Program} {e : Env} {s : State} {m : MethodId} {args : Array Value} {below : List Frame} {meth : Method} {c : Code} (hc : CT p s m args c cX5_tryRow 8 RX5 wsX5_tryRow D (tyW cI cZ cO)) (hr : meth.sig.returnType = (some .boolean)) (hlk : meth.locks = false) (hE : EvX tF (AA 72 a s.heap.size) s) (k23 : Int32 → Int32 → St → Option (Int32 × St)) (hk23 : ∀ (x3 : Int32) (x4 : Int32) (S : St), GF p l e rX5_tryRow s m args below meth c D 72 a (cX cI cZ cO a) (AA 72 a s.heap.size) 8 0 0 (fun res => MQ below (va_Qi (fun r u => (r, u) = res) (Bw D (tyW cI cZ cO) 72 a (cX cI cZ cO a) (AA 72 a s.heap.size)) (AA 72 a s.heap.size)) args s 0 0 (AA 72 a s.heap.size)) (k23 x3 x4 S) 23 [(0, .ref (a 5)), (2, .ref (a 1)), (3, .int x3), (4, .int x4)] [] S) (x3 : Int32) (x4 : Int32) (S : St) : GF p l e rX5_tryRow s m args below meth c D 72 a (cX cI cZ cO a) (AA 72 a s.heap.size) 8 0 0 (fun res => MQ below (va_Qi (fun r u => (r, u) = res) (Bw D (tyW cI cZ cO) 72 a (cX cI cZ cO a) (AA 72 a s.heap.size)) (AA 72 a s.heap.size)) args s 0 0 (AA 72 a s.heap.size)) (bX5_tryRow_23 k23 x3 x4 S) 23 [(0, .ref (a 5)), (2, .ref (a 1)), (3, .int x3), (4, .int x4)] [] S := by
  unfold bX5_tryRow_23
  refine g_iload (j := 3) hc dX5_tryRow_23 rfl ?_
  refine g_iload_n (j := 2) hc dX5_tryRow_25 rfl rfl ?_
  refine g_icmp_ge (tgt := 105) hc dX5_tryRow_26 (by decide) ?_ ?_
  · refine g_aload_n (j := 0) hc dX5_tryRow_105 rfl rfl ?_
    refine g_iconst (v := 1) hc dX5_tryRow_106 (by decide) ?_
    refine g_iload_n (j := 2) hc dX5_tryRow_107 rfl rfl ?_
    refine g_ishl hc dX5_tryRow_108 ?_
    refine g_callVi (As := [.int (1 <<< (x3 &&& 31))]) (rest := []) (k := 5) (ci := 5) (q0 := (RX5, TX5, 10)) hc hE trX rfl (fun _ h => mX5_gatherWays (1 <<< (x3 &&& 31)) S _ h) (cwV 1 hc.1.2.2.2.2 gX5_tryRow_X5_gatherWays rfl rfl rfl (by decide +kernel) ⟨by decide, by decide⟩) (by decide) rfl rfl rfl rfl (Nat.le_of_ble_eq_true rfl) dX5_tryRow_109 ⟨by decide, by decide⟩ (fun v1 S2 => ?_)
    exact g_zret hc hr hlk dX5_tryRow_112
  · refine g_iconst (v := 1) hc dX5_tryRow_29 (by decide) ?_
    refine g_iload (j := 3) hc dX5_tryRow_30 rfl ?_
    refine g_ishl hc dX5_tryRow_32 ?_
    refine g_istore (L := fun v3 => [(5, .int v3), (0, .ref (a 5)), (2, .ref (a 1)), (3, .int x3), (4, .int x4)]) hc dX5_tryRow_33 (by decide) (fun _ => rfl) (fun v3 => ?_)
    refine g_aload_n (j := 1) hc dX5_tryRow_35 rfl rfl ?_
    refine g_get (C0 := RX5) (T := TX5) (M := 10) (k := 5) (ci := 5) hc inX5_tryRow_X5 (by decide) rfl rfl 3 (by decide) (List.mem_of_getElem? (i := 1) rfl) rfl rfl dX5_tryRow_36 ?_
    refine g_iload (j := 4) hc dX5_tryRow_39 rfl ?_
    refine g_callNi (As := [.int (S 5 3), .int x4]) (rest := []) hc hE trX rfl (fun _ h => mX8_dyeOf (S 5 3) x4 S _ h) ⟨va_cnB 2 hc.1.2.2.2.2 gX5_tryRow_X8_dyeOf_n76 rfl rfl rfl hE.2.2.1.2.2.2 (hc.1.2.2.2.2 _ (List.mem_of_getElem? (i := 4) rfl)) (by decide +kernel) ⟨by decide, by decide⟩, hc.1.2.2.2.2 _ (List.mem_of_getElem? (i := 7) rfl), trivial⟩ rfl rfl (Nat.le_of_ble_eq_true rfl) dX5_tryRow_41 ⟨by decide, by decide⟩ (fun v4 S5 => ?_)
    refine g_istore (L := fun v6 => [(6, .int v6), (5, .int v3), (0, .ref (a 5)), (2, .ref (a 1)), (3, .int x3), (4, .int x4)]) hc dX5_tryRow_44 (by decide) (fun _ => rfl) (fun v6 => ?_)
    refine g_iconst (v := 0) hc dX5_tryRow_46 (by decide) ?_
    refine g_istore (L := fun v7 => [(7, .int v7), (6, .int v6), (5, .int v3), (0, .ref (a 5)), (2, .ref (a 1)), (3, .int x3), (4, .int x4)]) hc dX5_tryRow_47 (by decide) (fun _ => rfl) (fun v7 => ?_)
    refine g_lv [3, 4, 5, 6, 2, 1, 0] rfl ?_
    exact TX5_tryRow_49 hc hr hlk hE k23 hk23 FU x3 x4 v3 v6 v7 S5
set_option maxHeartbeats 4000000 in
set_option maxRecDepth 100000 in
theorem TX5_tryRow_23 {p : Program} {e : Env} {s : State} {m : MethodId} {args : Array Value} {below : List Frame} {meth : Method} {c : Code} (hc : CT p s m args c cX5_tryRow 8 RX5 wsX5_tryRow D (tyW cI cZ cO)) (hr : meth.sig.returnType = (some .boolean)) (hlk : meth.locks = false) (hE : EvX tF (AA 72 a s.heap.size) s) (n : Nat) (x3 : Int32) (x4 : Int32) (S : St) : GF p l e rX5_tryRow s m args below meth c D 72 a (cX cI cZ cO a) (AA 72 a s.heap.size) 8 0 0 (fun res => MQ below (va_Qi (fun r u => (r, u) = res) (Bw D (tyW cI cZ cO) 72 a (cX cI cZ cO a) (AA 72 a s.heap.size)) (AA 72 a s.heap.size)) args s 0 0 (AA 72 a s.heap.size)) (lX5_tryRow_23 n x3 x4 S) 23 [(0, .ref (a 5)), (2, .ref (a 1)), (3, .int x3), (4, .int x4)] [] S :=
  lp_ind (P := fun k : Int32 → Int32 → St → Option (Int32 × St) => ∀ (x3 : Int32) (x4 : Int32) (S : St), GF p l e rX5_tryRow s m args below meth c D 72 a (cX cI cZ cO a) (AA 72 a s.heap.size) 8 0 0 (fun res => MQ below (va_Qi (fun r u => (r, u) = res) (Bw D (tyW cI cZ cO) 72 a (cX cI cZ cO a) (AA 72 a s.heap.size)) (AA 72 a s.heap.size)) args s 0 0 (AA 72 a s.heap.size)) (k x3 x4 S) 23 [(0, .ref (a 5)), (2, .ref (a 1)), (3, .int x3), (4, .int x4)] [] S) (fun _ _ _ => g_none) (fun k23 hk23 => tX5_tryRow_23 hc hr hlk hE k23 hk23) n x3 x4 S
set_option maxHeartbeats 4000000 in
set_option maxRecDepth 100000 in
theorem mX5_tryRow (x1 : Int32) (S : St) : ∀ q, uX5_tryRow x1 S = some q → Ki l yX5_tryRow wsX5_tryRow rX5_tryRow D (tyW cI cZ cO) 72 a (cX cI cZ cO a) (EvX tF) [.ref (a 5), .int x1, .ref (a 1)] S q := by
  refine m_Ki (cc := cX5_tryRow) (nL := 8) (ret := (some .boolean)) (lv := [(0, .ref (a 5)), (1, .int x1), (2, .ref (a 1))]) (by decide) rfl (Nat.le_of_ble_eq_true rfl) rfl ?_
  intro p e s m args below meth c hc hr hlk hE
  unfold uX5_tryRow
  refine g_aload_n (j := 0) hc dX5_tryRow_0 rfl rfl ?_
  refine g_iload_n (j := 1) hc dX5_tryRow_1 rfl rfl ?_
  refine g_put (ty := .int) (C0 := RX5) (T := TX5) (M := 10) (k := 5) (ci := 5) hc locX tyX5 tyX5_ok nmX5 inX5_tryRow_X5 (by decide) rfl rfl 3 (by decide) (List.mem_of_getElem? (i := 1) rfl) rfl rfl (by decide +kernel) rfl rfl (Nat.le_of_ble_eq_true rfl) rfl rfl dX5_tryRow_2 (fun S1 => ?_)
  refine g_aload_n (j := 0) hc dX5_tryRow_5 rfl rfl ?_
  refine g_get (C0 := RX5) (T := TX5) (M := 10) (k := 5) (ci := 5) hc inX5_tryRow_X5 (by decide) rfl rfl 3 (by decide) (List.mem_of_getElem? (i := 1) rfl) rfl rfl dX5_tryRow_6 ?_
  refine g_callNi (As := [.int (S1 5 3)]) (rest := []) hc hE trX rfl (fun _ h => mX8_bathsOf (S1 5 3) S1 _ h) ⟨va_cnB 1 hc.1.2.2.2.2 gX5_tryRow_X8_bathsOf_n73 rfl rfl rfl hE.2.2.1.2.2.1 (hc.1.2.2.2.2 _ (List.mem_of_getElem? (i := 4) rfl)) (by decide +kernel) ⟨by decide, by decide⟩, hc.1.2.2.2.2 _ (List.mem_of_getElem? (i := 3) rfl), trivial⟩ rfl rfl (Nat.le_of_ble_eq_true rfl) dX5_tryRow_9 ⟨by decide, by decide⟩ (fun v2 S3 => ?_)
  refine g_istore_n (L := fun v4 => [(3, .int v4), (0, .ref (a 5)), (1, .int x1), (2, .ref (a 1))]) hc dX5_tryRow_12 rfl (by decide) (fun _ => rfl) (fun v4 => ?_)
  refine g_aload_n (j := 1) hc dX5_tryRow_13 rfl rfl ?_
  refine g_get (C0 := RX5) (T := TX5) (M := 10) (k := 5) (ci := 5) hc inX5_tryRow_X5 (by decide) rfl rfl 4 (by decide) (List.mem_of_getElem? (i := 2) rfl) rfl rfl dX5_tryRow_14 ?_
  refine g_iconst (v := 0) hc dX5_tryRow_17 (by decide) ?_
  refine g_iconst (v := 0) hc dX5_tryRow_18 (by decide) ?_
  refine g_iast (k := 20) (t0 := 0) hc locX (by decide) rfl rfl rfl dX5_tryRow_19 (fun S5 => ?_)
  refine g_iconst (v := 0) hc dX5_tryRow_20 (by decide) ?_
  refine g_istore (L := fun v6 => [(4, .int v6), (3, .int v4), (0, .ref (a 5)), (1, .int x1), (2, .ref (a 1))]) hc dX5_tryRow_21 (by decide) (fun _ => rfl) (fun v6 => ?_)
  refine g_lv [2, 4, 1, 0] rfl ?_
  exact TX5_tryRow_23 hc hr hlk hE FU v4 v6 S5
set_option maxHeartbeats 4000000 in
set_option maxRecDepth 100000 in
theorem mX5_withSupersets (x0 : Int32) (S : St) : ∀ q, uX5_withSupersets x0 S = some q → Ki l yX5_withSupersets wsX5_withSupersets rX5_withSupersets D (tyW cI cZ cO) 72 a (cX cI cZ cO a) (EvX tF) [.int x0] S q := by
  refine m_Ki (cc := cX5_withSupersets) (nL := 2) (ret := (some .int)) (lv := [(0, .int x0)]) (by decide) rfl (Nat.le_of_ble_eq_true rfl) rfl ?_
  intro p e s m args below meth c hc hr hlk hE
  unfold uX5_withSupersets
  refine g_iload_n (j := 0) hc dX5_withSupersets_0 rfl rfl ?_
  refine g_iload_n (j := 0) hc dX5_withSupersets_1 rfl rfl ?_
  refine g_sipush (v := 21845) hc dX5_withSupersets_2 (by decide) ?_
  refine g_iand hc dX5_withSupersets_5 ?_
  refine g_iconst (v := 1) hc dX5_withSupersets_6 (by decide) ?_
  refine g_ishl hc dX5_withSupersets_7 ?_
  refine g_ior hc dX5_withSupersets_8 ?_
  refine g_istore_n (L := fun v1 => [(1, .int v1), (0, .int x0)]) hc dX5_withSupersets_9 rfl (by decide) (fun _ => rfl) (fun v1 => ?_)
  refine g_iload_n (j := 0) hc dX5_withSupersets_10 rfl rfl ?_
  refine g_iload_n (j := 0) hc dX5_withSupersets_11 rfl rfl ?_
  refine g_sipush (v := 13107) hc dX5_withSupersets_12 (by decide) ?_
  refine g_iand hc dX5_withSupersets_15 ?_
  refine g_iconst (v := 2) hc dX5_withSupersets_16 (by decide) ?_
  refine g_ishl hc dX5_withSupersets_17 ?_
  refine g_ior hc dX5_withSupersets_18 ?_
  refine g_istore_n (L := fun v2 => [(1, .int v2), (0, .int x0)]) hc dX5_withSupersets_19 rfl (by decide) (fun _ => rfl) (fun v2 => ?_)
  refine g_iload_n (j := 0) hc dX5_withSupersets_20 rfl rfl ?_
  refine g_iload_n (j := 0) hc dX5_withSupersets_21 rfl rfl ?_
  refine g_sipush (v := 3855) hc dX5_withSupersets_22 (by decide) ?_
  refine g_iand hc dX5_withSupersets_25 ?_
  refine g_iconst (v := 4) hc dX5_withSupersets_26 (by decide) ?_
  refine g_ishl hc dX5_withSupersets_27 ?_
  refine g_ior hc dX5_withSupersets_28 ?_
  refine g_istore_n (L := fun v3 => [(1, .int v3), (0, .int x0)]) hc dX5_withSupersets_29 rfl (by decide) (fun _ => rfl) (fun v3 => ?_)
  refine g_iload_n (j := 0) hc dX5_withSupersets_30 rfl rfl ?_
  refine g_iload_n (j := 0) hc dX5_withSupersets_31 rfl rfl ?_
  refine g_sipush (v := 255) hc dX5_withSupersets_32 (by decide) ?_
  refine g_iand hc dX5_withSupersets_35 ?_
  refine g_bipush (v := 8) hc dX5_withSupersets_36 (by decide) ?_
  refine g_ishl hc dX5_withSupersets_38 ?_
  refine g_ior hc dX5_withSupersets_39 ?_
  exact g_iret hc hr hlk dX5_withSupersets_40
set_option maxHeartbeats 4000000 in
set_option maxRecDepth 100000 in
theorem mX5_lessOneBath (x0 : Int32) (S : St) : ∀ q, uX5_lessOneBath x0 S = some q → Ki l yX5_lessOneBath wsX5_lessOneBath rX5_lessOneBath D (tyW cI cZ cO) 72 a (cX cI cZ cO a) (EvX tF) [.int x0] S q := by
  refine m_Ki (cc := cX5_lessOneBath) (nL := 1) (ret := (some .int)) (lv := [(0, .int x0)]) (by decide) rfl (Nat.le_of_ble_eq_true rfl) rfl ?_
  intro p e s m args below meth c hc hr hlk hE
  unfold uX5_lessOneBath
  refine g_iload_n (j := 0) hc dX5_lessOneBath_0 rfl rfl ?_
  refine g_ldc (v := 43690) hc dX5_lessOneBath_1 (List.mem_of_getElem? (i := 1) rfl) ?_
  refine g_iand hc dX5_lessOneBath_3 ?_
  refine g_iconst (v := 1) hc dX5_lessOneBath_4 (by decide) ?_
  refine g_ishr hc dX5_lessOneBath_5 ?_
  refine g_iload_n (j := 0) hc dX5_lessOneBath_6 rfl rfl ?_
  refine g_ldc (v := 52428) hc dX5_lessOneBath_7 (List.mem_of_getElem? (i := 2) rfl) ?_
  refine g_iand hc dX5_lessOneBath_9 ?_
  refine g_iconst (v := 2) hc dX5_lessOneBath_10 (by decide) ?_
  refine g_ishr hc dX5_lessOneBath_11 ?_
  refine g_ior hc dX5_lessOneBath_12 ?_
  refine g_iload_n (j := 0) hc dX5_lessOneBath_13 rfl rfl ?_
  refine g_ldc (v := 61680) hc dX5_lessOneBath_14 (List.mem_of_getElem? (i := 3) rfl) ?_
  refine g_iand hc dX5_lessOneBath_16 ?_
  refine g_iconst (v := 4) hc dX5_lessOneBath_17 (by decide) ?_
  refine g_ishr hc dX5_lessOneBath_18 ?_
  refine g_ior hc dX5_lessOneBath_19 ?_
  refine g_iload_n (j := 0) hc dX5_lessOneBath_20 rfl rfl ?_
  refine g_ldc (v := 65280) hc dX5_lessOneBath_21 (List.mem_of_getElem? (i := 4) rfl) ?_
  refine g_iand hc dX5_lessOneBath_23 ?_
  refine g_bipush (v := 8) hc dX5_lessOneBath_24 (by decide) ?_
  refine g_ishr hc dX5_lessOneBath_26 ?_
  refine g_ior hc dX5_lessOneBath_27 ?_
  exact g_iret hc hr hlk dX5_lessOneBath_28
set_option maxHeartbeats 4000000 in
set_option maxRecDepth 100000 in
theorem tX5_weigh_63 {p : Program} {e : Env} {s : State} {m : MethodId} {args : Array Value} {below : List Frame} {meth : Method} {c : Code} (hc : CT p s m args c cX5_weigh 7 RX5 wsX5_weigh D (tyW cI cZ cO)) (hr : meth.sig.returnType = none) (hlk : meth.locks = false) (hE : EvX tF (AA 72 a s.heap.size) s) (x1 : Int32) (x3 : Int32) (x4 : Int32) (x5 : Int32) (S : St) : GF p l e rX5_weigh s m args below meth c D 72 a (cX cI cZ cO a) (AA 72 a s.heap.size) 7 0 0 (fun res => MQ below (va_Qv (fun u => ((0 : Int32), u) = res) (Bw D (tyW cI cZ cO) 72 a (cX cI cZ cO a) (AA 72 a s.heap.size)) (AA 72 a s.heap.size)) args s 0 0 (AA 72 a s.heap.size)) (bX5_weigh_63 x1 x3 x4 x5 S) 63 [(0, .ref (a 5)), (1, .int x1), (3, .int x3), (4, .int x4), (5, .int x5)] [] S := by
  unfold bX5_weigh_63
  refine g_aload_n (j := 0) hc dX5_weigh_63 rfl rfl ?_
  refine g_get (C0 := RX5) (T := TX5) (M := 10) (k := 5) (ci := 5) hc inX5_weigh_X5 (by decide) rfl rfl 7 (by decide) (List.mem_of_getElem? (i := 1) rfl) rfl rfl dX5_weigh_64 ?_
  refine g_iload_n (j := 1) hc dX5_weigh_67 rfl rfl ?_
  refine g_iload_n (j := 2) hc dX5_weigh_68 rfl rfl ?_
  refine g_iast (k := 23) (t0 := 0) hc locX (by decide) rfl rfl rfl dX5_weigh_69 (fun S1 => ?_)
  refine g_aload_n (j := 0) hc dX5_weigh_70 rfl rfl ?_
  refine g_get (C0 := RX5) (T := TX5) (M := 10) (k := 5) (ci := 5) hc inX5_weigh_X5 (by decide) rfl rfl 8 (by decide) (List.mem_of_getElem? (i := 2) rfl) rfl rfl dX5_weigh_71 ?_
  refine g_iload_n (j := 1) hc dX5_weigh_74 rfl rfl ?_
  refine g_iload (j := 3) hc dX5_weigh_75 rfl ?_
  refine g_callSi (As := [.int x4]) (rest := [.int x1, .ref (a 24)]) hc hE trX rfl (fun _ h => mX5_withSupersets x4 S1 _ h) (va_cwS 1 hc.1.2.2.2.2 gX5_weigh_X5_withSupersets rfl rfl rfl (by decide +kernel) ⟨by decide, by decide⟩) rfl rfl (Nat.le_of_ble_eq_true rfl) dX5_weigh_77 ⟨by decide, by decide⟩ (fun v2 S3 => ?_)
  refine g_iast (k := 24) (t0 := 0) hc locX (by decide) rfl rfl rfl dX5_weigh_80 (fun S4 => ?_)
  refine g_aload_n (j := 0) hc dX5_weigh_81 rfl rfl ?_
  refine g_get (C0 := RX5) (T := TX5) (M := 10) (k := 5) (ci := 5) hc inX5_weigh_X5 (by decide) rfl rfl 9 (by decide) (List.mem_of_getElem? (i := 3) rfl) rfl rfl dX5_weigh_82 ?_
  refine g_iload_n (j := 1) hc dX5_weigh_85 rfl rfl ?_
  refine g_iload (j := 4) hc dX5_weigh_86 rfl ?_
  refine g_iload (j := 3) hc dX5_weigh_88 rfl ?_
  refine g_callSi (As := [.int x4]) (rest := [.int x5, .int x1, .ref (a 25)]) hc hE trX rfl (fun _ h => mX5_lessOneBath x4 S4 _ h) (va_cwS 1 hc.1.2.2.2.2 gX5_weigh_X5_lessOneBath rfl rfl rfl (by decide +kernel) ⟨by decide, by decide⟩) rfl rfl (Nat.le_of_ble_eq_true rfl) dX5_weigh_90 ⟨by decide, by decide⟩ (fun v5 S6 => ?_)
  refine g_ior hc dX5_weigh_93 ?_
  refine g_callSi (As := [.int (x5 ||| v5)]) (rest := [.int x1, .ref (a 25)]) hc hE trX rfl (fun _ h => mX5_withSupersets (x5 ||| v5) S6 _ h) (va_cwS 1 hc.1.2.2.2.2 gX5_weigh_X5_withSupersets rfl rfl rfl (by decide +kernel) ⟨by decide, by decide⟩) rfl rfl (Nat.le_of_ble_eq_true rfl) dX5_weigh_94 ⟨by decide, by decide⟩ (fun v7 S8 => ?_)
  refine g_iast (k := 25) (t0 := 0) hc locX (by decide) rfl rfl rfl dX5_weigh_97 (fun S9 => ?_)
  exact g_vret hc hr hlk dX5_weigh_98
set_option maxHeartbeats 4000000 in
set_option maxRecDepth 100000 in
theorem tX5_weigh_36 {p : Program} {e : Env} {s : State} {m : MethodId} {args : Array Value} {below : List Frame} {meth : Method} {c : Code} (hc : CT p s m args c cX5_weigh 7 RX5 wsX5_weigh D (tyW cI cZ cO)) (hr : meth.sig.returnType = none) (hlk : meth.locks = false) (hE : EvX tF (AA 72 a s.heap.size) s) (k36 : Int32 → Int32 → Int32 → Int32 → Int32 → Int32 → St → Option (Int32 × St)) (hk36 : ∀ (x1 : Int32) (x2 : Int32) (x3 : Int32) (x4 : Int32) (x5 : Int32) (x6 : Int32) (S : St), GF p l e rX5_weigh s m args below meth c D 72 a (cX cI cZ cO a) (AA 72 a s.heap.size) 7 0 0 (fun res => MQ below (va_Qv (fun u => ((0 : Int32), u) = res) (Bw D (tyW cI cZ cO) 72 a (cX cI cZ cO a) (AA 72 a s.heap.size)) (AA 72 a s.heap.size)) args s 0 0 (AA 72 a s.heap.size)) (k36 x1 x2 x3 x4 x5 x6 S) 36 [(0, .ref (a 5)), (1, .int x1), (2, .int x2), (3, .int x3), (4, .int x4), (5, .int x5), (6, .int x6)] [] S) (x1 : Int32) (x2 : Int32) (x3 : Int32) (x4 : Int32) (x5 : Int32) (x6 : Int32) (S : St) : GF p l e rX5_weigh s m args below meth c D 72 a (cX cI cZ cO a) (AA 72 a s.heap.size) 7 0 0 (fun res => MQ below (va_Qv (fun u => ((0 : Int32), u) = res) (Bw D (tyW cI cZ cO) 72 a (cX cI cZ cO a) (AA 72 a s.heap.size)) (AA 72 a s.heap.size)) args s 0 0 (AA 72 a s.heap.size)) (bX5_weigh_36 k36 x1 x2 x3 x4 x5 x6 S) 36 [(0, .ref (a 5)), (1, .int x1), (2, .int x2), (3, .int x3), (4, .int x4), (5, .int x5), (6, .int x6)] [] S := by
  unfold bX5_weigh_36
  refine g_iload (j := 6) hc dX5_weigh_36 rfl ?_
  refine g_iconst (v := 2) hc dX5_weigh_38 (by decide) ?_
  refine g_icmp_gt (tgt := 63) hc dX5_weigh_39 (by decide) ?_ ?_
  · refine g_lv [0, 1, 3, 4, 5] rfl ?_
    exact tX5_weigh_63 hc hr hlk hE x1 x3 x4 x5 S
  · refine g_iload (j := 4) hc dX5_weigh_42 rfl ?_
    refine g_if_ne (tgt := 63) hc dX5_weigh_44 (by decide) ?_ ?_
    · refine g_lv [0, 1, 3, 4, 5] rfl ?_
      exact tX5_weigh_63 hc hr hlk hE x1 x3 x4 x5 S
    · refine g_iinc (j := 3) (w := x3 + 1) (L := fun v1 => [(3, .int v1), (0, .ref (a 5)), (1, .int x1), (2, .int x2), (4, .int x4), (5, .int x5), (6, .int x6)]) hc dX5_weigh_47 rfl (by rfl) (by decide) (fun _ => rfl) (fun v1 => ?_)
      refine g_iload (j := 5) hc dX5_weigh_50 rfl ?_
      refine g_istore (L := fun v2 => [(4, .int v2), (3, .int v1), (0, .ref (a 5)), (1, .int x1), (2, .int x2), (5, .int x5), (6, .int x6)]) hc dX5_weigh_52 (by decide) (fun _ => rfl) (fun v2 => ?_)
      refine g_iload_n (j := 4) hc dX5_weigh_54 rfl rfl ?_
      refine g_istore (L := fun v3 => [(5, .int v3), (4, .int v2), (3, .int v1), (0, .ref (a 5)), (1, .int x1), (2, .int x2), (6, .int x6)]) hc dX5_weigh_55 (by decide) (fun _ => rfl) (fun v3 => ?_)
      refine g_iinc (j := 6) (w := x6 + 1) (L := fun v4 => [(6, .int v4), (5, .int v3), (4, .int v2), (3, .int v1), (0, .ref (a 5)), (1, .int x1), (2, .int x2)]) hc dX5_weigh_57 rfl (by rfl) (by decide) (fun _ => rfl) (fun v4 => ?_)
      refine g_goto (tgt := 36) hc dX5_weigh_60 (by decide) ?_
      refine g_lv [4, 5, 6, 3, 2, 1, 0] rfl ?_
      exact hk36 x1 x2 v1 v2 v3 v4 S
set_option maxHeartbeats 4000000 in
set_option maxRecDepth 100000 in
theorem TX5_weigh_36 {p : Program} {e : Env} {s : State} {m : MethodId} {args : Array Value} {below : List Frame} {meth : Method} {c : Code} (hc : CT p s m args c cX5_weigh 7 RX5 wsX5_weigh D (tyW cI cZ cO)) (hr : meth.sig.returnType = none) (hlk : meth.locks = false) (hE : EvX tF (AA 72 a s.heap.size) s) (n : Nat) (x1 : Int32) (x2 : Int32) (x3 : Int32) (x4 : Int32) (x5 : Int32) (x6 : Int32) (S : St) : GF p l e rX5_weigh s m args below meth c D 72 a (cX cI cZ cO a) (AA 72 a s.heap.size) 7 0 0 (fun res => MQ below (va_Qv (fun u => ((0 : Int32), u) = res) (Bw D (tyW cI cZ cO) 72 a (cX cI cZ cO a) (AA 72 a s.heap.size)) (AA 72 a s.heap.size)) args s 0 0 (AA 72 a s.heap.size)) (lX5_weigh_36 n x1 x2 x3 x4 x5 x6 S) 36 [(0, .ref (a 5)), (1, .int x1), (2, .int x2), (3, .int x3), (4, .int x4), (5, .int x5), (6, .int x6)] [] S :=
  lp_ind (P := fun k : Int32 → Int32 → Int32 → Int32 → Int32 → Int32 → St → Option (Int32 × St) => ∀ (x1 : Int32) (x2 : Int32) (x3 : Int32) (x4 : Int32) (x5 : Int32) (x6 : Int32) (S : St), GF p l e rX5_weigh s m args below meth c D 72 a (cX cI cZ cO a) (AA 72 a s.heap.size) 7 0 0 (fun res => MQ below (va_Qv (fun u => ((0 : Int32), u) = res) (Bw D (tyW cI cZ cO) 72 a (cX cI cZ cO a) (AA 72 a s.heap.size)) (AA 72 a s.heap.size)) args s 0 0 (AA 72 a s.heap.size)) (k x1 x2 x3 x4 x5 x6 S) 36 [(0, .ref (a 5)), (1, .int x1), (2, .int x2), (3, .int x3), (4, .int x4), (5, .int x5), (6, .int x6)] [] S) (fun _ _ _ _ _ _ _ => g_none) (fun k36 hk36 => tX5_weigh_36 hc hr hlk hE k36 hk36) n x1 x2 x3 x4 x5 x6 S
set_option maxHeartbeats 4000000 in
set_option maxRecDepth 100000 in
theorem mX5_weigh (x1 : Int32) (x2 : Int32) (S : St) : ∀ q, uX5_weigh x1 x2 S = some q → Kv l yX5_weigh wsX5_weigh rX5_weigh D (tyW cI cZ cO) 72 a (cX cI cZ cO a) (EvX tF) [.ref (a 5), .int x1, .int x2] S q := by
  refine m_Kv (cc := cX5_weigh) (nL := 7) (ret := none) (lv := [(0, .ref (a 5)), (1, .int x1), (2, .int x2)]) (by decide) rfl (Nat.le_of_ble_eq_true rfl) rfl ?_
  intro p e s m args below meth c hc hr hlk hE
  unfold uX5_weigh
  refine g_aload_n (j := 0) hc dX5_weigh_0 rfl rfl ?_
  refine g_get (C0 := RX5) (T := TX5) (M := 10) (k := 5) (ci := 5) hc inX5_weigh_X5 (by decide) rfl rfl 7 (by decide) (List.mem_of_getElem? (i := 1) rfl) rfl rfl dX5_weigh_1 ?_
  refine g_iload_n (j := 1) hc dX5_weigh_4 rfl rfl ?_
  refine g_iconst (v := 1) hc dX5_weigh_5 (by decide) ?_
  refine g_iadd hc dX5_weigh_6 ?_
  refine g_iald (k := 23) (t0 := 0) hc (by decide) rfl rfl dX5_weigh_7 ?_
  refine g_istore_n (L := fun v1 => [(3, .int v1), (0, .ref (a 5)), (1, .int x1), (2, .int x2)]) hc dX5_weigh_8 rfl (by decide) (fun _ => rfl) (fun v1 => ?_)
  refine g_iload_n (j := 3) hc dX5_weigh_9 rfl rfl ?_
  refine g_aload_n (j := 1) hc dX5_weigh_10 rfl rfl ?_
  refine g_get (C0 := RX5) (T := TX5) (M := 10) (k := 5) (ci := 5) hc inX5_weigh_X5 (by decide) rfl rfl 8 (by decide) (List.mem_of_getElem? (i := 2) rfl) rfl rfl dX5_weigh_11 ?_
  refine g_iload_n (j := 2) hc dX5_weigh_14 rfl rfl ?_
  refine g_iconst (v := 1) hc dX5_weigh_15 (by decide) ?_
  refine g_iadd hc dX5_weigh_16 ?_
  refine g_iald (k := 24) (t0 := 0) hc (by decide) rfl rfl dX5_weigh_17 ?_
  refine g_iand hc dX5_weigh_18 ?_
  refine g_istore (L := fun v2 => [(4, .int v2), (3, .int v1), (0, .ref (a 5)), (1, .int x1), (2, .int x2)]) hc dX5_weigh_19 (by decide) (fun _ => rfl) (fun v2 => ?_)
  refine g_iload_n (j := 4) hc dX5_weigh_21 rfl rfl ?_
  refine g_aload_n (j := 2) hc dX5_weigh_22 rfl rfl ?_
  refine g_get (C0 := RX5) (T := TX5) (M := 10) (k := 5) (ci := 5) hc inX5_weigh_X5 (by decide) rfl rfl 9 (by decide) (List.mem_of_getElem? (i := 3) rfl) rfl rfl dX5_weigh_23 ?_
  refine g_iload_n (j := 3) hc dX5_weigh_26 rfl rfl ?_
  refine g_iconst (v := 1) hc dX5_weigh_27 (by decide) ?_
  refine g_iadd hc dX5_weigh_28 ?_
  refine g_iald (k := 25) (t0 := 0) hc (by decide) rfl rfl dX5_weigh_29 ?_
  refine g_iand hc dX5_weigh_30 ?_
  refine g_istore (L := fun v3 => [(5, .int v3), (4, .int v2), (3, .int v1), (0, .ref (a 5)), (1, .int x1), (2, .int x2)]) hc dX5_weigh_31 (by decide) (fun _ => rfl) (fun v3 => ?_)
  refine g_iconst (v := 1) hc dX5_weigh_33 (by decide) ?_
  refine g_istore (L := fun v4 => [(6, .int v4), (5, .int v3), (4, .int v2), (3, .int v1), (0, .ref (a 5)), (1, .int x1), (2, .int x2)]) hc dX5_weigh_34 (by decide) (fun _ => rfl) (fun v4 => ?_)
  refine g_lv [4, 5, 6, 3, 2, 1, 0] rfl ?_
  exact TX5_weigh_36 hc hr hlk hE FU x1 x2 v1 v2 v3 v4 S
set_option maxHeartbeats 4000000 in
set_option maxRecDepth 100000 in
theorem tX5_tiesFrom_44 {p : Program} {e : Env} {s : State} {m : MethodId} {args : Array Value} {below : List Frame} {meth : Method} {c : Code} (hc : CT p s m args c cX5_tiesFrom 3 RX5 wsX5_tiesFrom D (tyW cI cZ cO)) (hr : meth.sig.returnType = (some .int)) (hlk : meth.locks = false) (hE : EvX tF (AA 72 a s.heap.size) s) (y0 : Int32) (y1 : Int32) (S : St) : GF p l e rX5_tiesFrom s m args below meth c D 72 a (cX cI cZ cO a) (AA 72 a s.heap.size) 3 0 0 (fun res => MQ below (va_Qi (fun r u => (r, u) = res) (Bw D (tyW cI cZ cO) 72 a (cX cI cZ cO a) (AA 72 a s.heap.size)) (AA 72 a s.heap.size)) args s 0 0 (AA 72 a s.heap.size)) (bX5_tiesFrom_44 y0 y1 S) 44 [] [.int y1, .int y0] S := by
  unfold bX5_tiesFrom_44
  refine g_iadd hc dX5_tiesFrom_44 ?_
  exact g_iret hc hr hlk dX5_tiesFrom_45
set_option maxHeartbeats 4000000 in
set_option maxRecDepth 100000 in
theorem mX5_tiesFrom (x1 : Int32) (x2 : Int32) (S : St) : ∀ q, uX5_tiesFrom x1 x2 S = some q → Ki l yX5_tiesFrom wsX5_tiesFrom rX5_tiesFrom D (tyW cI cZ cO) 72 a (cX cI cZ cO a) (EvX tF) [.ref (a 5), .int x1, .int x2] S q := by
  refine m_Ki (cc := cX5_tiesFrom) (nL := 3) (ret := (some .int)) (lv := [(0, .ref (a 5)), (1, .int x1), (2, .int x2)]) (by decide) rfl (Nat.le_of_ble_eq_true rfl) rfl ?_
  intro p e s m args below meth c hc hr hlk hE
  unfold uX5_tiesFrom
  refine g_aload_n (j := 0) hc dX5_tiesFrom_0 rfl rfl ?_
  refine g_get (C0 := RX5) (T := TX5) (M := 10) (k := 5) (ci := 5) hc inX5_tiesFrom_X5 (by decide) rfl rfl 8 (by decide) (List.mem_of_getElem? (i := 1) rfl) rfl rfl dX5_tiesFrom_1 ?_
  refine g_iload_n (j := 1) hc dX5_tiesFrom_4 rfl rfl ?_
  refine g_iald (k := 24) (t0 := 0) hc (by decide) rfl rfl dX5_tiesFrom_5 ?_
  refine g_iload_n (j := 2) hc dX5_tiesFrom_6 rfl rfl ?_
  refine g_ishr hc dX5_tiesFrom_7 ?_
  refine g_iconst (v := 1) hc dX5_tiesFrom_8 (by decide) ?_
  refine g_iand hc dX5_tiesFrom_9 ?_
  refine g_if_eq (tgt := 20) hc dX5_tiesFrom_10 (by decide) ?_ ?_
  · refine g_aload_n (j := 0) hc dX5_tiesFrom_20 rfl rfl ?_
    refine g_get (C0 := RX5) (T := TX5) (M := 10) (k := 5) (ci := 5) hc inX5_tiesFrom_X5 (by decide) rfl rfl 7 (by decide) (List.mem_of_getElem? (i := 2) rfl) rfl rfl dX5_tiesFrom_21 ?_
    refine g_iload_n (j := 1) hc dX5_tiesFrom_24 rfl rfl ?_
    refine g_iald (k := 23) (t0 := 0) hc (by decide) rfl rfl dX5_tiesFrom_25 ?_
    refine g_aload_n (j := 0) hc dX5_tiesFrom_26 rfl rfl ?_
    refine g_get (C0 := RX5) (T := TX5) (M := 10) (k := 5) (ci := 5) hc inX5_tiesFrom_X5 (by decide) rfl rfl 9 (by decide) (List.mem_of_getElem? (i := 3) rfl) rfl rfl dX5_tiesFrom_27 ?_
    refine g_iload_n (j := 1) hc dX5_tiesFrom_30 rfl rfl ?_
    refine g_iald (k := 25) (t0 := 0) hc (by decide) rfl rfl dX5_tiesFrom_31 ?_
    refine g_iload_n (j := 2) hc dX5_tiesFrom_32 rfl rfl ?_
    refine g_ishr hc dX5_tiesFrom_33 ?_
    refine g_iconst (v := 1) hc dX5_tiesFrom_34 (by decide) ?_
    refine g_iand hc dX5_tiesFrom_35 ?_
    refine g_if_eq (tgt := 43) hc dX5_tiesFrom_36 (by decide) ?_ ?_
    · refine g_iconst (v := 2) hc dX5_tiesFrom_43 (by decide) ?_
      refine g_lv [] rfl ?_
      exact tX5_tiesFrom_44 hc hr hlk hE (S 23 x1.toNatClampNeg) 2 S
    · refine g_iconst (v := 1) hc dX5_tiesFrom_39 (by decide) ?_
      refine g_goto (tgt := 44) hc dX5_tiesFrom_40 (by decide) ?_
      refine g_lv [] rfl ?_
      exact tX5_tiesFrom_44 hc hr hlk hE (S 23 x1.toNatClampNeg) 1 S
  · refine g_aload_n (j := 0) hc dX5_tiesFrom_13 rfl rfl ?_
    refine g_get (C0 := RX5) (T := TX5) (M := 10) (k := 5) (ci := 5) hc inX5_tiesFrom_X5 (by decide) rfl rfl 7 (by decide) (List.mem_of_getElem? (i := 2) rfl) rfl rfl dX5_tiesFrom_14 ?_
    refine g_iload_n (j := 1) hc dX5_tiesFrom_17 rfl rfl ?_
    refine g_iald (k := 23) (t0 := 0) hc (by decide) rfl rfl dX5_tiesFrom_18 ?_
    exact g_iret hc hr hlk dX5_tiesFrom_19
set_option maxHeartbeats 4000000 in
set_option maxRecDepth 100000 in
theorem tX5_tiesOf_34 {p : Program} {e : Env} {s : State} {m : MethodId} {args : Array Value} {below : List Frame} {meth : Method} {c : Code} (hc : CT p s m args c cX5_tiesOf 4 RX5 wsX5_tiesOf D (tyW cI cZ cO)) (hr : meth.sig.returnType = (some .int)) (hlk : meth.locks = false) (hE : EvX tF (AA 72 a s.heap.size) s) (k34 : Int32 → Int32 → St → Option (Int32 × St)) (hk34 : ∀ (x1 : Int32) (x3 : Int32) (S : St), GF p l e rX5_tiesOf s m args below meth c D 72 a (cX cI cZ cO a) (AA 72 a s.heap.size) 4 0 0 (fun res => MQ below (va_Qi (fun r u => (r, u) = res) (Bw D (tyW cI cZ cO) 72 a (cX cI cZ cO a) (AA 72 a s.heap.size)) (AA 72 a s.heap.size)) args s 0 0 (AA 72 a s.heap.size)) (k34 x1 x3 S) 34 [(0, .ref (a 5)), (1, .int x1), (3, .int x3)] [] S) (x1 : Int32) (x3 : Int32) (S : St) : GF p l e rX5_tiesOf s m args below meth c D 72 a (cX cI cZ cO a) (AA 72 a s.heap.size) 4 0 0 (fun res => MQ below (va_Qi (fun r u => (r, u) = res) (Bw D (tyW cI cZ cO) 72 a (cX cI cZ cO a) (AA 72 a s.heap.size)) (AA 72 a s.heap.size)) args s 0 0 (AA 72 a s.heap.size)) (bX5_tiesOf_34 k34 x1 x3 S) 34 [(0, .ref (a 5)), (1, .int x1), (3, .int x3)] [] S := by
  unfold bX5_tiesOf_34
  refine g_iload_n (j := 2) hc dX5_tiesOf_34 rfl rfl ?_
  refine g_if_lt (tgt := 62) hc dX5_tiesOf_35 (by decide) ?_ ?_
  · refine g_aload_n (j := 0) hc dX5_tiesOf_62 rfl rfl ?_
    refine g_iconst (v := 0) hc dX5_tiesOf_63 (by decide) ?_
    refine g_iconst (v := 0) hc dX5_tiesOf_64 (by decide) ?_
    refine g_callVi (As := [.int 0, .int 0]) (rest := []) (k := 5) (ci := 5) (q0 := (RX5, TX5, 10)) hc hE trX rfl (fun _ h => mX5_tiesFrom 0 0 S _ h) (cwV 2 hc.1.2.2.2.2 gX5_tiesOf_X5_tiesFrom rfl rfl rfl (by decide +kernel) ⟨by decide, by decide⟩) (by decide) rfl rfl rfl rfl (Nat.le_of_ble_eq_true rfl) dX5_tiesOf_65 ⟨by decide, by decide⟩ (fun v1 S2 => ?_)
    exact g_iret hc hr hlk dX5_tiesOf_68
  · refine g_aload_n (j := 0) hc dX5_tiesOf_38 rfl rfl ?_
    refine g_iload_n (j := 2) hc dX5_tiesOf_39 rfl rfl ?_
    refine g_aload_n (j := 0) hc dX5_tiesOf_40 rfl rfl ?_
    refine g_get (C0 := RX5) (T := TX5) (M := 10) (k := 5) (ci := 5) hc inX5_tiesOf_X5 (by decide) rfl rfl 6 (by decide) (List.mem_of_getElem? (i := 6) rfl) rfl rfl dX5_tiesOf_41 ?_
    refine g_aload_n (j := 0) hc dX5_tiesOf_44 rfl rfl ?_
    refine g_get (C0 := RX5) (T := TX5) (M := 10) (k := 5) (ci := 5) hc inX5_tiesOf_X5 (by decide) rfl rfl 1 (by decide) (List.mem_of_getElem? (i := 7) rfl) rfl rfl dX5_tiesOf_45 ?_
    refine g_iload_n (j := 1) hc dX5_tiesOf_48 rfl rfl ?_
    refine g_aald (k := 19) (base := 55) (t0 := 2) hc (by decide) rfl rfl dX5_tiesOf_49 ?_
    refine g_iload_n (j := 2) hc dX5_tiesOf_50 rfl rfl ?_
    refine g_ialdr (base := 55) (cnt := 8) (t0 := 0) hc (by decide) (fun S r h => rowX_55 S h) rfl dX5_tiesOf_51 ?_
    refine g_iald (k := 22) (t0 := 0) hc (by decide) rfl rfl dX5_tiesOf_52 ?_
    refine g_callVv (As := [.int x3, .int (S 22 (S (55 + x1.toNatClampNeg) x3.toNatClampNeg).toNatClampNeg)]) (rest := []) (k := 5) (ci := 5) (q0 := (RX5, TX5, 10)) hc hE trX rfl (fun _ h => mX5_weigh x3 (S 22 (S (55 + x1.toNatClampNeg) x3.toNatClampNeg).toNatClampNeg) S _ h) (cwV 2 hc.1.2.2.2.2 gX5_tiesOf_X5_weigh rfl rfl rfl (by decide +kernel) ⟨by decide, by decide⟩) (by decide) rfl rfl rfl rfl (Nat.le_of_ble_eq_true rfl) dX5_tiesOf_53 ⟨by decide, by decide⟩ (fun S4 => ?_)
    refine g_iinc (j := 2) (w := x3 + (-1)) (L := fun v5 => [(3, .int v5), (0, .ref (a 5)), (1, .int x1)]) hc dX5_tiesOf_56 rfl (by rfl) (by decide) (fun _ => rfl) (fun v5 => ?_)
    refine g_goto (tgt := 34) hc dX5_tiesOf_59 (by decide) ?_
    refine g_lv [1, 2, 0] rfl ?_
    exact hk34 x1 v5 S4
set_option maxHeartbeats 4000000 in
set_option maxRecDepth 100000 in
theorem TX5_tiesOf_34 {p : Program} {e : Env} {s : State} {m : MethodId} {args : Array Value} {below : List Frame} {meth : Method} {c : Code} (hc : CT p s m args c cX5_tiesOf 4 RX5 wsX5_tiesOf D (tyW cI cZ cO)) (hr : meth.sig.returnType = (some .int)) (hlk : meth.locks = false) (hE : EvX tF (AA 72 a s.heap.size) s) (n : Nat) (x1 : Int32) (x3 : Int32) (S : St) : GF p l e rX5_tiesOf s m args below meth c D 72 a (cX cI cZ cO a) (AA 72 a s.heap.size) 4 0 0 (fun res => MQ below (va_Qi (fun r u => (r, u) = res) (Bw D (tyW cI cZ cO) 72 a (cX cI cZ cO a) (AA 72 a s.heap.size)) (AA 72 a s.heap.size)) args s 0 0 (AA 72 a s.heap.size)) (lX5_tiesOf_34 n x1 x3 S) 34 [(0, .ref (a 5)), (1, .int x1), (3, .int x3)] [] S :=
  lp_ind (P := fun k : Int32 → Int32 → St → Option (Int32 × St) => ∀ (x1 : Int32) (x3 : Int32) (S : St), GF p l e rX5_tiesOf s m args below meth c D 72 a (cX cI cZ cO a) (AA 72 a s.heap.size) 4 0 0 (fun res => MQ below (va_Qi (fun r u => (r, u) = res) (Bw D (tyW cI cZ cO) 72 a (cX cI cZ cO a) (AA 72 a s.heap.size)) (AA 72 a s.heap.size)) args s 0 0 (AA 72 a s.heap.size)) (k x1 x3 S) 34 [(0, .ref (a 5)), (1, .int x1), (3, .int x3)] [] S) (fun _ _ _ => g_none) (fun k34 hk34 => tX5_tiesOf_34 hc hr hlk hE k34 hk34) n x1 x3 S
set_option maxHeartbeats 4000000 in
set_option maxRecDepth 100000 in
theorem mX5_tiesOf (x1 : Int32) (S : St) : ∀ q, uX5_tiesOf x1 S = some q → Ki l yX5_tiesOf wsX5_tiesOf rX5_tiesOf D (tyW cI cZ cO) 72 a (cX cI cZ cO a) (EvX tF) [.ref (a 5), .int x1] S q := by
  refine m_Ki (cc := cX5_tiesOf) (nL := 4) (ret := (some .int)) (lv := [(0, .ref (a 5)), (1, .int x1)]) (by decide) rfl (Nat.le_of_ble_eq_true rfl) rfl ?_
  intro p e s m args below meth c hc hr hlk hE
  unfold uX5_tiesOf
  refine g_aload_n (j := 0) hc dX5_tiesOf_0 rfl rfl ?_
  refine g_get (C0 := RX5) (T := TX5) (M := 10) (k := 5) (ci := 5) hc inX5_tiesOf_X5 (by decide) rfl rfl 0 (by decide) (List.mem_of_getElem? (i := 1) rfl) rfl rfl dX5_tiesOf_1 ?_
  refine g_iload_n (j := 1) hc dX5_tiesOf_4 rfl rfl ?_
  refine g_iald (k := 18) (t0 := 0) hc (by decide) rfl rfl dX5_tiesOf_5 ?_
  refine g_istore_n (L := fun v1 => [(2, .int v1), (0, .ref (a 5)), (1, .int x1)]) hc dX5_tiesOf_6 rfl (by decide) (fun _ => rfl) (fun v1 => ?_)
  refine g_aload_n (j := 1) hc dX5_tiesOf_7 rfl rfl ?_
  refine g_get (C0 := RX5) (T := TX5) (M := 10) (k := 5) (ci := 5) hc inX5_tiesOf_X5 (by decide) rfl rfl 7 (by decide) (List.mem_of_getElem? (i := 2) rfl) rfl rfl dX5_tiesOf_8 ?_
  refine g_iload_n (j := 0) hc dX5_tiesOf_11 rfl rfl ?_
  refine g_iconst (v := 0) hc dX5_tiesOf_12 (by decide) ?_
  refine g_iast (k := 23) (t0 := 0) hc locX (by decide) rfl rfl rfl dX5_tiesOf_13 (fun S2 => ?_)
  refine g_aload_n (j := 1) hc dX5_tiesOf_14 rfl rfl ?_
  refine g_get (C0 := RX5) (T := TX5) (M := 10) (k := 5) (ci := 5) hc inX5_tiesOf_X5 (by decide) rfl rfl 8 (by decide) (List.mem_of_getElem? (i := 3) rfl) rfl rfl dX5_tiesOf_15 ?_
  refine g_iload_n (j := 0) hc dX5_tiesOf_18 rfl rfl ?_
  refine g_ldc (v := 65535) hc dX5_tiesOf_19 (List.mem_of_getElem? (i := 4) rfl) ?_
  refine g_iast (k := 24) (t0 := 0) hc locX (by decide) rfl rfl rfl dX5_tiesOf_21 (fun S3 => ?_)
  refine g_aload_n (j := 1) hc dX5_tiesOf_22 rfl rfl ?_
  refine g_get (C0 := RX5) (T := TX5) (M := 10) (k := 5) (ci := 5) hc inX5_tiesOf_X5 (by decide) rfl rfl 9 (by decide) (List.mem_of_getElem? (i := 5) rfl) rfl rfl dX5_tiesOf_23 ?_
  refine g_iload_n (j := 0) hc dX5_tiesOf_26 rfl rfl ?_
  refine g_ldc (v := 65535) hc dX5_tiesOf_27 (List.mem_of_getElem? (i := 4) rfl) ?_
  refine g_iast (k := 25) (t0 := 0) hc locX (by decide) rfl rfl rfl dX5_tiesOf_29 (fun S4 => ?_)
  refine g_iload_n (j := 0) hc dX5_tiesOf_30 rfl rfl ?_
  refine g_iconst (v := 1) hc dX5_tiesOf_31 (by decide) ?_
  refine g_isub hc dX5_tiesOf_32 ?_
  refine g_istore_n (L := fun v5 => [(3, .int v5), (2, .int v1), (0, .ref (a 5)), (1, .int x1)]) hc dX5_tiesOf_33 rfl (by decide) (fun _ => rfl) (fun v5 => ?_)
  refine g_lv [2, 3, 0] rfl ?_
  exact TX5_tiesOf_34 hc hr hlk hE FU x1 v5 S4
set_option maxHeartbeats 4000000 in
set_option maxRecDepth 100000 in
theorem tX5_tiesBelow_29 {p : Program} {e : Env} {s : State} {m : MethodId} {args : Array Value} {below : List Frame} {meth : Method} {c : Code} (hc : CT p s m args c cX5_tiesBelow 4 RX5 wsX5_tiesBelow D (tyW cI cZ cO)) (hr : meth.sig.returnType = (some .int)) (hlk : meth.locks = false) (hE : EvX tF (AA 72 a s.heap.size) s) (x2 : Int32) (S : St) : GF p l e rX5_tiesBelow s m args below meth c D 72 a (cX cI cZ cO a) (AA 72 a s.heap.size) 4 0 0 (fun res => MQ below (va_Qi (fun r u => (r, u) = res) (Bw D (tyW cI cZ cO) 72 a (cX cI cZ cO a) (AA 72 a s.heap.size)) (AA 72 a s.heap.size)) args s 0 0 (AA 72 a s.heap.size)) (bX5_tiesBelow_29 x2 S) 29 [(2, .int x2)] [] S := by
  unfold bX5_tiesBelow_29
  refine g_iload_n (j := 0) hc dX5_tiesBelow_29 rfl rfl ?_
  exact g_iret hc hr hlk dX5_tiesBelow_30
set_option maxHeartbeats 4000000 in
set_option maxRecDepth 100000 in
theorem tX5_tiesBelow_4 {p : Program} {e : Env} {s : State} {m : MethodId} {args : Array Value} {below : List Frame} {meth : Method} {c : Code} (hc : CT p s m args c cX5_tiesBelow 4 RX5 wsX5_tiesBelow D (tyW cI cZ cO)) (hr : meth.sig.returnType = (some .int)) (hlk : meth.locks = false) (hE : EvX tF (AA 72 a s.heap.size) s) (k4 : Int32 → Int32 → Int32 → St → Option (Int32 × St)) (hk4 : ∀ (x1 : Int32) (x2 : Int32) (x3 : Int32) (S : St), GF p l e rX5_tiesBelow s m args below meth c D 72 a (cX cI cZ cO a) (AA 72 a s.heap.size) 4 0 0 (fun res => MQ below (va_Qi (fun r u => (r, u) = res) (Bw D (tyW cI cZ cO) 72 a (cX cI cZ cO a) (AA 72 a s.heap.size)) (AA 72 a s.heap.size)) args s 0 0 (AA 72 a s.heap.size)) (k4 x1 x2 x3 S) 4 [(0, .ref (a 5)), (1, .int x1), (2, .int x2), (3, .int x3)] [] S) (x1 : Int32) (x2 : Int32) (x3 : Int32) (S : St) : GF p l e rX5_tiesBelow s m args below meth c D 72 a (cX cI cZ cO a) (AA 72 a s.heap.size) 4 0 0 (fun res => MQ below (va_Qi (fun r u => (r, u) = res) (Bw D (tyW cI cZ cO) 72 a (cX cI cZ cO a) (AA 72 a s.heap.size)) (AA 72 a s.heap.size)) args s 0 0 (AA 72 a s.heap.size)) (bX5_tiesBelow_4 k4 x1 x2 x3 S) 4 [(0, .ref (a 5)), (1, .int x1), (2, .int x2), (3, .int x3)] [] S := by
  unfold bX5_tiesBelow_4
  refine g_iload_n (j := 3) hc dX5_tiesBelow_4 rfl rfl ?_
  refine g_bipush (v := 8) hc dX5_tiesBelow_5 (by decide) ?_
  refine g_icmp_ge (tgt := 29) hc dX5_tiesBelow_7 (by decide) ?_ ?_
  · refine g_lv [2] rfl ?_
    exact tX5_tiesBelow_29 hc hr hlk hE x2 S
  · refine g_iload_n (j := 2) hc dX5_tiesBelow_10 rfl rfl ?_
    refine g_iload_n (j := 1) hc dX5_tiesBelow_11 rfl rfl ?_
    refine g_icmp_ge (tgt := 29) hc dX5_tiesBelow_12 (by decide) ?_ ?_
    · refine g_lv [2] rfl ?_
      exact tX5_tiesBelow_29 hc hr hlk hE x2 S
    · refine g_iload_n (j := 2) hc dX5_tiesBelow_15 rfl rfl ?_
      refine g_aload_n (j := 0) hc dX5_tiesBelow_16 rfl rfl ?_
      refine g_iload_n (j := 3) hc dX5_tiesBelow_17 rfl rfl ?_
      refine g_callVi (As := [.int x3]) (rest := [.int x2]) (k := 5) (ci := 5) (q0 := (RX5, TX5, 10)) hc hE trX rfl (fun _ h => mX5_tiesOf x3 S _ h) (cwV 1 hc.1.2.2.2.2 gX5_tiesBelow_X5_tiesOf rfl rfl rfl (by decide +kernel) ⟨by decide, by decide⟩) (by decide) rfl rfl rfl rfl (Nat.le_of_ble_eq_true rfl) dX5_tiesBelow_18 ⟨by decide, by decide⟩ (fun v1 S2 => ?_)
      refine g_iadd hc dX5_tiesBelow_21 ?_
      refine g_istore_n (L := fun v3 => [(2, .int v3), (0, .ref (a 5)), (1, .int x1), (3, .int x3)]) hc dX5_tiesBelow_22 rfl (by decide) (fun _ => rfl) (fun v3 => ?_)
      refine g_iinc (j := 3) (w := x3 + 1) (L := fun v4 => [(3, .int v4), (2, .int v3), (0, .ref (a 5)), (1, .int x1)]) hc dX5_tiesBelow_23 rfl (by rfl) (by decide) (fun _ => rfl) (fun v4 => ?_)
      refine g_goto (tgt := 4) hc dX5_tiesBelow_26 (by decide) ?_
      refine g_lv [2, 3, 1, 0] rfl ?_
      exact hk4 x1 v3 v4 S2
set_option maxHeartbeats 4000000 in
set_option maxRecDepth 100000 in
theorem TX5_tiesBelow_4 {p : Program} {e : Env} {s : State} {m : MethodId} {args : Array Value} {below : List Frame} {meth : Method} {c : Code} (hc : CT p s m args c cX5_tiesBelow 4 RX5 wsX5_tiesBelow D (tyW cI cZ cO)) (hr : meth.sig.returnType = (some .int)) (hlk : meth.locks = false) (hE : EvX tF (AA 72 a s.heap.size) s) (n : Nat) (x1 : Int32) (x2 : Int32) (x3 : Int32) (S : St) : GF p l e rX5_tiesBelow s m args below meth c D 72 a (cX cI cZ cO a) (AA 72 a s.heap.size) 4 0 0 (fun res => MQ below (va_Qi (fun r u => (r, u) = res) (Bw D (tyW cI cZ cO) 72 a (cX cI cZ cO a) (AA 72 a s.heap.size)) (AA 72 a s.heap.size)) args s 0 0 (AA 72 a s.heap.size)) (lX5_tiesBelow_4 n x1 x2 x3 S) 4 [(0, .ref (a 5)), (1, .int x1), (2, .int x2), (3, .int x3)] [] S :=
  lp_ind (P := fun k : Int32 → Int32 → Int32 → St → Option (Int32 × St) => ∀ (x1 : Int32) (x2 : Int32) (x3 : Int32) (S : St), GF p l e rX5_tiesBelow s m args below meth c D 72 a (cX cI cZ cO a) (AA 72 a s.heap.size) 4 0 0 (fun res => MQ below (va_Qi (fun r u => (r, u) = res) (Bw D (tyW cI cZ cO) 72 a (cX cI cZ cO a) (AA 72 a s.heap.size)) (AA 72 a s.heap.size)) args s 0 0 (AA 72 a s.heap.size)) (k x1 x2 x3 S) 4 [(0, .ref (a 5)), (1, .int x1), (2, .int x2), (3, .int x3)] [] S) (fun _ _ _ _ => g_none) (fun k4 hk4 => tX5_tiesBelow_4 hc hr hlk hE k4 hk4) n x1 x2 x3 S
set_option maxHeartbeats 4000000 in
set_option maxRecDepth 100000 in
theorem mX5_tiesBelow (x1 : Int32) (S : St) : ∀ q, uX5_tiesBelow x1 S = some q → Ki l yX5_tiesBelow wsX5_tiesBelow rX5_tiesBelow D (tyW cI cZ cO) 72 a (cX cI cZ cO a) (EvX tF) [.ref (a 5), .int x1] S q := by
  refine m_Ki (cc := cX5_tiesBelow) (nL := 4) (ret := (some .int)) (lv := [(0, .ref (a 5)), (1, .int x1)]) (by decide) rfl (Nat.le_of_ble_eq_true rfl) rfl ?_
  intro p e s m args below meth c hc hr hlk hE
  unfold uX5_tiesBelow
  refine g_iconst (v := 0) hc dX5_tiesBelow_0 (by decide) ?_
  refine g_istore_n (L := fun v1 => [(2, .int v1), (0, .ref (a 5)), (1, .int x1)]) hc dX5_tiesBelow_1 rfl (by decide) (fun _ => rfl) (fun v1 => ?_)
  refine g_iconst (v := 0) hc dX5_tiesBelow_2 (by decide) ?_
  refine g_istore_n (L := fun v2 => [(3, .int v2), (2, .int v1), (0, .ref (a 5)), (1, .int x1)]) hc dX5_tiesBelow_3 rfl (by decide) (fun _ => rfl) (fun v2 => ?_)
  refine g_lv [2, 3, 1, 0] rfl ?_
  exact TX5_tiesBelow_4 hc hr hlk hE FU x1 v1 v2 S
set_option maxHeartbeats 4000000 in
set_option maxRecDepth 100000 in
theorem tX5_bestRow_96 {p : Program} {e : Env} {s : State} {m : MethodId} {args : Array Value} {below : List Frame} {meth : Method} {c : Code} (hc : CT p s m args c cX5_bestRow 10 RX5 wsX5_bestRow D (tyW cI cZ cO)) (hr : meth.sig.returnType = (some .int)) (hlk : meth.locks = false) (hE : EvX tF (AA 72 a s.heap.size) s) (x3 : Int32) (S : St) : GF p l e rX5_bestRow s m args below meth c D 72 a (cX cI cZ cO a) (AA 72 a s.heap.size) 10 0 0 (fun res => MQ below (va_Qi (fun r u => (r, u) = res) (Bw D (tyW cI cZ cO) 72 a (cX cI cZ cO a) (AA 72 a s.heap.size)) (AA 72 a s.heap.size)) args s 0 0 (AA 72 a s.heap.size)) (bX5_bestRow_96 x3 S) 96 [(3, .int x3)] [] S := by
  unfold bX5_bestRow_96
  refine g_iload_n (j := 0) hc dX5_bestRow_96 rfl rfl ?_
  exact g_iret hc hr hlk dX5_bestRow_97
set_option maxHeartbeats 4000000 in
set_option maxRecDepth 100000 in
theorem tX5_bestRow_90 {p : Program} {e : Env} {s : State} {m : MethodId} {args : Array Value} {below : List Frame} {meth : Method} {c : Code} (hc : CT p s m args c cX5_bestRow 10 RX5 wsX5_bestRow D (tyW cI cZ cO)) (hr : meth.sig.returnType = (some .int)) (hlk : meth.locks = false) (hE : EvX tF (AA 72 a s.heap.size) s) (k9 : Int32 → Int32 → Int32 → Int32 → St → Option (Int32 × St)) (hk9 : ∀ (x1 : Int32) (x3 : Int32) (x4 : Int32) (x5 : Int32) (S : St), GF p l e rX5_bestRow s m args below meth c D 72 a (cX cI cZ cO a) (AA 72 a s.heap.size) 10 0 0 (fun res => MQ below (va_Qi (fun r u => (r, u) = res) (Bw D (tyW cI cZ cO) 72 a (cX cI cZ cO a) (AA 72 a s.heap.size)) (AA 72 a s.heap.size)) args s 0 0 (AA 72 a s.heap.size)) (k9 x1 x3 x4 x5 S) 9 [(0, .ref (a 5)), (1, .int x1), (2, .ref (a 1)), (3, .int x3), (4, .int x4), (5, .int x5)] [] S) (x1 : Int32) (x3 : Int32) (x4 : Int32) (x5 : Int32) (S : St) : GF p l e rX5_bestRow s m args below meth c D 72 a (cX cI cZ cO a) (AA 72 a s.heap.size) 10 0 0 (fun res => MQ below (va_Qi (fun r u => (r, u) = res) (Bw D (tyW cI cZ cO) 72 a (cX cI cZ cO a) (AA 72 a s.heap.size)) (AA 72 a s.heap.size)) args s 0 0 (AA 72 a s.heap.size)) (bX5_bestRow_90 k9 x1 x3 x4 x5 S) 90 [(0, .ref (a 5)), (1, .int x1), (2, .ref (a 1)), (3, .int x3), (4, .int x4), (5, .int x5)] [] S := by
  unfold bX5_bestRow_90
  refine g_iinc (j := 5) (w := x5 + 1) (L := fun v1 => [(5, .int v1), (0, .ref (a 5)), (1, .int x1), (2, .ref (a 1)), (3, .int x3), (4, .int x4)]) hc dX5_bestRow_90 rfl (by rfl) (by decide) (fun _ => rfl) (fun v1 => ?_)
  refine g_goto (tgt := 9) hc dX5_bestRow_93 (by decide) ?_
  refine g_lv [1, 2, 3, 4, 5, 0] rfl ?_
  exact hk9 x1 x3 x4 v1 S
set_option maxHeartbeats 4000000 in
set_option maxRecDepth 100000 in
theorem tX5_bestRow_84 {p : Program} {e : Env} {s : State} {m : MethodId} {args : Array Value} {below : List Frame} {meth : Method} {c : Code} (hc : CT p s m args c cX5_bestRow 10 RX5 wsX5_bestRow D (tyW cI cZ cO)) (hr : meth.sig.returnType = (some .int)) (hlk : meth.locks = false) (hE : EvX tF (AA 72 a s.heap.size) s) (k9 : Int32 → Int32 → Int32 → Int32 → St → Option (Int32 × St)) (hk9 : ∀ (x1 : Int32) (x3 : Int32) (x4 : Int32) (x5 : Int32) (S : St), GF p l e rX5_bestRow s m args below meth c D 72 a (cX cI cZ cO a) (AA 72 a s.heap.size) 10 0 0 (fun res => MQ below (va_Qi (fun r u => (r, u) = res) (Bw D (tyW cI cZ cO) 72 a (cX cI cZ cO a) (AA 72 a s.heap.size)) (AA 72 a s.heap.size)) args s 0 0 (AA 72 a s.heap.size)) (k9 x1 x3 x4 x5 S) 9 [(0, .ref (a 5)), (1, .int x1), (2, .ref (a 1)), (3, .int x3), (4, .int x4), (5, .int x5)] [] S) (k31 : Int32 → Int32 → Int32 → Int32 → Int32 → Int32 → St → Option (Int32 × St)) (hk31 : ∀ (x1 : Int32) (x3 : Int32) (x4 : Int32) (x5 : Int32) (x6 : Int32) (x7 : Int32) (S : St), GF p l e rX5_bestRow s m args below meth c D 72 a (cX cI cZ cO a) (AA 72 a s.heap.size) 10 0 0 (fun res => MQ below (va_Qi (fun r u => (r, u) = res) (Bw D (tyW cI cZ cO) 72 a (cX cI cZ cO a) (AA 72 a s.heap.size)) (AA 72 a s.heap.size)) args s 0 0 (AA 72 a s.heap.size)) (k31 x1 x3 x4 x5 x6 x7 S) 31 [(0, .ref (a 5)), (1, .int x1), (2, .ref (a 1)), (3, .int x3), (4, .int x4), (5, .int x5), (6, .int x6), (7, .int x7)] [] S) (x1 : Int32) (x3 : Int32) (x4 : Int32) (x5 : Int32) (x6 : Int32) (x7 : Int32) (S : St) : GF p l e rX5_bestRow s m args below meth c D 72 a (cX cI cZ cO a) (AA 72 a s.heap.size) 10 0 0 (fun res => MQ below (va_Qi (fun r u => (r, u) = res) (Bw D (tyW cI cZ cO) 72 a (cX cI cZ cO a) (AA 72 a s.heap.size)) (AA 72 a s.heap.size)) args s 0 0 (AA 72 a s.heap.size)) (bX5_bestRow_84 k9 k31 x1 x3 x4 x5 x6 x7 S) 84 [(0, .ref (a 5)), (1, .int x1), (2, .ref (a 1)), (3, .int x3), (4, .int x4), (5, .int x5), (6, .int x6), (7, .int x7)] [] S := by
  unfold bX5_bestRow_84
  refine g_iinc (j := 7) (w := x7 + 1) (L := fun v1 => [(7, .int v1), (0, .ref (a 5)), (1, .int x1), (2, .ref (a 1)), (3, .int x3), (4, .int x4), (5, .int x5), (6, .int x6)]) hc dX5_bestRow_84 rfl (by rfl) (by decide) (fun _ => rfl) (fun v1 => ?_)
  refine g_goto (tgt := 31) hc dX5_bestRow_87 (by decide) ?_
  refine g_lv [1, 2, 3, 4, 5, 6, 7, 0] rfl ?_
  exact hk31 x1 x3 x4 x5 x6 v1 S
set_option maxHeartbeats 4000000 in
set_option maxRecDepth 100000 in
theorem tX5_bestRow_31 {p : Program} {e : Env} {s : State} {m : MethodId} {args : Array Value} {below : List Frame} {meth : Method} {c : Code} (hc : CT p s m args c cX5_bestRow 10 RX5 wsX5_bestRow D (tyW cI cZ cO)) (hr : meth.sig.returnType = (some .int)) (hlk : meth.locks = false) (hE : EvX tF (AA 72 a s.heap.size) s) (k9 : Int32 → Int32 → Int32 → Int32 → St → Option (Int32 × St)) (hk9 : ∀ (x1 : Int32) (x3 : Int32) (x4 : Int32) (x5 : Int32) (S : St), GF p l e rX5_bestRow s m args below meth c D 72 a (cX cI cZ cO a) (AA 72 a s.heap.size) 10 0 0 (fun res => MQ below (va_Qi (fun r u => (r, u) = res) (Bw D (tyW cI cZ cO) 72 a (cX cI cZ cO a) (AA 72 a s.heap.size)) (AA 72 a s.heap.size)) args s 0 0 (AA 72 a s.heap.size)) (k9 x1 x3 x4 x5 S) 9 [(0, .ref (a 5)), (1, .int x1), (2, .ref (a 1)), (3, .int x3), (4, .int x4), (5, .int x5)] [] S) (k31 : Int32 → Int32 → Int32 → Int32 → Int32 → Int32 → St → Option (Int32 × St)) (hk31 : ∀ (x1 : Int32) (x3 : Int32) (x4 : Int32) (x5 : Int32) (x6 : Int32) (x7 : Int32) (S : St), GF p l e rX5_bestRow s m args below meth c D 72 a (cX cI cZ cO a) (AA 72 a s.heap.size) 10 0 0 (fun res => MQ below (va_Qi (fun r u => (r, u) = res) (Bw D (tyW cI cZ cO) 72 a (cX cI cZ cO a) (AA 72 a s.heap.size)) (AA 72 a s.heap.size)) args s 0 0 (AA 72 a s.heap.size)) (k31 x1 x3 x4 x5 x6 x7 S) 31 [(0, .ref (a 5)), (1, .int x1), (2, .ref (a 1)), (3, .int x3), (4, .int x4), (5, .int x5), (6, .int x6), (7, .int x7)] [] S) (x1 : Int32) (x3 : Int32) (x4 : Int32) (x5 : Int32) (x6 : Int32) (x7 : Int32) (S : St) : GF p l e rX5_bestRow s m args below meth c D 72 a (cX cI cZ cO a) (AA 72 a s.heap.size) 10 0 0 (fun res => MQ below (va_Qi (fun r u => (r, u) = res) (Bw D (tyW cI cZ cO) 72 a (cX cI cZ cO a) (AA 72 a s.heap.size)) (AA 72 a s.heap.size)) args s 0 0 (AA 72 a s.heap.size)) (bX5_bestRow_31 k9 k31 x1 x3 x4 x5 x6 x7 S) 31 [(0, .ref (a 5)), (1, .int x1), (2, .ref (a 1)), (3, .int x3), (4, .int x4), (5, .int x5), (6, .int x6), (7, .int x7)] [] S := by
  unfold bX5_bestRow_31
  refine g_iload (j := 7) hc dX5_bestRow_31 rfl ?_
  refine g_iload (j := 6) hc dX5_bestRow_33 rfl ?_
  refine g_icmp_ge (tgt := 90) hc dX5_bestRow_35 (by decide) ?_ ?_
  · refine g_lv [0, 1, 2, 3, 4, 5] rfl ?_
    exact tX5_bestRow_90 hc hr hlk hE k9 hk9 x1 x3 x4 x5 S
  · refine g_iload (j := 4) hc dX5_bestRow_38 rfl ?_
    refine g_if_le (tgt := 90) hc dX5_bestRow_40 (by decide) ?_ ?_
    · refine g_lv [0, 1, 2, 3, 4, 5] rfl ?_
      exact tX5_bestRow_90 hc hr hlk hE k9 hk9 x1 x3 x4 x5 S
    · refine g_iload (j := 7) hc dX5_bestRow_43 rfl ?_
      refine g_iload (j := 5) hc dX5_bestRow_45 rfl ?_
      refine g_callSi (As := [.int x7, .int x5]) (rest := []) hc hE trX rfl (fun _ h => mX5_rowOfTurn x7 x5 S _ h) (va_cwS 2 hc.1.2.2.2.2 gX5_bestRow_X5_rowOfTurn rfl rfl rfl (by decide +kernel) ⟨by decide, by decide⟩) rfl rfl (Nat.le_of_ble_eq_true rfl) dX5_bestRow_47 ⟨by decide, by decide⟩ (fun v1 S2 => ?_)
      refine g_istore (L := fun v3 => [(8, .int v3), (0, .ref (a 5)), (1, .int x1), (2, .ref (a 1)), (3, .int x3), (4, .int x4), (5, .int x5), (6, .int x6), (7, .int x7)]) hc dX5_bestRow_50 (by decide) (fun _ => rfl) (fun v3 => ?_)
      refine g_aload_n (j := 1) hc dX5_bestRow_52 rfl rfl ?_
      refine g_iload (j := 0) hc dX5_bestRow_53 rfl ?_
      refine g_aload_n (j := 3) hc dX5_bestRow_55 rfl rfl ?_
      refine g_callVi (As := [.int v3, .ref (a 1)]) (rest := []) (k := 5) (ci := 5) (q0 := (RX5, TX5, 10)) hc hE trX rfl (fun _ h => mX5_tryRow v3 S2 _ h) (cwV 2 hc.1.2.2.2.2 gX5_bestRow_X5_tryRow rfl rfl rfl (by decide +kernel) ⟨by decide, by decide⟩) (by decide) rfl rfl rfl rfl (Nat.le_of_ble_eq_true rfl) dX5_bestRow_56 ⟨by decide, by decide⟩ (fun v4 S5 => ?_)
      refine g_if_eq (tgt := 84) hc dX5_bestRow_59 (by decide) ?_ ?_
      · refine g_lv [1, 2, 3, 4, 5, 6, 7, 8] rfl ?_
        exact tX5_bestRow_84 hc hr hlk hE k9 hk9 k31 hk31 x1 x3 x4 x5 x6 x7 S5
      · refine g_aload_n (j := 1) hc dX5_bestRow_62 rfl rfl ?_
        refine g_iload (j := 5) hc dX5_bestRow_63 rfl ?_
        refine g_callVi (As := [.int x4]) (rest := []) (k := 5) (ci := 5) (q0 := (RX5, TX5, 10)) hc hE trX rfl (fun _ h => mX5_tiesBelow x4 S5 _ h) (cwV 1 hc.1.2.2.2.2 gX5_bestRow_X5_tiesBelow rfl rfl rfl (by decide +kernel) ⟨by decide, by decide⟩) (by decide) rfl rfl rfl rfl (Nat.le_of_ble_eq_true rfl) dX5_bestRow_65 ⟨by decide, by decide⟩ (fun v6 S7 => ?_)
        refine g_istore (L := fun v8 => [(9, .int v8), (8, .int v3), (0, .ref (a 5)), (1, .int x1), (2, .ref (a 1)), (3, .int x3), (4, .int x4), (5, .int x5), (6, .int x6), (7, .int x7)]) hc dX5_bestRow_68 (by decide) (fun _ => rfl) (fun v8 => ?_)
        refine g_iload (j := 0) hc dX5_bestRow_70 rfl ?_
        refine g_iload (j := 6) hc dX5_bestRow_72 rfl ?_
        refine g_icmp_ge (tgt := 84) hc dX5_bestRow_74 (by decide) ?_ ?_
        · refine g_lv [2, 3, 4, 5, 6, 7, 8, 9] rfl ?_
          exact tX5_bestRow_84 hc hr hlk hE k9 hk9 k31 hk31 x1 x3 x4 x5 x6 x7 S7
        · refine g_iload (j := 0) hc dX5_bestRow_77 rfl ?_
          refine g_istore (L := fun v9 => [(4, .int v9), (9, .int v8), (8, .int v3), (0, .ref (a 5)), (1, .int x1), (2, .ref (a 1)), (3, .int x3), (5, .int x5), (6, .int x6), (7, .int x7)]) hc dX5_bestRow_79 (by decide) (fun _ => rfl) (fun v9 => ?_)
          refine g_iload (j := 2) hc dX5_bestRow_81 rfl ?_
          refine g_istore_n (L := fun v10 => [(3, .int v10), (4, .int v9), (9, .int v8), (8, .int v3), (0, .ref (a 5)), (1, .int x1), (2, .ref (a 1)), (5, .int x5), (6, .int x6), (7, .int x7)]) hc dX5_bestRow_83 rfl (by decide) (fun _ => rfl) (fun v10 => ?_)
          refine g_lv [4, 5, 6, 0, 1, 7, 8, 9] rfl ?_
          exact tX5_bestRow_84 hc hr hlk hE k9 hk9 k31 hk31 x1 v10 v9 x5 x6 x7 S7
set_option maxHeartbeats 4000000 in
set_option maxRecDepth 100000 in
theorem TX5_bestRow_31 {p : Program} {e : Env} {s : State} {m : MethodId} {args : Array Value} {below : List Frame} {meth : Method} {c : Code} (hc : CT p s m args c cX5_bestRow 10 RX5 wsX5_bestRow D (tyW cI cZ cO)) (hr : meth.sig.returnType = (some .int)) (hlk : meth.locks = false) (hE : EvX tF (AA 72 a s.heap.size) s) (k9 : Int32 → Int32 → Int32 → Int32 → St → Option (Int32 × St)) (hk9 : ∀ (x1 : Int32) (x3 : Int32) (x4 : Int32) (x5 : Int32) (S : St), GF p l e rX5_bestRow s m args below meth c D 72 a (cX cI cZ cO a) (AA 72 a s.heap.size) 10 0 0 (fun res => MQ below (va_Qi (fun r u => (r, u) = res) (Bw D (tyW cI cZ cO) 72 a (cX cI cZ cO a) (AA 72 a s.heap.size)) (AA 72 a s.heap.size)) args s 0 0 (AA 72 a s.heap.size)) (k9 x1 x3 x4 x5 S) 9 [(0, .ref (a 5)), (1, .int x1), (2, .ref (a 1)), (3, .int x3), (4, .int x4), (5, .int x5)] [] S) (n : Nat) (x1 : Int32) (x3 : Int32) (x4 : Int32) (x5 : Int32) (x6 : Int32) (x7 : Int32) (S : St) : GF p l e rX5_bestRow s m args below meth c D 72 a (cX cI cZ cO a) (AA 72 a s.heap.size) 10 0 0 (fun res => MQ below (va_Qi (fun r u => (r, u) = res) (Bw D (tyW cI cZ cO) 72 a (cX cI cZ cO a) (AA 72 a s.heap.size)) (AA 72 a s.heap.size)) args s 0 0 (AA 72 a s.heap.size)) (lX5_bestRow_31 k9 n x1 x3 x4 x5 x6 x7 S) 31 [(0, .ref (a 5)), (1, .int x1), (2, .ref (a 1)), (3, .int x3), (4, .int x4), (5, .int x5), (6, .int x6), (7, .int x7)] [] S :=
  lp_ind (P := fun k : Int32 → Int32 → Int32 → Int32 → Int32 → Int32 → St → Option (Int32 × St) => ∀ (x1 : Int32) (x3 : Int32) (x4 : Int32) (x5 : Int32) (x6 : Int32) (x7 : Int32) (S : St), GF p l e rX5_bestRow s m args below meth c D 72 a (cX cI cZ cO a) (AA 72 a s.heap.size) 10 0 0 (fun res => MQ below (va_Qi (fun r u => (r, u) = res) (Bw D (tyW cI cZ cO) 72 a (cX cI cZ cO a) (AA 72 a s.heap.size)) (AA 72 a s.heap.size)) args s 0 0 (AA 72 a s.heap.size)) (k x1 x3 x4 x5 x6 x7 S) 31 [(0, .ref (a 5)), (1, .int x1), (2, .ref (a 1)), (3, .int x3), (4, .int x4), (5, .int x5), (6, .int x6), (7, .int x7)] [] S) (fun _ _ _ _ _ _ _ => g_none) (fun k31 hk31 => tX5_bestRow_31 hc hr hlk hE k9 hk9 k31 hk31) n x1 x3 x4 x5 x6 x7 S
set_option maxHeartbeats 4000000 in
set_option maxRecDepth 100000 in
theorem tX5_bestRow_9 {p : Program} {e : Env} {s : State} {m : MethodId} {args : Array Value} {below : List Frame} {meth : Method} {c : Code} (hc : CT p s m args c cX5_bestRow 10 RX5 wsX5_bestRow D (tyW cI cZ cO)) (hr : meth.sig.returnType = (some .int)) (hlk : meth.locks = false) (hE : EvX tF (AA 72 a s.heap.size) s) (k9 : Int32 → Int32 → Int32 → Int32 → St → Option (Int32 × St)) (hk9 : ∀ (x1 : Int32) (x3 : Int32) (x4 : Int32) (x5 : Int32) (S : St), GF p l e rX5_bestRow s m args below meth c D 72 a (cX cI cZ cO a) (AA 72 a s.heap.size) 10 0 0 (fun res => MQ below (va_Qi (fun r u => (r, u) = res) (Bw D (tyW cI cZ cO) 72 a (cX cI cZ cO a) (AA 72 a s.heap.size)) (AA 72 a s.heap.size)) args s 0 0 (AA 72 a s.heap.size)) (k9 x1 x3 x4 x5 S) 9 [(0, .ref (a 5)), (1, .int x1), (2, .ref (a 1)), (3, .int x3), (4, .int x4), (5, .int x5)] [] S) (x1 : Int32) (x3 : Int32) (x4 : Int32) (x5 : Int32) (S : St) : GF p l e rX5_bestRow s m args below meth c D 72 a (cX cI cZ cO a) (AA 72 a s.heap.size) 10 0 0 (fun res => MQ below (va_Qi (fun r u => (r, u) = res) (Bw D (tyW cI cZ cO) 72 a (cX cI cZ cO a) (AA 72 a s.heap.size)) (AA 72 a s.heap.size)) args s 0 0 (AA 72 a s.heap.size)) (bX5_bestRow_9 k9 x1 x3 x4 x5 S) 9 [(0, .ref (a 5)), (1, .int x1), (2, .ref (a 1)), (3, .int x3), (4, .int x4), (5, .int x5)] [] S := by
  unfold bX5_bestRow_9
  refine g_iload (j := 5) hc dX5_bestRow_9 rfl ?_
  refine g_iload_n (j := 1) hc dX5_bestRow_11 rfl rfl ?_
  refine g_icmp_gt (tgt := 96) hc dX5_bestRow_12 (by decide) ?_ ?_
  · refine g_lv [3] rfl ?_
    exact tX5_bestRow_96 hc hr hlk hE x3 S
  · refine g_iload (j := 4) hc dX5_bestRow_15 rfl ?_
    refine g_if_le (tgt := 96) hc dX5_bestRow_17 (by decide) ?_ ?_
    · refine g_lv [3] rfl ?_
      exact tX5_bestRow_96 hc hr hlk hE x3 S
    · refine g_iconst (v := 1) hc dX5_bestRow_20 (by decide) ?_
      refine g_iconst (v := 2) hc dX5_bestRow_21 (by decide) ?_
      refine g_iload (j := 5) hc dX5_bestRow_22 rfl ?_
      refine g_imul hc dX5_bestRow_24 ?_
      refine g_ishl hc dX5_bestRow_25 ?_
      refine g_istore (L := fun v1 => [(6, .int v1), (0, .ref (a 5)), (1, .int x1), (2, .ref (a 1)), (3, .int x3), (4, .int x4), (5, .int x5)]) hc dX5_bestRow_26 (by decide) (fun _ => rfl) (fun v1 => ?_)
      refine g_iconst (v := 0) hc dX5_bestRow_28 (by decide) ?_
      refine g_istore (L := fun v2 => [(7, .int v2), (6, .int v1), (0, .ref (a 5)), (1, .int x1), (2, .ref (a 1)), (3, .int x3), (4, .int x4), (5, .int x5)]) hc dX5_bestRow_29 (by decide) (fun _ => rfl) (fun v2 => ?_)
      refine g_lv [2, 3, 4, 5, 6, 7, 1, 0] rfl ?_
      exact TX5_bestRow_31 hc hr hlk hE k9 hk9 FU x1 x3 x4 x5 v1 v2 S
set_option maxHeartbeats 4000000 in
set_option maxRecDepth 100000 in
theorem TX5_bestRow_9 {p : Program} {e : Env} {s : State} {m : MethodId} {args : Array Value} {below : List Frame} {meth : Method} {c : Code} (hc : CT p s m args c cX5_bestRow 10 RX5 wsX5_bestRow D (tyW cI cZ cO)) (hr : meth.sig.returnType = (some .int)) (hlk : meth.locks = false) (hE : EvX tF (AA 72 a s.heap.size) s) (n : Nat) (x1 : Int32) (x3 : Int32) (x4 : Int32) (x5 : Int32) (S : St) : GF p l e rX5_bestRow s m args below meth c D 72 a (cX cI cZ cO a) (AA 72 a s.heap.size) 10 0 0 (fun res => MQ below (va_Qi (fun r u => (r, u) = res) (Bw D (tyW cI cZ cO) 72 a (cX cI cZ cO a) (AA 72 a s.heap.size)) (AA 72 a s.heap.size)) args s 0 0 (AA 72 a s.heap.size)) (lX5_bestRow_9 n x1 x3 x4 x5 S) 9 [(0, .ref (a 5)), (1, .int x1), (2, .ref (a 1)), (3, .int x3), (4, .int x4), (5, .int x5)] [] S :=
  lp_ind (P := fun k : Int32 → Int32 → Int32 → Int32 → St → Option (Int32 × St) => ∀ (x1 : Int32) (x3 : Int32) (x4 : Int32) (x5 : Int32) (S : St), GF p l e rX5_bestRow s m args below meth c D 72 a (cX cI cZ cO a) (AA 72 a s.heap.size) 10 0 0 (fun res => MQ below (va_Qi (fun r u => (r, u) = res) (Bw D (tyW cI cZ cO) 72 a (cX cI cZ cO a) (AA 72 a s.heap.size)) (AA 72 a s.heap.size)) args s 0 0 (AA 72 a s.heap.size)) (k x1 x3 x4 x5 S) 9 [(0, .ref (a 5)), (1, .int x1), (2, .ref (a 1)), (3, .int x3), (4, .int x4), (5, .int x5)] [] S) (fun _ _ _ _ _ => g_none) (fun k9 hk9 => tX5_bestRow_9 hc hr hlk hE k9 hk9) n x1 x3 x4 x5 S
set_option maxHeartbeats 4000000 in
set_option maxRecDepth 100000 in
theorem mX5_bestRow (x1 : Int32) (S : St) : ∀ q, uX5_bestRow x1 S = some q → Ki l yX5_bestRow wsX5_bestRow rX5_bestRow D (tyW cI cZ cO) 72 a (cX cI cZ cO a) (EvX tF) [.ref (a 5), .int x1, .ref (a 1)] S q := by
  refine m_Ki (cc := cX5_bestRow) (nL := 10) (ret := (some .int)) (lv := [(0, .ref (a 5)), (1, .int x1), (2, .ref (a 1))]) (by decide) rfl (Nat.le_of_ble_eq_true rfl) rfl ?_
  intro p e s m args below meth c hc hr hlk hE
  unfold uX5_bestRow
  refine g_iconst (v := -1) hc dX5_bestRow_0 (by decide) ?_
  refine g_istore_n (L := fun v1 => [(3, .int v1), (0, .ref (a 5)), (1, .int x1), (2, .ref (a 1))]) hc dX5_bestRow_1 rfl (by decide) (fun _ => rfl) (fun v1 => ?_)
  refine g_ldc (v := 1000000) hc dX5_bestRow_2 (List.mem_of_getElem? (i := 1) rfl) ?_
  refine g_istore (L := fun v2 => [(4, .int v2), (3, .int v1), (0, .ref (a 5)), (1, .int x1), (2, .ref (a 1))]) hc dX5_bestRow_4 (by decide) (fun _ => rfl) (fun v2 => ?_)
  refine g_iconst (v := 0) hc dX5_bestRow_6 (by decide) ?_
  refine g_istore (L := fun v3 => [(5, .int v3), (4, .int v2), (3, .int v1), (0, .ref (a 5)), (1, .int x1), (2, .ref (a 1))]) hc dX5_bestRow_7 (by decide) (fun _ => rfl) (fun v3 => ?_)
  refine g_lv [3, 4, 5, 2, 1, 0] rfl ?_
  exact TX5_bestRow_9 hc hr hlk hE FU x1 v1 v2 v3 S
set_option maxHeartbeats 4000000 in
set_option maxRecDepth 100000 in
theorem tX5_keepsFewest_49 {p : Program} {e : Env} {s : State} {m : MethodId} {args : Array Value} {below : List Frame} {meth : Method} {c : Code} (hc : CT p s m args c cX5_keepsFewest 6 RX5 wsX5_keepsFewest D (tyW cI cZ cO)) (hr : meth.sig.returnType = (some .boolean)) (hlk : meth.locks = false) (hE : EvX tF (AA 72 a s.heap.size) s) (y0 : Int32) (S : St) : GF p l e rX5_keepsFewest s m args below meth c D 72 a (cX cI cZ cO a) (AA 72 a s.heap.size) 6 0 0 (fun res => MQ below (va_Qi (fun r u => (r, u) = res) (Bw D (tyW cI cZ cO) 72 a (cX cI cZ cO a) (AA 72 a s.heap.size)) (AA 72 a s.heap.size)) args s 0 0 (AA 72 a s.heap.size)) (bX5_keepsFewest_49 y0 S) 49 [] [.int y0] S := by
  unfold bX5_keepsFewest_49
  exact g_zret hc hr hlk dX5_keepsFewest_49
set_option maxHeartbeats 4000000 in
set_option maxRecDepth 100000 in
theorem tX5_keepsFewest_48 {p : Program} {e : Env} {s : State} {m : MethodId} {args : Array Value} {below : List Frame} {meth : Method} {c : Code} (hc : CT p s m args c cX5_keepsFewest 6 RX5 wsX5_keepsFewest D (tyW cI cZ cO)) (hr : meth.sig.returnType = (some .boolean)) (hlk : meth.locks = false) (hE : EvX tF (AA 72 a s.heap.size) s) (S : St) : GF p l e rX5_keepsFewest s m args below meth c D 72 a (cX cI cZ cO a) (AA 72 a s.heap.size) 6 0 0 (fun res => MQ below (va_Qi (fun r u => (r, u) = res) (Bw D (tyW cI cZ cO) 72 a (cX cI cZ cO a) (AA 72 a s.heap.size)) (AA 72 a s.heap.size)) args s 0 0 (AA 72 a s.heap.size)) (bX5_keepsFewest_48 S) 48 [] [] S := by
  unfold bX5_keepsFewest_48
  refine g_iconst (v := 0) hc dX5_keepsFewest_48 (by decide) ?_
  exact tX5_keepsFewest_49 hc hr hlk hE 0 S
set_option maxHeartbeats 4000000 in
set_option maxRecDepth 100000 in
theorem mX5_keepsFewest (x1 : Int32) (x2 : Int32) (x3 : Int32) (x4 : Int32) (S : St) : ∀ q, uX5_keepsFewest x1 x2 x3 x4 S = some q → Ki l yX5_keepsFewest wsX5_keepsFewest rX5_keepsFewest D (tyW cI cZ cO) 72 a (cX cI cZ cO a) (EvX tF) [.ref (a 5), .int x1, .int x2, .int x3, .int x4] S q := by
  refine m_Ki (cc := cX5_keepsFewest) (nL := 6) (ret := (some .boolean)) (lv := [(0, .ref (a 5)), (1, .int x1), (2, .int x2), (3, .int x3), (4, .int x4)]) (by decide) rfl (Nat.le_of_ble_eq_true rfl) rfl ?_
  intro p e s m args below meth c hc hr hlk hE
  unfold uX5_keepsFewest
  refine g_iload (j := 4) hc dX5_keepsFewest_0 rfl ?_
  refine g_callSi (As := [.int x4]) (rest := []) hc hE trX rfl (fun _ h => mX5_freshOf x4 S _ h) (va_cwS 1 hc.1.2.2.2.2 gX5_keepsFewest_X5_freshOf rfl rfl rfl (by decide +kernel) ⟨by decide, by decide⟩) rfl rfl (Nat.le_of_ble_eq_true rfl) dX5_keepsFewest_2 ⟨by decide, by decide⟩ (fun v1 S2 => ?_)
  refine g_istore (L := fun v3 => [(5, .int v3), (0, .ref (a 5)), (1, .int x1), (2, .int x2), (3, .int x3), (4, .int x4)]) hc dX5_keepsFewest_5 (by decide) (fun _ => rfl) (fun v3 => ?_)
  refine g_iload_n (j := 4) hc dX5_keepsFewest_7 rfl rfl ?_
  refine g_iload (j := 5) hc dX5_keepsFewest_8 rfl ?_
  refine g_ishr hc dX5_keepsFewest_10 ?_
  refine g_iconst (v := 1) hc dX5_keepsFewest_11 (by decide) ?_
  refine g_iand hc dX5_keepsFewest_12 ?_
  refine g_if_eq (tgt := 48) hc dX5_keepsFewest_13 (by decide) ?_ ?_
  · refine g_lv [] rfl ?_
    exact tX5_keepsFewest_48 hc hr hlk hE S2
  · refine g_iload (j := 0) hc dX5_keepsFewest_16 rfl ?_
    refine g_iload_n (j := 3) hc dX5_keepsFewest_18 rfl rfl ?_
    refine g_iconst (v := -1) hc dX5_keepsFewest_19 (by decide) ?_
    refine g_ixor hc dX5_keepsFewest_20 ?_
    refine g_iand hc dX5_keepsFewest_21 ?_
    refine g_callSi (As := [.int (v3 &&& (x2 ^^^ ((-1))))]) (rest := []) hc hE trX rfl (fun _ h => mJ6_bitCount_0f7a4 (v3 &&& (x2 ^^^ ((-1)))) S2 _ h) (va_cwS 1 hc.1.2.2.2.2 gX5_keepsFewest_J6_bitCount_0f7a4 rfl rfl rfl (by decide +kernel) ⟨by decide, by decide⟩) rfl rfl (Nat.le_of_ble_eq_true rfl) dX5_keepsFewest_22 ⟨by decide, by decide⟩ (fun v4 S5 => ?_)
    refine g_aload_n (j := 1) hc dX5_keepsFewest_25 rfl rfl ?_
    refine g_iload_n (j := 2) hc dX5_keepsFewest_26 rfl rfl ?_
    refine g_iconst (v := 1) hc dX5_keepsFewest_27 (by decide) ?_
    refine g_iadd hc dX5_keepsFewest_28 ?_
    refine g_iload (j := 0) hc dX5_keepsFewest_29 rfl ?_
    refine g_callVi (As := [.int (x1 + 1), .int v3]) (rest := [.int v4]) (k := 5) (ci := 5) (q0 := (RX5, TX5, 10)) hc hE trX rfl (fun _ h => mX5_tiesFrom (x1 + 1) v3 S5 _ h) (cwV 2 hc.1.2.2.2.2 gX5_keepsFewest_X5_tiesFrom rfl rfl rfl (by decide +kernel) ⟨by decide, by decide⟩) (by decide) rfl rfl rfl rfl (Nat.le_of_ble_eq_true rfl) dX5_keepsFewest_31 ⟨by decide, by decide⟩ (fun v6 S7 => ?_)
    refine g_iadd hc dX5_keepsFewest_34 ?_
    refine g_aload_n (j := 1) hc dX5_keepsFewest_35 rfl rfl ?_
    refine g_iload_n (j := 2) hc dX5_keepsFewest_36 rfl rfl ?_
    refine g_iload_n (j := 3) hc dX5_keepsFewest_37 rfl rfl ?_
    refine g_callVi (As := [.int x1, .int x2]) (rest := [.int (v4 + v6)]) (k := 5) (ci := 5) (q0 := (RX5, TX5, 10)) hc hE trX rfl (fun _ h => mX5_tiesFrom x1 x2 S7 _ h) (cwV 2 hc.1.2.2.2.2 gX5_keepsFewest_X5_tiesFrom rfl rfl rfl (by decide +kernel) ⟨by decide, by decide⟩) (by decide) rfl rfl rfl rfl (Nat.le_of_ble_eq_true rfl) dX5_keepsFewest_38 ⟨by decide, by decide⟩ (fun v8 S9 => ?_)
    refine g_icmp_ne (tgt := 48) hc dX5_keepsFewest_41 (by decide) ?_ ?_
    · refine g_lv [] rfl ?_
      exact tX5_keepsFewest_48 hc hr hlk hE S9
    · refine g_iconst (v := 1) hc dX5_keepsFewest_44 (by decide) ?_
      refine g_goto (tgt := 49) hc dX5_keepsFewest_45 (by decide) ?_
      refine g_lv [] rfl ?_
      exact tX5_keepsFewest_49 hc hr hlk hE 1 S9
set_option maxHeartbeats 4000000 in
set_option maxRecDepth 100000 in
theorem tX5_leastBits_28 {p : Program} {e : Env} {s : State} {m : MethodId} {args : Array Value} {below : List Frame} {meth : Method} {c : Code} (hc : CT p s m args c cX5_leastBits 5 RX5 wsX5_leastBits D (tyW cI cZ cO)) (hr : meth.sig.returnType = (some .int)) (hlk : meth.locks = false) (hE : EvX tF (AA 72 a s.heap.size) s) (x4 : Int32) (S : St) : GF p l e rX5_leastBits s m args below meth c D 72 a (cX cI cZ cO a) (AA 72 a s.heap.size) 5 0 0 (fun res => MQ below (va_Qi (fun r u => (r, u) = res) (Bw D (tyW cI cZ cO) 72 a (cX cI cZ cO a) (AA 72 a s.heap.size)) (AA 72 a s.heap.size)) args s 0 0 (AA 72 a s.heap.size)) (bX5_leastBits_28 x4 S) 28 [(4, .int x4)] [] S := by
  unfold bX5_leastBits_28
  refine g_iload (j := 0) hc dX5_leastBits_28 rfl ?_
  exact g_iret hc hr hlk dX5_leastBits_30
set_option maxHeartbeats 4000000 in
set_option maxRecDepth 100000 in
theorem tX5_leastBits_3 {p : Program} {e : Env} {s : State} {m : MethodId} {args : Array Value} {below : List Frame} {meth : Method} {c : Code} (hc : CT p s m args c cX5_leastBits 5 RX5 wsX5_leastBits D (tyW cI cZ cO)) (hr : meth.sig.returnType = (some .int)) (hlk : meth.locks = false) (hE : EvX tF (AA 72 a s.heap.size) s) (k3 : Int32 → Int32 → Int32 → Int32 → St → Option (Int32 × St)) (hk3 : ∀ (x1 : Int32) (x2 : Int32) (x3 : Int32) (x4 : Int32) (S : St), GF p l e rX5_leastBits s m args below meth c D 72 a (cX cI cZ cO a) (AA 72 a s.heap.size) 5 0 0 (fun res => MQ below (va_Qi (fun r u => (r, u) = res) (Bw D (tyW cI cZ cO) 72 a (cX cI cZ cO a) (AA 72 a s.heap.size)) (AA 72 a s.heap.size)) args s 0 0 (AA 72 a s.heap.size)) (k3 x1 x2 x3 x4 S) 3 [(0, .ref (a 5)), (1, .int x1), (2, .int x2), (3, .int x3), (4, .int x4)] [] S) (x1 : Int32) (x2 : Int32) (x3 : Int32) (x4 : Int32) (S : St) : GF p l e rX5_leastBits s m args below meth c D 72 a (cX cI cZ cO a) (AA 72 a s.heap.size) 5 0 0 (fun res => MQ below (va_Qi (fun r u => (r, u) = res) (Bw D (tyW cI cZ cO) 72 a (cX cI cZ cO a) (AA 72 a s.heap.size)) (AA 72 a s.heap.size)) args s 0 0 (AA 72 a s.heap.size)) (bX5_leastBits_3 k3 x1 x2 x3 x4 S) 3 [(0, .ref (a 5)), (1, .int x1), (2, .int x2), (3, .int x3), (4, .int x4)] [] S := by
  unfold bX5_leastBits_3
  refine g_iload (j := 4) hc dX5_leastBits_3 rfl ?_
  refine g_bipush (v := 15) hc dX5_leastBits_5 (by decide) ?_
  refine g_icmp_ge (tgt := 28) hc dX5_leastBits_7 (by decide) ?_ ?_
  · refine g_lv [4] rfl ?_
    exact tX5_leastBits_28 hc hr hlk hE x4 S
  · refine g_aload_n (j := 0) hc dX5_leastBits_10 rfl rfl ?_
    refine g_iload_n (j := 1) hc dX5_leastBits_11 rfl rfl ?_
    refine g_iload_n (j := 2) hc dX5_leastBits_12 rfl rfl ?_
    refine g_iload_n (j := 3) hc dX5_leastBits_13 rfl rfl ?_
    refine g_iload (j := 4) hc dX5_leastBits_14 rfl ?_
    refine g_callVi (As := [.int x1, .int x2, .int x3, .int x4]) (rest := []) (k := 5) (ci := 5) (q0 := (RX5, TX5, 10)) hc hE trX rfl (fun _ h => mX5_keepsFewest x1 x2 x3 x4 S _ h) (cwV 4 hc.1.2.2.2.2 gX5_leastBits_X5_keepsFewest rfl rfl rfl (by decide +kernel) ⟨by decide, by decide⟩) (by decide) rfl rfl rfl rfl (Nat.le_of_ble_eq_true rfl) dX5_leastBits_16 ⟨by decide, by decide⟩ (fun v1 S2 => ?_)
    refine g_if_ne (tgt := 28) hc dX5_leastBits_19 (by decide) ?_ ?_
    · refine g_lv [4] rfl ?_
      exact tX5_leastBits_28 hc hr hlk hE x4 S2
    · refine g_iinc (j := 4) (w := x4 + 1) (L := fun v3 => [(4, .int v3), (0, .ref (a 5)), (1, .int x1), (2, .int x2), (3, .int x3)]) hc dX5_leastBits_22 rfl (by rfl) (by decide) (fun _ => rfl) (fun v3 => ?_)
      refine g_goto (tgt := 3) hc dX5_leastBits_25 (by decide) ?_
      refine g_lv [1, 2, 3, 4, 0] rfl ?_
      exact hk3 x1 x2 x3 v3 S2
set_option maxHeartbeats 4000000 in
set_option maxRecDepth 100000 in
theorem TX5_leastBits_3 {p : Program} {e : Env} {s : State} {m : MethodId} {args : Array Value} {below : List Frame} {meth : Method} {c : Code} (hc : CT p s m args c cX5_leastBits 5 RX5 wsX5_leastBits D (tyW cI cZ cO)) (hr : meth.sig.returnType = (some .int)) (hlk : meth.locks = false) (hE : EvX tF (AA 72 a s.heap.size) s) (n : Nat) (x1 : Int32) (x2 : Int32) (x3 : Int32) (x4 : Int32) (S : St) : GF p l e rX5_leastBits s m args below meth c D 72 a (cX cI cZ cO a) (AA 72 a s.heap.size) 5 0 0 (fun res => MQ below (va_Qi (fun r u => (r, u) = res) (Bw D (tyW cI cZ cO) 72 a (cX cI cZ cO a) (AA 72 a s.heap.size)) (AA 72 a s.heap.size)) args s 0 0 (AA 72 a s.heap.size)) (lX5_leastBits_3 n x1 x2 x3 x4 S) 3 [(0, .ref (a 5)), (1, .int x1), (2, .int x2), (3, .int x3), (4, .int x4)] [] S :=
  lp_ind (P := fun k : Int32 → Int32 → Int32 → Int32 → St → Option (Int32 × St) => ∀ (x1 : Int32) (x2 : Int32) (x3 : Int32) (x4 : Int32) (S : St), GF p l e rX5_leastBits s m args below meth c D 72 a (cX cI cZ cO a) (AA 72 a s.heap.size) 5 0 0 (fun res => MQ below (va_Qi (fun r u => (r, u) = res) (Bw D (tyW cI cZ cO) 72 a (cX cI cZ cO a) (AA 72 a s.heap.size)) (AA 72 a s.heap.size)) args s 0 0 (AA 72 a s.heap.size)) (k x1 x2 x3 x4 S) 3 [(0, .ref (a 5)), (1, .int x1), (2, .int x2), (3, .int x3), (4, .int x4)] [] S) (fun _ _ _ _ _ => g_none) (fun k3 hk3 => tX5_leastBits_3 hc hr hlk hE k3 hk3) n x1 x2 x3 x4 S
set_option maxHeartbeats 4000000 in
set_option maxRecDepth 100000 in
theorem mX5_leastBits (x1 : Int32) (x2 : Int32) (x3 : Int32) (S : St) : ∀ q, uX5_leastBits x1 x2 x3 S = some q → Ki l yX5_leastBits wsX5_leastBits rX5_leastBits D (tyW cI cZ cO) 72 a (cX cI cZ cO a) (EvX tF) [.ref (a 5), .int x1, .int x2, .int x3] S q := by
  refine m_Ki (cc := cX5_leastBits) (nL := 5) (ret := (some .int)) (lv := [(0, .ref (a 5)), (1, .int x1), (2, .int x2), (3, .int x3)]) (by decide) rfl (Nat.le_of_ble_eq_true rfl) rfl ?_
  intro p e s m args below meth c hc hr hlk hE
  unfold uX5_leastBits
  refine g_iconst (v := 0) hc dX5_leastBits_0 (by decide) ?_
  refine g_istore (L := fun v1 => [(4, .int v1), (0, .ref (a 5)), (1, .int x1), (2, .int x2), (3, .int x3)]) hc dX5_leastBits_1 (by decide) (fun _ => rfl) (fun v1 => ?_)
  refine g_lv [1, 2, 3, 4, 0] rfl ?_
  exact TX5_leastBits_3 hc hr hlk hE FU x1 x2 x3 v1 S
set_option maxHeartbeats 4000000 in
set_option maxRecDepth 100000 in
theorem tX5_writeInto_134 {p : Program} {e : Env} {s : State} {m : MethodId} {args : Array Value} {below : List Frame} {meth : Method} {c : Code} (hc : CT p s m args c cX5_writeInto 7 RX5 wsX5_writeInto D (tyW cI cZ cO)) (hr : meth.sig.returnType = none) (hlk : meth.locks = false) (hE : EvX tF (AA 72 a s.heap.size) s) (k10 : Int32 → St → Option (Int32 × St)) (hk10 : ∀ (x3 : Int32) (S : St), GF p l e rX5_writeInto s m args below meth c D 72 a (cX cI cZ cO a) (AA 72 a s.heap.size) 7 0 0 (fun res => MQ below (va_Qv (fun u => ((0 : Int32), u) = res) (Bw D (tyW cI cZ cO) 72 a (cX cI cZ cO a) (AA 72 a s.heap.size)) (AA 72 a s.heap.size)) args s 0 0 (AA 72 a s.heap.size)) (k10 x3 S) 10 [(0, .ref (a 5)), (1, .ref (a 6)), (2, .ref (a 3)), (3, .int x3)] [] S) (k96 : Int32 → Int32 → St → Option (Int32 × St)) (hk96 : ∀ (x3 : Int32) (x5 : Int32) (S : St), GF p l e rX5_writeInto s m args below meth c D 72 a (cX cI cZ cO a) (AA 72 a s.heap.size) 7 0 0 (fun res => MQ below (va_Qv (fun u => ((0 : Int32), u) = res) (Bw D (tyW cI cZ cO) 72 a (cX cI cZ cO a) (AA 72 a s.heap.size)) (AA 72 a s.heap.size)) args s 0 0 (AA 72 a s.heap.size)) (k96 x3 x5 S) 96 [(0, .ref (a 5)), (1, .ref (a 6)), (2, .ref (a 3)), (3, .int x3), (5, .int x5)] [] S) (x3 : Int32) (x5 : Int32) (y1 : Int32) (y2 : Int32) (y3 : Int32) (S : St) : GF p l e rX5_writeInto s m args below meth c D 72 a (cX cI cZ cO a) (AA 72 a s.heap.size) 7 0 0 (fun res => MQ below (va_Qv (fun u => ((0 : Int32), u) = res) (Bw D (tyW cI cZ cO) 72 a (cX cI cZ cO a) (AA 72 a s.heap.size)) (AA 72 a s.heap.size)) args s 0 0 (AA 72 a s.heap.size)) (bX5_writeInto_134 k10 k96 x3 x5 y1 y2 y3 S) 134 [(0, .ref (a 5)), (1, .ref (a 6)), (2, .ref (a 3)), (3, .int x3), (5, .int x5)] [.int y3, .int y2, .int y1, .ref (a 6)] S := by
  unfold bX5_writeInto_134
  refine g_callVv (As := [.int y1, .int y2, .int y3]) (rest := []) (k := 6) (ci := 4) (q0 := (RX4, TX4, 4)) hc hE trX rfl (fun _ h => mX4_write y1 y2 y3 S _ h) (cwV 3 hc.1.2.2.2.2 gX5_writeInto_X4_write rfl rfl rfl (by decide +kernel) ⟨by decide, by decide⟩) (by decide) rfl rfl rfl rfl (Nat.le_of_ble_eq_true rfl) dX5_writeInto_134 ⟨by decide, by decide⟩ (fun S2 => ?_)
  refine g_iinc (j := 4) (w := x5 + 1) (L := fun v3 => [(5, .int v3), (0, .ref (a 5)), (1, .ref (a 6)), (2, .ref (a 3)), (3, .int x3)]) hc dX5_writeInto_137 rfl (by rfl) (by decide) (fun _ => rfl) (fun v3 => ?_)
  refine g_goto (tgt := 96) hc dX5_writeInto_140 (by decide) ?_
  refine g_lv [1, 2, 3, 4, 0] rfl ?_
  exact hk96 x3 v3 S2
set_option maxHeartbeats 4000000 in
set_option maxRecDepth 100000 in
theorem tX5_writeInto_96 {p : Program} {e : Env} {s : State} {m : MethodId} {args : Array Value} {below : List Frame} {meth : Method} {c : Code} (hc : CT p s m args c cX5_writeInto 7 RX5 wsX5_writeInto D (tyW cI cZ cO)) (hr : meth.sig.returnType = none) (hlk : meth.locks = false) (hE : EvX tF (AA 72 a s.heap.size) s) (k10 : Int32 → St → Option (Int32 × St)) (hk10 : ∀ (x3 : Int32) (S : St), GF p l e rX5_writeInto s m args below meth c D 72 a (cX cI cZ cO a) (AA 72 a s.heap.size) 7 0 0 (fun res => MQ below (va_Qv (fun u => ((0 : Int32), u) = res) (Bw D (tyW cI cZ cO) 72 a (cX cI cZ cO a) (AA 72 a s.heap.size)) (AA 72 a s.heap.size)) args s 0 0 (AA 72 a s.heap.size)) (k10 x3 S) 10 [(0, .ref (a 5)), (1, .ref (a 6)), (2, .ref (a 3)), (3, .int x3)] [] S) (k96 : Int32 → Int32 → St → Option (Int32 × St)) (hk96 : ∀ (x3 : Int32) (x5 : Int32) (S : St), GF p l e rX5_writeInto s m args below meth c D 72 a (cX cI cZ cO a) (AA 72 a s.heap.size) 7 0 0 (fun res => MQ below (va_Qv (fun u => ((0 : Int32), u) = res) (Bw D (tyW cI cZ cO) 72 a (cX cI cZ cO a) (AA 72 a s.heap.size)) (AA 72 a s.heap.size)) args s 0 0 (AA 72 a s.heap.size)) (k96 x3 x5 S) 96 [(0, .ref (a 5)), (1, .ref (a 6)), (2, .ref (a 3)), (3, .int x3), (5, .int x5)] [] S) (x3 : Int32) (x5 : Int32) (S : St) : GF p l e rX5_writeInto s m args below meth c D 72 a (cX cI cZ cO a) (AA 72 a s.heap.size) 7 0 0 (fun res => MQ below (va_Qv (fun u => ((0 : Int32), u) = res) (Bw D (tyW cI cZ cO) 72 a (cX cI cZ cO a) (AA 72 a s.heap.size)) (AA 72 a s.heap.size)) args s 0 0 (AA 72 a s.heap.size)) (bX5_writeInto_96 k10 k96 x3 x5 S) 96 [(0, .ref (a 5)), (1, .ref (a 6)), (2, .ref (a 3)), (3, .int x3), (5, .int x5)] [] S := by
  unfold bX5_writeInto_96
  refine g_iload (j := 4) hc dX5_writeInto_96 rfl ?_
  refine g_aload_n (j := 2) hc dX5_writeInto_98 rfl rfl ?_
  refine g_callVi (As := []) (rest := [.int x5]) (k := 3) (ci := 0) (q0 := (RX0, TX0, 7)) hc hE trX rfl (fun _ h => mX0_places S _ h) (cwV 0 hc.1.2.2.2.2 gX5_writeInto_X0_places rfl rfl rfl (by decide +kernel) ⟨by decide, by decide⟩) (by decide) rfl rfl rfl rfl (Nat.le_of_ble_eq_true rfl) dX5_writeInto_99 ⟨by decide, by decide⟩ (fun v1 S2 => ?_)
  refine g_icmp_ge (tgt := 143) hc dX5_writeInto_102 (by decide) ?_ ?_
  · refine g_iinc (j := 3) (w := x3 + 1) (L := fun v3 => [(3, .int v3), (0, .ref (a 5)), (1, .ref (a 6)), (2, .ref (a 3)), (5, .int x5)]) hc dX5_writeInto_143 rfl (by rfl) (by decide) (fun _ => rfl) (fun v3 => ?_)
    refine g_goto (tgt := 10) hc dX5_writeInto_146 (by decide) ?_
    refine g_lv [1, 2, 3, 0] rfl ?_
    exact hk10 v3 S2
  · refine g_aload_n (j := 1) hc dX5_writeInto_105 rfl rfl ?_
    refine g_iload_n (j := 3) hc dX5_writeInto_106 rfl rfl ?_
    refine g_iload (j := 4) hc dX5_writeInto_107 rfl ?_
    refine g_aload_n (j := 0) hc dX5_writeInto_109 rfl rfl ?_
    refine g_get (C0 := RX5) (T := TX5) (M := 10) (k := 5) (ci := 5) hc inX5_writeInto_X5 (by decide) rfl rfl 0 (by decide) (List.mem_of_getElem? (i := 2) rfl) rfl rfl dX5_writeInto_110 ?_
    refine g_iload_n (j := 3) hc dX5_writeInto_113 rfl rfl ?_
    refine g_iald (k := 18) (t0 := 0) hc (by decide) rfl rfl dX5_writeInto_114 ?_
    refine g_if_ne (tgt := 122) hc dX5_writeInto_115 (by decide) ?_ ?_
    · refine g_aload_n (j := 1) hc dX5_writeInto_122 rfl rfl ?_
      refine g_iload_n (j := 3) hc dX5_writeInto_123 rfl rfl ?_
      refine g_aload_n (j := 2) hc dX5_writeInto_124 rfl rfl ?_
      refine g_iload_n (j := 3) hc dX5_writeInto_125 rfl rfl ?_
      refine g_iload (j := 4) hc dX5_writeInto_126 rfl ?_
      refine g_callVi (As := [.int x3, .int x5]) (rest := [.int x3, .ref (a 6), .int x5, .int x3, .ref (a 6)]) (k := 3) (ci := 0) (q0 := (RX0, TX0, 7)) hc hE trX rfl (fun _ h => mX0_underFold x3 x5 S2 _ h) (cwV 2 hc.1.2.2.2.2 gX5_writeInto_X0_underFold rfl rfl rfl (by decide +kernel) ⟨by decide, by decide⟩) (by decide) rfl rfl rfl rfl (Nat.le_of_ble_eq_true rfl) dX5_writeInto_128 ⟨by decide, by decide⟩ (fun v4 S5 => ?_)
      refine g_callVi (As := [.int x3, .int v4]) (rest := [.int x5, .int x3, .ref (a 6)]) (k := 6) (ci := 4) (q0 := (RX4, TX4, 4)) hc hE trX rfl (fun _ h => mX4_bitsAt x3 v4 S5 _ h) (cwV 2 hc.1.2.2.2.2 gX5_writeInto_X4_bitsAt rfl rfl rfl (by decide +kernel) ⟨by decide, by decide⟩) (by decide) rfl rfl rfl rfl (Nat.le_of_ble_eq_true rfl) dX5_writeInto_131 ⟨by decide, by decide⟩ (fun v6 S7 => ?_)
      exact tX5_writeInto_134 hc hr hlk hE k10 hk10 k96 hk96 x3 x5 x3 x5 v6 S7
    · refine g_iconst (v := 0) hc dX5_writeInto_118 (by decide) ?_
      refine g_goto (tgt := 134) hc dX5_writeInto_119 (by decide) ?_
      exact tX5_writeInto_134 hc hr hlk hE k10 hk10 k96 hk96 x3 x5 x3 x5 0 S2
set_option maxHeartbeats 4000000 in
set_option maxRecDepth 100000 in
theorem TX5_writeInto_96 {p : Program} {e : Env} {s : State} {m : MethodId} {args : Array Value} {below : List Frame} {meth : Method} {c : Code} (hc : CT p s m args c cX5_writeInto 7 RX5 wsX5_writeInto D (tyW cI cZ cO)) (hr : meth.sig.returnType = none) (hlk : meth.locks = false) (hE : EvX tF (AA 72 a s.heap.size) s) (k10 : Int32 → St → Option (Int32 × St)) (hk10 : ∀ (x3 : Int32) (S : St), GF p l e rX5_writeInto s m args below meth c D 72 a (cX cI cZ cO a) (AA 72 a s.heap.size) 7 0 0 (fun res => MQ below (va_Qv (fun u => ((0 : Int32), u) = res) (Bw D (tyW cI cZ cO) 72 a (cX cI cZ cO a) (AA 72 a s.heap.size)) (AA 72 a s.heap.size)) args s 0 0 (AA 72 a s.heap.size)) (k10 x3 S) 10 [(0, .ref (a 5)), (1, .ref (a 6)), (2, .ref (a 3)), (3, .int x3)] [] S) (n : Nat) (x3 : Int32) (x5 : Int32) (S : St) : GF p l e rX5_writeInto s m args below meth c D 72 a (cX cI cZ cO a) (AA 72 a s.heap.size) 7 0 0 (fun res => MQ below (va_Qv (fun u => ((0 : Int32), u) = res) (Bw D (tyW cI cZ cO) 72 a (cX cI cZ cO a) (AA 72 a s.heap.size)) (AA 72 a s.heap.size)) args s 0 0 (AA 72 a s.heap.size)) (lX5_writeInto_96 k10 n x3 x5 S) 96 [(0, .ref (a 5)), (1, .ref (a 6)), (2, .ref (a 3)), (3, .int x3), (5, .int x5)] [] S :=
  lp_ind (P := fun k : Int32 → Int32 → St → Option (Int32 × St) => ∀ (x3 : Int32) (x5 : Int32) (S : St), GF p l e rX5_writeInto s m args below meth c D 72 a (cX cI cZ cO a) (AA 72 a s.heap.size) 7 0 0 (fun res => MQ below (va_Qv (fun u => ((0 : Int32), u) = res) (Bw D (tyW cI cZ cO) 72 a (cX cI cZ cO a) (AA 72 a s.heap.size)) (AA 72 a s.heap.size)) args s 0 0 (AA 72 a s.heap.size)) (k x3 x5 S) 96 [(0, .ref (a 5)), (1, .ref (a 6)), (2, .ref (a 3)), (3, .int x3), (5, .int x5)] [] S) (fun _ _ _ => g_none) (fun k96 hk96 => tX5_writeInto_96 hc hr hlk hE k10 hk10 k96 hk96) n x3 x5 S
set_option maxHeartbeats 4000000 in
set_option maxRecDepth 100000 in
theorem tX5_writeInto_31 {p : Program} {e : Env} {s : State} {m : MethodId} {args : Array Value} {below : List Frame} {meth : Method} {c : Code} (hc : CT p s m args c cX5_writeInto 7 RX5 wsX5_writeInto D (tyW cI cZ cO)) (hr : meth.sig.returnType = none) (hlk : meth.locks = false) (hE : EvX tF (AA 72 a s.heap.size) s) (k10 : Int32 → St → Option (Int32 × St)) (hk10 : ∀ (x3 : Int32) (S : St), GF p l e rX5_writeInto s m args below meth c D 72 a (cX cI cZ cO a) (AA 72 a s.heap.size) 7 0 0 (fun res => MQ below (va_Qv (fun u => ((0 : Int32), u) = res) (Bw D (tyW cI cZ cO) 72 a (cX cI cZ cO a) (AA 72 a s.heap.size)) (AA 72 a s.heap.size)) args s 0 0 (AA 72 a s.heap.size)) (k10 x3 S) 10 [(0, .ref (a 5)), (1, .ref (a 6)), (2, .ref (a 3)), (3, .int x3)] [] S) (k31 : Int32 → Int32 → Int32 → St → Option (Int32 × St)) (hk31 : ∀ (x3 : Int32) (x4 : Int32) (x5 : Int32) (S : St), GF p l e rX5_writeInto s m args below meth c D 72 a (cX cI cZ cO a) (AA 72 a s.heap.size) 7 0 0 (fun res => MQ below (va_Qv (fun u => ((0 : Int32), u) = res) (Bw D (tyW cI cZ cO) 72 a (cX cI cZ cO a) (AA 72 a s.heap.size)) (AA 72 a s.heap.size)) args s 0 0 (AA 72 a s.heap.size)) (k31 x3 x4 x5 S) 31 [(0, .ref (a 5)), (1, .ref (a 6)), (2, .ref (a 3)), (3, .int x3), (4, .int x4), (5, .int x5)] [] S) (x3 : Int32) (x4 : Int32) (x5 : Int32) (S : St) : GF p l e rX5_writeInto s m args below meth c D 72 a (cX cI cZ cO a) (AA 72 a s.heap.size) 7 0 0 (fun res => MQ below (va_Qv (fun u => ((0 : Int32), u) = res) (Bw D (tyW cI cZ cO) 72 a (cX cI cZ cO a) (AA 72 a s.heap.size)) (AA 72 a s.heap.size)) args s 0 0 (AA 72 a s.heap.size)) (bX5_writeInto_31 k10 k31 x3 x4 x5 S) 31 [(0, .ref (a 5)), (1, .ref (a 6)), (2, .ref (a 3)), (3, .int x3), (4, .int x4), (5, .int x5)] [] S := by
  unfold bX5_writeInto_31
  refine g_iload (j := 5) hc dX5_writeInto_31 rfl ?_
  refine g_aload_n (j := 0) hc dX5_writeInto_33 rfl rfl ?_
  refine g_get (C0 := RX5) (T := TX5) (M := 10) (k := 5) (ci := 5) hc inX5_writeInto_X5 (by decide) rfl rfl 0 (by decide) (List.mem_of_getElem? (i := 2) rfl) rfl rfl dX5_writeInto_34 ?_
  refine g_iload_n (j := 3) hc dX5_writeInto_37 rfl rfl ?_
  refine g_iald (k := 18) (t0 := 0) hc (by decide) rfl rfl dX5_writeInto_38 ?_
  refine g_icmp_ge (tgt := 88) hc dX5_writeInto_39 (by decide) ?_ ?_
  · refine g_aload_n (j := 0) hc dX5_writeInto_88 rfl rfl ?_
    refine g_get (C0 := RX5) (T := TX5) (M := 10) (k := 5) (ci := 5) hc inX5_writeInto_X5 (by decide) rfl rfl 0 (by decide) (List.mem_of_getElem? (i := 2) rfl) rfl rfl dX5_writeInto_89 ?_
    refine g_iload_n (j := 3) hc dX5_writeInto_92 rfl rfl ?_
    refine g_iald (k := 18) (t0 := 0) hc (by decide) rfl rfl dX5_writeInto_93 ?_
    refine g_istore (L := fun v1 => [(5, .int v1), (0, .ref (a 5)), (1, .ref (a 6)), (2, .ref (a 3)), (3, .int x3), (4, .int x4)]) hc dX5_writeInto_94 (by decide) (fun _ => rfl) (fun v1 => ?_)
    refine g_lv [1, 2, 3, 4, 0] rfl ?_
    exact TX5_writeInto_96 hc hr hlk hE k10 hk10 FU x3 v1 S
  · refine g_aload_n (j := 0) hc dX5_writeInto_42 rfl rfl ?_
    refine g_iload (j := 5) hc dX5_writeInto_43 rfl ?_
    refine g_iload (j := 4) hc dX5_writeInto_45 rfl ?_
    refine g_aload_n (j := 0) hc dX5_writeInto_47 rfl rfl ?_
    refine g_get (C0 := RX5) (T := TX5) (M := 10) (k := 5) (ci := 5) hc inX5_writeInto_X5 (by decide) rfl rfl 5 (by decide) (List.mem_of_getElem? (i := 3) rfl) rfl rfl dX5_writeInto_48 ?_
    refine g_aload_n (j := 0) hc dX5_writeInto_51 rfl rfl ?_
    refine g_get (C0 := RX5) (T := TX5) (M := 10) (k := 5) (ci := 5) hc inX5_writeInto_X5 (by decide) rfl rfl 1 (by decide) (List.mem_of_getElem? (i := 4) rfl) rfl rfl dX5_writeInto_52 ?_
    refine g_iload_n (j := 3) hc dX5_writeInto_55 rfl rfl ?_
    refine g_aald (k := 19) (base := 55) (t0 := 2) hc (by decide) rfl rfl dX5_writeInto_56 ?_
    refine g_iload (j := 5) hc dX5_writeInto_57 rfl ?_
    refine g_ialdr (base := 55) (cnt := 8) (t0 := 0) hc (by decide) (fun S r h => rowX_55 S h) rfl dX5_writeInto_59 ?_
    refine g_iald (k := 21) (t0 := 0) hc (by decide) rfl rfl dX5_writeInto_60 ?_
    refine g_callVi (As := [.int x5, .int x4, .int (S 21 (S (55 + x3.toNatClampNeg) x5.toNatClampNeg).toNatClampNeg)]) (rest := []) (k := 5) (ci := 5) (q0 := (RX5, TX5, 10)) hc hE trX rfl (fun _ h => mX5_leastBits x5 x4 (S 21 (S (55 + x3.toNatClampNeg) x5.toNatClampNeg).toNatClampNeg) S _ h) (cwV 3 hc.1.2.2.2.2 gX5_writeInto_X5_leastBits rfl rfl rfl (by decide +kernel) ⟨by decide, by decide⟩) (by decide) rfl rfl rfl rfl (Nat.le_of_ble_eq_true rfl) dX5_writeInto_61 ⟨by decide, by decide⟩ (fun v2 S3 => ?_)
    refine g_istore (L := fun v4 => [(6, .int v4), (0, .ref (a 5)), (1, .ref (a 6)), (2, .ref (a 3)), (3, .int x3), (4, .int x4), (5, .int x5)]) hc dX5_writeInto_64 (by decide) (fun _ => rfl) (fun v4 => ?_)
    refine g_aload_n (j := 2) hc dX5_writeInto_66 rfl rfl ?_
    refine g_iload_n (j := 4) hc dX5_writeInto_67 rfl rfl ?_
    refine g_iload (j := 6) hc dX5_writeInto_68 rfl ?_
    refine g_iload (j := 0) hc dX5_writeInto_70 rfl ?_
    refine g_callVv (As := [.int x3, .int x5, .int v4]) (rest := []) (k := 6) (ci := 4) (q0 := (RX4, TX4, 4)) hc hE trX rfl (fun _ h => mX4_write x3 x5 v4 S3 _ h) (cwV 3 hc.1.2.2.2.2 gX5_writeInto_X4_write rfl rfl rfl (by decide +kernel) ⟨by decide, by decide⟩) (by decide) rfl rfl rfl rfl (Nat.le_of_ble_eq_true rfl) dX5_writeInto_72 ⟨by decide, by decide⟩ (fun S6 => ?_)
    refine g_iload (j := 0) hc dX5_writeInto_75 rfl ?_
    refine g_callSi (As := [.int v4]) (rest := []) hc hE trX rfl (fun _ h => mX5_freshOf v4 S6 _ h) (va_cwS 1 hc.1.2.2.2.2 gX5_writeInto_X5_freshOf rfl rfl rfl (by decide +kernel) ⟨by decide, by decide⟩) rfl rfl (Nat.le_of_ble_eq_true rfl) dX5_writeInto_77 ⟨by decide, by decide⟩ (fun v7 S8 => ?_)
    refine g_istore (L := fun v9 => [(4, .int v9), (6, .int v4), (0, .ref (a 5)), (1, .ref (a 6)), (2, .ref (a 3)), (3, .int x3), (5, .int x5)]) hc dX5_writeInto_80 (by decide) (fun _ => rfl) (fun v9 => ?_)
    refine g_iinc (j := 6) (w := x5 + 1) (L := fun v10 => [(5, .int v10), (4, .int v9), (6, .int v4), (0, .ref (a 5)), (1, .ref (a 6)), (2, .ref (a 3)), (3, .int x3)]) hc dX5_writeInto_82 rfl (by rfl) (by decide) (fun _ => rfl) (fun v10 => ?_)
    refine g_goto (tgt := 31) hc dX5_writeInto_85 (by decide) ?_
    refine g_lv [3, 4, 5, 6, 1, 0] rfl ?_
    exact hk31 x3 v9 v10 S8
set_option maxHeartbeats 4000000 in
set_option maxRecDepth 100000 in
theorem TX5_writeInto_31 {p : Program} {e : Env} {s : State} {m : MethodId} {args : Array Value} {below : List Frame} {meth : Method} {c : Code} (hc : CT p s m args c cX5_writeInto 7 RX5 wsX5_writeInto D (tyW cI cZ cO)) (hr : meth.sig.returnType = none) (hlk : meth.locks = false) (hE : EvX tF (AA 72 a s.heap.size) s) (k10 : Int32 → St → Option (Int32 × St)) (hk10 : ∀ (x3 : Int32) (S : St), GF p l e rX5_writeInto s m args below meth c D 72 a (cX cI cZ cO a) (AA 72 a s.heap.size) 7 0 0 (fun res => MQ below (va_Qv (fun u => ((0 : Int32), u) = res) (Bw D (tyW cI cZ cO) 72 a (cX cI cZ cO a) (AA 72 a s.heap.size)) (AA 72 a s.heap.size)) args s 0 0 (AA 72 a s.heap.size)) (k10 x3 S) 10 [(0, .ref (a 5)), (1, .ref (a 6)), (2, .ref (a 3)), (3, .int x3)] [] S) (n : Nat) (x3 : Int32) (x4 : Int32) (x5 : Int32) (S : St) : GF p l e rX5_writeInto s m args below meth c D 72 a (cX cI cZ cO a) (AA 72 a s.heap.size) 7 0 0 (fun res => MQ below (va_Qv (fun u => ((0 : Int32), u) = res) (Bw D (tyW cI cZ cO) 72 a (cX cI cZ cO a) (AA 72 a s.heap.size)) (AA 72 a s.heap.size)) args s 0 0 (AA 72 a s.heap.size)) (lX5_writeInto_31 k10 n x3 x4 x5 S) 31 [(0, .ref (a 5)), (1, .ref (a 6)), (2, .ref (a 3)), (3, .int x3), (4, .int x4), (5, .int x5)] [] S :=
  lp_ind (P := fun k : Int32 → Int32 → Int32 → St → Option (Int32 × St) => ∀ (x3 : Int32) (x4 : Int32) (x5 : Int32) (S : St), GF p l e rX5_writeInto s m args below meth c D 72 a (cX cI cZ cO a) (AA 72 a s.heap.size) 7 0 0 (fun res => MQ below (va_Qv (fun u => ((0 : Int32), u) = res) (Bw D (tyW cI cZ cO) 72 a (cX cI cZ cO a) (AA 72 a s.heap.size)) (AA 72 a s.heap.size)) args s 0 0 (AA 72 a s.heap.size)) (k x3 x4 x5 S) 31 [(0, .ref (a 5)), (1, .ref (a 6)), (2, .ref (a 3)), (3, .int x3), (4, .int x4), (5, .int x5)] [] S) (fun _ _ _ _ => g_none) (fun k31 hk31 => tX5_writeInto_31 hc hr hlk hE k10 hk10 k31 hk31) n x3 x4 x5 S
set_option maxHeartbeats 4000000 in
set_option maxRecDepth 100000 in
theorem tX5_writeInto_10 {p : Program} {e : Env} {s : State} {m : MethodId} {args : Array Value} {below : List Frame} {meth : Method} {c : Code} (hc : CT p s m args c cX5_writeInto 7 RX5 wsX5_writeInto D (tyW cI cZ cO)) (hr : meth.sig.returnType = none) (hlk : meth.locks = false) (hE : EvX tF (AA 72 a s.heap.size) s) (k10 : Int32 → St → Option (Int32 × St)) (hk10 : ∀ (x3 : Int32) (S : St), GF p l e rX5_writeInto s m args below meth c D 72 a (cX cI cZ cO a) (AA 72 a s.heap.size) 7 0 0 (fun res => MQ below (va_Qv (fun u => ((0 : Int32), u) = res) (Bw D (tyW cI cZ cO) 72 a (cX cI cZ cO a) (AA 72 a s.heap.size)) (AA 72 a s.heap.size)) args s 0 0 (AA 72 a s.heap.size)) (k10 x3 S) 10 [(0, .ref (a 5)), (1, .ref (a 6)), (2, .ref (a 3)), (3, .int x3)] [] S) (x3 : Int32) (S : St) : GF p l e rX5_writeInto s m args below meth c D 72 a (cX cI cZ cO a) (AA 72 a s.heap.size) 7 0 0 (fun res => MQ below (va_Qv (fun u => ((0 : Int32), u) = res) (Bw D (tyW cI cZ cO) 72 a (cX cI cZ cO a) (AA 72 a s.heap.size)) (AA 72 a s.heap.size)) args s 0 0 (AA 72 a s.heap.size)) (bX5_writeInto_10 k10 x3 S) 10 [(0, .ref (a 5)), (1, .ref (a 6)), (2, .ref (a 3)), (3, .int x3)] [] S := by
  unfold bX5_writeInto_10
  refine g_iload_n (j := 3) hc dX5_writeInto_10 rfl rfl ?_
  refine g_bipush (v := 8) hc dX5_writeInto_11 (by decide) ?_
  refine g_icmp_ge (tgt := 149) hc dX5_writeInto_13 (by decide) ?_ ?_
  · exact g_vret hc hr hlk dX5_writeInto_149
  · refine g_aload_n (j := 1) hc dX5_writeInto_16 rfl rfl ?_
    refine g_aload_n (j := 0) hc dX5_writeInto_17 rfl rfl ?_
    refine g_iload_n (j := 3) hc dX5_writeInto_18 rfl rfl ?_
    refine g_callVi (As := [.int x3]) (rest := [.ref (a 6)]) (k := 5) (ci := 5) (q0 := (RX5, TX5, 10)) hc hE trX rfl (fun _ h => mX5_tiesOf x3 S _ h) (cwV 1 hc.1.2.2.2.2 gX5_writeInto_X5_tiesOf rfl rfl rfl (by decide +kernel) ⟨by decide, by decide⟩) (by decide) rfl rfl rfl rfl (Nat.le_of_ble_eq_true rfl) dX5_writeInto_19 ⟨by decide, by decide⟩ (fun v1 S2 => ?_)
    refine g_callVv (As := [.int v1]) (rest := []) (k := 6) (ci := 4) (q0 := (RX4, TX4, 4)) hc hE trX rfl (fun _ h => mX4_addTies v1 S2 _ h) (cwV 1 hc.1.2.2.2.2 gX5_writeInto_X4_addTies rfl rfl rfl (by decide +kernel) ⟨by decide, by decide⟩) (by decide) rfl rfl rfl rfl (Nat.le_of_ble_eq_true rfl) dX5_writeInto_22 ⟨by decide, by decide⟩ (fun S4 => ?_)
    refine g_iconst (v := 0) hc dX5_writeInto_25 (by decide) ?_
    refine g_istore (L := fun v5 => [(4, .int v5), (0, .ref (a 5)), (1, .ref (a 6)), (2, .ref (a 3)), (3, .int x3)]) hc dX5_writeInto_26 (by decide) (fun _ => rfl) (fun v5 => ?_)
    refine g_iconst (v := 0) hc dX5_writeInto_28 (by decide) ?_
    refine g_istore (L := fun v6 => [(5, .int v6), (4, .int v5), (0, .ref (a 5)), (1, .ref (a 6)), (2, .ref (a 3)), (3, .int x3)]) hc dX5_writeInto_29 (by decide) (fun _ => rfl) (fun v6 => ?_)
    refine g_lv [2, 3, 4, 5, 1, 0] rfl ?_
    exact TX5_writeInto_31 hc hr hlk hE k10 hk10 FU x3 v5 v6 S4
set_option maxHeartbeats 4000000 in
set_option maxRecDepth 100000 in
theorem TX5_writeInto_10 {p : Program} {e : Env} {s : State} {m : MethodId} {args : Array Value} {below : List Frame} {meth : Method} {c : Code} (hc : CT p s m args c cX5_writeInto 7 RX5 wsX5_writeInto D (tyW cI cZ cO)) (hr : meth.sig.returnType = none) (hlk : meth.locks = false) (hE : EvX tF (AA 72 a s.heap.size) s) (n : Nat) (x3 : Int32) (S : St) : GF p l e rX5_writeInto s m args below meth c D 72 a (cX cI cZ cO a) (AA 72 a s.heap.size) 7 0 0 (fun res => MQ below (va_Qv (fun u => ((0 : Int32), u) = res) (Bw D (tyW cI cZ cO) 72 a (cX cI cZ cO a) (AA 72 a s.heap.size)) (AA 72 a s.heap.size)) args s 0 0 (AA 72 a s.heap.size)) (lX5_writeInto_10 n x3 S) 10 [(0, .ref (a 5)), (1, .ref (a 6)), (2, .ref (a 3)), (3, .int x3)] [] S :=
  lp_ind (P := fun k : Int32 → St → Option (Int32 × St) => ∀ (x3 : Int32) (S : St), GF p l e rX5_writeInto s m args below meth c D 72 a (cX cI cZ cO a) (AA 72 a s.heap.size) 7 0 0 (fun res => MQ below (va_Qv (fun u => ((0 : Int32), u) = res) (Bw D (tyW cI cZ cO) 72 a (cX cI cZ cO a) (AA 72 a s.heap.size)) (AA 72 a s.heap.size)) args s 0 0 (AA 72 a s.heap.size)) (k x3 S) 10 [(0, .ref (a 5)), (1, .ref (a 6)), (2, .ref (a 3)), (3, .int x3)] [] S) (fun _ _ => g_none) (fun k10 hk10 => tX5_writeInto_10 hc hr hlk hE k10 hk10) n x3 S
set_option maxHeartbeats 4000000 in
set_option maxRecDepth 100000 in
theorem mX5_writeInto (S : St) : ∀ q, uX5_writeInto S = some q → Kv l yX5_writeInto wsX5_writeInto rX5_writeInto D (tyW cI cZ cO) 72 a (cX cI cZ cO a) (EvX tF) [.ref (a 5), .ref (a 6), .ref (a 3)] S q := by
  refine m_Kv (cc := cX5_writeInto) (nL := 7) (ret := none) (lv := [(0, .ref (a 5)), (1, .ref (a 6)), (2, .ref (a 3))]) (by decide) rfl (Nat.le_of_ble_eq_true rfl) rfl ?_
  intro p e s m args below meth c hc hr hlk hE
  unfold uX5_writeInto
  refine g_aload_n (j := 1) hc dX5_writeInto_0 rfl rfl ?_
  refine g_aload_n (j := 0) hc dX5_writeInto_1 rfl rfl ?_
  refine g_get (C0 := RX5) (T := TX5) (M := 10) (k := 5) (ci := 5) hc inX5_writeInto_X5 (by decide) rfl rfl 3 (by decide) (List.mem_of_getElem? (i := 1) rfl) rfl rfl dX5_writeInto_2 ?_
  refine g_callVv (As := [.int (S 5 3)]) (rest := []) (k := 6) (ci := 4) (q0 := (RX4, TX4, 4)) hc hE trX rfl (fun _ h => mX4_begin (S 5 3) S _ h) (cwV 1 hc.1.2.2.2.2 gX5_writeInto_X4_begin rfl rfl rfl (by decide +kernel) ⟨by decide, by decide⟩) (by decide) rfl rfl rfl rfl (Nat.le_of_ble_eq_true rfl) dX5_writeInto_5 ⟨by decide, by decide⟩ (fun S2 => ?_)
  refine g_iconst (v := 0) hc dX5_writeInto_8 (by decide) ?_
  refine g_istore_n (L := fun v3 => [(3, .int v3), (0, .ref (a 5)), (1, .ref (a 6)), (2, .ref (a 3))]) hc dX5_writeInto_9 rfl (by decide) (fun _ => rfl) (fun v3 => ?_)
  refine g_lv [1, 2, 3, 0] rfl ?_
  exact TX5_writeInto_10 hc hr hlk hE FU v3 S2
end
