-- X9_bathsOf
def rX9_bathsOf : Room := { frames := 0, cells := 0, slots := 0, locals := 0 }
def bX9_bathsOf_4 (k4 : Int32 → Int32 → St → Option (Int32 × St)) (x1 : Int32) (x2 : Int32) (S : St) : Option (Int32 × St) :=
  if x2 = 0 then some (x1, S) else lt (x1 + 1) (fun v1 => lt ((x2.toUInt32 >>> ((3 : Int32).toUInt32 &&& Int32.toUInt32 31)).toInt32) (fun v2 => k4 v1 v2 S))
def lX9_bathsOf_4 (n : Nat) : Int32 → Int32 → St → Option (Int32 × St) :=
  lp (fun k4 => bX9_bathsOf_4 k4) (fun _ _ _ => none) n
def uX9_bathsOf (x0 : Int32) (S : St) : Option (Int32 × St) :=
  lt 0 (fun v1 => lt x0 (fun v2 => lX9_bathsOf_4 FU v1 v2 S))
-- X9_isRow
def rX9_isRow : Room := { frames := 1, cells := 0, slots := 0, locals := 22 }
def bX9_isRow_63 (x2 : Int32) (S : St) : Option (Int32 × St) :=
  rz x2 (some (x2, S))
def bX9_isRow_56 (k18 : Int32 → Int32 → Int32 → Int32 → St → Option (Int32 × St)) (x0 : Int32) (x1 : Int32) (x3 : Int32) (y0 : Int32) (S : St) : Option (Int32 × St) :=
  lt y0 (fun v1 => lt (x3 + 1) (fun v2 => k18 x0 x1 v1 v2 S))
def bX9_isRow_55 (k18 : Int32 → Int32 → Int32 → Int32 → St → Option (Int32 × St)) (x0 : Int32) (x1 : Int32) (x3 : Int32) (S : St) : Option (Int32 × St) :=
  bX9_isRow_56 k18 x0 x1 x3 0 S
def bX9_isRow_18 (k18 : Int32 → Int32 → Int32 → Int32 → St → Option (Int32 × St)) (x0 : Int32) (x1 : Int32) (x2 : Int32) (x3 : Int32) (S : St) : Option (Int32 × St) :=
  if x1 ≤ x3 then bX9_isRow_63 x2 S else if x2 = 0 then bX9_isRow_63 x2 S else if (((x0.toUInt32 >>> ((3 * x3).toUInt32 &&& Int32.toUInt32 31)).toInt32) &&& 7) < 1 then bX9_isRow_55 k18 x0 x1 x3 S else if 4 < (((x0.toUInt32 >>> ((3 * x3).toUInt32 &&& Int32.toUInt32 31)).toInt32) &&& 7) then bX9_isRow_55 k18 x0 x1 x3 S else bX9_isRow_56 k18 x0 x1 x3 1 S
def lX9_isRow_18 (n : Nat) : Int32 → Int32 → Int32 → Int32 → St → Option (Int32 × St) :=
  lp (fun k18 => bX9_isRow_18 k18) (fun _ _ _ _ _ => none) n
def bX9_isRow_15 (x0 : Int32) (x1 : Int32) (y0 : Int32) (S : St) : Option (Int32 × St) :=
  lt y0 (fun v1 => lt 0 (fun v2 => lX9_isRow_18 FU x0 x1 v1 v2 S))
def uX9_isRow (x0 : Int32) (S : St) : Option (Int32 × St) :=
  cl (uX9_bathsOf x0 S) (fun v1 S2 => lt v1 (fun v3 => if 4 < v3 then bX9_isRow_15 x0 v3 0 S2 else bX9_isRow_15 x0 v3 1 S2))
-- X9_becomes
def rX9_becomes : Room := { frames := 1, cells := 0, slots := 0, locals := 22 }
theorem inX9_becomes_X9 : ∀ w ∈ u_ws RX9 TX9 24, w ∈ wsX9_becomes := by decide +kernel
def bX9_becomes_44 (k5 : Int32 → Int32 → Int32 → Int32 → St → Option (Int32 × St)) (x1 : Int32) (x2 : Int32) (x3 : Int32) (x4 : Int32) (S : St) : Option (Int32 × St) :=
  lt (x4 + 1) (fun v1 => k5 x1 x2 x3 v1 S)
def bX9_becomes_5 (k5 : Int32 → Int32 → Int32 → Int32 → St → Option (Int32 × St)) (x1 : Int32) (x2 : Int32) (x3 : Int32) (x4 : Int32) (S : St) : Option (Int32 × St) :=
  cl (uX9_bathsOf x1 S) (fun v1 S2 => if v1 ≤ x4 then some (x3, S2) else if ((x2 >>> (x4 &&& 31)) &&& 1) = 0 then ck (((4 * x3) + ((x1 >>> ((3 * x4) &&& 31)) &&& 7)) - 1) 64 (lt (S2 3 (((4 * x3) + ((x1 >>> ((3 * x4) &&& 31)) &&& 7)) - 1).toNatClampNeg) (fun v3 => bX9_becomes_44 k5 x1 x2 v3 x4 S2)) else bX9_becomes_44 k5 x1 x2 x3 x4 S2)
def lX9_becomes_5 (n : Nat) : Int32 → Int32 → Int32 → Int32 → St → Option (Int32 × St) :=
  lp (fun k5 => bX9_becomes_5 k5) (fun _ _ _ _ _ => none) n
def uX9_becomes (x1 : Int32) (x2 : Int32) (S : St) : Option (Int32 × St) :=
  lt 0 (fun v1 => lt 0 (fun v2 => lX9_becomes_5 FU x1 x2 v1 v2 S))
-- X9_wants
def rX9_wants : Room := { frames := 0, cells := 0, slots := 0, locals := 0 }
theorem inX9_wants_X9 : ∀ w ∈ u_ws RX9 TX9 24, w ∈ wsX9_wants := by decide +kernel
def bX9_wants_52 (k6 : Int32 → Int32 → Int32 → Int32 → Int32 → St → Option (Int32 × St)) (x1 : Int32) (x2 : Int32) (x3 : Int32) (x5 : Int32) (y0 : Int32) (S : St) : Option (Int32 × St) :=
  lt y0 (fun v1 => lt (x5 + 1) (fun v2 => k6 x1 x2 x3 v1 v2 S))
def bX9_wants_51 (k6 : Int32 → Int32 → Int32 → Int32 → Int32 → St → Option (Int32 × St)) (x1 : Int32) (x2 : Int32) (x3 : Int32) (x5 : Int32) (S : St) : Option (Int32 × St) :=
  bX9_wants_52 k6 x1 x2 x3 x5 0 S
def bX9_wants_47 (k6 : Int32 → Int32 → Int32 → Int32 → Int32 → St → Option (Int32 × St)) (x1 : Int32) (x2 : Int32) (x3 : Int32) (x5 : Int32) (S : St) : Option (Int32 × St) :=
  bX9_wants_52 k6 x1 x2 x3 x5 1 S
def bX9_wants_6 (k6 : Int32 → Int32 → Int32 → Int32 → Int32 → St → Option (Int32 × St)) (x1 : Int32) (x2 : Int32) (x3 : Int32) (x4 : Int32) (x5 : Int32) (S : St) : Option (Int32 × St) :=
  if (S 0 1) ≤ x5 then rz x4 (some (x4, S)) else if x4 = 0 then bX9_wants_51 k6 x1 x2 x3 x5 S else ck x5 16 (if (S 1 x5.toNatClampNeg) = x1 then ck ((24 * x5) + x2) 384 (if (S 5 ((24 * x5) + x2).toNatClampNeg) = x3 then bX9_wants_47 k6 x1 x2 x3 x5 S else bX9_wants_51 k6 x1 x2 x3 x5 S) else bX9_wants_47 k6 x1 x2 x3 x5 S)
def lX9_wants_6 (n : Nat) : Int32 → Int32 → Int32 → Int32 → Int32 → St → Option (Int32 × St) :=
  lp (fun k6 => bX9_wants_6 k6) (fun _ _ _ _ _ _ => none) n
def uX9_wants (x1 : Int32) (x2 : Int32) (x3 : Int32) (S : St) : Option (Int32 × St) :=
  lt 1 (fun v1 => lt 0 (fun v2 => lX9_wants_6 FU x1 x2 x3 v1 v2 S))
-- X9_ones
def rX9_ones : Room := { frames := 0, cells := 0, slots := 0, locals := 0 }
def bX9_ones_4 (k4 : Int32 → Int32 → St → Option (Int32 × St)) (x1 : Int32) (x2 : Int32) (S : St) : Option (Int32 × St) :=
  if x2 ≤ 0 then some (x1, S) else lt (x1 + (x2 &&& 1)) (fun v1 => lt (x2 >>> (1 &&& 31)) (fun v2 => k4 v1 v2 S))
def lX9_ones_4 (n : Nat) : Int32 → Int32 → St → Option (Int32 × St) :=
  lp (fun k4 => bX9_ones_4 k4) (fun _ _ _ => none) n
def uX9_ones (x0 : Int32) (S : St) : Option (Int32 × St) :=
  lt 0 (fun v1 => lt x0 (fun v2 => lX9_ones_4 FU v1 v2 S))
-- X9_newly
def rX9_newly : Room := { frames := 0, cells := 0, slots := 0, locals := 0 }
def uX9_newly (x0 : Int32) (S : St) : Option (Int32 × St) :=
  some (x0 &&& ((x0 <<< (1 &&& 31)) ^^^ ((-1))), S)
-- X9_find
def rX9_find : Room := { frames := 2, cells := 0, slots := 0, locals := 46 }
theorem inX9_find_X9 : ∀ w ∈ u_ws RX9 TX9 24, w ∈ wsX9_find := by decide +kernel
def bX9_find_502 (k37 : Int32 → Int32 → Int32 → Int32 → St → Option (Int32 × St)) (x1 : Int32) (x2 : Int32) (x3 : Int32) (x4 : Int32) (S : St) : Option (Int32 × St) :=
  lt (x4 + 1) (fun v1 => k37 x1 x2 x3 v1 S)
def bX9_find_496 (k37 : Int32 → Int32 → Int32 → Int32 → St → Option (Int32 × St)) (k375 : Int32 → Int32 → Int32 → Int32 → Int32 → Int32 → Int32 → Int32 → St → Option (Int32 × St)) (x1 : Int32) (x2 : Int32) (x3 : Int32) (x4 : Int32) (x5 : Int32) (x6 : Int32) (x7 : Int32) (x8 : Int32) (S : St) : Option (Int32 × St) :=
  lt (x8 + 1) (fun v1 => k375 x1 x2 x3 x4 x5 x6 x7 v1 S)
def bX9_find_385 (k37 : Int32 → Int32 → Int32 → Int32 → St → Option (Int32 × St)) (k375 : Int32 → Int32 → Int32 → Int32 → Int32 → Int32 → Int32 → Int32 → St → Option (Int32 × St)) (k385 : Int32 → Int32 → Int32 → Int32 → Int32 → Int32 → Int32 → Int32 → Int32 → St → Option (Int32 × St)) (x1 : Int32) (x2 : Int32) (x3 : Int32) (x4 : Int32) (x5 : Int32) (x6 : Int32) (x7 : Int32) (x8 : Int32) (x9 : Int32) (S : St) : Option (Int32 × St) :=
  ck ((16 * x8) + x9) 400 (cl (uX9_newly x9 S) (fun v1 S2 => cl (uX9_newly x6 S2) (fun v3 S4 => cl (uX9_ones ((v1 &&& (v3 ^^^ ((-1)))) &&& (x2 - 1)) S4) (fun v5 S6 => if ((S 15 ((16 * x8) + x9).toNatClampNeg) + v5) = x7 then ck ((16 * x8) + x9) 400 (lt (S6 15 ((16 * x8) + x9).toNatClampNeg) (fun v7 => lt x9 (fun v8 => ck ((24 * x4) + x8) 192 (lz (s2 S6 14 ((24 * x4) + x8).toNatClampNeg x9) (fun S9 => ck x4 8 (if (S9 8 x4.toNatClampNeg) = 0 then bX9_find_496 k37 k375 x1 x2 x3 x4 x5 v8 v7 x8 S9 else ck ((((24 * x4) + (S9 0 2)) - 1) - x8) 192 (lz (s2 S9 14 ((((24 * x4) + (S9 0 2)) - 1) - x8).toNatClampNeg x9) (fun S10 => bX9_find_496 k37 k375 x1 x2 x3 x4 x5 v8 v7 x8 S10)))))))) else lt (x9 + 1) (fun v11 => k385 x1 x2 x3 x4 x5 x6 x7 x8 v11 S6)))))
def lX9_find_385 (k37 : Int32 → Int32 → Int32 → Int32 → St → Option (Int32 × St)) (k375 : Int32 → Int32 → Int32 → Int32 → Int32 → Int32 → Int32 → Int32 → St → Option (Int32 × St)) (n : Nat) : Int32 → Int32 → Int32 → Int32 → Int32 → Int32 → Int32 → Int32 → Int32 → St → Option (Int32 × St) :=
  lp (fun k385 => bX9_find_385 k37 k375 k385) (fun _ _ _ _ _ _ _ _ _ _ => none) n
def bX9_find_375 (k37 : Int32 → Int32 → Int32 → Int32 → St → Option (Int32 × St)) (k375 : Int32 → Int32 → Int32 → Int32 → Int32 → Int32 → Int32 → Int32 → St → Option (Int32 × St)) (x1 : Int32) (x2 : Int32) (x3 : Int32) (x4 : Int32) (x5 : Int32) (x6 : Int32) (x7 : Int32) (x8 : Int32) (S : St) : Option (Int32 × St) :=
  if x5 ≤ x8 then bX9_find_502 k37 x1 x2 x3 x4 S else lt 0 (fun v1 => lX9_find_385 k37 k375 FU x1 x2 x3 x4 x5 x6 x7 x8 v1 S)
def lX9_find_375 (k37 : Int32 → Int32 → Int32 → Int32 → St → Option (Int32 × St)) (n : Nat) : Int32 → Int32 → Int32 → Int32 → Int32 → Int32 → Int32 → Int32 → St → Option (Int32 × St) :=
  lp (fun k375 => bX9_find_375 k37 k375) (fun _ _ _ _ _ _ _ _ _ => none) n
def bX9_find_350 (k37 : Int32 → Int32 → Int32 → Int32 → St → Option (Int32 × St)) (k308 : Int32 → Int32 → Int32 → Int32 → Int32 → Int32 → Int32 → Int32 → St → Option (Int32 × St)) (x1 : Int32) (x2 : Int32) (x3 : Int32) (x4 : Int32) (x5 : Int32) (x6 : Int32) (x8 : Int32) (y0 : Int32) (S : St) : Option (Int32 × St) :=
  lt y0 (fun v1 => lt (x8 + 1) (fun v2 => k308 x1 x2 x3 x4 x5 x6 v1 v2 S))
def bX9_find_308 (k37 : Int32 → Int32 → Int32 → Int32 → St → Option (Int32 × St)) (k308 : Int32 → Int32 → Int32 → Int32 → Int32 → Int32 → Int32 → Int32 → St → Option (Int32 × St)) (x1 : Int32) (x2 : Int32) (x3 : Int32) (x4 : Int32) (x5 : Int32) (x6 : Int32) (x7 : Int32) (x8 : Int32) (S : St) : Option (Int32 × St) :=
  if x2 ≤ x8 then if x7 < 1000000 then lt (x3 + x7) (fun v1 => lt 0 (fun v2 => lX9_find_375 k37 FU x1 x2 v1 x4 x5 x6 x7 v2 S)) else some ((-1), S) else ck x8 400 (cl (uX9_newly x8 S) (fun v3 S4 => cl (uX9_ones (v3 &&& (x2 - 1)) S4) (fun v5 S6 => lt ((S 15 x8.toNatClampNeg) + v5) (fun v7 => if x7 ≤ v7 then bX9_find_350 k37 k308 x1 x2 x3 x4 x5 x6 x8 x7 S6 else bX9_find_350 k37 k308 x1 x2 x3 x4 x5 x6 x8 v7 S6))))
def lX9_find_308 (k37 : Int32 → Int32 → Int32 → Int32 → St → Option (Int32 × St)) (n : Nat) : Int32 → Int32 → Int32 → Int32 → Int32 → Int32 → Int32 → Int32 → St → Option (Int32 × St) :=
  lp (fun k308 => bX9_find_308 k37 k308) (fun _ _ _ _ _ _ _ _ _ => none) n
def bX9_find_286 (k37 : Int32 → Int32 → Int32 → Int32 → St → Option (Int32 × St)) (k91 : Int32 → Int32 → Int32 → Int32 → Int32 → Int32 → St → Option (Int32 × St)) (k99 : Int32 → Int32 → Int32 → Int32 → Int32 → Int32 → Int32 → St → Option (Int32 × St)) (x1 : Int32) (x2 : Int32) (x3 : Int32) (x4 : Int32) (x5 : Int32) (x6 : Int32) (x7 : Int32) (S : St) : Option (Int32 × St) :=
  lt (x7 + 1) (fun v1 => k99 x1 x2 x3 x4 x5 x6 v1 S)
def bX9_find_271 (k37 : Int32 → Int32 → Int32 → Int32 → St → Option (Int32 × St)) (k91 : Int32 → Int32 → Int32 → Int32 → Int32 → Int32 → St → Option (Int32 × St)) (k99 : Int32 → Int32 → Int32 → Int32 → Int32 → Int32 → Int32 → St → Option (Int32 × St)) (x1 : Int32) (x2 : Int32) (x3 : Int32) (x4 : Int32) (x5 : Int32) (x6 : Int32) (x7 : Int32) (x9 : Int32) (S : St) : Option (Int32 × St) :=
  ck ((16 * x6) + x7) 400 (lz (s2 S 15 ((16 * x6) + x7).toNatClampNeg x9) (fun S1 => bX9_find_286 k37 k91 k99 x1 x2 x3 x4 x5 x6 x7 S1))
def bX9_find_263 (k37 : Int32 → Int32 → Int32 → Int32 → St → Option (Int32 × St)) (k91 : Int32 → Int32 → Int32 → Int32 → Int32 → Int32 → St → Option (Int32 × St)) (k99 : Int32 → Int32 → Int32 → Int32 → Int32 → Int32 → Int32 → St → Option (Int32 × St)) (k195 : Int32 → Int32 → Int32 → Int32 → Int32 → Int32 → Int32 → Int32 → Int32 → St → Option (Int32 × St)) (x1 : Int32) (x2 : Int32) (x3 : Int32) (x4 : Int32) (x5 : Int32) (x6 : Int32) (x7 : Int32) (x10 : Int32) (y0 : Int32) (S : St) : Option (Int32 × St) :=
  lt y0 (fun v1 => lt (x10 + 1) (fun v2 => k195 x1 x2 x3 x4 x5 x6 x7 v1 v2 S))
def bX9_find_195 (k37 : Int32 → Int32 → Int32 → Int32 → St → Option (Int32 × St)) (k91 : Int32 → Int32 → Int32 → Int32 → Int32 → Int32 → St → Option (Int32 × St)) (k99 : Int32 → Int32 → Int32 → Int32 → Int32 → Int32 → Int32 → St → Option (Int32 × St)) (k195 : Int32 → Int32 → Int32 → Int32 → Int32 → Int32 → Int32 → Int32 → Int32 → St → Option (Int32 × St)) (x1 : Int32) (x2 : Int32) (x3 : Int32) (x4 : Int32) (x5 : Int32) (x6 : Int32) (x7 : Int32) (x9 : Int32) (x10 : Int32) (S : St) : Option (Int32 × St) :=
  if (x5 - 1) ≤ x6 then bX9_find_271 k37 k91 k99 x1 x2 x3 x4 x5 x6 x7 x9 S else if x2 ≤ x10 then bX9_find_271 k37 k91 k99 x1 x2 x3 x4 x5 x6 x7 x9 S else ck (((16 * x6) + 16) + x10) 400 (cl (uX9_newly x10 S) (fun v1 S2 => cl (uX9_newly x7 S2) (fun v3 S4 => cl (uX9_ones ((v1 &&& (v3 ^^^ ((-1)))) &&& (x2 - 1)) S4) (fun v5 S6 => lt ((S 15 (((16 * x6) + 16) + x10).toNatClampNeg) + v5) (fun v7 => if x9 ≤ v7 then bX9_find_263 k37 k91 k99 k195 x1 x2 x3 x4 x5 x6 x7 x10 x9 S6 else bX9_find_263 k37 k91 k99 k195 x1 x2 x3 x4 x5 x6 x7 x10 v7 S6)))))
def lX9_find_195 (k37 : Int32 → Int32 → Int32 → Int32 → St → Option (Int32 × St)) (k91 : Int32 → Int32 → Int32 → Int32 → Int32 → Int32 → St → Option (Int32 × St)) (k99 : Int32 → Int32 → Int32 → Int32 → Int32 → Int32 → Int32 → St → Option (Int32 × St)) (n : Nat) : Int32 → Int32 → Int32 → Int32 → Int32 → Int32 → Int32 → Int32 → Int32 → St → Option (Int32 × St) :=
  lp (fun k195 => bX9_find_195 k37 k91 k99 k195) (fun _ _ _ _ _ _ _ _ _ _ => none) n
def bX9_find_190 (k37 : Int32 → Int32 → Int32 → Int32 → St → Option (Int32 × St)) (k91 : Int32 → Int32 → Int32 → Int32 → Int32 → Int32 → St → Option (Int32 × St)) (k99 : Int32 → Int32 → Int32 → Int32 → Int32 → Int32 → Int32 → St → Option (Int32 × St)) (x1 : Int32) (x2 : Int32) (x3 : Int32) (x4 : Int32) (x5 : Int32) (x6 : Int32) (x7 : Int32) (y0 : Int32) (S : St) : Option (Int32 × St) :=
  lt y0 (fun v1 => lt 0 (fun v2 => lX9_find_195 k37 k91 k99 FU x1 x2 x3 x4 x5 x6 x7 v1 v2 S))
def bX9_find_175 (k37 : Int32 → Int32 → Int32 → Int32 → St → Option (Int32 × St)) (k91 : Int32 → Int32 → Int32 → Int32 → Int32 → Int32 → St → Option (Int32 × St)) (k99 : Int32 → Int32 → Int32 → Int32 → Int32 → Int32 → Int32 → St → Option (Int32 × St)) (x1 : Int32) (x2 : Int32) (x3 : Int32) (x4 : Int32) (x5 : Int32) (x6 : Int32) (x7 : Int32) (S : St) : Option (Int32 × St) :=
  if x6 = (x5 - 1) then bX9_find_190 k37 k91 k99 x1 x2 x3 x4 x5 x6 x7 0 S else bX9_find_190 k37 k91 k99 x1 x2 x3 x4 x5 x6 x7 1000000 S
def bX9_find_99 (k37 : Int32 → Int32 → Int32 → Int32 → St → Option (Int32 × St)) (k91 : Int32 → Int32 → Int32 → Int32 → Int32 → Int32 → St → Option (Int32 × St)) (k99 : Int32 → Int32 → Int32 → Int32 → Int32 → Int32 → Int32 → St → Option (Int32 × St)) (x1 : Int32) (x2 : Int32) (x3 : Int32) (x4 : Int32) (x5 : Int32) (x6 : Int32) (x7 : Int32) (S : St) : Option (Int32 × St) :=
  if x2 ≤ x7 then lt (x6 + (-1)) (fun v1 => k91 x1 x2 x3 x4 x5 v1 S) else cl (uX9_becomes x1 x7 S) (fun v2 S3 => lt v2 (fun v4 => ck ((16 * x6) + x7) 400 (lz (s2 S3 15 ((16 * x6) + x7).toNatClampNeg 1000000) (fun S5 => cl (uX9_wants x4 x6 v4 S5) (fun v6 S7 => if v6 = 0 then bX9_find_286 k37 k91 k99 x1 x2 x3 x4 x5 x6 x7 S7 else ck x4 8 (if (S7 8 x4.toNatClampNeg) = 0 then bX9_find_175 k37 k91 k99 x1 x2 x3 x4 x5 x6 x7 S7 else cl (uX9_wants x4 (((S7 0 2) - 1) - x6) v4 S7) (fun v8 S9 => if v8 = 0 then bX9_find_286 k37 k91 k99 x1 x2 x3 x4 x5 x6 x7 S9 else bX9_find_175 k37 k91 k99 x1 x2 x3 x4 x5 x6 x7 S9)))))))
def lX9_find_99 (k37 : Int32 → Int32 → Int32 → Int32 → St → Option (Int32 × St)) (k91 : Int32 → Int32 → Int32 → Int32 → Int32 → Int32 → St → Option (Int32 × St)) (n : Nat) : Int32 → Int32 → Int32 → Int32 → Int32 → Int32 → Int32 → St → Option (Int32 × St) :=
  lp (fun k99 => bX9_find_99 k37 k91 k99) (fun _ _ _ _ _ _ _ _ => none) n
def bX9_find_91 (k37 : Int32 → Int32 → Int32 → Int32 → St → Option (Int32 × St)) (k91 : Int32 → Int32 → Int32 → Int32 → Int32 → Int32 → St → Option (Int32 × St)) (x1 : Int32) (x2 : Int32) (x3 : Int32) (x4 : Int32) (x5 : Int32) (x6 : Int32) (S : St) : Option (Int32 × St) :=
  if x6 < 0 then lt 0 (fun v1 => lt 1000000 (fun v2 => lt 0 (fun v3 => lX9_find_308 k37 FU x1 x2 x3 x4 x5 v1 v2 v3 S))) else lt 0 (fun v4 => lX9_find_99 k37 k91 FU x1 x2 x3 x4 x5 x6 v4 S)
def lX9_find_91 (k37 : Int32 → Int32 → Int32 → Int32 → St → Option (Int32 × St)) (n : Nat) : Int32 → Int32 → Int32 → Int32 → Int32 → Int32 → St → Option (Int32 × St) :=
  lp (fun k91 => bX9_find_91 k37 k91) (fun _ _ _ _ _ _ _ => none) n
def bX9_find_83 (k37 : Int32 → Int32 → Int32 → Int32 → St → Option (Int32 × St)) (x1 : Int32) (x2 : Int32) (x3 : Int32) (x4 : Int32) (y0 : Int32) (S : St) : Option (Int32 × St) :=
  lt y0 (fun v1 => lt (v1 - 1) (fun v2 => lX9_find_91 k37 FU x1 x2 x3 x4 v1 v2 S))
def bX9_find_37 (k37 : Int32 → Int32 → Int32 → Int32 → St → Option (Int32 × St)) (x1 : Int32) (x2 : Int32) (x3 : Int32) (x4 : Int32) (S : St) : Option (Int32 × St) :=
  if 8 ≤ x4 then some (x3, S) else cl (uX9_many x4 S) (fun v1 S2 => if v1 = 0 then bX9_find_502 k37 x1 x2 x3 x4 S2 else ck x4 8 (if (S2 8 x4.toNatClampNeg) = 0 then bX9_find_83 k37 x1 x2 x3 x4 (S2 0 2) S2 else bX9_find_83 k37 x1 x2 x3 x4 ((((S2 0 2) - 1) / 2) + 1) S2))
def lX9_find_37 (n : Nat) : Int32 → Int32 → Int32 → Int32 → St → Option (Int32 × St) :=
  lp (fun k37 => bX9_find_37 k37) (fun _ _ _ _ _ => none) n
def bX9_find_12 (k12 : Int32 → Int32 → Int32 → Int32 → St → Option (Int32 × St)) (x1 : Int32) (x2 : Int32) (x3 : Int32) (x4 : Int32) (S : St) : Option (Int32 × St) :=
  if 192 ≤ x4 then lt 0 (fun v1 => lX9_find_37 FU x1 x2 x3 v1 S) else ck x4 192 (lz (s2 S 14 x4.toNatClampNeg 0) (fun S2 => lt (x4 + 1) (fun v3 => k12 x1 x2 x3 v3 S2)))
def lX9_find_12 (n : Nat) : Int32 → Int32 → Int32 → Int32 → St → Option (Int32 × St) :=
  lp (fun k12 => bX9_find_12 k12) (fun _ _ _ _ _ => none) n
def uX9_find (x1 : Int32) (S : St) : Option (Int32 × St) :=
  cl (uX9_bathsOf x1 S) (fun v1 S2 => lt (1 <<< (v1 &&& 31)) (fun v3 => lt 0 (fun v4 => lt 0 (fun v5 => lX9_find_12 FU x1 v3 v4 v5 S2))))
-- X9_keeps
def rX9_keeps : Room := { frames := 0, cells := 0, slots := 0, locals := 0 }
theorem inX9_keeps_X9 : ∀ w ∈ u_ws RX9 TX9 24, w ∈ wsX9_keeps := by decide +kernel
def bX9_keeps_17 (k17 : Int32 → St → Option (Int32 × St)) (x3 : Int32) (S : St) : Option (Int32 × St) :=
  if 192 ≤ x3 then some (0, S) else ck x3 192 (ck x3 192 (lz (s2 S 13 x3.toNatClampNeg (S 14 x3.toNatClampNeg)) (fun S1 => lt (x3 + 1) (fun v2 => k17 v2 S1))))
def lX9_keeps_17 (n : Nat) : Int32 → St → Option (Int32 × St) :=
  lp (fun k17 => bX9_keeps_17 k17) (fun _ _ => none) n
def uX9_keeps (x1 : Int32) (x2 : Int32) (S : St) : Option (Int32 × St) :=
  lz (s2 S 0 17 1) (fun S1 => lz (s2 S1 0 18 x1) (fun S2 => lz (s2 S2 0 19 x2) (fun S3 => lt 0 (fun v4 => lX9_keeps_17 FU v4 S3))))
-- X9_plan
def rX9_plan : Room := { frames := 3, cells := 0, slots := 0, locals := 77 }
theorem inX9_plan_X9 : ∀ w ∈ u_ws RX9 TX9 24, w ∈ wsX9_plan := by decide +kernel
def bX9_plan_36 (x2 : Int32) (S : St) : Option (Int32 × St) :=
  some (x2, S)
def uX9_plan (x1 : Int32) (S : St) : Option (Int32 × St) :=
  lz (s2 S 0 0 0) (fun S1 => cl (uX9_isRow x1 S1) (fun v2 S3 => cl (uX9_right v2 1 S3) (fun v4 S5 => if v4 = 0 then some (0, S5) else cl (uX9_find x1 S5) (fun v6 S7 => lt v6 (fun v8 => if v8 = ((-1)) then bX9_plan_36 v8 S7 else cl (uX9_keeps x1 v8 S7) (fun _ S10 => bX9_plan_36 v8 S10))))))
-- X9_best
def rX9_best : Room := { frames := 3, cells := 0, slots := 0, locals := 77 }
theorem inX9_best_X9 : ∀ w ∈ u_ws RX9 TX9 24, w ∈ wsX9_best := by decide +kernel
def bX9_best_137 (k33 : Int32 → Int32 → Int32 → St → Option (Int32 × St)) (k48 : Int32 → Int32 → Int32 → Int32 → Int32 → St → Option (Int32 × St)) (x1 : Int32) (x2 : Int32) (x3 : Int32) (x4 : Int32) (x5 : Int32) (S : St) : Option (Int32 × St) :=
  lt (x5 + 1) (fun v1 => k48 x1 x2 x3 x4 v1 S)
def bX9_best_126 (k33 : Int32 → Int32 → Int32 → St → Option (Int32 × St)) (k48 : Int32 → Int32 → Int32 → Int32 → Int32 → St → Option (Int32 × St)) (x1 : Int32) (x3 : Int32) (x4 : Int32) (x5 : Int32) (x6 : Int32) (x7 : Int32) (S : St) : Option (Int32 × St) :=
  lt x7 (fun v1 => cl (uX9_keeps x6 x7 S) (fun _ S3 => bX9_best_137 k33 k48 x1 v1 x3 x4 x5 S3))
def bX9_best_61 (k33 : Int32 → Int32 → Int32 → St → Option (Int32 × St)) (k48 : Int32 → Int32 → Int32 → Int32 → Int32 → St → Option (Int32 × St)) (k61 : Int32 → Int32 → Int32 → Int32 → Int32 → Int32 → Int32 → St → Option (Int32 × St)) (x1 : Int32) (x2 : Int32) (x3 : Int32) (x4 : Int32) (x5 : Int32) (x6 : Int32) (x7 : Int32) (S : St) : Option (Int32 × St) :=
  if x3 ≤ x7 then cl (uX9_find x6 S) (fun v1 S2 => lt v1 (fun v3 => if v3 = ((-1)) then bX9_best_137 k33 k48 x1 x2 x3 x4 x5 S2 else if x2 = ((-1)) then bX9_best_126 k33 k48 x1 x3 x4 x5 x6 v3 S2 else if v3 < x2 then bX9_best_126 k33 k48 x1 x3 x4 x5 x6 v3 S2 else bX9_best_137 k33 k48 x1 x2 x3 x4 x5 S2)) else lt (x6 ||| ((((x5 >>> ((2 * ((x3 - 1) - x7)) &&& 31)) &&& 3) + 1) <<< ((3 * x7) &&& 31))) (fun v4 => lt (x7 + 1) (fun v5 => k61 x1 x2 x3 x4 x5 v4 v5 S))
def lX9_best_61 (k33 : Int32 → Int32 → Int32 → St → Option (Int32 × St)) (k48 : Int32 → Int32 → Int32 → Int32 → Int32 → St → Option (Int32 × St)) (n : Nat) : Int32 → Int32 → Int32 → Int32 → Int32 → Int32 → Int32 → St → Option (Int32 × St) :=
  lp (fun k61 => bX9_best_61 k33 k48 k61) (fun _ _ _ _ _ _ _ _ => none) n
def bX9_best_48 (k33 : Int32 → Int32 → Int32 → St → Option (Int32 × St)) (k48 : Int32 → Int32 → Int32 → Int32 → Int32 → St → Option (Int32 × St)) (x1 : Int32) (x2 : Int32) (x3 : Int32) (x4 : Int32) (x5 : Int32) (S : St) : Option (Int32 × St) :=
  if x4 ≤ x5 then lt (x3 + 1) (fun v1 => k33 x1 x2 v1 S) else lt 0 (fun v2 => lt 0 (fun v3 => lX9_best_61 k33 k48 FU x1 x2 x3 x4 x5 v2 v3 S))
def lX9_best_48 (k33 : Int32 → Int32 → Int32 → St → Option (Int32 × St)) (n : Nat) : Int32 → Int32 → Int32 → Int32 → Int32 → St → Option (Int32 × St) :=
  lp (fun k48 => bX9_best_48 k33 k48) (fun _ _ _ _ _ _ => none) n
def bX9_best_33 (k33 : Int32 → Int32 → Int32 → St → Option (Int32 × St)) (x1 : Int32) (x2 : Int32) (x3 : Int32) (S : St) : Option (Int32 × St) :=
  if x1 < x3 then some (x2, S) else lt (1 <<< ((2 * x3) &&& 31)) (fun v1 => lt 0 (fun v2 => lX9_best_48 k33 FU x1 x2 x3 v1 v2 S))
def lX9_best_33 (n : Nat) : Int32 → Int32 → Int32 → St → Option (Int32 × St) :=
  lp (fun k33 => bX9_best_33 k33) (fun _ _ _ _ => none) n
def bX9_best_20 (x1 : Int32) (y1 : Int32) (S : St) : Option (Int32 × St) :=
  cl (uX9_right y1 1 S) (fun v1 S2 => if v1 = 0 then some (0, S2) else lt ((-1)) (fun v3 => lt 0 (fun v4 => lX9_best_33 FU x1 v3 v4 S2)))
def bX9_best_19 (x1 : Int32) (S : St) : Option (Int32 × St) :=
  bX9_best_20 x1 0 S
def uX9_best (x1 : Int32) (S : St) : Option (Int32 × St) :=
  lz (s2 S 0 0 0) (fun S1 => if x1 < 0 then bX9_best_19 x1 S1 else if 4 < x1 then bX9_best_19 x1 S1 else bX9_best_20 x1 1 S1)
-- X9_kept
def rX9_kept : Room := { frames := 1, cells := 0, slots := 0, locals := 22 }
theorem inX9_kept_X9 : ∀ w ∈ u_ws RX9 TX9 24, w ∈ wsX9_kept := by decide +kernel
def bX9_kept_68 (y0 : Int32) (S : St) : Option (Int32 × St) :=
  some (y0, S)
def bX9_kept_20 (x1 : Int32) (y1 : Int32) (S : St) : Option (Int32 × St) :=
  cl (uX9_right y1 1 S) (fun v1 S2 => if v1 = 0 then some (0, S2) else if (S2 0 17) = 0 then some ((-1), S2) else if x1 = 0 then bX9_kept_68 (S2 0 18) S2 else if x1 = 1 then cl (uX9_bathsOf (S2 0 18) S2) (fun v3 S4 => bX9_kept_68 v3 S4) else bX9_kept_68 (S2 0 19) S2)
def bX9_kept_19 (x1 : Int32) (S : St) : Option (Int32 × St) :=
  bX9_kept_20 x1 0 S
def uX9_kept (x1 : Int32) (S : St) : Option (Int32 × St) :=
  lz (s2 S 0 0 0) (fun S1 => if x1 < 0 then bX9_kept_19 x1 S1 else if 2 < x1 then bX9_kept_19 x1 S1 else bX9_kept_20 x1 1 S1)
-- X9_bits
def rX9_bits : Room := { frames := 2, cells := 0, slots := 0, locals := 43 }
theorem inX9_bits_X9 : ∀ w ∈ u_ws RX9 TX9 24, w ∈ wsX9_bits := by decide +kernel
def bX9_bits_45 (y0 : Int32) (S : St) : Option (Int32 × St) :=
  some (y0, S)
def bX9_bits_21 (S : St) : Option (Int32 × St) :=
  some (0, S)
def uX9_bits (x1 : Int32) (x2 : Int32) (S : St) : Option (Int32 × St) :=
  lz (s2 S 0 0 0) (fun S1 => cl (uX9_isBundle x1 S1) (fun v2 S3 => if v2 = 0 then bX9_bits_21 S3 else cl (uX9_isPlace x2 S3) (fun v4 S5 => if v4 = 0 then bX9_bits_21 S5 else if (S5 0 17) = 0 then bX9_bits_45 ((-1)) S5 else ck ((24 * x1) + x2) 192 (bX9_bits_45 (S5 13 ((24 * x1) + x2).toNatClampNeg) S5))))
-- X9_bindsFor
def rX9_bindsFor : Room := { frames := 0, cells := 0, slots := 0, locals := 0 }
theorem inX9_bindsFor_X9 : ∀ w ∈ u_ws RX9 TX9 24, w ∈ wsX9_bindsFor := by decide +kernel
def bX9_bindsFor_52 (k2 : Int32 → Int32 → St → Option (Int32 × St)) (k10 : Int32 → Int32 → Int32 → St → Option (Int32 × St)) (x1 : Int32) (x2 : Int32) (x3 : Int32) (y1 : Int32) (y2 : Int32) (S : St) : Option (Int32 × St) :=
  ck y1 192 (lz (s2 S 9 y1.toNatClampNeg (y2 &&& 1)) (fun S1 => lt (x3 + 1) (fun v2 => k10 x1 x2 v2 S1)))
def bX9_bindsFor_10 (k2 : Int32 → Int32 → St → Option (Int32 × St)) (k10 : Int32 → Int32 → Int32 → St → Option (Int32 × St)) (x1 : Int32) (x2 : Int32) (x3 : Int32) (S : St) : Option (Int32 × St) :=
  if (S 0 2) ≤ x3 then lt (x2 + 1) (fun v1 => k2 x1 v1 S) else ck ((24 * x2) + x3) 192 (if (((S 13 ((24 * x2) + x3).toNatClampNeg) >>> (x1 &&& 31)) &&& 1) = 1 then bX9_bindsFor_52 k2 k10 x1 x2 x3 ((24 * x2) + x3) 1 S else bX9_bindsFor_52 k2 k10 x1 x2 x3 ((24 * x2) + x3) 0 S)
def lX9_bindsFor_10 (k2 : Int32 → Int32 → St → Option (Int32 × St)) (n : Nat) : Int32 → Int32 → Int32 → St → Option (Int32 × St) :=
  lp (fun k10 => bX9_bindsFor_10 k2 k10) (fun _ _ _ _ => none) n
def bX9_bindsFor_2 (k2 : Int32 → Int32 → St → Option (Int32 × St)) (x1 : Int32) (x2 : Int32) (S : St) : Option (Int32 × St) :=
  if 8 ≤ x2 then some (0, S) else lt 0 (fun v1 => lX9_bindsFor_10 k2 FU x1 x2 v1 S)
def lX9_bindsFor_2 (n : Nat) : Int32 → Int32 → St → Option (Int32 × St) :=
  lp (fun k2 => bX9_bindsFor_2 k2) (fun _ _ _ => none) n
def uX9_bindsFor (x1 : Int32) (S : St) : Option (Int32 × St) :=
  lt 0 (fun v1 => lX9_bindsFor_2 FU x1 v1 S)
-- X9_takes
def rX9_takes : Room := { frames := 1, cells := 0, slots := 0, locals := 23 }
theorem inX9_takes_X9 : ∀ w ∈ u_ws RX9 TX9 24, w ∈ wsX9_takes := by decide +kernel
def bX9_takes_49 (k4 : Int32 → Int32 → Int32 → St → Option (Int32 × St)) (k13 : Int32 → Int32 → Int32 → Int32 → St → Option (Int32 × St)) (x1 : Int32) (x2 : Int32) (x3 : Int32) (x4 : Int32) (S : St) : Option (Int32 × St) :=
  lt (x4 + 1) (fun v1 => k13 x1 x2 x3 v1 S)
def bX9_takes_13 (k4 : Int32 → Int32 → Int32 → St → Option (Int32 × St)) (k13 : Int32 → Int32 → Int32 → Int32 → St → Option (Int32 × St)) (x1 : Int32) (x2 : Int32) (x3 : Int32) (x4 : Int32) (S : St) : Option (Int32 × St) :=
  if (S 0 2) ≤ x4 then lt (x3 + 1) (fun v1 => k4 x1 x2 v1 S) else ck ((24 * x3) + x4) 192 (if (((S 13 ((24 * x3) + x4).toNatClampNeg) >>> (x1 &&& 31)) &&& 1) = 0 then cl (uX9_many x3 S) (fun v2 S3 => lt (x2 + v2) (fun v4 => bX9_takes_49 k4 k13 x1 v4 x3 x4 S3)) else bX9_takes_49 k4 k13 x1 x2 x3 x4 S)
def lX9_takes_13 (k4 : Int32 → Int32 → Int32 → St → Option (Int32 × St)) (n : Nat) : Int32 → Int32 → Int32 → Int32 → St → Option (Int32 × St) :=
  lp (fun k13 => bX9_takes_13 k4 k13) (fun _ _ _ _ _ => none) n
def bX9_takes_4 (k4 : Int32 → Int32 → Int32 → St → Option (Int32 × St)) (x1 : Int32) (x2 : Int32) (x3 : Int32) (S : St) : Option (Int32 × St) :=
  if 8 ≤ x3 then some (x2, S) else lt 0 (fun v1 => lX9_takes_13 k4 FU x1 x2 x3 v1 S)
def lX9_takes_4 (n : Nat) : Int32 → Int32 → Int32 → St → Option (Int32 × St) :=
  lp (fun k4 => bX9_takes_4 k4) (fun _ _ _ _ => none) n
def uX9_takes (x1 : Int32) (S : St) : Option (Int32 × St) :=
  lt 0 (fun v1 => lt 0 (fun v2 => lX9_takes_4 FU x1 v1 v2 S))
-- X9_dye
def rX9_dye : Room := { frames := 2, cells := 0, slots := 0, locals := 47 }
theorem inX9_dye_X9 : ∀ w ∈ u_ws RX9 TX9 24, w ∈ wsX9_dye := by decide +kernel
def bX9_dye_147 (k147 : Int32 → Int32 → Int32 → St → Option (Int32 × St)) (x1 : Int32) (x2 : Int32) (x4 : Int32) (S : St) : Option (Int32 × St) :=
  if x1 ≤ x4 then some (x2, S) else lt ((((S 0 18) >>> ((3 * x4) &&& 31)) &&& 7) - 1) (fun v1 => cl (uX9_bindsFor x4 S) (fun _ S3 => cl (uX9_taken S3) (fun v4 S5 => lt v4 (fun v6 => ck v1 4 (ck v1 4 (lz (s2 S5 4 v1.toNatClampNeg ((S5 4 v1.toNatClampNeg) - v6)) (fun S7 => lt (x2 + v6) (fun v8 => cl (uX9_bathes v1 S7) (fun _ S10 => lt (x4 + 1) (fun v11 => k147 x1 v8 v11 S10))))))))))
def lX9_dye_147 (n : Nat) : Int32 → Int32 → Int32 → St → Option (Int32 × St) :=
  lp (fun k147 => bX9_dye_147 k147) (fun _ _ _ _ => none) n
def bX9_dye_127 (k95 : Int32 → Int32 → Int32 → Int32 → St → Option (Int32 × St)) (x1 : Int32) (x2 : Int32) (x4 : Int32) (y0 : Int32) (S : St) : Option (Int32 × St) :=
  lt y0 (fun v1 => lt (x4 + 1) (fun v2 => k95 x1 x2 v1 v2 S))
def bX9_dye_126 (k95 : Int32 → Int32 → Int32 → Int32 → St → Option (Int32 × St)) (x1 : Int32) (x2 : Int32) (x4 : Int32) (S : St) : Option (Int32 × St) :=
  bX9_dye_127 k95 x1 x2 x4 0 S
def bX9_dye_95 (k95 : Int32 → Int32 → Int32 → Int32 → St → Option (Int32 × St)) (x1 : Int32) (x2 : Int32) (x3 : Int32) (x4 : Int32) (S : St) : Option (Int32 × St) :=
  if 4 ≤ x4 then if x3 = 0 then some ((-1), S) else cl (uX9_undyed S) (fun _ S2 => lt 0 (fun v3 => lX9_dye_147 FU x1 x2 v3 S2)) else if x3 = 0 then bX9_dye_126 k95 x1 x2 x4 S else ck x4 4 (ck x4 4 (if (S 4 x4.toNatClampNeg) < (S 16 x4.toNatClampNeg) then bX9_dye_126 k95 x1 x2 x4 S else bX9_dye_127 k95 x1 x2 x4 1 S))
def lX9_dye_95 (n : Nat) : Int32 → Int32 → Int32 → Int32 → St → Option (Int32 × St) :=
  lp (fun k95 => bX9_dye_95 k95) (fun _ _ _ _ _ => none) n
def bX9_dye_52 (k52 : Int32 → Int32 → Int32 → Int32 → St → Option (Int32 × St)) (x1 : Int32) (x2 : Int32) (x3 : Int32) (x4 : Int32) (S : St) : Option (Int32 × St) :=
  if x1 ≤ x4 then lt 0 (fun v1 => lX9_dye_95 FU x1 x2 x3 v1 S) else ck ((((S 0 18) >>> ((3 * x4) &&& 31)) &&& 7) - 1) 4 (cl (uX9_takes x4 S) (fun v2 S3 => ck ((((S 0 18) >>> ((3 * x4) &&& 31)) &&& 7) - 1) 4 (lz (s2 S3 16 ((((S 0 18) >>> ((3 * x4) &&& 31)) &&& 7) - 1).toNatClampNeg ((S 16 ((((S 0 18) >>> ((3 * x4) &&& 31)) &&& 7) - 1).toNatClampNeg) + v2)) (fun S4 => lt (x4 + 1) (fun v5 => k52 x1 x2 x3 v5 S4)))))
def lX9_dye_52 (n : Nat) : Int32 → Int32 → Int32 → Int32 → St → Option (Int32 × St) :=
  lp (fun k52 => bX9_dye_52 k52) (fun _ _ _ _ _ => none) n
def bX9_dye_29 (k29 : Int32 → Int32 → Int32 → Int32 → St → Option (Int32 × St)) (x1 : Int32) (x2 : Int32) (x3 : Int32) (x4 : Int32) (S : St) : Option (Int32 × St) :=
  if 4 ≤ x4 then lt 0 (fun v1 => lX9_dye_52 FU x1 x2 x3 v1 S) else ck x4 4 (lz (s2 S 16 x4.toNatClampNeg 0) (fun S2 => lt (x4 + 1) (fun v3 => k29 x1 x2 x3 v3 S2)))
def lX9_dye_29 (n : Nat) : Int32 → Int32 → Int32 → Int32 → St → Option (Int32 × St) :=
  lp (fun k29 => bX9_dye_29 k29) (fun _ _ _ _ _ => none) n
def uX9_dye (S : St) : Option (Int32 × St) :=
  lz (s2 S 0 0 0) (fun S1 => if (S1 0 17) = 0 then some ((-1), S1) else cl (uX9_bathsOf (S1 0 18) S1) (fun v2 S3 => lt v2 (fun v4 => lt 0 (fun v5 => lt 1 (fun v6 => lt 0 (fun v7 => lX9_dye_29 FU v4 v5 v6 v7 S3))))))
section
variable {N : Nat} {C : St → Nat → va_E} {Ev : (Nat → Prop) → State → Prop} {tys : List (ClassId × FieldType)} {l : Launch} {D : va_G} {cI cZ cO cJ : ClassId} {a : Nat → Nat} {tF : Nat}
set_option maxHeartbeats 4000000 in
set_option maxRecDepth 100000 in
theorem tX9_bathsOf_4 {p : Program} {e : Env} {s : State} {m : MethodId} {args : Array Value} {below : List Frame} {meth : Method} {c : Code} (hc : CT p s m args c cX9_bathsOf 3 RX9 wsX9_bathsOf D (tyW cI cZ cO)) (hr : meth.sig.returnType = (some .int)) (hlk : meth.locks = false) (hE : EvM (AA 17 a s.heap.size) s) (k4 : Int32 → Int32 → St → Option (Int32 × St)) (hk4 : ∀ (x1 : Int32) (x2 : Int32) (S : St), GF p l e rX9_bathsOf s m args below meth c D 17 a (cM cI cZ a) (AA 17 a s.heap.size) 3 0 0 (fun res => MQ below (va_Qi (fun r u => (r, u) = res) (Bw D (tyW cI cZ cO) 17 a (cM cI cZ a) (AA 17 a s.heap.size)) (AA 17 a s.heap.size)) args s 0 0 (AA 17 a s.heap.size)) (k4 x1 x2 S) 4 [(1, .int x1), (2, .int x2)] [] S) (x1 : Int32) (x2 : Int32) (S : St) : GF p l e rX9_bathsOf s m args below meth c D 17 a (cM cI cZ a) (AA 17 a s.heap.size) 3 0 0 (fun res => MQ below (va_Qi (fun r u => (r, u) = res) (Bw D (tyW cI cZ cO) 17 a (cM cI cZ a) (AA 17 a s.heap.size)) (AA 17 a s.heap.size)) args s 0 0 (AA 17 a s.heap.size)) (bX9_bathsOf_4 k4 x1 x2 S) 4 [(1, .int x1), (2, .int x2)] [] S := by
  unfold bX9_bathsOf_4
  refine g_iload_n (j := 1) hc dX9_bathsOf_4 rfl rfl ?_
  refine g_if_eq (tgt := 18) hc dX9_bathsOf_5 (by decide) ?_ ?_
  · refine g_iload_n (j := 0) hc dX9_bathsOf_18 rfl rfl ?_
    exact g_iret hc hr hlk dX9_bathsOf_19
  · refine g_iinc (j := 0) (w := x1 + 1) (L := fun v1 => [(1, .int v1), (2, .int x2)]) hc dX9_bathsOf_8 rfl (by rfl) (by decide) (fun _ => rfl) (fun v1 => ?_)
    refine g_iload_n (j := 1) hc dX9_bathsOf_11 rfl rfl ?_
    refine g_iconst (v := 3) hc dX9_bathsOf_12 (by decide) ?_
    refine g_iushr hc dX9_bathsOf_13 ?_
    refine g_istore_n (L := fun v2 => [(2, .int v2), (1, .int v1)]) hc dX9_bathsOf_14 rfl (by decide) (fun _ => rfl) (fun v2 => ?_)
    refine g_goto (tgt := 4) hc dX9_bathsOf_15 (by decide) ?_
    refine g_lv [1, 0] rfl ?_
    exact hk4 v1 v2 S
set_option maxHeartbeats 4000000 in
set_option maxRecDepth 100000 in
theorem TX9_bathsOf_4 {p : Program} {e : Env} {s : State} {m : MethodId} {args : Array Value} {below : List Frame} {meth : Method} {c : Code} (hc : CT p s m args c cX9_bathsOf 3 RX9 wsX9_bathsOf D (tyW cI cZ cO)) (hr : meth.sig.returnType = (some .int)) (hlk : meth.locks = false) (hE : EvM (AA 17 a s.heap.size) s) (n : Nat) (x1 : Int32) (x2 : Int32) (S : St) : GF p l e rX9_bathsOf s m args below meth c D 17 a (cM cI cZ a) (AA 17 a s.heap.size) 3 0 0 (fun res => MQ below (va_Qi (fun r u => (r, u) = res) (Bw D (tyW cI cZ cO) 17 a (cM cI cZ a) (AA 17 a s.heap.size)) (AA 17 a s.heap.size)) args s 0 0 (AA 17 a s.heap.size)) (lX9_bathsOf_4 n x1 x2 S) 4 [(1, .int x1), (2, .int x2)] [] S :=
  lp_ind (P := fun k : Int32 → Int32 → St → Option (Int32 × St) => ∀ (x1 : Int32) (x2 : Int32) (S : St), GF p l e rX9_bathsOf s m args below meth c D 17 a (cM cI cZ a) (AA 17 a s.heap.size) 3 0 0 (fun res => MQ below (va_Qi (fun r u => (r, u) = res) (Bw D (tyW cI cZ cO) 17 a (cM cI cZ a) (AA 17 a s.heap.size)) (AA 17 a s.heap.size)) args s 0 0 (AA 17 a s.heap.size)) (k x1 x2 S) 4 [(1, .int x1), (2, .int x2)] [] S) (fun _ _ _ => g_none) (fun k4 hk4 => tX9_bathsOf_4 hc hr hlk hE k4 hk4) n x1 x2 S
set_option maxHeartbeats 4000000 in
set_option maxRecDepth 100000 in
theorem mX9_bathsOf (x0 : Int32) (S : St) : ∀ q, uX9_bathsOf x0 S = some q → Ki l yX9_bathsOf wsX9_bathsOf rX9_bathsOf D (tyW cI cZ cO) 17 a (cM cI cZ a) (EvM) [.int x0] S q := by
  refine m_Ki (cc := cX9_bathsOf) (nL := 3) (ret := (some .int)) (lv := [(0, .int x0)]) (by decide) rfl (Nat.le_of_ble_eq_true rfl) rfl ?_
  intro p e s m args below meth c hc hr hlk hE
  unfold uX9_bathsOf
  refine g_iconst (v := 0) hc dX9_bathsOf_0 (by decide) ?_
  refine g_istore_n (L := fun v1 => [(1, .int v1), (0, .int x0)]) hc dX9_bathsOf_1 rfl (by decide) (fun _ => rfl) (fun v1 => ?_)
  refine g_iload_n (j := 1) hc dX9_bathsOf_2 rfl rfl ?_
  refine g_istore_n (L := fun v2 => [(2, .int v2), (1, .int v1), (0, .int x0)]) hc dX9_bathsOf_3 rfl (by decide) (fun _ => rfl) (fun v2 => ?_)
  refine g_lv [1, 0] rfl ?_
  exact TX9_bathsOf_4 hc hr hlk hE FU v1 v2 S
set_option maxHeartbeats 4000000 in
set_option maxRecDepth 100000 in
theorem tX9_isRow_63 {p : Program} {e : Env} {s : State} {m : MethodId} {args : Array Value} {below : List Frame} {meth : Method} {c : Code} (hc : CT p s m args c cX9_isRow 4 RX9 wsX9_isRow D (tyW cI cZ cO)) (hr : meth.sig.returnType = (some .boolean)) (hlk : meth.locks = false) (hE : EvM (AA 17 a s.heap.size) s) (x2 : Int32) (S : St) : GF p l e rX9_isRow s m args below meth c D 17 a (cM cI cZ a) (AA 17 a s.heap.size) 4 0 0 (fun res => MQ below (va_Qi (fun r u => (r, u) = res) (Bw D (tyW cI cZ cO) 17 a (cM cI cZ a) (AA 17 a s.heap.size)) (AA 17 a s.heap.size)) args s 0 0 (AA 17 a s.heap.size)) (bX9_isRow_63 x2 S) 63 [(2, .int x2)] [] S := by
  unfold bX9_isRow_63
  refine g_iload_n (j := 0) hc dX9_isRow_63 rfl rfl ?_
  exact g_zret hc hr hlk dX9_isRow_64
set_option maxHeartbeats 4000000 in
set_option maxRecDepth 100000 in
theorem tX9_isRow_56 {p : Program} {e : Env} {s : State} {m : MethodId} {args : Array Value} {below : List Frame} {meth : Method} {c : Code} (hc : CT p s m args c cX9_isRow 4 RX9 wsX9_isRow D (tyW cI cZ cO)) (hr : meth.sig.returnType = (some .boolean)) (hlk : meth.locks = false) (hE : EvM (AA 17 a s.heap.size) s) (k18 : Int32 → Int32 → Int32 → Int32 → St → Option (Int32 × St)) (hk18 : ∀ (x0 : Int32) (x1 : Int32) (x2 : Int32) (x3 : Int32) (S : St), GF p l e rX9_isRow s m args below meth c D 17 a (cM cI cZ a) (AA 17 a s.heap.size) 4 0 0 (fun res => MQ below (va_Qi (fun r u => (r, u) = res) (Bw D (tyW cI cZ cO) 17 a (cM cI cZ a) (AA 17 a s.heap.size)) (AA 17 a s.heap.size)) args s 0 0 (AA 17 a s.heap.size)) (k18 x0 x1 x2 x3 S) 18 [(0, .int x0), (1, .int x1), (2, .int x2), (3, .int x3)] [] S) (x0 : Int32) (x1 : Int32) (x3 : Int32) (y0 : Int32) (S : St) : GF p l e rX9_isRow s m args below meth c D 17 a (cM cI cZ a) (AA 17 a s.heap.size) 4 0 0 (fun res => MQ below (va_Qi (fun r u => (r, u) = res) (Bw D (tyW cI cZ cO) 17 a (cM cI cZ a) (AA 17 a s.heap.size)) (AA 17 a s.heap.size)) args s 0 0 (AA 17 a s.heap.size)) (bX9_isRow_56 k18 x0 x1 x3 y0 S) 56 [(0, .int x0), (1, .int x1), (3, .int x3)] [.int y0] S := by
  unfold bX9_isRow_56
  refine g_istore_n (L := fun v1 => [(2, .int v1), (0, .int x0), (1, .int x1), (3, .int x3)]) hc dX9_isRow_56 rfl (by decide) (fun _ => rfl) (fun v1 => ?_)
  refine g_iinc (j := 3) (w := x3 + 1) (L := fun v2 => [(3, .int v2), (2, .int v1), (0, .int x0), (1, .int x1)]) hc dX9_isRow_57 rfl (by rfl) (by decide) (fun _ => rfl) (fun v2 => ?_)
  refine g_goto (tgt := 18) hc dX9_isRow_60 (by decide) ?_
  refine g_lv [2, 3, 1, 0] rfl ?_
  exact hk18 x0 x1 v1 v2 S
set_option maxHeartbeats 4000000 in
set_option maxRecDepth 100000 in
theorem tX9_isRow_55 {p : Program} {e : Env} {s : State} {m : MethodId} {args : Array Value} {below : List Frame} {meth : Method} {c : Code} (hc : CT p s m args c cX9_isRow 4 RX9 wsX9_isRow D (tyW cI cZ cO)) (hr : meth.sig.returnType = (some .boolean)) (hlk : meth.locks = false) (hE : EvM (AA 17 a s.heap.size) s) (k18 : Int32 → Int32 → Int32 → Int32 → St → Option (Int32 × St)) (hk18 : ∀ (x0 : Int32) (x1 : Int32) (x2 : Int32) (x3 : Int32) (S : St), GF p l e rX9_isRow s m args below meth c D 17 a (cM cI cZ a) (AA 17 a s.heap.size) 4 0 0 (fun res => MQ below (va_Qi (fun r u => (r, u) = res) (Bw D (tyW cI cZ cO) 17 a (cM cI cZ a) (AA 17 a s.heap.size)) (AA 17 a s.heap.size)) args s 0 0 (AA 17 a s.heap.size)) (k18 x0 x1 x2 x3 S) 18 [(0, .int x0), (1, .int x1), (2, .int x2), (3, .int x3)] [] S) (x0 : Int32) (x1 : Int32) (x3 : Int32) (S : St) : GF p l e rX9_isRow s m args below meth c D 17 a (cM cI cZ a) (AA 17 a s.heap.size) 4 0 0 (fun res => MQ below (va_Qi (fun r u => (r, u) = res) (Bw D (tyW cI cZ cO) 17 a (cM cI cZ a) (AA 17 a s.heap.size)) (AA 17 a s.heap.size)) args s 0 0 (AA 17 a s.heap.size)) (bX9_isRow_55 k18 x0 x1 x3 S) 55 [(0, .int x0), (1, .int x1), (3, .int x3)] [] S := by
  unfold bX9_isRow_55
  refine g_iconst (v := 0) hc dX9_isRow_55 (by decide) ?_
  exact tX9_isRow_56 hc hr hlk hE k18 hk18 x0 x1 x3 0 S
set_option maxHeartbeats 4000000 in
set_option maxRecDepth 100000 in
theorem tX9_isRow_18 {p : Program} {e : Env} {s : State} {m : MethodId} {args : Array Value} {below : List Frame} {meth : Method} {c : Code} (hc : CT p s m args c cX9_isRow 4 RX9 wsX9_isRow D (tyW cI cZ cO)) (hr : meth.sig.returnType = (some .boolean)) (hlk : meth.locks = false) (hE : EvM (AA 17 a s.heap.size) s) (k18 : Int32 → Int32 → Int32 → Int32 → St → Option (Int32 × St)) (hk18 : ∀ (x0 : Int32) (x1 : Int32) (x2 : Int32) (x3 : Int32) (S : St), GF p l e rX9_isRow s m args below meth c D 17 a (cM cI cZ a) (AA 17 a s.heap.size) 4 0 0 (fun res => MQ below (va_Qi (fun r u => (r, u) = res) (Bw D (tyW cI cZ cO) 17 a (cM cI cZ a) (AA 17 a s.heap.size)) (AA 17 a s.heap.size)) args s 0 0 (AA 17 a s.heap.size)) (k18 x0 x1 x2 x3 S) 18 [(0, .int x0), (1, .int x1), (2, .int x2), (3, .int x3)] [] S) (x0 : Int32) (x1 : Int32) (x2 : Int32) (x3 : Int32) (S : St) : GF p l e rX9_isRow s m args below meth c D 17 a (cM cI cZ a) (AA 17 a s.heap.size) 4 0 0 (fun res => MQ below (va_Qi (fun r u => (r, u) = res) (Bw D (tyW cI cZ cO) 17 a (cM cI cZ a) (AA 17 a s.heap.size)) (AA 17 a s.heap.size)) args s 0 0 (AA 17 a s.heap.size)) (bX9_isRow_18 k18 x0 x1 x2 x3 S) 18 [(0, .int x0), (1, .int x1), (2, .int x2), (3, .int x3)] [] S := by
  unfold bX9_isRow_18
  refine g_iload_n (j := 3) hc dX9_isRow_18 rfl rfl ?_
  refine g_iload_n (j := 1) hc dX9_isRow_19 rfl rfl ?_
  refine g_icmp_ge (tgt := 63) hc dX9_isRow_20 (by decide) ?_ ?_
  · refine g_lv [2] rfl ?_
    exact tX9_isRow_63 hc hr hlk hE x2 S
  · refine g_iload_n (j := 2) hc dX9_isRow_23 rfl rfl ?_
    refine g_if_eq (tgt := 63) hc dX9_isRow_24 (by decide) ?_ ?_
    · refine g_lv [2] rfl ?_
      exact tX9_isRow_63 hc hr hlk hE x2 S
    · refine g_iload_n (j := 0) hc dX9_isRow_27 rfl rfl ?_
      refine g_iconst (v := 3) hc dX9_isRow_28 (by decide) ?_
      refine g_iload_n (j := 3) hc dX9_isRow_29 rfl rfl ?_
      refine g_imul hc dX9_isRow_30 ?_
      refine g_iushr hc dX9_isRow_31 ?_
      refine g_bipush (v := 7) hc dX9_isRow_32 (by decide) ?_
      refine g_iand hc dX9_isRow_34 ?_
      refine g_iconst (v := 1) hc dX9_isRow_35 (by decide) ?_
      refine g_icmp_lt (tgt := 55) hc dX9_isRow_36 (by decide) ?_ ?_
      · refine g_lv [0, 1, 3] rfl ?_
        exact tX9_isRow_55 hc hr hlk hE k18 hk18 x0 x1 x3 S
      · refine g_iload_n (j := 0) hc dX9_isRow_39 rfl rfl ?_
        refine g_iconst (v := 3) hc dX9_isRow_40 (by decide) ?_
        refine g_iload_n (j := 3) hc dX9_isRow_41 rfl rfl ?_
        refine g_imul hc dX9_isRow_42 ?_
        refine g_iushr hc dX9_isRow_43 ?_
        refine g_bipush (v := 7) hc dX9_isRow_44 (by decide) ?_
        refine g_iand hc dX9_isRow_46 ?_
        refine g_iconst (v := 4) hc dX9_isRow_47 (by decide) ?_
        refine g_icmp_gt (tgt := 55) hc dX9_isRow_48 (by decide) ?_ ?_
        · refine g_lv [0, 1, 3] rfl ?_
          exact tX9_isRow_55 hc hr hlk hE k18 hk18 x0 x1 x3 S
        · refine g_iconst (v := 1) hc dX9_isRow_51 (by decide) ?_
          refine g_goto (tgt := 56) hc dX9_isRow_52 (by decide) ?_
          refine g_lv [0, 1, 3] rfl ?_
          exact tX9_isRow_56 hc hr hlk hE k18 hk18 x0 x1 x3 1 S
set_option maxHeartbeats 4000000 in
set_option maxRecDepth 100000 in
theorem TX9_isRow_18 {p : Program} {e : Env} {s : State} {m : MethodId} {args : Array Value} {below : List Frame} {meth : Method} {c : Code} (hc : CT p s m args c cX9_isRow 4 RX9 wsX9_isRow D (tyW cI cZ cO)) (hr : meth.sig.returnType = (some .boolean)) (hlk : meth.locks = false) (hE : EvM (AA 17 a s.heap.size) s) (n : Nat) (x0 : Int32) (x1 : Int32) (x2 : Int32) (x3 : Int32) (S : St) : GF p l e rX9_isRow s m args below meth c D 17 a (cM cI cZ a) (AA 17 a s.heap.size) 4 0 0 (fun res => MQ below (va_Qi (fun r u => (r, u) = res) (Bw D (tyW cI cZ cO) 17 a (cM cI cZ a) (AA 17 a s.heap.size)) (AA 17 a s.heap.size)) args s 0 0 (AA 17 a s.heap.size)) (lX9_isRow_18 n x0 x1 x2 x3 S) 18 [(0, .int x0), (1, .int x1), (2, .int x2), (3, .int x3)] [] S :=
  lp_ind (P := fun k : Int32 → Int32 → Int32 → Int32 → St → Option (Int32 × St) => ∀ (x0 : Int32) (x1 : Int32) (x2 : Int32) (x3 : Int32) (S : St), GF p l e rX9_isRow s m args below meth c D 17 a (cM cI cZ a) (AA 17 a s.heap.size) 4 0 0 (fun res => MQ below (va_Qi (fun r u => (r, u) = res) (Bw D (tyW cI cZ cO) 17 a (cM cI cZ a) (AA 17 a s.heap.size)) (AA 17 a s.heap.size)) args s 0 0 (AA 17 a s.heap.size)) (k x0 x1 x2 x3 S) 18 [(0, .int x0), (1, .int x1), (2, .int x2), (3, .int x3)] [] S) (fun _ _ _ _ _ => g_none) (fun k18 hk18 => tX9_isRow_18 hc hr hlk hE k18 hk18) n x0 x1 x2 x3 S
set_option maxHeartbeats 4000000 in
set_option maxRecDepth 100000 in
theorem tX9_isRow_15 {p : Program} {e : Env} {s : State} {m : MethodId} {args : Array Value} {below : List Frame} {meth : Method} {c : Code} (hc : CT p s m args c cX9_isRow 4 RX9 wsX9_isRow D (tyW cI cZ cO)) (hr : meth.sig.returnType = (some .boolean)) (hlk : meth.locks = false) (hE : EvM (AA 17 a s.heap.size) s) (x0 : Int32) (x1 : Int32) (y0 : Int32) (S : St) : GF p l e rX9_isRow s m args below meth c D 17 a (cM cI cZ a) (AA 17 a s.heap.size) 4 0 0 (fun res => MQ below (va_Qi (fun r u => (r, u) = res) (Bw D (tyW cI cZ cO) 17 a (cM cI cZ a) (AA 17 a s.heap.size)) (AA 17 a s.heap.size)) args s 0 0 (AA 17 a s.heap.size)) (bX9_isRow_15 x0 x1 y0 S) 15 [(0, .int x0), (1, .int x1)] [.int y0] S := by
  unfold bX9_isRow_15
  refine g_istore_n (L := fun v1 => [(2, .int v1), (0, .int x0), (1, .int x1)]) hc dX9_isRow_15 rfl (by decide) (fun _ => rfl) (fun v1 => ?_)
  refine g_iconst (v := 0) hc dX9_isRow_16 (by decide) ?_
  refine g_istore_n (L := fun v2 => [(3, .int v2), (2, .int v1), (0, .int x0), (1, .int x1)]) hc dX9_isRow_17 rfl (by decide) (fun _ => rfl) (fun v2 => ?_)
  refine g_lv [2, 3, 1, 0] rfl ?_
  exact TX9_isRow_18 hc hr hlk hE FU x0 x1 v1 v2 S
set_option maxHeartbeats 4000000 in
set_option maxRecDepth 100000 in
theorem mX9_isRow (x0 : Int32) (S : St) : ∀ q, uX9_isRow x0 S = some q → Ki l yX9_isRow wsX9_isRow rX9_isRow D (tyW cI cZ cO) 17 a (cM cI cZ a) (EvM) [.int x0] S q := by
  refine m_Ki (cc := cX9_isRow) (nL := 4) (ret := (some .boolean)) (lv := [(0, .int x0)]) (by decide) rfl (Nat.le_of_ble_eq_true rfl) rfl ?_
  intro p e s m args below meth c hc hr hlk hE
  unfold uX9_isRow
  refine g_iload_n (j := 0) hc dX9_isRow_0 rfl rfl ?_
  refine g_callSi (As := [.int x0]) (rest := []) hc hE trM rfl (fun _ h => mX9_bathsOf x0 S _ h) (va_cwS 1 hc.1.2.2.2.2 gX9_isRow_X9_bathsOf rfl rfl rfl (by decide +kernel) ⟨by decide, by decide⟩) rfl rfl (Nat.le_of_ble_eq_true rfl) dX9_isRow_1 ⟨by decide, by decide⟩ (fun v1 S2 => ?_)
  refine g_istore_n (L := fun v3 => [(1, .int v3), (0, .int x0)]) hc dX9_isRow_4 rfl (by decide) (fun _ => rfl) (fun v3 => ?_)
  refine g_iload_n (j := 0) hc dX9_isRow_5 rfl rfl ?_
  refine g_iconst (v := 4) hc dX9_isRow_6 (by decide) ?_
  refine g_icmp_gt (tgt := 14) hc dX9_isRow_7 (by decide) ?_ ?_
  · refine g_iconst (v := 0) hc dX9_isRow_14 (by decide) ?_
    refine g_lv [1, 0] rfl ?_
    exact tX9_isRow_15 hc hr hlk hE x0 v3 0 S2
  · refine g_iconst (v := 1) hc dX9_isRow_10 (by decide) ?_
    refine g_goto (tgt := 15) hc dX9_isRow_11 (by decide) ?_
    refine g_lv [1, 0] rfl ?_
    exact tX9_isRow_15 hc hr hlk hE x0 v3 1 S2
set_option maxHeartbeats 4000000 in
set_option maxRecDepth 100000 in
theorem tX9_becomes_44 {p : Program} {e : Env} {s : State} {m : MethodId} {args : Array Value} {below : List Frame} {meth : Method} {c : Code} (hc : CT p s m args c cX9_becomes 5 RX9 wsX9_becomes D (tyW cI cZ cO)) (hr : meth.sig.returnType = (some .int)) (hlk : meth.locks = false) (hE : EvM (AA 17 a s.heap.size) s) (k5 : Int32 → Int32 → Int32 → Int32 → St → Option (Int32 × St)) (hk5 : ∀ (x1 : Int32) (x2 : Int32) (x3 : Int32) (x4 : Int32) (S : St), GF p l e rX9_becomes s m args below meth c D 17 a (cM cI cZ a) (AA 17 a s.heap.size) 5 0 0 (fun res => MQ below (va_Qi (fun r u => (r, u) = res) (Bw D (tyW cI cZ cO) 17 a (cM cI cZ a) (AA 17 a s.heap.size)) (AA 17 a s.heap.size)) args s 0 0 (AA 17 a s.heap.size)) (k5 x1 x2 x3 x4 S) 5 [(0, .ref (a 0)), (1, .int x1), (2, .int x2), (3, .int x3), (4, .int x4)] [] S) (x1 : Int32) (x2 : Int32) (x3 : Int32) (x4 : Int32) (S : St) : GF p l e rX9_becomes s m args below meth c D 17 a (cM cI cZ a) (AA 17 a s.heap.size) 5 0 0 (fun res => MQ below (va_Qi (fun r u => (r, u) = res) (Bw D (tyW cI cZ cO) 17 a (cM cI cZ a) (AA 17 a s.heap.size)) (AA 17 a s.heap.size)) args s 0 0 (AA 17 a s.heap.size)) (bX9_becomes_44 k5 x1 x2 x3 x4 S) 44 [(0, .ref (a 0)), (1, .int x1), (2, .int x2), (3, .int x3), (4, .int x4)] [] S := by
  unfold bX9_becomes_44
  refine g_iinc (j := 4) (w := x4 + 1) (L := fun v1 => [(4, .int v1), (0, .ref (a 0)), (1, .int x1), (2, .int x2), (3, .int x3)]) hc dX9_becomes_44 rfl (by rfl) (by decide) (fun _ => rfl) (fun v1 => ?_)
  refine g_goto (tgt := 5) hc dX9_becomes_47 (by decide) ?_
  refine g_lv [1, 2, 3, 4, 0] rfl ?_
  exact hk5 x1 x2 x3 v1 S
set_option maxHeartbeats 4000000 in
set_option maxRecDepth 100000 in
theorem tX9_becomes_5 {p : Program} {e : Env} {s : State} {m : MethodId} {args : Array Value} {below : List Frame} {meth : Method} {c : Code} (hc : CT p s m args c cX9_becomes 5 RX9 wsX9_becomes D (tyW cI cZ cO)) (hr : meth.sig.returnType = (some .int)) (hlk : meth.locks = false) (hE : EvM (AA 17 a s.heap.size) s) (k5 : Int32 → Int32 → Int32 → Int32 → St → Option (Int32 × St)) (hk5 : ∀ (x1 : Int32) (x2 : Int32) (x3 : Int32) (x4 : Int32) (S : St), GF p l e rX9_becomes s m args below meth c D 17 a (cM cI cZ a) (AA 17 a s.heap.size) 5 0 0 (fun res => MQ below (va_Qi (fun r u => (r, u) = res) (Bw D (tyW cI cZ cO) 17 a (cM cI cZ a) (AA 17 a s.heap.size)) (AA 17 a s.heap.size)) args s 0 0 (AA 17 a s.heap.size)) (k5 x1 x2 x3 x4 S) 5 [(0, .ref (a 0)), (1, .int x1), (2, .int x2), (3, .int x3), (4, .int x4)] [] S) (x1 : Int32) (x2 : Int32) (x3 : Int32) (x4 : Int32) (S : St) : GF p l e rX9_becomes s m args below meth c D 17 a (cM cI cZ a) (AA 17 a s.heap.size) 5 0 0 (fun res => MQ below (va_Qi (fun r u => (r, u) = res) (Bw D (tyW cI cZ cO) 17 a (cM cI cZ a) (AA 17 a s.heap.size)) (AA 17 a s.heap.size)) args s 0 0 (AA 17 a s.heap.size)) (bX9_becomes_5 k5 x1 x2 x3 x4 S) 5 [(0, .ref (a 0)), (1, .int x1), (2, .int x2), (3, .int x3), (4, .int x4)] [] S := by
  unfold bX9_becomes_5
  refine g_iload (j := 4) hc dX9_becomes_5 rfl ?_
  refine g_iload_n (j := 1) hc dX9_becomes_7 rfl rfl ?_
  refine g_callSi (As := [.int x1]) (rest := [.int x4]) hc hE trM rfl (fun _ h => mX9_bathsOf x1 S _ h) (va_cwS 1 hc.1.2.2.2.2 gX9_becomes_X9_bathsOf rfl rfl rfl (by decide +kernel) ⟨by decide, by decide⟩) rfl rfl (Nat.le_of_ble_eq_true rfl) dX9_becomes_8 ⟨by decide, by decide⟩ (fun v1 S2 => ?_)
  refine g_icmp_ge (tgt := 50) hc dX9_becomes_11 (by decide) ?_ ?_
  · refine g_iload_n (j := 3) hc dX9_becomes_50 rfl rfl ?_
    exact g_iret hc hr hlk dX9_becomes_51
  · refine g_iload_n (j := 2) hc dX9_becomes_14 rfl rfl ?_
    refine g_iload (j := 4) hc dX9_becomes_15 rfl ?_
    refine g_ishr hc dX9_becomes_17 ?_
    refine g_iconst (v := 1) hc dX9_becomes_18 (by decide) ?_
    refine g_iand hc dX9_becomes_19 ?_
    refine g_if_ne (tgt := 44) hc dX9_becomes_20 (by decide) ?_ ?_
    · exact tX9_becomes_44 hc hr hlk hE k5 hk5 x1 x2 x3 x4 S2
    · refine g_aload_n (j := 0) hc dX9_becomes_23 rfl rfl ?_
      refine g_get (C0 := RX9) (T := TX9) (M := 24) (k := 0) (ci := 9) hc inX9_becomes_X9 (by decide) rfl rfl 7 (by decide) (List.mem_of_getElem? (i := 1) rfl) rfl rfl dX9_becomes_24 ?_
      refine g_iconst (v := 4) hc dX9_becomes_27 (by decide) ?_
      refine g_iload_n (j := 3) hc dX9_becomes_28 rfl rfl ?_
      refine g_imul hc dX9_becomes_29 ?_
      refine g_iload_n (j := 1) hc dX9_becomes_30 rfl rfl ?_
      refine g_iconst (v := 3) hc dX9_becomes_31 (by decide) ?_
      refine g_iload (j := 4) hc dX9_becomes_32 rfl ?_
      refine g_imul hc dX9_becomes_34 ?_
      refine g_ishr hc dX9_becomes_35 ?_
      refine g_bipush (v := 7) hc dX9_becomes_36 (by decide) ?_
      refine g_iand hc dX9_becomes_38 ?_
      refine g_iadd hc dX9_becomes_39 ?_
      refine g_iconst (v := 1) hc dX9_becomes_40 (by decide) ?_
      refine g_isub hc dX9_becomes_41 ?_
      refine g_iald (k := 3) (t0 := 0) hc (by decide) rfl rfl dX9_becomes_42 ?_
      refine g_istore_n (L := fun v3 => [(3, .int v3), (0, .ref (a 0)), (1, .int x1), (2, .int x2), (4, .int x4)]) hc dX9_becomes_43 rfl (by decide) (fun _ => rfl) (fun v3 => ?_)
      refine g_lv [1, 2, 3, 0, 4] rfl ?_
      exact tX9_becomes_44 hc hr hlk hE k5 hk5 x1 x2 v3 x4 S2
set_option maxHeartbeats 4000000 in
set_option maxRecDepth 100000 in
theorem TX9_becomes_5 {p : Program} {e : Env} {s : State} {m : MethodId} {args : Array Value} {below : List Frame} {meth : Method} {c : Code} (hc : CT p s m args c cX9_becomes 5 RX9 wsX9_becomes D (tyW cI cZ cO)) (hr : meth.sig.returnType = (some .int)) (hlk : meth.locks = false) (hE : EvM (AA 17 a s.heap.size) s) (n : Nat) (x1 : Int32) (x2 : Int32) (x3 : Int32) (x4 : Int32) (S : St) : GF p l e rX9_becomes s m args below meth c D 17 a (cM cI cZ a) (AA 17 a s.heap.size) 5 0 0 (fun res => MQ below (va_Qi (fun r u => (r, u) = res) (Bw D (tyW cI cZ cO) 17 a (cM cI cZ a) (AA 17 a s.heap.size)) (AA 17 a s.heap.size)) args s 0 0 (AA 17 a s.heap.size)) (lX9_becomes_5 n x1 x2 x3 x4 S) 5 [(0, .ref (a 0)), (1, .int x1), (2, .int x2), (3, .int x3), (4, .int x4)] [] S :=
  lp_ind (P := fun k : Int32 → Int32 → Int32 → Int32 → St → Option (Int32 × St) => ∀ (x1 : Int32) (x2 : Int32) (x3 : Int32) (x4 : Int32) (S : St), GF p l e rX9_becomes s m args below meth c D 17 a (cM cI cZ a) (AA 17 a s.heap.size) 5 0 0 (fun res => MQ below (va_Qi (fun r u => (r, u) = res) (Bw D (tyW cI cZ cO) 17 a (cM cI cZ a) (AA 17 a s.heap.size)) (AA 17 a s.heap.size)) args s 0 0 (AA 17 a s.heap.size)) (k x1 x2 x3 x4 S) 5 [(0, .ref (a 0)), (1, .int x1), (2, .int x2), (3, .int x3), (4, .int x4)] [] S) (fun _ _ _ _ _ => g_none) (fun k5 hk5 => tX9_becomes_5 hc hr hlk hE k5 hk5) n x1 x2 x3 x4 S
set_option maxHeartbeats 4000000 in
set_option maxRecDepth 100000 in
theorem mX9_becomes (x1 : Int32) (x2 : Int32) (S : St) : ∀ q, uX9_becomes x1 x2 S = some q → Ki l yX9_becomes wsX9_becomes rX9_becomes D (tyW cI cZ cO) 17 a (cM cI cZ a) (EvM) [.ref (a 0), .int x1, .int x2] S q := by
  refine m_Ki (cc := cX9_becomes) (nL := 5) (ret := (some .int)) (lv := [(0, .ref (a 0)), (1, .int x1), (2, .int x2)]) (by decide) rfl (Nat.le_of_ble_eq_true rfl) rfl ?_
  intro p e s m args below meth c hc hr hlk hE
  unfold uX9_becomes
  refine g_iconst (v := 0) hc dX9_becomes_0 (by decide) ?_
  refine g_istore_n (L := fun v1 => [(3, .int v1), (0, .ref (a 0)), (1, .int x1), (2, .int x2)]) hc dX9_becomes_1 rfl (by decide) (fun _ => rfl) (fun v1 => ?_)
  refine g_iconst (v := 0) hc dX9_becomes_2 (by decide) ?_
  refine g_istore (L := fun v2 => [(4, .int v2), (3, .int v1), (0, .ref (a 0)), (1, .int x1), (2, .int x2)]) hc dX9_becomes_3 (by decide) (fun _ => rfl) (fun v2 => ?_)
  refine g_lv [2, 3, 4, 1, 0] rfl ?_
  exact TX9_becomes_5 hc hr hlk hE FU x1 x2 v1 v2 S
set_option maxHeartbeats 4000000 in
set_option maxRecDepth 100000 in
theorem tX9_wants_52 {p : Program} {e : Env} {s : State} {m : MethodId} {args : Array Value} {below : List Frame} {meth : Method} {c : Code} (hc : CT p s m args c cX9_wants 6 RX9 wsX9_wants D (tyW cI cZ cO)) (hr : meth.sig.returnType = (some .boolean)) (hlk : meth.locks = false) (hE : EvM (AA 17 a s.heap.size) s) (k6 : Int32 → Int32 → Int32 → Int32 → Int32 → St → Option (Int32 × St)) (hk6 : ∀ (x1 : Int32) (x2 : Int32) (x3 : Int32) (x4 : Int32) (x5 : Int32) (S : St), GF p l e rX9_wants s m args below meth c D 17 a (cM cI cZ a) (AA 17 a s.heap.size) 6 0 0 (fun res => MQ below (va_Qi (fun r u => (r, u) = res) (Bw D (tyW cI cZ cO) 17 a (cM cI cZ a) (AA 17 a s.heap.size)) (AA 17 a s.heap.size)) args s 0 0 (AA 17 a s.heap.size)) (k6 x1 x2 x3 x4 x5 S) 6 [(0, .ref (a 0)), (1, .int x1), (2, .int x2), (3, .int x3), (4, .int x4), (5, .int x5)] [] S) (x1 : Int32) (x2 : Int32) (x3 : Int32) (x5 : Int32) (y0 : Int32) (S : St) : GF p l e rX9_wants s m args below meth c D 17 a (cM cI cZ a) (AA 17 a s.heap.size) 6 0 0 (fun res => MQ below (va_Qi (fun r u => (r, u) = res) (Bw D (tyW cI cZ cO) 17 a (cM cI cZ a) (AA 17 a s.heap.size)) (AA 17 a s.heap.size)) args s 0 0 (AA 17 a s.heap.size)) (bX9_wants_52 k6 x1 x2 x3 x5 y0 S) 52 [(0, .ref (a 0)), (1, .int x1), (2, .int x2), (3, .int x3), (5, .int x5)] [.int y0] S := by
  unfold bX9_wants_52
  refine g_istore (L := fun v1 => [(4, .int v1), (0, .ref (a 0)), (1, .int x1), (2, .int x2), (3, .int x3), (5, .int x5)]) hc dX9_wants_52 (by decide) (fun _ => rfl) (fun v1 => ?_)
  refine g_iinc (j := 5) (w := x5 + 1) (L := fun v2 => [(5, .int v2), (4, .int v1), (0, .ref (a 0)), (1, .int x1), (2, .int x2), (3, .int x3)]) hc dX9_wants_54 rfl (by rfl) (by decide) (fun _ => rfl) (fun v2 => ?_)
  refine g_goto (tgt := 6) hc dX9_wants_57 (by decide) ?_
  refine g_lv [2, 3, 4, 5, 1, 0] rfl ?_
  exact hk6 x1 x2 x3 v1 v2 S
set_option maxHeartbeats 4000000 in
set_option maxRecDepth 100000 in
theorem tX9_wants_51 {p : Program} {e : Env} {s : State} {m : MethodId} {args : Array Value} {below : List Frame} {meth : Method} {c : Code} (hc : CT p s m args c cX9_wants 6 RX9 wsX9_wants D (tyW cI cZ cO)) (hr : meth.sig.returnType = (some .boolean)) (hlk : meth.locks = false) (hE : EvM (AA 17 a s.heap.size) s) (k6 : Int32 → Int32 → Int32 → Int32 → Int32 → St → Option (Int32 × St)) (hk6 : ∀ (x1 : Int32) (x2 : Int32) (x3 : Int32) (x4 : Int32) (x5 : Int32) (S : St), GF p l e rX9_wants s m args below meth c D 17 a (cM cI cZ a) (AA 17 a s.heap.size) 6 0 0 (fun res => MQ below (va_Qi (fun r u => (r, u) = res) (Bw D (tyW cI cZ cO) 17 a (cM cI cZ a) (AA 17 a s.heap.size)) (AA 17 a s.heap.size)) args s 0 0 (AA 17 a s.heap.size)) (k6 x1 x2 x3 x4 x5 S) 6 [(0, .ref (a 0)), (1, .int x1), (2, .int x2), (3, .int x3), (4, .int x4), (5, .int x5)] [] S) (x1 : Int32) (x2 : Int32) (x3 : Int32) (x5 : Int32) (S : St) : GF p l e rX9_wants s m args below meth c D 17 a (cM cI cZ a) (AA 17 a s.heap.size) 6 0 0 (fun res => MQ below (va_Qi (fun r u => (r, u) = res) (Bw D (tyW cI cZ cO) 17 a (cM cI cZ a) (AA 17 a s.heap.size)) (AA 17 a s.heap.size)) args s 0 0 (AA 17 a s.heap.size)) (bX9_wants_51 k6 x1 x2 x3 x5 S) 51 [(0, .ref (a 0)), (1, .int x1), (2, .int x2), (3, .int x3), (5, .int x5)] [] S := by
  unfold bX9_wants_51
  refine g_iconst (v := 0) hc dX9_wants_51 (by decide) ?_
  exact tX9_wants_52 hc hr hlk hE k6 hk6 x1 x2 x3 x5 0 S
set_option maxHeartbeats 4000000 in
set_option maxRecDepth 100000 in
theorem tX9_wants_47 {p : Program} {e : Env} {s : State} {m : MethodId} {args : Array Value} {below : List Frame} {meth : Method} {c : Code} (hc : CT p s m args c cX9_wants 6 RX9 wsX9_wants D (tyW cI cZ cO)) (hr : meth.sig.returnType = (some .boolean)) (hlk : meth.locks = false) (hE : EvM (AA 17 a s.heap.size) s) (k6 : Int32 → Int32 → Int32 → Int32 → Int32 → St → Option (Int32 × St)) (hk6 : ∀ (x1 : Int32) (x2 : Int32) (x3 : Int32) (x4 : Int32) (x5 : Int32) (S : St), GF p l e rX9_wants s m args below meth c D 17 a (cM cI cZ a) (AA 17 a s.heap.size) 6 0 0 (fun res => MQ below (va_Qi (fun r u => (r, u) = res) (Bw D (tyW cI cZ cO) 17 a (cM cI cZ a) (AA 17 a s.heap.size)) (AA 17 a s.heap.size)) args s 0 0 (AA 17 a s.heap.size)) (k6 x1 x2 x3 x4 x5 S) 6 [(0, .ref (a 0)), (1, .int x1), (2, .int x2), (3, .int x3), (4, .int x4), (5, .int x5)] [] S) (x1 : Int32) (x2 : Int32) (x3 : Int32) (x5 : Int32) (S : St) : GF p l e rX9_wants s m args below meth c D 17 a (cM cI cZ a) (AA 17 a s.heap.size) 6 0 0 (fun res => MQ below (va_Qi (fun r u => (r, u) = res) (Bw D (tyW cI cZ cO) 17 a (cM cI cZ a) (AA 17 a s.heap.size)) (AA 17 a s.heap.size)) args s 0 0 (AA 17 a s.heap.size)) (bX9_wants_47 k6 x1 x2 x3 x5 S) 47 [(0, .ref (a 0)), (1, .int x1), (2, .int x2), (3, .int x3), (5, .int x5)] [] S := by
  unfold bX9_wants_47
  refine g_iconst (v := 1) hc dX9_wants_47 (by decide) ?_
  refine g_goto (tgt := 52) hc dX9_wants_48 (by decide) ?_
  exact tX9_wants_52 hc hr hlk hE k6 hk6 x1 x2 x3 x5 1 S
set_option maxHeartbeats 4000000 in
set_option maxRecDepth 100000 in
theorem tX9_wants_6 {p : Program} {e : Env} {s : State} {m : MethodId} {args : Array Value} {below : List Frame} {meth : Method} {c : Code} (hc : CT p s m args c cX9_wants 6 RX9 wsX9_wants D (tyW cI cZ cO)) (hr : meth.sig.returnType = (some .boolean)) (hlk : meth.locks = false) (hE : EvM (AA 17 a s.heap.size) s) (k6 : Int32 → Int32 → Int32 → Int32 → Int32 → St → Option (Int32 × St)) (hk6 : ∀ (x1 : Int32) (x2 : Int32) (x3 : Int32) (x4 : Int32) (x5 : Int32) (S : St), GF p l e rX9_wants s m args below meth c D 17 a (cM cI cZ a) (AA 17 a s.heap.size) 6 0 0 (fun res => MQ below (va_Qi (fun r u => (r, u) = res) (Bw D (tyW cI cZ cO) 17 a (cM cI cZ a) (AA 17 a s.heap.size)) (AA 17 a s.heap.size)) args s 0 0 (AA 17 a s.heap.size)) (k6 x1 x2 x3 x4 x5 S) 6 [(0, .ref (a 0)), (1, .int x1), (2, .int x2), (3, .int x3), (4, .int x4), (5, .int x5)] [] S) (x1 : Int32) (x2 : Int32) (x3 : Int32) (x4 : Int32) (x5 : Int32) (S : St) : GF p l e rX9_wants s m args below meth c D 17 a (cM cI cZ a) (AA 17 a s.heap.size) 6 0 0 (fun res => MQ below (va_Qi (fun r u => (r, u) = res) (Bw D (tyW cI cZ cO) 17 a (cM cI cZ a) (AA 17 a s.heap.size)) (AA 17 a s.heap.size)) args s 0 0 (AA 17 a s.heap.size)) (bX9_wants_6 k6 x1 x2 x3 x4 x5 S) 6 [(0, .ref (a 0)), (1, .int x1), (2, .int x2), (3, .int x3), (4, .int x4), (5, .int x5)] [] S := by
  unfold bX9_wants_6
  refine g_iload (j := 5) hc dX9_wants_6 rfl ?_
  refine g_aload_n (j := 0) hc dX9_wants_8 rfl rfl ?_
  refine g_get (C0 := RX9) (T := TX9) (M := 24) (k := 0) (ci := 9) hc inX9_wants_X9 (by decide) rfl rfl 1 (by decide) (List.mem_of_getElem? (i := 1) rfl) rfl rfl dX9_wants_9 ?_
  refine g_icmp_ge (tgt := 60) hc dX9_wants_12 (by decide) ?_ ?_
  · refine g_iload (j := 4) hc dX9_wants_60 rfl ?_
    exact g_zret hc hr hlk dX9_wants_62
  · refine g_iload (j := 4) hc dX9_wants_15 rfl ?_
    refine g_if_eq (tgt := 51) hc dX9_wants_17 (by decide) ?_ ?_
    · refine g_lv [0, 1, 2, 3, 5] rfl ?_
      exact tX9_wants_51 hc hr hlk hE k6 hk6 x1 x2 x3 x5 S
    · refine g_aload_n (j := 0) hc dX9_wants_20 rfl rfl ?_
      refine g_get (C0 := RX9) (T := TX9) (M := 24) (k := 0) (ci := 9) hc inX9_wants_X9 (by decide) rfl rfl 5 (by decide) (List.mem_of_getElem? (i := 2) rfl) rfl rfl dX9_wants_21 ?_
      refine g_iload (j := 5) hc dX9_wants_24 rfl ?_
      refine g_iald (k := 1) (t0 := 0) hc (by decide) rfl rfl dX9_wants_26 ?_
      refine g_iload_n (j := 1) hc dX9_wants_27 rfl rfl ?_
      refine g_icmp_ne (tgt := 47) hc dX9_wants_28 (by decide) ?_ ?_
      · refine g_lv [0, 1, 2, 3, 5] rfl ?_
        exact tX9_wants_47 hc hr hlk hE k6 hk6 x1 x2 x3 x5 S
      · refine g_aload_n (j := 0) hc dX9_wants_31 rfl rfl ?_
        refine g_get (C0 := RX9) (T := TX9) (M := 24) (k := 0) (ci := 9) hc inX9_wants_X9 (by decide) rfl rfl 9 (by decide) (List.mem_of_getElem? (i := 3) rfl) rfl rfl dX9_wants_32 ?_
        refine g_bipush (v := 24) hc dX9_wants_35 (by decide) ?_
        refine g_iload (j := 5) hc dX9_wants_37 rfl ?_
        refine g_imul hc dX9_wants_39 ?_
        refine g_iload_n (j := 2) hc dX9_wants_40 rfl rfl ?_
        refine g_iadd hc dX9_wants_41 ?_
        refine g_iald (k := 5) (t0 := 0) hc (by decide) rfl rfl dX9_wants_42 ?_
        refine g_iload_n (j := 3) hc dX9_wants_43 rfl rfl ?_
        refine g_icmp_ne (tgt := 51) hc dX9_wants_44 (by decide) ?_ ?_
        · refine g_lv [0, 1, 2, 3, 5] rfl ?_
          exact tX9_wants_51 hc hr hlk hE k6 hk6 x1 x2 x3 x5 S
        · refine g_lv [0, 1, 2, 3, 5] rfl ?_
          exact tX9_wants_47 hc hr hlk hE k6 hk6 x1 x2 x3 x5 S
set_option maxHeartbeats 4000000 in
set_option maxRecDepth 100000 in
theorem TX9_wants_6 {p : Program} {e : Env} {s : State} {m : MethodId} {args : Array Value} {below : List Frame} {meth : Method} {c : Code} (hc : CT p s m args c cX9_wants 6 RX9 wsX9_wants D (tyW cI cZ cO)) (hr : meth.sig.returnType = (some .boolean)) (hlk : meth.locks = false) (hE : EvM (AA 17 a s.heap.size) s) (n : Nat) (x1 : Int32) (x2 : Int32) (x3 : Int32) (x4 : Int32) (x5 : Int32) (S : St) : GF p l e rX9_wants s m args below meth c D 17 a (cM cI cZ a) (AA 17 a s.heap.size) 6 0 0 (fun res => MQ below (va_Qi (fun r u => (r, u) = res) (Bw D (tyW cI cZ cO) 17 a (cM cI cZ a) (AA 17 a s.heap.size)) (AA 17 a s.heap.size)) args s 0 0 (AA 17 a s.heap.size)) (lX9_wants_6 n x1 x2 x3 x4 x5 S) 6 [(0, .ref (a 0)), (1, .int x1), (2, .int x2), (3, .int x3), (4, .int x4), (5, .int x5)] [] S :=
  lp_ind (P := fun k : Int32 → Int32 → Int32 → Int32 → Int32 → St → Option (Int32 × St) => ∀ (x1 : Int32) (x2 : Int32) (x3 : Int32) (x4 : Int32) (x5 : Int32) (S : St), GF p l e rX9_wants s m args below meth c D 17 a (cM cI cZ a) (AA 17 a s.heap.size) 6 0 0 (fun res => MQ below (va_Qi (fun r u => (r, u) = res) (Bw D (tyW cI cZ cO) 17 a (cM cI cZ a) (AA 17 a s.heap.size)) (AA 17 a s.heap.size)) args s 0 0 (AA 17 a s.heap.size)) (k x1 x2 x3 x4 x5 S) 6 [(0, .ref (a 0)), (1, .int x1), (2, .int x2), (3, .int x3), (4, .int x4), (5, .int x5)] [] S) (fun _ _ _ _ _ _ => g_none) (fun k6 hk6 => tX9_wants_6 hc hr hlk hE k6 hk6) n x1 x2 x3 x4 x5 S
set_option maxHeartbeats 4000000 in
set_option maxRecDepth 100000 in
theorem mX9_wants (x1 : Int32) (x2 : Int32) (x3 : Int32) (S : St) : ∀ q, uX9_wants x1 x2 x3 S = some q → Ki l yX9_wants wsX9_wants rX9_wants D (tyW cI cZ cO) 17 a (cM cI cZ a) (EvM) [.ref (a 0), .int x1, .int x2, .int x3] S q := by
  refine m_Ki (cc := cX9_wants) (nL := 6) (ret := (some .boolean)) (lv := [(0, .ref (a 0)), (1, .int x1), (2, .int x2), (3, .int x3)]) (by decide) rfl (Nat.le_of_ble_eq_true rfl) rfl ?_
  intro p e s m args below meth c hc hr hlk hE
  unfold uX9_wants
  refine g_iconst (v := 1) hc dX9_wants_0 (by decide) ?_
  refine g_istore (L := fun v1 => [(4, .int v1), (0, .ref (a 0)), (1, .int x1), (2, .int x2), (3, .int x3)]) hc dX9_wants_1 (by decide) (fun _ => rfl) (fun v1 => ?_)
  refine g_iconst (v := 0) hc dX9_wants_3 (by decide) ?_
  refine g_istore (L := fun v2 => [(5, .int v2), (4, .int v1), (0, .ref (a 0)), (1, .int x1), (2, .int x2), (3, .int x3)]) hc dX9_wants_4 (by decide) (fun _ => rfl) (fun v2 => ?_)
  refine g_lv [2, 3, 4, 5, 1, 0] rfl ?_
  exact TX9_wants_6 hc hr hlk hE FU x1 x2 x3 v1 v2 S
set_option maxHeartbeats 4000000 in
set_option maxRecDepth 100000 in
theorem tX9_ones_4 {p : Program} {e : Env} {s : State} {m : MethodId} {args : Array Value} {below : List Frame} {meth : Method} {c : Code} (hc : CT p s m args c cX9_ones 3 RX9 wsX9_ones D (tyW cI cZ cO)) (hr : meth.sig.returnType = (some .int)) (hlk : meth.locks = false) (hE : EvM (AA 17 a s.heap.size) s) (k4 : Int32 → Int32 → St → Option (Int32 × St)) (hk4 : ∀ (x1 : Int32) (x2 : Int32) (S : St), GF p l e rX9_ones s m args below meth c D 17 a (cM cI cZ a) (AA 17 a s.heap.size) 3 0 0 (fun res => MQ below (va_Qi (fun r u => (r, u) = res) (Bw D (tyW cI cZ cO) 17 a (cM cI cZ a) (AA 17 a s.heap.size)) (AA 17 a s.heap.size)) args s 0 0 (AA 17 a s.heap.size)) (k4 x1 x2 S) 4 [(1, .int x1), (2, .int x2)] [] S) (x1 : Int32) (x2 : Int32) (S : St) : GF p l e rX9_ones s m args below meth c D 17 a (cM cI cZ a) (AA 17 a s.heap.size) 3 0 0 (fun res => MQ below (va_Qi (fun r u => (r, u) = res) (Bw D (tyW cI cZ cO) 17 a (cM cI cZ a) (AA 17 a s.heap.size)) (AA 17 a s.heap.size)) args s 0 0 (AA 17 a s.heap.size)) (bX9_ones_4 k4 x1 x2 S) 4 [(1, .int x1), (2, .int x2)] [] S := by
  unfold bX9_ones_4
  refine g_iload_n (j := 1) hc dX9_ones_4 rfl rfl ?_
  refine g_if_le (tgt := 21) hc dX9_ones_5 (by decide) ?_ ?_
  · refine g_iload_n (j := 0) hc dX9_ones_21 rfl rfl ?_
    exact g_iret hc hr hlk dX9_ones_22
  · refine g_iload_n (j := 0) hc dX9_ones_8 rfl rfl ?_
    refine g_iload_n (j := 1) hc dX9_ones_9 rfl rfl ?_
    refine g_iconst (v := 1) hc dX9_ones_10 (by decide) ?_
    refine g_iand hc dX9_ones_11 ?_
    refine g_iadd hc dX9_ones_12 ?_
    refine g_istore_n (L := fun v1 => [(1, .int v1), (2, .int x2)]) hc dX9_ones_13 rfl (by decide) (fun _ => rfl) (fun v1 => ?_)
    refine g_iload_n (j := 1) hc dX9_ones_14 rfl rfl ?_
    refine g_iconst (v := 1) hc dX9_ones_15 (by decide) ?_
    refine g_ishr hc dX9_ones_16 ?_
    refine g_istore_n (L := fun v2 => [(2, .int v2), (1, .int v1)]) hc dX9_ones_17 rfl (by decide) (fun _ => rfl) (fun v2 => ?_)
    refine g_goto (tgt := 4) hc dX9_ones_18 (by decide) ?_
    refine g_lv [1, 0] rfl ?_
    exact hk4 v1 v2 S
set_option maxHeartbeats 4000000 in
set_option maxRecDepth 100000 in
theorem TX9_ones_4 {p : Program} {e : Env} {s : State} {m : MethodId} {args : Array Value} {below : List Frame} {meth : Method} {c : Code} (hc : CT p s m args c cX9_ones 3 RX9 wsX9_ones D (tyW cI cZ cO)) (hr : meth.sig.returnType = (some .int)) (hlk : meth.locks = false) (hE : EvM (AA 17 a s.heap.size) s) (n : Nat) (x1 : Int32) (x2 : Int32) (S : St) : GF p l e rX9_ones s m args below meth c D 17 a (cM cI cZ a) (AA 17 a s.heap.size) 3 0 0 (fun res => MQ below (va_Qi (fun r u => (r, u) = res) (Bw D (tyW cI cZ cO) 17 a (cM cI cZ a) (AA 17 a s.heap.size)) (AA 17 a s.heap.size)) args s 0 0 (AA 17 a s.heap.size)) (lX9_ones_4 n x1 x2 S) 4 [(1, .int x1), (2, .int x2)] [] S :=
  lp_ind (P := fun k : Int32 → Int32 → St → Option (Int32 × St) => ∀ (x1 : Int32) (x2 : Int32) (S : St), GF p l e rX9_ones s m args below meth c D 17 a (cM cI cZ a) (AA 17 a s.heap.size) 3 0 0 (fun res => MQ below (va_Qi (fun r u => (r, u) = res) (Bw D (tyW cI cZ cO) 17 a (cM cI cZ a) (AA 17 a s.heap.size)) (AA 17 a s.heap.size)) args s 0 0 (AA 17 a s.heap.size)) (k x1 x2 S) 4 [(1, .int x1), (2, .int x2)] [] S) (fun _ _ _ => g_none) (fun k4 hk4 => tX9_ones_4 hc hr hlk hE k4 hk4) n x1 x2 S
set_option maxHeartbeats 4000000 in
set_option maxRecDepth 100000 in
theorem mX9_ones (x0 : Int32) (S : St) : ∀ q, uX9_ones x0 S = some q → Ki l yX9_ones wsX9_ones rX9_ones D (tyW cI cZ cO) 17 a (cM cI cZ a) (EvM) [.int x0] S q := by
  refine m_Ki (cc := cX9_ones) (nL := 3) (ret := (some .int)) (lv := [(0, .int x0)]) (by decide) rfl (Nat.le_of_ble_eq_true rfl) rfl ?_
  intro p e s m args below meth c hc hr hlk hE
  unfold uX9_ones
  refine g_iconst (v := 0) hc dX9_ones_0 (by decide) ?_
  refine g_istore_n (L := fun v1 => [(1, .int v1), (0, .int x0)]) hc dX9_ones_1 rfl (by decide) (fun _ => rfl) (fun v1 => ?_)
  refine g_iload_n (j := 1) hc dX9_ones_2 rfl rfl ?_
  refine g_istore_n (L := fun v2 => [(2, .int v2), (1, .int v1), (0, .int x0)]) hc dX9_ones_3 rfl (by decide) (fun _ => rfl) (fun v2 => ?_)
  refine g_lv [1, 0] rfl ?_
  exact TX9_ones_4 hc hr hlk hE FU v1 v2 S
set_option maxHeartbeats 4000000 in
set_option maxRecDepth 100000 in
theorem mX9_newly (x0 : Int32) (S : St) : ∀ q, uX9_newly x0 S = some q → Ki l yX9_newly wsX9_newly rX9_newly D (tyW cI cZ cO) 17 a (cM cI cZ a) (EvM) [.int x0] S q := by
  refine m_Ki (cc := cX9_newly) (nL := 1) (ret := (some .int)) (lv := [(0, .int x0)]) (by decide) rfl (Nat.le_of_ble_eq_true rfl) rfl ?_
  intro p e s m args below meth c hc hr hlk hE
  unfold uX9_newly
  refine g_iload_n (j := 0) hc dX9_newly_0 rfl rfl ?_
  refine g_iload_n (j := 0) hc dX9_newly_1 rfl rfl ?_
  refine g_iconst (v := 1) hc dX9_newly_2 (by decide) ?_
  refine g_ishl hc dX9_newly_3 ?_
  refine g_iconst (v := -1) hc dX9_newly_4 (by decide) ?_
  refine g_ixor hc dX9_newly_5 ?_
  refine g_iand hc dX9_newly_6 ?_
  exact g_iret hc hr hlk dX9_newly_7
set_option maxHeartbeats 4000000 in
set_option maxRecDepth 100000 in
theorem tX9_find_502 {p : Program} {e : Env} {s : State} {m : MethodId} {args : Array Value} {below : List Frame} {meth : Method} {c : Code} (hc : CT p s m args c cX9_find 12 RX9 wsX9_find D (tyW cI cZ cO)) (hr : meth.sig.returnType = (some .int)) (hlk : meth.locks = false) (hE : EvM (AA 17 a s.heap.size) s) (k37 : Int32 → Int32 → Int32 → Int32 → St → Option (Int32 × St)) (hk37 : ∀ (x1 : Int32) (x2 : Int32) (x3 : Int32) (x4 : Int32) (S : St), GF p l e rX9_find s m args below meth c D 17 a (cM cI cZ a) (AA 17 a s.heap.size) 12 0 0 (fun res => MQ below (va_Qi (fun r u => (r, u) = res) (Bw D (tyW cI cZ cO) 17 a (cM cI cZ a) (AA 17 a s.heap.size)) (AA 17 a s.heap.size)) args s 0 0 (AA 17 a s.heap.size)) (k37 x1 x2 x3 x4 S) 37 [(0, .ref (a 0)), (1, .int x1), (2, .int x2), (3, .int x3), (4, .int x4)] [] S) (x1 : Int32) (x2 : Int32) (x3 : Int32) (x4 : Int32) (S : St) : GF p l e rX9_find s m args below meth c D 17 a (cM cI cZ a) (AA 17 a s.heap.size) 12 0 0 (fun res => MQ below (va_Qi (fun r u => (r, u) = res) (Bw D (tyW cI cZ cO) 17 a (cM cI cZ a) (AA 17 a s.heap.size)) (AA 17 a s.heap.size)) args s 0 0 (AA 17 a s.heap.size)) (bX9_find_502 k37 x1 x2 x3 x4 S) 502 [(0, .ref (a 0)), (1, .int x1), (2, .int x2), (3, .int x3), (4, .int x4)] [] S := by
  unfold bX9_find_502
  refine g_iinc (j := 4) (w := x4 + 1) (L := fun v1 => [(4, .int v1), (0, .ref (a 0)), (1, .int x1), (2, .int x2), (3, .int x3)]) hc dX9_find_502 rfl (by rfl) (by decide) (fun _ => rfl) (fun v1 => ?_)
  refine g_goto (tgt := 37) hc dX9_find_505 (by decide) ?_
  refine g_lv [1, 2, 3, 4, 0] rfl ?_
  exact hk37 x1 x2 x3 v1 S
set_option maxHeartbeats 4000000 in
set_option maxRecDepth 100000 in
theorem tX9_find_496 {p : Program} {e : Env} {s : State} {m : MethodId} {args : Array Value} {below : List Frame} {meth : Method} {c : Code} (hc : CT p s m args c cX9_find 12 RX9 wsX9_find D (tyW cI cZ cO)) (hr : meth.sig.returnType = (some .int)) (hlk : meth.locks = false) (hE : EvM (AA 17 a s.heap.size) s) (k37 : Int32 → Int32 → Int32 → Int32 → St → Option (Int32 × St)) (hk37 : ∀ (x1 : Int32) (x2 : Int32) (x3 : Int32) (x4 : Int32) (S : St), GF p l e rX9_find s m args below meth c D 17 a (cM cI cZ a) (AA 17 a s.heap.size) 12 0 0 (fun res => MQ below (va_Qi (fun r u => (r, u) = res) (Bw D (tyW cI cZ cO) 17 a (cM cI cZ a) (AA 17 a s.heap.size)) (AA 17 a s.heap.size)) args s 0 0 (AA 17 a s.heap.size)) (k37 x1 x2 x3 x4 S) 37 [(0, .ref (a 0)), (1, .int x1), (2, .int x2), (3, .int x3), (4, .int x4)] [] S) (k375 : Int32 → Int32 → Int32 → Int32 → Int32 → Int32 → Int32 → Int32 → St → Option (Int32 × St)) (hk375 : ∀ (x1 : Int32) (x2 : Int32) (x3 : Int32) (x4 : Int32) (x5 : Int32) (x6 : Int32) (x7 : Int32) (x8 : Int32) (S : St), GF p l e rX9_find s m args below meth c D 17 a (cM cI cZ a) (AA 17 a s.heap.size) 12 0 0 (fun res => MQ below (va_Qi (fun r u => (r, u) = res) (Bw D (tyW cI cZ cO) 17 a (cM cI cZ a) (AA 17 a s.heap.size)) (AA 17 a s.heap.size)) args s 0 0 (AA 17 a s.heap.size)) (k375 x1 x2 x3 x4 x5 x6 x7 x8 S) 375 [(0, .ref (a 0)), (1, .int x1), (2, .int x2), (3, .int x3), (4, .int x4), (5, .int x5), (6, .int x6), (7, .int x7), (8, .int x8)] [] S) (x1 : Int32) (x2 : Int32) (x3 : Int32) (x4 : Int32) (x5 : Int32) (x6 : Int32) (x7 : Int32) (x8 : Int32) (S : St) : GF p l e rX9_find s m args below meth c D 17 a (cM cI cZ a) (AA 17 a s.heap.size) 12 0 0 (fun res => MQ below (va_Qi (fun r u => (r, u) = res) (Bw D (tyW cI cZ cO) 17 a (cM cI cZ a) (AA 17 a s.heap.size)) (AA 17 a s.heap.size)) args s 0 0 (AA 17 a s.heap.size)) (bX9_find_496 k37 k375 x1 x2 x3 x4 x5 x6 x7 x8 S) 496 [(0, .ref (a 0)), (1, .int x1), (2, .int x2), (3, .int x3), (4, .int x4), (5, .int x5), (6, .int x6), (7, .int x7), (8, .int x8)] [] S := by
  unfold bX9_find_496
  refine g_iinc (j := 8) (w := x8 + 1) (L := fun v1 => [(8, .int v1), (0, .ref (a 0)), (1, .int x1), (2, .int x2), (3, .int x3), (4, .int x4), (5, .int x5), (6, .int x6), (7, .int x7)]) hc dX9_find_496 rfl (by rfl) (by decide) (fun _ => rfl) (fun v1 => ?_)
  refine g_goto (tgt := 375) hc dX9_find_499 (by decide) ?_
  refine g_lv [1, 2, 3, 4, 5, 6, 7, 8, 0] rfl ?_
  exact hk375 x1 x2 x3 x4 x5 x6 x7 v1 S
set_option maxHeartbeats 4000000 in
set_option maxRecDepth 100000 in
theorem tX9_find_385 {p : Program} {e : Env} {s : State} {m : MethodId} {args : Array Value} {below : List Frame} {meth : Method} {c : Code} (hc : CT p s m args c cX9_find 12 RX9 wsX9_find D (tyW cI cZ cO)) (hr : meth.sig.returnType = (some .int)) (hlk : meth.locks = false) (hE : EvM (AA 17 a s.heap.size) s) (k37 : Int32 → Int32 → Int32 → Int32 → St → Option (Int32 × St)) (hk37 : ∀ (x1 : Int32) (x2 : Int32) (x3 : Int32) (x4 : Int32) (S : St), GF p l e rX9_find s m args below meth c D 17 a (cM cI cZ a) (AA 17 a s.heap.size) 12 0 0 (fun res => MQ below (va_Qi (fun r u => (r, u) = res) (Bw D (tyW cI cZ cO) 17 a (cM cI cZ a) (AA 17 a s.heap.size)) (AA 17 a s.heap.size)) args s 0 0 (AA 17 a s.heap.size)) (k37 x1 x2 x3 x4 S) 37 [(0, .ref (a 0)), (1, .int x1), (2, .int x2), (3, .int x3), (4, .int x4)] [] S) (k375 : Int32 → Int32 → Int32 → Int32 → Int32 → Int32 → Int32 → Int32 → St → Option (Int32 × St)) (hk375 : ∀ (x1 : Int32) (x2 : Int32) (x3 : Int32) (x4 : Int32) (x5 : Int32) (x6 : Int32) (x7 : Int32) (x8 : Int32) (S : St), GF p l e rX9_find s m args below meth c D 17 a (cM cI cZ a) (AA 17 a s.heap.size) 12 0 0 (fun res => MQ below (va_Qi (fun r u => (r, u) = res) (Bw D (tyW cI cZ cO) 17 a (cM cI cZ a) (AA 17 a s.heap.size)) (AA 17 a s.heap.size)) args s 0 0 (AA 17 a s.heap.size)) (k375 x1 x2 x3 x4 x5 x6 x7 x8 S) 375 [(0, .ref (a 0)), (1, .int x1), (2, .int x2), (3, .int x3), (4, .int x4), (5, .int x5), (6, .int x6), (7, .int x7), (8, .int x8)] [] S) (k385 : Int32 → Int32 → Int32 → Int32 → Int32 → Int32 → Int32 → Int32 → Int32 → St → Option (Int32 × St)) (hk385 : ∀ (x1 : Int32) (x2 : Int32) (x3 : Int32) (x4 : Int32) (x5 : Int32) (x6 : Int32) (x7 : Int32) (x8 : Int32) (x9 : Int32) (S : St), GF p l e rX9_find s m args below meth c D 17 a (cM cI cZ a) (AA 17 a s.heap.size) 12 0 0 (fun res => MQ below (va_Qi (fun r u => (r, u) = res) (Bw D (tyW cI cZ cO) 17 a (cM cI cZ a) (AA 17 a s.heap.size)) (AA 17 a s.heap.size)) args s 0 0 (AA 17 a s.heap.size)) (k385 x1 x2 x3 x4 x5 x6 x7 x8 x9 S) 385 [(0, .ref (a 0)), (1, .int x1), (2, .int x2), (3, .int x3), (4, .int x4), (5, .int x5), (6, .int x6), (7, .int x7), (8, .int x8), (9, .int x9)] [] S) (x1 : Int32) (x2 : Int32) (x3 : Int32) (x4 : Int32) (x5 : Int32) (x6 : Int32) (x7 : Int32) (x8 : Int32) (x9 : Int32) (S : St) : GF p l e rX9_find s m args below meth c D 17 a (cM cI cZ a) (AA 17 a s.heap.size) 12 0 0 (fun res => MQ below (va_Qi (fun r u => (r, u) = res) (Bw D (tyW cI cZ cO) 17 a (cM cI cZ a) (AA 17 a s.heap.size)) (AA 17 a s.heap.size)) args s 0 0 (AA 17 a s.heap.size)) (bX9_find_385 k37 k375 k385 x1 x2 x3 x4 x5 x6 x7 x8 x9 S) 385 [(0, .ref (a 0)), (1, .int x1), (2, .int x2), (3, .int x3), (4, .int x4), (5, .int x5), (6, .int x6), (7, .int x7), (8, .int x8), (9, .int x9)] [] S := by
  unfold bX9_find_385
  refine g_aload_n (j := 0) hc dX9_find_385 rfl rfl ?_
  refine g_get (C0 := RX9) (T := TX9) (M := 24) (k := 0) (ci := 9) hc inX9_find_X9 (by decide) rfl rfl 22 (by decide) (List.mem_of_getElem? (i := 4) rfl) rfl rfl dX9_find_386 ?_
  refine g_bipush (v := 16) hc dX9_find_389 (by decide) ?_
  refine g_iload (j := 8) hc dX9_find_391 rfl ?_
  refine g_imul hc dX9_find_393 ?_
  refine g_iload (j := 9) hc dX9_find_394 rfl ?_
  refine g_iadd hc dX9_find_396 ?_
  refine g_iald (k := 15) (t0 := 0) hc (by decide) rfl rfl dX9_find_397 ?_
  refine g_iload (j := 9) hc dX9_find_398 rfl ?_
  refine g_callSi (As := [.int x9]) (rest := [.int (S 15 ((16 * x8) + x9).toNatClampNeg)]) hc hE trM rfl (fun _ h => mX9_newly x9 S _ h) (va_cwS 1 hc.1.2.2.2.2 gX9_find_X9_newly rfl rfl rfl (by decide +kernel) ⟨by decide, by decide⟩) rfl rfl (Nat.le_of_ble_eq_true rfl) dX9_find_400 ⟨by decide, by decide⟩ (fun v1 S2 => ?_)
  refine g_iload (j := 6) hc dX9_find_403 rfl ?_
  refine g_callSi (As := [.int x6]) (rest := [.int v1, .int (S 15 ((16 * x8) + x9).toNatClampNeg)]) hc hE trM rfl (fun _ h => mX9_newly x6 S2 _ h) (va_cwS 1 hc.1.2.2.2.2 gX9_find_X9_newly rfl rfl rfl (by decide +kernel) ⟨by decide, by decide⟩) rfl rfl (Nat.le_of_ble_eq_true rfl) dX9_find_405 ⟨by decide, by decide⟩ (fun v3 S4 => ?_)
  refine g_iconst (v := -1) hc dX9_find_408 (by decide) ?_
  refine g_ixor hc dX9_find_409 ?_
  refine g_iand hc dX9_find_410 ?_
  refine g_iload_n (j := 2) hc dX9_find_411 rfl rfl ?_
  refine g_iconst (v := 1) hc dX9_find_412 (by decide) ?_
  refine g_isub hc dX9_find_413 ?_
  refine g_iand hc dX9_find_414 ?_
  refine g_callSi (As := [.int ((v1 &&& (v3 ^^^ ((-1)))) &&& (x2 - 1))]) (rest := [.int (S 15 ((16 * x8) + x9).toNatClampNeg)]) hc hE trM rfl (fun _ h => mX9_ones ((v1 &&& (v3 ^^^ ((-1)))) &&& (x2 - 1)) S4 _ h) (va_cwS 1 hc.1.2.2.2.2 gX9_find_X9_ones rfl rfl rfl (by decide +kernel) ⟨by decide, by decide⟩) rfl rfl (Nat.le_of_ble_eq_true rfl) dX9_find_415 ⟨by decide, by decide⟩ (fun v5 S6 => ?_)
  refine g_iadd hc dX9_find_418 ?_
  refine g_iload (j := 7) hc dX9_find_419 rfl ?_
  refine g_icmp_eq (tgt := 430) hc dX9_find_421 (by decide) ?_ ?_
  · refine g_aload_n (j := 0) hc dX9_find_430 rfl rfl ?_
    refine g_get (C0 := RX9) (T := TX9) (M := 24) (k := 0) (ci := 9) hc inX9_find_X9 (by decide) rfl rfl 22 (by decide) (List.mem_of_getElem? (i := 4) rfl) rfl rfl dX9_find_431 ?_
    refine g_bipush (v := 16) hc dX9_find_434 (by decide) ?_
    refine g_iload (j := 8) hc dX9_find_436 rfl ?_
    refine g_imul hc dX9_find_438 ?_
    refine g_iload (j := 9) hc dX9_find_439 rfl ?_
    refine g_iadd hc dX9_find_441 ?_
    refine g_iald (k := 15) (t0 := 0) hc (by decide) rfl rfl dX9_find_442 ?_
    refine g_istore (L := fun v7 => [(7, .int v7), (0, .ref (a 0)), (1, .int x1), (2, .int x2), (3, .int x3), (4, .int x4), (5, .int x5), (6, .int x6), (8, .int x8), (9, .int x9)]) hc dX9_find_443 (by decide) (fun _ => rfl) (fun v7 => ?_)
    refine g_iload (j := 9) hc dX9_find_445 rfl ?_
    refine g_istore (L := fun v8 => [(6, .int v8), (7, .int v7), (0, .ref (a 0)), (1, .int x1), (2, .int x2), (3, .int x3), (4, .int x4), (5, .int x5), (8, .int x8), (9, .int x9)]) hc dX9_find_447 (by decide) (fun _ => rfl) (fun v8 => ?_)
    refine g_aload_n (j := 2) hc dX9_find_449 rfl rfl ?_
    refine g_get (C0 := RX9) (T := TX9) (M := 24) (k := 0) (ci := 9) hc inX9_find_X9 (by decide) rfl rfl 21 (by decide) (List.mem_of_getElem? (i := 1) rfl) rfl rfl dX9_find_450 ?_
    refine g_bipush (v := 24) hc dX9_find_453 (by decide) ?_
    refine g_iload (j := 6) hc dX9_find_455 rfl ?_
    refine g_imul hc dX9_find_457 ?_
    refine g_iload (j := 8) hc dX9_find_458 rfl ?_
    refine g_iadd hc dX9_find_460 ?_
    refine g_iload (j := 9) hc dX9_find_461 rfl ?_
    refine g_iast (k := 14) (t0 := 0) hc locM (by decide) rfl rfl rfl dX9_find_463 (fun S9 => ?_)
    refine g_aload_n (j := 2) hc dX9_find_464 rfl rfl ?_
    refine g_get (C0 := RX9) (T := TX9) (M := 24) (k := 0) (ci := 9) hc inX9_find_X9 (by decide) rfl rfl 12 (by decide) (List.mem_of_getElem? (i := 2) rfl) rfl rfl dX9_find_465 ?_
    refine g_iload (j := 6) hc dX9_find_468 rfl ?_
    refine g_zald (k := 8) (t0 := 1) hc (by decide) rfl rfl dX9_find_470 ?_
    refine g_if_eq (tgt := 496) hc dX9_find_471 (by decide) ?_ ?_
    · refine g_lv [2, 3, 4, 5, 6, 7, 0, 1, 8] rfl ?_
      exact tX9_find_496 hc hr hlk hE k37 hk37 k375 hk375 x1 x2 x3 x4 x5 v8 v7 x8 S9
    · refine g_aload_n (j := 2) hc dX9_find_474 rfl rfl ?_
      refine g_get (C0 := RX9) (T := TX9) (M := 24) (k := 0) (ci := 9) hc inX9_find_X9 (by decide) rfl rfl 21 (by decide) (List.mem_of_getElem? (i := 1) rfl) rfl rfl dX9_find_475 ?_
      refine g_bipush (v := 24) hc dX9_find_478 (by decide) ?_
      refine g_iload (j := 6) hc dX9_find_480 rfl ?_
      refine g_imul hc dX9_find_482 ?_
      refine g_aload_n (j := 2) hc dX9_find_483 rfl rfl ?_
      refine g_get (C0 := RX9) (T := TX9) (M := 24) (k := 0) (ci := 9) hc inX9_find_X9 (by decide) rfl rfl 2 (by decide) (List.mem_of_getElem? (i := 3) rfl) rfl rfl dX9_find_484 ?_
      refine g_iadd hc dX9_find_487 ?_
      refine g_iconst (v := 1) hc dX9_find_488 (by decide) ?_
      refine g_isub hc dX9_find_489 ?_
      refine g_iload (j := 8) hc dX9_find_490 rfl ?_
      refine g_isub hc dX9_find_492 ?_
      refine g_iload (j := 9) hc dX9_find_493 rfl ?_
      refine g_iast (k := 14) (t0 := 0) hc locM (by decide) rfl rfl rfl dX9_find_495 (fun S10 => ?_)
      refine g_lv [2, 3, 4, 5, 6, 7, 0, 1, 8] rfl ?_
      exact tX9_find_496 hc hr hlk hE k37 hk37 k375 hk375 x1 x2 x3 x4 x5 v8 v7 x8 S10
  · refine g_iinc (j := 9) (w := x9 + 1) (L := fun v11 => [(9, .int v11), (0, .ref (a 0)), (1, .int x1), (2, .int x2), (3, .int x3), (4, .int x4), (5, .int x5), (6, .int x6), (7, .int x7), (8, .int x8)]) hc dX9_find_424 rfl (by rfl) (by decide) (fun _ => rfl) (fun v11 => ?_)
    refine g_goto (tgt := 385) hc dX9_find_427 (by decide) ?_
    refine g_lv [1, 2, 3, 4, 5, 6, 7, 8, 9, 0] rfl ?_
    exact hk385 x1 x2 x3 x4 x5 x6 x7 x8 v11 S6
set_option maxHeartbeats 4000000 in
set_option maxRecDepth 100000 in
theorem TX9_find_385 {p : Program} {e : Env} {s : State} {m : MethodId} {args : Array Value} {below : List Frame} {meth : Method} {c : Code} (hc : CT p s m args c cX9_find 12 RX9 wsX9_find D (tyW cI cZ cO)) (hr : meth.sig.returnType = (some .int)) (hlk : meth.locks = false) (hE : EvM (AA 17 a s.heap.size) s) (k37 : Int32 → Int32 → Int32 → Int32 → St → Option (Int32 × St)) (hk37 : ∀ (x1 : Int32) (x2 : Int32) (x3 : Int32) (x4 : Int32) (S : St), GF p l e rX9_find s m args below meth c D 17 a (cM cI cZ a) (AA 17 a s.heap.size) 12 0 0 (fun res => MQ below (va_Qi (fun r u => (r, u) = res) (Bw D (tyW cI cZ cO) 17 a (cM cI cZ a) (AA 17 a s.heap.size)) (AA 17 a s.heap.size)) args s 0 0 (AA 17 a s.heap.size)) (k37 x1 x2 x3 x4 S) 37 [(0, .ref (a 0)), (1, .int x1), (2, .int x2), (3, .int x3), (4, .int x4)] [] S) (k375 : Int32 → Int32 → Int32 → Int32 → Int32 → Int32 → Int32 → Int32 → St → Option (Int32 × St)) (hk375 : ∀ (x1 : Int32) (x2 : Int32) (x3 : Int32) (x4 : Int32) (x5 : Int32) (x6 : Int32) (x7 : Int32) (x8 : Int32) (S : St), GF p l e rX9_find s m args below meth c D 17 a (cM cI cZ a) (AA 17 a s.heap.size) 12 0 0 (fun res => MQ below (va_Qi (fun r u => (r, u) = res) (Bw D (tyW cI cZ cO) 17 a (cM cI cZ a) (AA 17 a s.heap.size)) (AA 17 a s.heap.size)) args s 0 0 (AA 17 a s.heap.size)) (k375 x1 x2 x3 x4 x5 x6 x7 x8 S) 375 [(0, .ref (a 0)), (1, .int x1), (2, .int x2), (3, .int x3), (4, .int x4), (5, .int x5), (6, .int x6), (7, .int x7), (8, .int x8)] [] S) (n : Nat) (x1 : Int32) (x2 : Int32) (x3 : Int32) (x4 : Int32) (x5 : Int32) (x6 : Int32) (x7 : Int32) (x8 : Int32) (x9 : Int32) (S : St) : GF p l e rX9_find s m args below meth c D 17 a (cM cI cZ a) (AA 17 a s.heap.size) 12 0 0 (fun res => MQ below (va_Qi (fun r u => (r, u) = res) (Bw D (tyW cI cZ cO) 17 a (cM cI cZ a) (AA 17 a s.heap.size)) (AA 17 a s.heap.size)) args s 0 0 (AA 17 a s.heap.size)) (lX9_find_385 k37 k375 n x1 x2 x3 x4 x5 x6 x7 x8 x9 S) 385 [(0, .ref (a 0)), (1, .int x1), (2, .int x2), (3, .int x3), (4, .int x4), (5, .int x5), (6, .int x6), (7, .int x7), (8, .int x8), (9, .int x9)] [] S :=
  lp_ind (P := fun k : Int32 → Int32 → Int32 → Int32 → Int32 → Int32 → Int32 → Int32 → Int32 → St → Option (Int32 × St) => ∀ (x1 : Int32) (x2 : Int32) (x3 : Int32) (x4 : Int32) (x5 : Int32) (x6 : Int32) (x7 : Int32) (x8 : Int32) (x9 : Int32) (S : St), GF p l e rX9_find s m args below meth c D 17 a (cM cI cZ a) (AA 17 a s.heap.size) 12 0 0 (fun res => MQ below (va_Qi (fun r u => (r, u) = res) (Bw D (tyW cI cZ cO) 17 a (cM cI cZ a) (AA 17 a s.heap.size)) (AA 17 a s.heap.size)) args s 0 0 (AA 17 a s.heap.size)) (k x1 x2 x3 x4 x5 x6 x7 x8 x9 S) 385 [(0, .ref (a 0)), (1, .int x1), (2, .int x2), (3, .int x3), (4, .int x4), (5, .int x5), (6, .int x6), (7, .int x7), (8, .int x8), (9, .int x9)] [] S) (fun _ _ _ _ _ _ _ _ _ _ => g_none) (fun k385 hk385 => tX9_find_385 hc hr hlk hE k37 hk37 k375 hk375 k385 hk385) n x1 x2 x3 x4 x5 x6 x7 x8 x9 S
set_option maxHeartbeats 4000000 in
set_option maxRecDepth 100000 in
theorem tX9_find_375 {p : Program} {e : Env} {s : State} {m : MethodId} {args : Array Value} {below : List Frame} {meth : Method} {c : Code} (hc : CT p s m args c cX9_find 12 RX9 wsX9_find D (tyW cI cZ cO)) (hr : meth.sig.returnType = (some .int)) (hlk : meth.locks = false) (hE : EvM (AA 17 a s.heap.size) s) (k37 : Int32 → Int32 → Int32 → Int32 → St → Option (Int32 × St)) (hk37 : ∀ (x1 : Int32) (x2 : Int32) (x3 : Int32) (x4 : Int32) (S : St), GF p l e rX9_find s m args below meth c D 17 a (cM cI cZ a) (AA 17 a s.heap.size) 12 0 0 (fun res => MQ below (va_Qi (fun r u => (r, u) = res) (Bw D (tyW cI cZ cO) 17 a (cM cI cZ a) (AA 17 a s.heap.size)) (AA 17 a s.heap.size)) args s 0 0 (AA 17 a s.heap.size)) (k37 x1 x2 x3 x4 S) 37 [(0, .ref (a 0)), (1, .int x1), (2, .int x2), (3, .int x3), (4, .int x4)] [] S) (k375 : Int32 → Int32 → Int32 → Int32 → Int32 → Int32 → Int32 → Int32 → St → Option (Int32 × St)) (hk375 : ∀ (x1 : Int32) (x2 : Int32) (x3 : Int32) (x4 : Int32) (x5 : Int32) (x6 : Int32) (x7 : Int32) (x8 : Int32) (S : St), GF p l e rX9_find s m args below meth c D 17 a (cM cI cZ a) (AA 17 a s.heap.size) 12 0 0 (fun res => MQ below (va_Qi (fun r u => (r, u) = res) (Bw D (tyW cI cZ cO) 17 a (cM cI cZ a) (AA 17 a s.heap.size)) (AA 17 a s.heap.size)) args s 0 0 (AA 17 a s.heap.size)) (k375 x1 x2 x3 x4 x5 x6 x7 x8 S) 375 [(0, .ref (a 0)), (1, .int x1), (2, .int x2), (3, .int x3), (4, .int x4), (5, .int x5), (6, .int x6), (7, .int x7), (8, .int x8)] [] S) (x1 : Int32) (x2 : Int32) (x3 : Int32) (x4 : Int32) (x5 : Int32) (x6 : Int32) (x7 : Int32) (x8 : Int32) (S : St) : GF p l e rX9_find s m args below meth c D 17 a (cM cI cZ a) (AA 17 a s.heap.size) 12 0 0 (fun res => MQ below (va_Qi (fun r u => (r, u) = res) (Bw D (tyW cI cZ cO) 17 a (cM cI cZ a) (AA 17 a s.heap.size)) (AA 17 a s.heap.size)) args s 0 0 (AA 17 a s.heap.size)) (bX9_find_375 k37 k375 x1 x2 x3 x4 x5 x6 x7 x8 S) 375 [(0, .ref (a 0)), (1, .int x1), (2, .int x2), (3, .int x3), (4, .int x4), (5, .int x5), (6, .int x6), (7, .int x7), (8, .int x8)] [] S := by
  unfold bX9_find_375
  refine g_iload (j := 8) hc dX9_find_375 rfl ?_
  refine g_iload (j := 5) hc dX9_find_377 rfl ?_
  refine g_icmp_ge (tgt := 502) hc dX9_find_379 (by decide) ?_ ?_
  · refine g_lv [0, 1, 2, 3, 4] rfl ?_
    exact tX9_find_502 hc hr hlk hE k37 hk37 x1 x2 x3 x4 S
  · refine g_iconst (v := 0) hc dX9_find_382 (by decide) ?_
    refine g_istore (L := fun v1 => [(9, .int v1), (0, .ref (a 0)), (1, .int x1), (2, .int x2), (3, .int x3), (4, .int x4), (5, .int x5), (6, .int x6), (7, .int x7), (8, .int x8)]) hc dX9_find_383 (by decide) (fun _ => rfl) (fun v1 => ?_)
    refine g_lv [1, 2, 3, 4, 5, 6, 7, 8, 9, 0] rfl ?_
    exact TX9_find_385 hc hr hlk hE k37 hk37 k375 hk375 FU x1 x2 x3 x4 x5 x6 x7 x8 v1 S
set_option maxHeartbeats 4000000 in
set_option maxRecDepth 100000 in
theorem TX9_find_375 {p : Program} {e : Env} {s : State} {m : MethodId} {args : Array Value} {below : List Frame} {meth : Method} {c : Code} (hc : CT p s m args c cX9_find 12 RX9 wsX9_find D (tyW cI cZ cO)) (hr : meth.sig.returnType = (some .int)) (hlk : meth.locks = false) (hE : EvM (AA 17 a s.heap.size) s) (k37 : Int32 → Int32 → Int32 → Int32 → St → Option (Int32 × St)) (hk37 : ∀ (x1 : Int32) (x2 : Int32) (x3 : Int32) (x4 : Int32) (S : St), GF p l e rX9_find s m args below meth c D 17 a (cM cI cZ a) (AA 17 a s.heap.size) 12 0 0 (fun res => MQ below (va_Qi (fun r u => (r, u) = res) (Bw D (tyW cI cZ cO) 17 a (cM cI cZ a) (AA 17 a s.heap.size)) (AA 17 a s.heap.size)) args s 0 0 (AA 17 a s.heap.size)) (k37 x1 x2 x3 x4 S) 37 [(0, .ref (a 0)), (1, .int x1), (2, .int x2), (3, .int x3), (4, .int x4)] [] S) (n : Nat) (x1 : Int32) (x2 : Int32) (x3 : Int32) (x4 : Int32) (x5 : Int32) (x6 : Int32) (x7 : Int32) (x8 : Int32) (S : St) : GF p l e rX9_find s m args below meth c D 17 a (cM cI cZ a) (AA 17 a s.heap.size) 12 0 0 (fun res => MQ below (va_Qi (fun r u => (r, u) = res) (Bw D (tyW cI cZ cO) 17 a (cM cI cZ a) (AA 17 a s.heap.size)) (AA 17 a s.heap.size)) args s 0 0 (AA 17 a s.heap.size)) (lX9_find_375 k37 n x1 x2 x3 x4 x5 x6 x7 x8 S) 375 [(0, .ref (a 0)), (1, .int x1), (2, .int x2), (3, .int x3), (4, .int x4), (5, .int x5), (6, .int x6), (7, .int x7), (8, .int x8)] [] S :=
  lp_ind (P := fun k : Int32 → Int32 → Int32 → Int32 → Int32 → Int32 → Int32 → Int32 → St → Option (Int32 × St) => ∀ (x1 : Int32) (x2 : Int32) (x3 : Int32) (x4 : Int32) (x5 : Int32) (x6 : Int32) (x7 : Int32) (x8 : Int32) (S : St), GF p l e rX9_find s m args below meth c D 17 a (cM cI cZ a) (AA 17 a s.heap.size) 12 0 0 (fun res => MQ below (va_Qi (fun r u => (r, u) = res) (Bw D (tyW cI cZ cO) 17 a (cM cI cZ a) (AA 17 a s.heap.size)) (AA 17 a s.heap.size)) args s 0 0 (AA 17 a s.heap.size)) (k x1 x2 x3 x4 x5 x6 x7 x8 S) 375 [(0, .ref (a 0)), (1, .int x1), (2, .int x2), (3, .int x3), (4, .int x4), (5, .int x5), (6, .int x6), (7, .int x7), (8, .int x8)] [] S) (fun _ _ _ _ _ _ _ _ _ => g_none) (fun k375 hk375 => tX9_find_375 hc hr hlk hE k37 hk37 k375 hk375) n x1 x2 x3 x4 x5 x6 x7 x8 S
set_option maxHeartbeats 4000000 in
set_option maxRecDepth 100000 in
theorem tX9_find_350 {p : Program} {e : Env} {s : State} {m : MethodId} {args : Array Value} {below : List Frame} {meth : Method} {c : Code} (hc : CT p s m args c cX9_find 12 RX9 wsX9_find D (tyW cI cZ cO)) (hr : meth.sig.returnType = (some .int)) (hlk : meth.locks = false) (hE : EvM (AA 17 a s.heap.size) s) (k37 : Int32 → Int32 → Int32 → Int32 → St → Option (Int32 × St)) (hk37 : ∀ (x1 : Int32) (x2 : Int32) (x3 : Int32) (x4 : Int32) (S : St), GF p l e rX9_find s m args below meth c D 17 a (cM cI cZ a) (AA 17 a s.heap.size) 12 0 0 (fun res => MQ below (va_Qi (fun r u => (r, u) = res) (Bw D (tyW cI cZ cO) 17 a (cM cI cZ a) (AA 17 a s.heap.size)) (AA 17 a s.heap.size)) args s 0 0 (AA 17 a s.heap.size)) (k37 x1 x2 x3 x4 S) 37 [(0, .ref (a 0)), (1, .int x1), (2, .int x2), (3, .int x3), (4, .int x4)] [] S) (k308 : Int32 → Int32 → Int32 → Int32 → Int32 → Int32 → Int32 → Int32 → St → Option (Int32 × St)) (hk308 : ∀ (x1 : Int32) (x2 : Int32) (x3 : Int32) (x4 : Int32) (x5 : Int32) (x6 : Int32) (x7 : Int32) (x8 : Int32) (S : St), GF p l e rX9_find s m args below meth c D 17 a (cM cI cZ a) (AA 17 a s.heap.size) 12 0 0 (fun res => MQ below (va_Qi (fun r u => (r, u) = res) (Bw D (tyW cI cZ cO) 17 a (cM cI cZ a) (AA 17 a s.heap.size)) (AA 17 a s.heap.size)) args s 0 0 (AA 17 a s.heap.size)) (k308 x1 x2 x3 x4 x5 x6 x7 x8 S) 308 [(0, .ref (a 0)), (1, .int x1), (2, .int x2), (3, .int x3), (4, .int x4), (5, .int x5), (6, .int x6), (7, .int x7), (8, .int x8)] [] S) (x1 : Int32) (x2 : Int32) (x3 : Int32) (x4 : Int32) (x5 : Int32) (x6 : Int32) (x8 : Int32) (y0 : Int32) (S : St) : GF p l e rX9_find s m args below meth c D 17 a (cM cI cZ a) (AA 17 a s.heap.size) 12 0 0 (fun res => MQ below (va_Qi (fun r u => (r, u) = res) (Bw D (tyW cI cZ cO) 17 a (cM cI cZ a) (AA 17 a s.heap.size)) (AA 17 a s.heap.size)) args s 0 0 (AA 17 a s.heap.size)) (bX9_find_350 k37 k308 x1 x2 x3 x4 x5 x6 x8 y0 S) 350 [(0, .ref (a 0)), (1, .int x1), (2, .int x2), (3, .int x3), (4, .int x4), (5, .int x5), (6, .int x6), (8, .int x8)] [.int y0] S := by
  unfold bX9_find_350
  refine g_istore (L := fun v1 => [(7, .int v1), (0, .ref (a 0)), (1, .int x1), (2, .int x2), (3, .int x3), (4, .int x4), (5, .int x5), (6, .int x6), (8, .int x8)]) hc dX9_find_350 (by decide) (fun _ => rfl) (fun v1 => ?_)
  refine g_iinc (j := 8) (w := x8 + 1) (L := fun v2 => [(8, .int v2), (7, .int v1), (0, .ref (a 0)), (1, .int x1), (2, .int x2), (3, .int x3), (4, .int x4), (5, .int x5), (6, .int x6)]) hc dX9_find_352 rfl (by rfl) (by decide) (fun _ => rfl) (fun v2 => ?_)
  refine g_goto (tgt := 308) hc dX9_find_355 (by decide) ?_
  refine g_lv [2, 3, 4, 5, 6, 7, 8, 1, 0] rfl ?_
  exact hk308 x1 x2 x3 x4 x5 x6 v1 v2 S
set_option maxHeartbeats 4000000 in
set_option maxRecDepth 100000 in
theorem tX9_find_308 {p : Program} {e : Env} {s : State} {m : MethodId} {args : Array Value} {below : List Frame} {meth : Method} {c : Code} (hc : CT p s m args c cX9_find 12 RX9 wsX9_find D (tyW cI cZ cO)) (hr : meth.sig.returnType = (some .int)) (hlk : meth.locks = false) (hE : EvM (AA 17 a s.heap.size) s) (k37 : Int32 → Int32 → Int32 → Int32 → St → Option (Int32 × St)) (hk37 : ∀ (x1 : Int32) (x2 : Int32) (x3 : Int32) (x4 : Int32) (S : St), GF p l e rX9_find s m args below meth c D 17 a (cM cI cZ a) (AA 17 a s.heap.size) 12 0 0 (fun res => MQ below (va_Qi (fun r u => (r, u) = res) (Bw D (tyW cI cZ cO) 17 a (cM cI cZ a) (AA 17 a s.heap.size)) (AA 17 a s.heap.size)) args s 0 0 (AA 17 a s.heap.size)) (k37 x1 x2 x3 x4 S) 37 [(0, .ref (a 0)), (1, .int x1), (2, .int x2), (3, .int x3), (4, .int x4)] [] S) (k308 : Int32 → Int32 → Int32 → Int32 → Int32 → Int32 → Int32 → Int32 → St → Option (Int32 × St)) (hk308 : ∀ (x1 : Int32) (x2 : Int32) (x3 : Int32) (x4 : Int32) (x5 : Int32) (x6 : Int32) (x7 : Int32) (x8 : Int32) (S : St), GF p l e rX9_find s m args below meth c D 17 a (cM cI cZ a) (AA 17 a s.heap.size) 12 0 0 (fun res => MQ below (va_Qi (fun r u => (r, u) = res) (Bw D (tyW cI cZ cO) 17 a (cM cI cZ a) (AA 17 a s.heap.size)) (AA 17 a s.heap.size)) args s 0 0 (AA 17 a s.heap.size)) (k308 x1 x2 x3 x4 x5 x6 x7 x8 S) 308 [(0, .ref (a 0)), (1, .int x1), (2, .int x2), (3, .int x3), (4, .int x4), (5, .int x5), (6, .int x6), (7, .int x7), (8, .int x8)] [] S) (x1 : Int32) (x2 : Int32) (x3 : Int32) (x4 : Int32) (x5 : Int32) (x6 : Int32) (x7 : Int32) (x8 : Int32) (S : St) : GF p l e rX9_find s m args below meth c D 17 a (cM cI cZ a) (AA 17 a s.heap.size) 12 0 0 (fun res => MQ below (va_Qi (fun r u => (r, u) = res) (Bw D (tyW cI cZ cO) 17 a (cM cI cZ a) (AA 17 a s.heap.size)) (AA 17 a s.heap.size)) args s 0 0 (AA 17 a s.heap.size)) (bX9_find_308 k37 k308 x1 x2 x3 x4 x5 x6 x7 x8 S) 308 [(0, .ref (a 0)), (1, .int x1), (2, .int x2), (3, .int x3), (4, .int x4), (5, .int x5), (6, .int x6), (7, .int x7), (8, .int x8)] [] S := by
  unfold bX9_find_308
  refine g_iload (j := 8) hc dX9_find_308 rfl ?_
  refine g_iload_n (j := 2) hc dX9_find_310 rfl rfl ?_
  refine g_icmp_ge (tgt := 358) hc dX9_find_311 (by decide) ?_ ?_
  · refine g_iload (j := 7) hc dX9_find_358 rfl ?_
    refine g_ldc (v := 1000000) hc dX9_find_360 (List.mem_of_getElem? (i := 5) rfl) ?_
    refine g_icmp_lt (tgt := 367) hc dX9_find_362 (by decide) ?_ ?_
    · refine g_iload_n (j := 3) hc dX9_find_367 rfl rfl ?_
      refine g_iload (j := 7) hc dX9_find_368 rfl ?_
      refine g_iadd hc dX9_find_370 ?_
      refine g_istore_n (L := fun v1 => [(3, .int v1), (0, .ref (a 0)), (1, .int x1), (2, .int x2), (4, .int x4), (5, .int x5), (6, .int x6), (7, .int x7), (8, .int x8)]) hc dX9_find_371 rfl (by decide) (fun _ => rfl) (fun v1 => ?_)
      refine g_iconst (v := 0) hc dX9_find_372 (by decide) ?_
      refine g_istore (L := fun v2 => [(8, .int v2), (3, .int v1), (0, .ref (a 0)), (1, .int x1), (2, .int x2), (4, .int x4), (5, .int x5), (6, .int x6), (7, .int x7)]) hc dX9_find_373 (by decide) (fun _ => rfl) (fun v2 => ?_)
      refine g_lv [2, 3, 4, 1, 5, 6, 7, 8, 0] rfl ?_
      exact TX9_find_375 hc hr hlk hE k37 hk37 FU x1 x2 v1 x4 x5 x6 x7 v2 S
    · refine g_iconst (v := -1) hc dX9_find_365 (by decide) ?_
      exact g_iret hc hr hlk dX9_find_366
  · refine g_aload_n (j := 0) hc dX9_find_314 rfl rfl ?_
    refine g_get (C0 := RX9) (T := TX9) (M := 24) (k := 0) (ci := 9) hc inX9_find_X9 (by decide) rfl rfl 22 (by decide) (List.mem_of_getElem? (i := 4) rfl) rfl rfl dX9_find_315 ?_
    refine g_iload (j := 8) hc dX9_find_318 rfl ?_
    refine g_iald (k := 15) (t0 := 0) hc (by decide) rfl rfl dX9_find_320 ?_
    refine g_iload (j := 8) hc dX9_find_321 rfl ?_
    refine g_callSi (As := [.int x8]) (rest := [.int (S 15 x8.toNatClampNeg)]) hc hE trM rfl (fun _ h => mX9_newly x8 S _ h) (va_cwS 1 hc.1.2.2.2.2 gX9_find_X9_newly rfl rfl rfl (by decide +kernel) ⟨by decide, by decide⟩) rfl rfl (Nat.le_of_ble_eq_true rfl) dX9_find_323 ⟨by decide, by decide⟩ (fun v3 S4 => ?_)
    refine g_iload_n (j := 2) hc dX9_find_326 rfl rfl ?_
    refine g_iconst (v := 1) hc dX9_find_327 (by decide) ?_
    refine g_isub hc dX9_find_328 ?_
    refine g_iand hc dX9_find_329 ?_
    refine g_callSi (As := [.int (v3 &&& (x2 - 1))]) (rest := [.int (S 15 x8.toNatClampNeg)]) hc hE trM rfl (fun _ h => mX9_ones (v3 &&& (x2 - 1)) S4 _ h) (va_cwS 1 hc.1.2.2.2.2 gX9_find_X9_ones rfl rfl rfl (by decide +kernel) ⟨by decide, by decide⟩) rfl rfl (Nat.le_of_ble_eq_true rfl) dX9_find_330 ⟨by decide, by decide⟩ (fun v5 S6 => ?_)
    refine g_iadd hc dX9_find_333 ?_
    refine g_istore (L := fun v7 => [(9, .int v7), (0, .ref (a 0)), (1, .int x1), (2, .int x2), (3, .int x3), (4, .int x4), (5, .int x5), (6, .int x6), (7, .int x7), (8, .int x8)]) hc dX9_find_334 (by decide) (fun _ => rfl) (fun v7 => ?_)
    refine g_iload (j := 0) hc dX9_find_336 rfl ?_
    refine g_iload (j := 8) hc dX9_find_338 rfl ?_
    refine g_icmp_ge (tgt := 348) hc dX9_find_340 (by decide) ?_ ?_
    · refine g_iload (j := 8) hc dX9_find_348 rfl ?_
      refine g_lv [1, 2, 3, 4, 5, 6, 7, 9] rfl ?_
      exact tX9_find_350 hc hr hlk hE k37 hk37 k308 hk308 x1 x2 x3 x4 x5 x6 x8 x7 S6
    · refine g_iload (j := 0) hc dX9_find_343 rfl ?_
      refine g_goto (tgt := 350) hc dX9_find_345 (by decide) ?_
      refine g_lv [1, 2, 3, 4, 5, 6, 7, 9] rfl ?_
      exact tX9_find_350 hc hr hlk hE k37 hk37 k308 hk308 x1 x2 x3 x4 x5 x6 x8 v7 S6
set_option maxHeartbeats 4000000 in
set_option maxRecDepth 100000 in
theorem TX9_find_308 {p : Program} {e : Env} {s : State} {m : MethodId} {args : Array Value} {below : List Frame} {meth : Method} {c : Code} (hc : CT p s m args c cX9_find 12 RX9 wsX9_find D (tyW cI cZ cO)) (hr : meth.sig.returnType = (some .int)) (hlk : meth.locks = false) (hE : EvM (AA 17 a s.heap.size) s) (k37 : Int32 → Int32 → Int32 → Int32 → St → Option (Int32 × St)) (hk37 : ∀ (x1 : Int32) (x2 : Int32) (x3 : Int32) (x4 : Int32) (S : St), GF p l e rX9_find s m args below meth c D 17 a (cM cI cZ a) (AA 17 a s.heap.size) 12 0 0 (fun res => MQ below (va_Qi (fun r u => (r, u) = res) (Bw D (tyW cI cZ cO) 17 a (cM cI cZ a) (AA 17 a s.heap.size)) (AA 17 a s.heap.size)) args s 0 0 (AA 17 a s.heap.size)) (k37 x1 x2 x3 x4 S) 37 [(0, .ref (a 0)), (1, .int x1), (2, .int x2), (3, .int x3), (4, .int x4)] [] S) (n : Nat) (x1 : Int32) (x2 : Int32) (x3 : Int32) (x4 : Int32) (x5 : Int32) (x6 : Int32) (x7 : Int32) (x8 : Int32) (S : St) : GF p l e rX9_find s m args below meth c D 17 a (cM cI cZ a) (AA 17 a s.heap.size) 12 0 0 (fun res => MQ below (va_Qi (fun r u => (r, u) = res) (Bw D (tyW cI cZ cO) 17 a (cM cI cZ a) (AA 17 a s.heap.size)) (AA 17 a s.heap.size)) args s 0 0 (AA 17 a s.heap.size)) (lX9_find_308 k37 n x1 x2 x3 x4 x5 x6 x7 x8 S) 308 [(0, .ref (a 0)), (1, .int x1), (2, .int x2), (3, .int x3), (4, .int x4), (5, .int x5), (6, .int x6), (7, .int x7), (8, .int x8)] [] S :=
  lp_ind (P := fun k : Int32 → Int32 → Int32 → Int32 → Int32 → Int32 → Int32 → Int32 → St → Option (Int32 × St) => ∀ (x1 : Int32) (x2 : Int32) (x3 : Int32) (x4 : Int32) (x5 : Int32) (x6 : Int32) (x7 : Int32) (x8 : Int32) (S : St), GF p l e rX9_find s m args below meth c D 17 a (cM cI cZ a) (AA 17 a s.heap.size) 12 0 0 (fun res => MQ below (va_Qi (fun r u => (r, u) = res) (Bw D (tyW cI cZ cO) 17 a (cM cI cZ a) (AA 17 a s.heap.size)) (AA 17 a s.heap.size)) args s 0 0 (AA 17 a s.heap.size)) (k x1 x2 x3 x4 x5 x6 x7 x8 S) 308 [(0, .ref (a 0)), (1, .int x1), (2, .int x2), (3, .int x3), (4, .int x4), (5, .int x5), (6, .int x6), (7, .int x7), (8, .int x8)] [] S) (fun _ _ _ _ _ _ _ _ _ => g_none) (fun k308 hk308 => tX9_find_308 hc hr hlk hE k37 hk37 k308 hk308) n x1 x2 x3 x4 x5 x6 x7 x8 S
set_option maxHeartbeats 4000000 in
set_option maxRecDepth 100000 in
theorem tX9_find_286 {p : Program} {e : Env} {s : State} {m : MethodId} {args : Array Value} {below : List Frame} {meth : Method} {c : Code} (hc : CT p s m args c cX9_find 12 RX9 wsX9_find D (tyW cI cZ cO)) (hr : meth.sig.returnType = (some .int)) (hlk : meth.locks = false) (hE : EvM (AA 17 a s.heap.size) s) (k37 : Int32 → Int32 → Int32 → Int32 → St → Option (Int32 × St)) (hk37 : ∀ (x1 : Int32) (x2 : Int32) (x3 : Int32) (x4 : Int32) (S : St), GF p l e rX9_find s m args below meth c D 17 a (cM cI cZ a) (AA 17 a s.heap.size) 12 0 0 (fun res => MQ below (va_Qi (fun r u => (r, u) = res) (Bw D (tyW cI cZ cO) 17 a (cM cI cZ a) (AA 17 a s.heap.size)) (AA 17 a s.heap.size)) args s 0 0 (AA 17 a s.heap.size)) (k37 x1 x2 x3 x4 S) 37 [(0, .ref (a 0)), (1, .int x1), (2, .int x2), (3, .int x3), (4, .int x4)] [] S) (k91 : Int32 → Int32 → Int32 → Int32 → Int32 → Int32 → St → Option (Int32 × St)) (hk91 : ∀ (x1 : Int32) (x2 : Int32) (x3 : Int32) (x4 : Int32) (x5 : Int32) (x6 : Int32) (S : St), GF p l e rX9_find s m args below meth c D 17 a (cM cI cZ a) (AA 17 a s.heap.size) 12 0 0 (fun res => MQ below (va_Qi (fun r u => (r, u) = res) (Bw D (tyW cI cZ cO) 17 a (cM cI cZ a) (AA 17 a s.heap.size)) (AA 17 a s.heap.size)) args s 0 0 (AA 17 a s.heap.size)) (k91 x1 x2 x3 x4 x5 x6 S) 91 [(0, .ref (a 0)), (1, .int x1), (2, .int x2), (3, .int x3), (4, .int x4), (5, .int x5), (6, .int x6)] [] S) (k99 : Int32 → Int32 → Int32 → Int32 → Int32 → Int32 → Int32 → St → Option (Int32 × St)) (hk99 : ∀ (x1 : Int32) (x2 : Int32) (x3 : Int32) (x4 : Int32) (x5 : Int32) (x6 : Int32) (x7 : Int32) (S : St), GF p l e rX9_find s m args below meth c D 17 a (cM cI cZ a) (AA 17 a s.heap.size) 12 0 0 (fun res => MQ below (va_Qi (fun r u => (r, u) = res) (Bw D (tyW cI cZ cO) 17 a (cM cI cZ a) (AA 17 a s.heap.size)) (AA 17 a s.heap.size)) args s 0 0 (AA 17 a s.heap.size)) (k99 x1 x2 x3 x4 x5 x6 x7 S) 99 [(0, .ref (a 0)), (1, .int x1), (2, .int x2), (3, .int x3), (4, .int x4), (5, .int x5), (6, .int x6), (7, .int x7)] [] S) (x1 : Int32) (x2 : Int32) (x3 : Int32) (x4 : Int32) (x5 : Int32) (x6 : Int32) (x7 : Int32) (S : St) : GF p l e rX9_find s m args below meth c D 17 a (cM cI cZ a) (AA 17 a s.heap.size) 12 0 0 (fun res => MQ below (va_Qi (fun r u => (r, u) = res) (Bw D (tyW cI cZ cO) 17 a (cM cI cZ a) (AA 17 a s.heap.size)) (AA 17 a s.heap.size)) args s 0 0 (AA 17 a s.heap.size)) (bX9_find_286 k37 k91 k99 x1 x2 x3 x4 x5 x6 x7 S) 286 [(0, .ref (a 0)), (1, .int x1), (2, .int x2), (3, .int x3), (4, .int x4), (5, .int x5), (6, .int x6), (7, .int x7)] [] S := by
  unfold bX9_find_286
  refine g_iinc (j := 7) (w := x7 + 1) (L := fun v1 => [(7, .int v1), (0, .ref (a 0)), (1, .int x1), (2, .int x2), (3, .int x3), (4, .int x4), (5, .int x5), (6, .int x6)]) hc dX9_find_286 rfl (by rfl) (by decide) (fun _ => rfl) (fun v1 => ?_)
  refine g_goto (tgt := 99) hc dX9_find_289 (by decide) ?_
  refine g_lv [1, 2, 3, 4, 5, 6, 7, 0] rfl ?_
  exact hk99 x1 x2 x3 x4 x5 x6 v1 S
set_option maxHeartbeats 4000000 in
set_option maxRecDepth 100000 in
theorem tX9_find_271 {p : Program} {e : Env} {s : State} {m : MethodId} {args : Array Value} {below : List Frame} {meth : Method} {c : Code} (hc : CT p s m args c cX9_find 12 RX9 wsX9_find D (tyW cI cZ cO)) (hr : meth.sig.returnType = (some .int)) (hlk : meth.locks = false) (hE : EvM (AA 17 a s.heap.size) s) (k37 : Int32 → Int32 → Int32 → Int32 → St → Option (Int32 × St)) (hk37 : ∀ (x1 : Int32) (x2 : Int32) (x3 : Int32) (x4 : Int32) (S : St), GF p l e rX9_find s m args below meth c D 17 a (cM cI cZ a) (AA 17 a s.heap.size) 12 0 0 (fun res => MQ below (va_Qi (fun r u => (r, u) = res) (Bw D (tyW cI cZ cO) 17 a (cM cI cZ a) (AA 17 a s.heap.size)) (AA 17 a s.heap.size)) args s 0 0 (AA 17 a s.heap.size)) (k37 x1 x2 x3 x4 S) 37 [(0, .ref (a 0)), (1, .int x1), (2, .int x2), (3, .int x3), (4, .int x4)] [] S) (k91 : Int32 → Int32 → Int32 → Int32 → Int32 → Int32 → St → Option (Int32 × St)) (hk91 : ∀ (x1 : Int32) (x2 : Int32) (x3 : Int32) (x4 : Int32) (x5 : Int32) (x6 : Int32) (S : St), GF p l e rX9_find s m args below meth c D 17 a (cM cI cZ a) (AA 17 a s.heap.size) 12 0 0 (fun res => MQ below (va_Qi (fun r u => (r, u) = res) (Bw D (tyW cI cZ cO) 17 a (cM cI cZ a) (AA 17 a s.heap.size)) (AA 17 a s.heap.size)) args s 0 0 (AA 17 a s.heap.size)) (k91 x1 x2 x3 x4 x5 x6 S) 91 [(0, .ref (a 0)), (1, .int x1), (2, .int x2), (3, .int x3), (4, .int x4), (5, .int x5), (6, .int x6)] [] S) (k99 : Int32 → Int32 → Int32 → Int32 → Int32 → Int32 → Int32 → St → Option (Int32 × St)) (hk99 : ∀ (x1 : Int32) (x2 : Int32) (x3 : Int32) (x4 : Int32) (x5 : Int32) (x6 : Int32) (x7 : Int32) (S : St), GF p l e rX9_find s m args below meth c D 17 a (cM cI cZ a) (AA 17 a s.heap.size) 12 0 0 (fun res => MQ below (va_Qi (fun r u => (r, u) = res) (Bw D (tyW cI cZ cO) 17 a (cM cI cZ a) (AA 17 a s.heap.size)) (AA 17 a s.heap.size)) args s 0 0 (AA 17 a s.heap.size)) (k99 x1 x2 x3 x4 x5 x6 x7 S) 99 [(0, .ref (a 0)), (1, .int x1), (2, .int x2), (3, .int x3), (4, .int x4), (5, .int x5), (6, .int x6), (7, .int x7)] [] S) (x1 : Int32) (x2 : Int32) (x3 : Int32) (x4 : Int32) (x5 : Int32) (x6 : Int32) (x7 : Int32) (x9 : Int32) (S : St) : GF p l e rX9_find s m args below meth c D 17 a (cM cI cZ a) (AA 17 a s.heap.size) 12 0 0 (fun res => MQ below (va_Qi (fun r u => (r, u) = res) (Bw D (tyW cI cZ cO) 17 a (cM cI cZ a) (AA 17 a s.heap.size)) (AA 17 a s.heap.size)) args s 0 0 (AA 17 a s.heap.size)) (bX9_find_271 k37 k91 k99 x1 x2 x3 x4 x5 x6 x7 x9 S) 271 [(0, .ref (a 0)), (1, .int x1), (2, .int x2), (3, .int x3), (4, .int x4), (5, .int x5), (6, .int x6), (7, .int x7), (9, .int x9)] [] S := by
  unfold bX9_find_271
  refine g_aload_n (j := 0) hc dX9_find_271 rfl rfl ?_
  refine g_get (C0 := RX9) (T := TX9) (M := 24) (k := 0) (ci := 9) hc inX9_find_X9 (by decide) rfl rfl 22 (by decide) (List.mem_of_getElem? (i := 4) rfl) rfl rfl dX9_find_272 ?_
  refine g_bipush (v := 16) hc dX9_find_275 (by decide) ?_
  refine g_iload (j := 6) hc dX9_find_277 rfl ?_
  refine g_imul hc dX9_find_279 ?_
  refine g_iload (j := 7) hc dX9_find_280 rfl ?_
  refine g_iadd hc dX9_find_282 ?_
  refine g_iload (j := 8) hc dX9_find_283 rfl ?_
  refine g_iast (k := 15) (t0 := 0) hc locM (by decide) rfl rfl rfl dX9_find_285 (fun S1 => ?_)
  refine g_lv [0, 1, 2, 3, 4, 5, 6, 7] rfl ?_
  exact tX9_find_286 hc hr hlk hE k37 hk37 k91 hk91 k99 hk99 x1 x2 x3 x4 x5 x6 x7 S1
set_option maxHeartbeats 4000000 in
set_option maxRecDepth 100000 in
theorem tX9_find_263 {p : Program} {e : Env} {s : State} {m : MethodId} {args : Array Value} {below : List Frame} {meth : Method} {c : Code} (hc : CT p s m args c cX9_find 12 RX9 wsX9_find D (tyW cI cZ cO)) (hr : meth.sig.returnType = (some .int)) (hlk : meth.locks = false) (hE : EvM (AA 17 a s.heap.size) s) (k37 : Int32 → Int32 → Int32 → Int32 → St → Option (Int32 × St)) (hk37 : ∀ (x1 : Int32) (x2 : Int32) (x3 : Int32) (x4 : Int32) (S : St), GF p l e rX9_find s m args below meth c D 17 a (cM cI cZ a) (AA 17 a s.heap.size) 12 0 0 (fun res => MQ below (va_Qi (fun r u => (r, u) = res) (Bw D (tyW cI cZ cO) 17 a (cM cI cZ a) (AA 17 a s.heap.size)) (AA 17 a s.heap.size)) args s 0 0 (AA 17 a s.heap.size)) (k37 x1 x2 x3 x4 S) 37 [(0, .ref (a 0)), (1, .int x1), (2, .int x2), (3, .int x3), (4, .int x4)] [] S) (k91 : Int32 → Int32 → Int32 → Int32 → Int32 → Int32 → St → Option (Int32 × St)) (hk91 : ∀ (x1 : Int32) (x2 : Int32) (x3 : Int32) (x4 : Int32) (x5 : Int32) (x6 : Int32) (S : St), GF p l e rX9_find s m args below meth c D 17 a (cM cI cZ a) (AA 17 a s.heap.size) 12 0 0 (fun res => MQ below (va_Qi (fun r u => (r, u) = res) (Bw D (tyW cI cZ cO) 17 a (cM cI cZ a) (AA 17 a s.heap.size)) (AA 17 a s.heap.size)) args s 0 0 (AA 17 a s.heap.size)) (k91 x1 x2 x3 x4 x5 x6 S) 91 [(0, .ref (a 0)), (1, .int x1), (2, .int x2), (3, .int x3), (4, .int x4), (5, .int x5), (6, .int x6)] [] S) (k99 : Int32 → Int32 → Int32 → Int32 → Int32 → Int32 → Int32 → St → Option (Int32 × St)) (hk99 : ∀ (x1 : Int32) (x2 : Int32) (x3 : Int32) (x4 : Int32) (x5 : Int32) (x6 : Int32) (x7 : Int32) (S : St), GF p l e rX9_find s m args below meth c D 17 a (cM cI cZ a) (AA 17 a s.heap.size) 12 0 0 (fun res => MQ below (va_Qi (fun r u => (r, u) = res) (Bw D (tyW cI cZ cO) 17 a (cM cI cZ a) (AA 17 a s.heap.size)) (AA 17 a s.heap.size)) args s 0 0 (AA 17 a s.heap.size)) (k99 x1 x2 x3 x4 x5 x6 x7 S) 99 [(0, .ref (a 0)), (1, .int x1), (2, .int x2), (3, .int x3), (4, .int x4), (5, .int x5), (6, .int x6), (7, .int x7)] [] S) (k195 : Int32 → Int32 → Int32 → Int32 → Int32 → Int32 → Int32 → Int32 → Int32 → St → Option (Int32 × St)) (hk195 : ∀ (x1 : Int32) (x2 : Int32) (x3 : Int32) (x4 : Int32) (x5 : Int32) (x6 : Int32) (x7 : Int32) (x9 : Int32) (x10 : Int32) (S : St), GF p l e rX9_find s m args below meth c D 17 a (cM cI cZ a) (AA 17 a s.heap.size) 12 0 0 (fun res => MQ below (va_Qi (fun r u => (r, u) = res) (Bw D (tyW cI cZ cO) 17 a (cM cI cZ a) (AA 17 a s.heap.size)) (AA 17 a s.heap.size)) args s 0 0 (AA 17 a s.heap.size)) (k195 x1 x2 x3 x4 x5 x6 x7 x9 x10 S) 195 [(0, .ref (a 0)), (1, .int x1), (2, .int x2), (3, .int x3), (4, .int x4), (5, .int x5), (6, .int x6), (7, .int x7), (9, .int x9), (10, .int x10)] [] S) (x1 : Int32) (x2 : Int32) (x3 : Int32) (x4 : Int32) (x5 : Int32) (x6 : Int32) (x7 : Int32) (x10 : Int32) (y0 : Int32) (S : St) : GF p l e rX9_find s m args below meth c D 17 a (cM cI cZ a) (AA 17 a s.heap.size) 12 0 0 (fun res => MQ below (va_Qi (fun r u => (r, u) = res) (Bw D (tyW cI cZ cO) 17 a (cM cI cZ a) (AA 17 a s.heap.size)) (AA 17 a s.heap.size)) args s 0 0 (AA 17 a s.heap.size)) (bX9_find_263 k37 k91 k99 k195 x1 x2 x3 x4 x5 x6 x7 x10 y0 S) 263 [(0, .ref (a 0)), (1, .int x1), (2, .int x2), (3, .int x3), (4, .int x4), (5, .int x5), (6, .int x6), (7, .int x7), (10, .int x10)] [.int y0] S := by
  unfold bX9_find_263
  refine g_istore (L := fun v1 => [(9, .int v1), (0, .ref (a 0)), (1, .int x1), (2, .int x2), (3, .int x3), (4, .int x4), (5, .int x5), (6, .int x6), (7, .int x7), (10, .int x10)]) hc dX9_find_263 (by decide) (fun _ => rfl) (fun v1 => ?_)
  refine g_iinc (j := 9) (w := x10 + 1) (L := fun v2 => [(10, .int v2), (9, .int v1), (0, .ref (a 0)), (1, .int x1), (2, .int x2), (3, .int x3), (4, .int x4), (5, .int x5), (6, .int x6), (7, .int x7)]) hc dX9_find_265 rfl (by rfl) (by decide) (fun _ => rfl) (fun v2 => ?_)
  refine g_goto (tgt := 195) hc dX9_find_268 (by decide) ?_
  refine g_lv [2, 3, 4, 5, 6, 7, 8, 9, 1, 0] rfl ?_
  exact hk195 x1 x2 x3 x4 x5 x6 x7 v1 v2 S
set_option maxHeartbeats 4000000 in
set_option maxRecDepth 100000 in
theorem tX9_find_195 {p : Program} {e : Env} {s : State} {m : MethodId} {args : Array Value} {below : List Frame} {meth : Method} {c : Code} (hc : CT p s m args c cX9_find 12 RX9 wsX9_find D (tyW cI cZ cO)) (hr : meth.sig.returnType = (some .int)) (hlk : meth.locks = false) (hE : EvM (AA 17 a s.heap.size) s) (k37 : Int32 → Int32 → Int32 → Int32 → St → Option (Int32 × St)) (hk37 : ∀ (x1 : Int32) (x2 : Int32) (x3 : Int32) (x4 : Int32) (S : St), GF p l e rX9_find s m args below meth c D 17 a (cM cI cZ a) (AA 17 a s.heap.size) 12 0 0 (fun res => MQ below (va_Qi (fun r u => (r, u) = res) (Bw D (tyW cI cZ cO) 17 a (cM cI cZ a) (AA 17 a s.heap.size)) (AA 17 a s.heap.size)) args s 0 0 (AA 17 a s.heap.size)) (k37 x1 x2 x3 x4 S) 37 [(0, .ref (a 0)), (1, .int x1), (2, .int x2), (3, .int x3), (4, .int x4)] [] S) (k91 : Int32 → Int32 → Int32 → Int32 → Int32 → Int32 → St → Option (Int32 × St)) (hk91 : ∀ (x1 : Int32) (x2 : Int32) (x3 : Int32) (x4 : Int32) (x5 : Int32) (x6 : Int32) (S : St), GF p l e rX9_find s m args below meth c D 17 a (cM cI cZ a) (AA 17 a s.heap.size) 12 0 0 (fun res => MQ below (va_Qi (fun r u => (r, u) = res) (Bw D (tyW cI cZ cO) 17 a (cM cI cZ a) (AA 17 a s.heap.size)) (AA 17 a s.heap.size)) args s 0 0 (AA 17 a s.heap.size)) (k91 x1 x2 x3 x4 x5 x6 S) 91 [(0, .ref (a 0)), (1, .int x1), (2, .int x2), (3, .int x3), (4, .int x4), (5, .int x5), (6, .int x6)] [] S) (k99 : Int32 → Int32 → Int32 → Int32 → Int32 → Int32 → Int32 → St → Option (Int32 × St)) (hk99 : ∀ (x1 : Int32) (x2 : Int32) (x3 : Int32) (x4 : Int32) (x5 : Int32) (x6 : Int32) (x7 : Int32) (S : St), GF p l e rX9_find s m args below meth c D 17 a (cM cI cZ a) (AA 17 a s.heap.size) 12 0 0 (fun res => MQ below (va_Qi (fun r u => (r, u) = res) (Bw D (tyW cI cZ cO) 17 a (cM cI cZ a) (AA 17 a s.heap.size)) (AA 17 a s.heap.size)) args s 0 0 (AA 17 a s.heap.size)) (k99 x1 x2 x3 x4 x5 x6 x7 S) 99 [(0, .ref (a 0)), (1, .int x1), (2, .int x2), (3, .int x3), (4, .int x4), (5, .int x5), (6, .int x6), (7, .int x7)] [] S) (k195 : Int32 → Int32 → Int32 → Int32 → Int32 → Int32 → Int32 → Int32 → Int32 → St → Option (Int32 × St)) (hk195 : ∀ (x1 : Int32) (x2 : Int32) (x3 : Int32) (x4 : Int32) (x5 : Int32) (x6 : Int32) (x7 : Int32) (x9 : Int32) (x10 : Int32) (S : St), GF p l e rX9_find s m args below meth c D 17 a (cM cI cZ a) (AA 17 a s.heap.size) 12 0 0 (fun res => MQ below (va_Qi (fun r u => (r, u) = res) (Bw D (tyW cI cZ cO) 17 a (cM cI cZ a) (AA 17 a s.heap.size)) (AA 17 a s.heap.size)) args s 0 0 (AA 17 a s.heap.size)) (k195 x1 x2 x3 x4 x5 x6 x7 x9 x10 S) 195 [(0, .ref (a 0)), (1, .int x1), (2, .int x2), (3, .int x3), (4, .int x4), (5, .int x5), (6, .int x6), (7, .int x7), (9, .int x9), (10, .int x10)] [] S) (x1 : Int32) (x2 : Int32) (x3 : Int32) (x4 : Int32) (x5 : Int32) (x6 : Int32) (x7 : Int32) (x9 : Int32) (x10 : Int32) (S : St) : GF p l e rX9_find s m args below meth c D 17 a (cM cI cZ a) (AA 17 a s.heap.size) 12 0 0 (fun res => MQ below (va_Qi (fun r u => (r, u) = res) (Bw D (tyW cI cZ cO) 17 a (cM cI cZ a) (AA 17 a s.heap.size)) (AA 17 a s.heap.size)) args s 0 0 (AA 17 a s.heap.size)) (bX9_find_195 k37 k91 k99 k195 x1 x2 x3 x4 x5 x6 x7 x9 x10 S) 195 [(0, .ref (a 0)), (1, .int x1), (2, .int x2), (3, .int x3), (4, .int x4), (5, .int x5), (6, .int x6), (7, .int x7), (9, .int x9), (10, .int x10)] [] S := by
  unfold bX9_find_195
  refine g_iload (j := 6) hc dX9_find_195 rfl ?_
  refine g_iload (j := 5) hc dX9_find_197 rfl ?_
  refine g_iconst (v := 1) hc dX9_find_199 (by decide) ?_
  refine g_isub hc dX9_find_200 ?_
  refine g_icmp_ge (tgt := 271) hc dX9_find_201 (by decide) ?_ ?_
  · refine g_lv [0, 1, 2, 3, 4, 5, 6, 7, 8] rfl ?_
    exact tX9_find_271 hc hr hlk hE k37 hk37 k91 hk91 k99 hk99 x1 x2 x3 x4 x5 x6 x7 x9 S
  · refine g_iload (j := 9) hc dX9_find_204 rfl ?_
    refine g_iload_n (j := 2) hc dX9_find_206 rfl rfl ?_
    refine g_icmp_ge (tgt := 271) hc dX9_find_207 (by decide) ?_ ?_
    · refine g_lv [0, 1, 2, 3, 4, 5, 6, 7, 8] rfl ?_
      exact tX9_find_271 hc hr hlk hE k37 hk37 k91 hk91 k99 hk99 x1 x2 x3 x4 x5 x6 x7 x9 S
    · refine g_aload_n (j := 0) hc dX9_find_210 rfl rfl ?_
      refine g_get (C0 := RX9) (T := TX9) (M := 24) (k := 0) (ci := 9) hc inX9_find_X9 (by decide) rfl rfl 22 (by decide) (List.mem_of_getElem? (i := 4) rfl) rfl rfl dX9_find_211 ?_
      refine g_bipush (v := 16) hc dX9_find_214 (by decide) ?_
      refine g_iload (j := 6) hc dX9_find_216 rfl ?_
      refine g_imul hc dX9_find_218 ?_
      refine g_bipush (v := 16) hc dX9_find_219 (by decide) ?_
      refine g_iadd hc dX9_find_221 ?_
      refine g_iload (j := 9) hc dX9_find_222 rfl ?_
      refine g_iadd hc dX9_find_224 ?_
      refine g_iald (k := 15) (t0 := 0) hc (by decide) rfl rfl dX9_find_225 ?_
      refine g_iload (j := 9) hc dX9_find_226 rfl ?_
      refine g_callSi (As := [.int x10]) (rest := [.int (S 15 (((16 * x6) + 16) + x10).toNatClampNeg)]) hc hE trM rfl (fun _ h => mX9_newly x10 S _ h) (va_cwS 1 hc.1.2.2.2.2 gX9_find_X9_newly rfl rfl rfl (by decide +kernel) ⟨by decide, by decide⟩) rfl rfl (Nat.le_of_ble_eq_true rfl) dX9_find_228 ⟨by decide, by decide⟩ (fun v1 S2 => ?_)
      refine g_iload (j := 7) hc dX9_find_231 rfl ?_
      refine g_callSi (As := [.int x7]) (rest := [.int v1, .int (S 15 (((16 * x6) + 16) + x10).toNatClampNeg)]) hc hE trM rfl (fun _ h => mX9_newly x7 S2 _ h) (va_cwS 1 hc.1.2.2.2.2 gX9_find_X9_newly rfl rfl rfl (by decide +kernel) ⟨by decide, by decide⟩) rfl rfl (Nat.le_of_ble_eq_true rfl) dX9_find_233 ⟨by decide, by decide⟩ (fun v3 S4 => ?_)
      refine g_iconst (v := -1) hc dX9_find_236 (by decide) ?_
      refine g_ixor hc dX9_find_237 ?_
      refine g_iand hc dX9_find_238 ?_
      refine g_iload_n (j := 2) hc dX9_find_239 rfl rfl ?_
      refine g_iconst (v := 1) hc dX9_find_240 (by decide) ?_
      refine g_isub hc dX9_find_241 ?_
      refine g_iand hc dX9_find_242 ?_
      refine g_callSi (As := [.int ((v1 &&& (v3 ^^^ ((-1)))) &&& (x2 - 1))]) (rest := [.int (S 15 (((16 * x6) + 16) + x10).toNatClampNeg)]) hc hE trM rfl (fun _ h => mX9_ones ((v1 &&& (v3 ^^^ ((-1)))) &&& (x2 - 1)) S4 _ h) (va_cwS 1 hc.1.2.2.2.2 gX9_find_X9_ones rfl rfl rfl (by decide +kernel) ⟨by decide, by decide⟩) rfl rfl (Nat.le_of_ble_eq_true rfl) dX9_find_243 ⟨by decide, by decide⟩ (fun v5 S6 => ?_)
      refine g_iadd hc dX9_find_246 ?_
      refine g_istore (L := fun v7 => [(11, .int v7), (0, .ref (a 0)), (1, .int x1), (2, .int x2), (3, .int x3), (4, .int x4), (5, .int x5), (6, .int x6), (7, .int x7), (9, .int x9), (10, .int x10)]) hc dX9_find_247 (by decide) (fun _ => rfl) (fun v7 => ?_)
      refine g_iload (j := 0) hc dX9_find_249 rfl ?_
      refine g_iload (j := 9) hc dX9_find_251 rfl ?_
      refine g_icmp_ge (tgt := 261) hc dX9_find_253 (by decide) ?_ ?_
      · refine g_iload (j := 9) hc dX9_find_261 rfl ?_
        refine g_lv [1, 2, 3, 4, 5, 6, 7, 8, 10] rfl ?_
        exact tX9_find_263 hc hr hlk hE k37 hk37 k91 hk91 k99 hk99 k195 hk195 x1 x2 x3 x4 x5 x6 x7 x10 x9 S6
      · refine g_iload (j := 0) hc dX9_find_256 rfl ?_
        refine g_goto (tgt := 263) hc dX9_find_258 (by decide) ?_
        refine g_lv [1, 2, 3, 4, 5, 6, 7, 8, 10] rfl ?_
        exact tX9_find_263 hc hr hlk hE k37 hk37 k91 hk91 k99 hk99 k195 hk195 x1 x2 x3 x4 x5 x6 x7 x10 v7 S6
set_option maxHeartbeats 4000000 in
set_option maxRecDepth 100000 in
theorem TX9_find_195 {p : Program} {e : Env} {s : State} {m : MethodId} {args : Array Value} {below : List Frame} {meth : Method} {c : Code} (hc : CT p s m args c cX9_find 12 RX9 wsX9_find D (tyW cI cZ cO)) (hr : meth.sig.returnType = (some .int)) (hlk : meth.locks = false) (hE : EvM (AA 17 a s.heap.size) s) (k37 : Int32 → Int32 → Int32 → Int32 → St → Option (Int32 × St)) (hk37 : ∀ (x1 : Int32) (x2 : Int32) (x3 : Int32) (x4 : Int32) (S : St), GF p l e rX9_find s m args below meth c D 17 a (cM cI cZ a) (AA 17 a s.heap.size) 12 0 0 (fun res => MQ below (va_Qi (fun r u => (r, u) = res) (Bw D (tyW cI cZ cO) 17 a (cM cI cZ a) (AA 17 a s.heap.size)) (AA 17 a s.heap.size)) args s 0 0 (AA 17 a s.heap.size)) (k37 x1 x2 x3 x4 S) 37 [(0, .ref (a 0)), (1, .int x1), (2, .int x2), (3, .int x3), (4, .int x4)] [] S) (k91 : Int32 → Int32 → Int32 → Int32 → Int32 → Int32 → St → Option (Int32 × St)) (hk91 : ∀ (x1 : Int32) (x2 : Int32) (x3 : Int32) (x4 : Int32) (x5 : Int32) (x6 : Int32) (S : St), GF p l e rX9_find s m args below meth c D 17 a (cM cI cZ a) (AA 17 a s.heap.size) 12 0 0 (fun res => MQ below (va_Qi (fun r u => (r, u) = res) (Bw D (tyW cI cZ cO) 17 a (cM cI cZ a) (AA 17 a s.heap.size)) (AA 17 a s.heap.size)) args s 0 0 (AA 17 a s.heap.size)) (k91 x1 x2 x3 x4 x5 x6 S) 91 [(0, .ref (a 0)), (1, .int x1), (2, .int x2), (3, .int x3), (4, .int x4), (5, .int x5), (6, .int x6)] [] S) (k99 : Int32 → Int32 → Int32 → Int32 → Int32 → Int32 → Int32 → St → Option (Int32 × St)) (hk99 : ∀ (x1 : Int32) (x2 : Int32) (x3 : Int32) (x4 : Int32) (x5 : Int32) (x6 : Int32) (x7 : Int32) (S : St), GF p l e rX9_find s m args below meth c D 17 a (cM cI cZ a) (AA 17 a s.heap.size) 12 0 0 (fun res => MQ below (va_Qi (fun r u => (r, u) = res) (Bw D (tyW cI cZ cO) 17 a (cM cI cZ a) (AA 17 a s.heap.size)) (AA 17 a s.heap.size)) args s 0 0 (AA 17 a s.heap.size)) (k99 x1 x2 x3 x4 x5 x6 x7 S) 99 [(0, .ref (a 0)), (1, .int x1), (2, .int x2), (3, .int x3), (4, .int x4), (5, .int x5), (6, .int x6), (7, .int x7)] [] S) (n : Nat) (x1 : Int32) (x2 : Int32) (x3 : Int32) (x4 : Int32) (x5 : Int32) (x6 : Int32) (x7 : Int32) (x9 : Int32) (x10 : Int32) (S : St) : GF p l e rX9_find s m args below meth c D 17 a (cM cI cZ a) (AA 17 a s.heap.size) 12 0 0 (fun res => MQ below (va_Qi (fun r u => (r, u) = res) (Bw D (tyW cI cZ cO) 17 a (cM cI cZ a) (AA 17 a s.heap.size)) (AA 17 a s.heap.size)) args s 0 0 (AA 17 a s.heap.size)) (lX9_find_195 k37 k91 k99 n x1 x2 x3 x4 x5 x6 x7 x9 x10 S) 195 [(0, .ref (a 0)), (1, .int x1), (2, .int x2), (3, .int x3), (4, .int x4), (5, .int x5), (6, .int x6), (7, .int x7), (9, .int x9), (10, .int x10)] [] S :=
  lp_ind (P := fun k : Int32 → Int32 → Int32 → Int32 → Int32 → Int32 → Int32 → Int32 → Int32 → St → Option (Int32 × St) => ∀ (x1 : Int32) (x2 : Int32) (x3 : Int32) (x4 : Int32) (x5 : Int32) (x6 : Int32) (x7 : Int32) (x9 : Int32) (x10 : Int32) (S : St), GF p l e rX9_find s m args below meth c D 17 a (cM cI cZ a) (AA 17 a s.heap.size) 12 0 0 (fun res => MQ below (va_Qi (fun r u => (r, u) = res) (Bw D (tyW cI cZ cO) 17 a (cM cI cZ a) (AA 17 a s.heap.size)) (AA 17 a s.heap.size)) args s 0 0 (AA 17 a s.heap.size)) (k x1 x2 x3 x4 x5 x6 x7 x9 x10 S) 195 [(0, .ref (a 0)), (1, .int x1), (2, .int x2), (3, .int x3), (4, .int x4), (5, .int x5), (6, .int x6), (7, .int x7), (9, .int x9), (10, .int x10)] [] S) (fun _ _ _ _ _ _ _ _ _ _ => g_none) (fun k195 hk195 => tX9_find_195 hc hr hlk hE k37 hk37 k91 hk91 k99 hk99 k195 hk195) n x1 x2 x3 x4 x5 x6 x7 x9 x10 S
set_option maxHeartbeats 4000000 in
set_option maxRecDepth 100000 in
theorem tX9_find_190 {p : Program} {e : Env} {s : State} {m : MethodId} {args : Array Value} {below : List Frame} {meth : Method} {c : Code} (hc : CT p s m args c cX9_find 12 RX9 wsX9_find D (tyW cI cZ cO)) (hr : meth.sig.returnType = (some .int)) (hlk : meth.locks = false) (hE : EvM (AA 17 a s.heap.size) s) (k37 : Int32 → Int32 → Int32 → Int32 → St → Option (Int32 × St)) (hk37 : ∀ (x1 : Int32) (x2 : Int32) (x3 : Int32) (x4 : Int32) (S : St), GF p l e rX9_find s m args below meth c D 17 a (cM cI cZ a) (AA 17 a s.heap.size) 12 0 0 (fun res => MQ below (va_Qi (fun r u => (r, u) = res) (Bw D (tyW cI cZ cO) 17 a (cM cI cZ a) (AA 17 a s.heap.size)) (AA 17 a s.heap.size)) args s 0 0 (AA 17 a s.heap.size)) (k37 x1 x2 x3 x4 S) 37 [(0, .ref (a 0)), (1, .int x1), (2, .int x2), (3, .int x3), (4, .int x4)] [] S) (k91 : Int32 → Int32 → Int32 → Int32 → Int32 → Int32 → St → Option (Int32 × St)) (hk91 : ∀ (x1 : Int32) (x2 : Int32) (x3 : Int32) (x4 : Int32) (x5 : Int32) (x6 : Int32) (S : St), GF p l e rX9_find s m args below meth c D 17 a (cM cI cZ a) (AA 17 a s.heap.size) 12 0 0 (fun res => MQ below (va_Qi (fun r u => (r, u) = res) (Bw D (tyW cI cZ cO) 17 a (cM cI cZ a) (AA 17 a s.heap.size)) (AA 17 a s.heap.size)) args s 0 0 (AA 17 a s.heap.size)) (k91 x1 x2 x3 x4 x5 x6 S) 91 [(0, .ref (a 0)), (1, .int x1), (2, .int x2), (3, .int x3), (4, .int x4), (5, .int x5), (6, .int x6)] [] S) (k99 : Int32 → Int32 → Int32 → Int32 → Int32 → Int32 → Int32 → St → Option (Int32 × St)) (hk99 : ∀ (x1 : Int32) (x2 : Int32) (x3 : Int32) (x4 : Int32) (x5 : Int32) (x6 : Int32) (x7 : Int32) (S : St), GF p l e rX9_find s m args below meth c D 17 a (cM cI cZ a) (AA 17 a s.heap.size) 12 0 0 (fun res => MQ below (va_Qi (fun r u => (r, u) = res) (Bw D (tyW cI cZ cO) 17 a (cM cI cZ a) (AA 17 a s.heap.size)) (AA 17 a s.heap.size)) args s 0 0 (AA 17 a s.heap.size)) (k99 x1 x2 x3 x4 x5 x6 x7 S) 99 [(0, .ref (a 0)), (1, .int x1), (2, .int x2), (3, .int x3), (4, .int x4), (5, .int x5), (6, .int x6), (7, .int x7)] [] S) (x1 : Int32) (x2 : Int32) (x3 : Int32) (x4 : Int32) (x5 : Int32) (x6 : Int32) (x7 : Int32) (y0 : Int32) (S : St) : GF p l e rX9_find s m args below meth c D 17 a (cM cI cZ a) (AA 17 a s.heap.size) 12 0 0 (fun res => MQ below (va_Qi (fun r u => (r, u) = res) (Bw D (tyW cI cZ cO) 17 a (cM cI cZ a) (AA 17 a s.heap.size)) (AA 17 a s.heap.size)) args s 0 0 (AA 17 a s.heap.size)) (bX9_find_190 k37 k91 k99 x1 x2 x3 x4 x5 x6 x7 y0 S) 190 [(0, .ref (a 0)), (1, .int x1), (2, .int x2), (3, .int x3), (4, .int x4), (5, .int x5), (6, .int x6), (7, .int x7)] [.int y0] S := by
  unfold bX9_find_190
  refine g_istore (L := fun v1 => [(9, .int v1), (0, .ref (a 0)), (1, .int x1), (2, .int x2), (3, .int x3), (4, .int x4), (5, .int x5), (6, .int x6), (7, .int x7)]) hc dX9_find_190 (by decide) (fun _ => rfl) (fun v1 => ?_)
  refine g_iconst (v := 0) hc dX9_find_192 (by decide) ?_
  refine g_istore (L := fun v2 => [(10, .int v2), (9, .int v1), (0, .ref (a 0)), (1, .int x1), (2, .int x2), (3, .int x3), (4, .int x4), (5, .int x5), (6, .int x6), (7, .int x7)]) hc dX9_find_193 (by decide) (fun _ => rfl) (fun v2 => ?_)
  refine g_lv [2, 3, 4, 5, 6, 7, 8, 9, 1, 0] rfl ?_
  exact TX9_find_195 hc hr hlk hE k37 hk37 k91 hk91 k99 hk99 FU x1 x2 x3 x4 x5 x6 x7 v1 v2 S
set_option maxHeartbeats 4000000 in
set_option maxRecDepth 100000 in
theorem tX9_find_175 {p : Program} {e : Env} {s : State} {m : MethodId} {args : Array Value} {below : List Frame} {meth : Method} {c : Code} (hc : CT p s m args c cX9_find 12 RX9 wsX9_find D (tyW cI cZ cO)) (hr : meth.sig.returnType = (some .int)) (hlk : meth.locks = false) (hE : EvM (AA 17 a s.heap.size) s) (k37 : Int32 → Int32 → Int32 → Int32 → St → Option (Int32 × St)) (hk37 : ∀ (x1 : Int32) (x2 : Int32) (x3 : Int32) (x4 : Int32) (S : St), GF p l e rX9_find s m args below meth c D 17 a (cM cI cZ a) (AA 17 a s.heap.size) 12 0 0 (fun res => MQ below (va_Qi (fun r u => (r, u) = res) (Bw D (tyW cI cZ cO) 17 a (cM cI cZ a) (AA 17 a s.heap.size)) (AA 17 a s.heap.size)) args s 0 0 (AA 17 a s.heap.size)) (k37 x1 x2 x3 x4 S) 37 [(0, .ref (a 0)), (1, .int x1), (2, .int x2), (3, .int x3), (4, .int x4)] [] S) (k91 : Int32 → Int32 → Int32 → Int32 → Int32 → Int32 → St → Option (Int32 × St)) (hk91 : ∀ (x1 : Int32) (x2 : Int32) (x3 : Int32) (x4 : Int32) (x5 : Int32) (x6 : Int32) (S : St), GF p l e rX9_find s m args below meth c D 17 a (cM cI cZ a) (AA 17 a s.heap.size) 12 0 0 (fun res => MQ below (va_Qi (fun r u => (r, u) = res) (Bw D (tyW cI cZ cO) 17 a (cM cI cZ a) (AA 17 a s.heap.size)) (AA 17 a s.heap.size)) args s 0 0 (AA 17 a s.heap.size)) (k91 x1 x2 x3 x4 x5 x6 S) 91 [(0, .ref (a 0)), (1, .int x1), (2, .int x2), (3, .int x3), (4, .int x4), (5, .int x5), (6, .int x6)] [] S) (k99 : Int32 → Int32 → Int32 → Int32 → Int32 → Int32 → Int32 → St → Option (Int32 × St)) (hk99 : ∀ (x1 : Int32) (x2 : Int32) (x3 : Int32) (x4 : Int32) (x5 : Int32) (x6 : Int32) (x7 : Int32) (S : St), GF p l e rX9_find s m args below meth c D 17 a (cM cI cZ a) (AA 17 a s.heap.size) 12 0 0 (fun res => MQ below (va_Qi (fun r u => (r, u) = res) (Bw D (tyW cI cZ cO) 17 a (cM cI cZ a) (AA 17 a s.heap.size)) (AA 17 a s.heap.size)) args s 0 0 (AA 17 a s.heap.size)) (k99 x1 x2 x3 x4 x5 x6 x7 S) 99 [(0, .ref (a 0)), (1, .int x1), (2, .int x2), (3, .int x3), (4, .int x4), (5, .int x5), (6, .int x6), (7, .int x7)] [] S) (x1 : Int32) (x2 : Int32) (x3 : Int32) (x4 : Int32) (x5 : Int32) (x6 : Int32) (x7 : Int32) (S : St) : GF p l e rX9_find s m args below meth c D 17 a (cM cI cZ a) (AA 17 a s.heap.size) 12 0 0 (fun res => MQ below (va_Qi (fun r u => (r, u) = res) (Bw D (tyW cI cZ cO) 17 a (cM cI cZ a) (AA 17 a s.heap.size)) (AA 17 a s.heap.size)) args s 0 0 (AA 17 a s.heap.size)) (bX9_find_175 k37 k91 k99 x1 x2 x3 x4 x5 x6 x7 S) 175 [(0, .ref (a 0)), (1, .int x1), (2, .int x2), (3, .int x3), (4, .int x4), (5, .int x5), (6, .int x6), (7, .int x7)] [] S := by
  unfold bX9_find_175
  refine g_iload (j := 6) hc dX9_find_175 rfl ?_
  refine g_iload (j := 5) hc dX9_find_177 rfl ?_
  refine g_iconst (v := 1) hc dX9_find_179 (by decide) ?_
  refine g_isub hc dX9_find_180 ?_
  refine g_icmp_ne (tgt := 188) hc dX9_find_181 (by decide) ?_ ?_
  · refine g_ldc (v := 1000000) hc dX9_find_188 (List.mem_of_getElem? (i := 5) rfl) ?_
    exact tX9_find_190 hc hr hlk hE k37 hk37 k91 hk91 k99 hk99 x1 x2 x3 x4 x5 x6 x7 1000000 S
  · refine g_iconst (v := 0) hc dX9_find_184 (by decide) ?_
    refine g_goto (tgt := 190) hc dX9_find_185 (by decide) ?_
    exact tX9_find_190 hc hr hlk hE k37 hk37 k91 hk91 k99 hk99 x1 x2 x3 x4 x5 x6 x7 0 S
set_option maxHeartbeats 4000000 in
set_option maxRecDepth 100000 in
theorem tX9_find_99 {p : Program} {e : Env} {s : State} {m : MethodId} {args : Array Value} {below : List Frame} {meth : Method} {c : Code} (hc : CT p s m args c cX9_find 12 RX9 wsX9_find D (tyW cI cZ cO)) (hr : meth.sig.returnType = (some .int)) (hlk : meth.locks = false) (hE : EvM (AA 17 a s.heap.size) s) (k37 : Int32 → Int32 → Int32 → Int32 → St → Option (Int32 × St)) (hk37 : ∀ (x1 : Int32) (x2 : Int32) (x3 : Int32) (x4 : Int32) (S : St), GF p l e rX9_find s m args below meth c D 17 a (cM cI cZ a) (AA 17 a s.heap.size) 12 0 0 (fun res => MQ below (va_Qi (fun r u => (r, u) = res) (Bw D (tyW cI cZ cO) 17 a (cM cI cZ a) (AA 17 a s.heap.size)) (AA 17 a s.heap.size)) args s 0 0 (AA 17 a s.heap.size)) (k37 x1 x2 x3 x4 S) 37 [(0, .ref (a 0)), (1, .int x1), (2, .int x2), (3, .int x3), (4, .int x4)] [] S) (k91 : Int32 → Int32 → Int32 → Int32 → Int32 → Int32 → St → Option (Int32 × St)) (hk91 : ∀ (x1 : Int32) (x2 : Int32) (x3 : Int32) (x4 : Int32) (x5 : Int32) (x6 : Int32) (S : St), GF p l e rX9_find s m args below meth c D 17 a (cM cI cZ a) (AA 17 a s.heap.size) 12 0 0 (fun res => MQ below (va_Qi (fun r u => (r, u) = res) (Bw D (tyW cI cZ cO) 17 a (cM cI cZ a) (AA 17 a s.heap.size)) (AA 17 a s.heap.size)) args s 0 0 (AA 17 a s.heap.size)) (k91 x1 x2 x3 x4 x5 x6 S) 91 [(0, .ref (a 0)), (1, .int x1), (2, .int x2), (3, .int x3), (4, .int x4), (5, .int x5), (6, .int x6)] [] S) (k99 : Int32 → Int32 → Int32 → Int32 → Int32 → Int32 → Int32 → St → Option (Int32 × St)) (hk99 : ∀ (x1 : Int32) (x2 : Int32) (x3 : Int32) (x4 : Int32) (x5 : Int32) (x6 : Int32) (x7 : Int32) (S : St), GF p l e rX9_find s m args below meth c D 17 a (cM cI cZ a) (AA 17 a s.heap.size) 12 0 0 (fun res => MQ below (va_Qi (fun r u => (r, u) = res) (Bw D (tyW cI cZ cO) 17 a (cM cI cZ a) (AA 17 a s.heap.size)) (AA 17 a s.heap.size)) args s 0 0 (AA 17 a s.heap.size)) (k99 x1 x2 x3 x4 x5 x6 x7 S) 99 [(0, .ref (a 0)), (1, .int x1), (2, .int x2), (3, .int x3), (4, .int x4), (5, .int x5), (6, .int x6), (7, .int x7)] [] S) (x1 : Int32) (x2 : Int32) (x3 : Int32) (x4 : Int32) (x5 : Int32) (x6 : Int32) (x7 : Int32) (S : St) : GF p l e rX9_find s m args below meth c D 17 a (cM cI cZ a) (AA 17 a s.heap.size) 12 0 0 (fun res => MQ below (va_Qi (fun r u => (r, u) = res) (Bw D (tyW cI cZ cO) 17 a (cM cI cZ a) (AA 17 a s.heap.size)) (AA 17 a s.heap.size)) args s 0 0 (AA 17 a s.heap.size)) (bX9_find_99 k37 k91 k99 x1 x2 x3 x4 x5 x6 x7 S) 99 [(0, .ref (a 0)), (1, .int x1), (2, .int x2), (3, .int x3), (4, .int x4), (5, .int x5), (6, .int x6), (7, .int x7)] [] S := by
  unfold bX9_find_99
  refine g_iload (j := 7) hc dX9_find_99 rfl ?_
  refine g_iload_n (j := 2) hc dX9_find_101 rfl rfl ?_
  refine g_icmp_ge (tgt := 292) hc dX9_find_102 (by decide) ?_ ?_
  · refine g_iinc (j := 6) (w := x6 + (-1)) (L := fun v1 => [(6, .int v1), (0, .ref (a 0)), (1, .int x1), (2, .int x2), (3, .int x3), (4, .int x4), (5, .int x5), (7, .int x7)]) hc dX9_find_292 rfl (by rfl) (by decide) (fun _ => rfl) (fun v1 => ?_)
    refine g_goto (tgt := 91) hc dX9_find_295 (by decide) ?_
    refine g_lv [1, 2, 3, 4, 5, 6, 0] rfl ?_
    exact hk91 x1 x2 x3 x4 x5 v1 S
  · refine g_aload_n (j := 0) hc dX9_find_105 rfl rfl ?_
    refine g_iload_n (j := 1) hc dX9_find_106 rfl rfl ?_
    refine g_iload (j := 7) hc dX9_find_107 rfl ?_
    refine g_callVi (As := [.int x1, .int x7]) (rest := []) (k := 0) (ci := 9) (q0 := (RX9, TX9, 24)) hc hE trM rfl (fun _ h => mX9_becomes x1 x7 S _ h) (cwV 2 hc.1.2.2.2.2 gX9_find_X9_becomes rfl rfl rfl (by decide +kernel) ⟨by decide, by decide⟩) (by decide) rfl rfl rfl rfl (Nat.le_of_ble_eq_true rfl) dX9_find_109 ⟨by decide, by decide⟩ (fun v2 S3 => ?_)
    refine g_istore (L := fun v4 => [(8, .int v4), (0, .ref (a 0)), (1, .int x1), (2, .int x2), (3, .int x3), (4, .int x4), (5, .int x5), (6, .int x6), (7, .int x7)]) hc dX9_find_112 (by decide) (fun _ => rfl) (fun v4 => ?_)
    refine g_aload_n (j := 1) hc dX9_find_114 rfl rfl ?_
    refine g_get (C0 := RX9) (T := TX9) (M := 24) (k := 0) (ci := 9) hc inX9_find_X9 (by decide) rfl rfl 22 (by decide) (List.mem_of_getElem? (i := 4) rfl) rfl rfl dX9_find_115 ?_
    refine g_bipush (v := 16) hc dX9_find_118 (by decide) ?_
    refine g_iload (j := 7) hc dX9_find_120 rfl ?_
    refine g_imul hc dX9_find_122 ?_
    refine g_iload (j := 8) hc dX9_find_123 rfl ?_
    refine g_iadd hc dX9_find_125 ?_
    refine g_ldc (v := 1000000) hc dX9_find_126 (List.mem_of_getElem? (i := 5) rfl) ?_
    refine g_iast (k := 15) (t0 := 0) hc locM (by decide) rfl rfl rfl dX9_find_128 (fun S5 => ?_)
    refine g_aload_n (j := 1) hc dX9_find_129 rfl rfl ?_
    refine g_iload (j := 5) hc dX9_find_130 rfl ?_
    refine g_iload (j := 7) hc dX9_find_132 rfl ?_
    refine g_iload (j := 0) hc dX9_find_134 rfl ?_
    refine g_callVi (As := [.int x4, .int x6, .int v4]) (rest := []) (k := 0) (ci := 9) (q0 := (RX9, TX9, 24)) hc hE trM rfl (fun _ h => mX9_wants x4 x6 v4 S5 _ h) (cwV 3 hc.1.2.2.2.2 gX9_find_X9_wants rfl rfl rfl (by decide +kernel) ⟨by decide, by decide⟩) (by decide) rfl rfl rfl rfl (Nat.le_of_ble_eq_true rfl) dX9_find_136 ⟨by decide, by decide⟩ (fun v6 S7 => ?_)
    refine g_if_eq (tgt := 286) hc dX9_find_139 (by decide) ?_ ?_
    · refine g_lv [1, 2, 3, 4, 5, 6, 7, 8] rfl ?_
      exact tX9_find_286 hc hr hlk hE k37 hk37 k91 hk91 k99 hk99 x1 x2 x3 x4 x5 x6 x7 S7
    · refine g_aload_n (j := 1) hc dX9_find_142 rfl rfl ?_
      refine g_get (C0 := RX9) (T := TX9) (M := 24) (k := 0) (ci := 9) hc inX9_find_X9 (by decide) rfl rfl 12 (by decide) (List.mem_of_getElem? (i := 2) rfl) rfl rfl dX9_find_143 ?_
      refine g_iload (j := 5) hc dX9_find_146 rfl ?_
      refine g_zald (k := 8) (t0 := 1) hc (by decide) rfl rfl dX9_find_148 ?_
      refine g_if_eq (tgt := 175) hc dX9_find_149 (by decide) ?_ ?_
      · refine g_lv [1, 2, 3, 4, 5, 6, 7, 8] rfl ?_
        exact tX9_find_175 hc hr hlk hE k37 hk37 k91 hk91 k99 hk99 x1 x2 x3 x4 x5 x6 x7 S7
      · refine g_aload_n (j := 1) hc dX9_find_152 rfl rfl ?_
        refine g_iload (j := 5) hc dX9_find_153 rfl ?_
        refine g_aload_n (j := 1) hc dX9_find_155 rfl rfl ?_
        refine g_get (C0 := RX9) (T := TX9) (M := 24) (k := 0) (ci := 9) hc inX9_find_X9 (by decide) rfl rfl 2 (by decide) (List.mem_of_getElem? (i := 3) rfl) rfl rfl dX9_find_156 ?_
        refine g_iconst (v := 1) hc dX9_find_159 (by decide) ?_
        refine g_isub hc dX9_find_160 ?_
        refine g_iload (j := 7) hc dX9_find_161 rfl ?_
        refine g_isub hc dX9_find_163 ?_
        refine g_iload (j := 0) hc dX9_find_164 rfl ?_
        refine g_callVi (As := [.int x4, .int (((S7 0 2) - 1) - x6), .int v4]) (rest := []) (k := 0) (ci := 9) (q0 := (RX9, TX9, 24)) hc hE trM rfl (fun _ h => mX9_wants x4 (((S7 0 2) - 1) - x6) v4 S7 _ h) (cwV 3 hc.1.2.2.2.2 gX9_find_X9_wants rfl rfl rfl (by decide +kernel) ⟨by decide, by decide⟩) (by decide) rfl rfl rfl rfl (Nat.le_of_ble_eq_true rfl) dX9_find_166 ⟨by decide, by decide⟩ (fun v8 S9 => ?_)
        refine g_if_ne (tgt := 175) hc dX9_find_169 (by decide) ?_ ?_
        · refine g_lv [1, 2, 3, 4, 5, 6, 7, 8] rfl ?_
          exact tX9_find_175 hc hr hlk hE k37 hk37 k91 hk91 k99 hk99 x1 x2 x3 x4 x5 x6 x7 S9
        · refine g_goto (tgt := 286) hc dX9_find_172 (by decide) ?_
          refine g_lv [1, 2, 3, 4, 5, 6, 7, 8] rfl ?_
          exact tX9_find_286 hc hr hlk hE k37 hk37 k91 hk91 k99 hk99 x1 x2 x3 x4 x5 x6 x7 S9
set_option maxHeartbeats 4000000 in
set_option maxRecDepth 100000 in
theorem TX9_find_99 {p : Program} {e : Env} {s : State} {m : MethodId} {args : Array Value} {below : List Frame} {meth : Method} {c : Code} (hc : CT p s m args c cX9_find 12 RX9 wsX9_find D (tyW cI cZ cO)) (hr : meth.sig.returnType = (some .int)) (hlk : meth.locks = false) (hE : EvM (AA 17 a s.heap.size) s) (k37 : Int32 → Int32 → Int32 → Int32 → St → Option (Int32 × St)) (hk37 : ∀ (x1 : Int32) (x2 : Int32) (x3 : Int32) (x4 : Int32) (S : St), GF p l e rX9_find s m args below meth c D 17 a (cM cI cZ a) (AA 17 a s.heap.size) 12 0 0 (fun res => MQ below (va_Qi (fun r u => (r, u) = res) (Bw D (tyW cI cZ cO) 17 a (cM cI cZ a) (AA 17 a s.heap.size)) (AA 17 a s.heap.size)) args s 0 0 (AA 17 a s.heap.size)) (k37 x1 x2 x3 x4 S) 37 [(0, .ref (a 0)), (1, .int x1), (2, .int x2), (3, .int x3), (4, .int x4)] [] S) (k91 : Int32 → Int32 → Int32 → Int32 → Int32 → Int32 → St → Option (Int32 × St)) (hk91 : ∀ (x1 : Int32) (x2 : Int32) (x3 : Int32) (x4 : Int32) (x5 : Int32) (x6 : Int32) (S : St), GF p l e rX9_find s m args below meth c D 17 a (cM cI cZ a) (AA 17 a s.heap.size) 12 0 0 (fun res => MQ below (va_Qi (fun r u => (r, u) = res) (Bw D (tyW cI cZ cO) 17 a (cM cI cZ a) (AA 17 a s.heap.size)) (AA 17 a s.heap.size)) args s 0 0 (AA 17 a s.heap.size)) (k91 x1 x2 x3 x4 x5 x6 S) 91 [(0, .ref (a 0)), (1, .int x1), (2, .int x2), (3, .int x3), (4, .int x4), (5, .int x5), (6, .int x6)] [] S) (n : Nat) (x1 : Int32) (x2 : Int32) (x3 : Int32) (x4 : Int32) (x5 : Int32) (x6 : Int32) (x7 : Int32) (S : St) : GF p l e rX9_find s m args below meth c D 17 a (cM cI cZ a) (AA 17 a s.heap.size) 12 0 0 (fun res => MQ below (va_Qi (fun r u => (r, u) = res) (Bw D (tyW cI cZ cO) 17 a (cM cI cZ a) (AA 17 a s.heap.size)) (AA 17 a s.heap.size)) args s 0 0 (AA 17 a s.heap.size)) (lX9_find_99 k37 k91 n x1 x2 x3 x4 x5 x6 x7 S) 99 [(0, .ref (a 0)), (1, .int x1), (2, .int x2), (3, .int x3), (4, .int x4), (5, .int x5), (6, .int x6), (7, .int x7)] [] S :=
  lp_ind (P := fun k : Int32 → Int32 → Int32 → Int32 → Int32 → Int32 → Int32 → St → Option (Int32 × St) => ∀ (x1 : Int32) (x2 : Int32) (x3 : Int32) (x4 : Int32) (x5 : Int32) (x6 : Int32) (x7 : Int32) (S : St), GF p l e rX9_find s m args below meth c D 17 a (cM cI cZ a) (AA 17 a s.heap.size) 12 0 0 (fun res => MQ below (va_Qi (fun r u => (r, u) = res) (Bw D (tyW cI cZ cO) 17 a (cM cI cZ a) (AA 17 a s.heap.size)) (AA 17 a s.heap.size)) args s 0 0 (AA 17 a s.heap.size)) (k x1 x2 x3 x4 x5 x6 x7 S) 99 [(0, .ref (a 0)), (1, .int x1), (2, .int x2), (3, .int x3), (4, .int x4), (5, .int x5), (6, .int x6), (7, .int x7)] [] S) (fun _ _ _ _ _ _ _ _ => g_none) (fun k99 hk99 => tX9_find_99 hc hr hlk hE k37 hk37 k91 hk91 k99 hk99) n x1 x2 x3 x4 x5 x6 x7 S
set_option maxHeartbeats 4000000 in
set_option maxRecDepth 100000 in
theorem tX9_find_91 {p : Program} {e : Env} {s : State} {m : MethodId} {args : Array Value} {below : List Frame} {meth : Method} {c : Code} (hc : CT p s m args c cX9_find 12 RX9 wsX9_find D (tyW cI cZ cO)) (hr : meth.sig.returnType = (some .int)) (hlk : meth.locks = false) (hE : EvM (AA 17 a s.heap.size) s) (k37 : Int32 → Int32 → Int32 → Int32 → St → Option (Int32 × St)) (hk37 : ∀ (x1 : Int32) (x2 : Int32) (x3 : Int32) (x4 : Int32) (S : St), GF p l e rX9_find s m args below meth c D 17 a (cM cI cZ a) (AA 17 a s.heap.size) 12 0 0 (fun res => MQ below (va_Qi (fun r u => (r, u) = res) (Bw D (tyW cI cZ cO) 17 a (cM cI cZ a) (AA 17 a s.heap.size)) (AA 17 a s.heap.size)) args s 0 0 (AA 17 a s.heap.size)) (k37 x1 x2 x3 x4 S) 37 [(0, .ref (a 0)), (1, .int x1), (2, .int x2), (3, .int x3), (4, .int x4)] [] S) (k91 : Int32 → Int32 → Int32 → Int32 → Int32 → Int32 → St → Option (Int32 × St)) (hk91 : ∀ (x1 : Int32) (x2 : Int32) (x3 : Int32) (x4 : Int32) (x5 : Int32) (x6 : Int32) (S : St), GF p l e rX9_find s m args below meth c D 17 a (cM cI cZ a) (AA 17 a s.heap.size) 12 0 0 (fun res => MQ below (va_Qi (fun r u => (r, u) = res) (Bw D (tyW cI cZ cO) 17 a (cM cI cZ a) (AA 17 a s.heap.size)) (AA 17 a s.heap.size)) args s 0 0 (AA 17 a s.heap.size)) (k91 x1 x2 x3 x4 x5 x6 S) 91 [(0, .ref (a 0)), (1, .int x1), (2, .int x2), (3, .int x3), (4, .int x4), (5, .int x5), (6, .int x6)] [] S) (x1 : Int32) (x2 : Int32) (x3 : Int32) (x4 : Int32) (x5 : Int32) (x6 : Int32) (S : St) : GF p l e rX9_find s m args below meth c D 17 a (cM cI cZ a) (AA 17 a s.heap.size) 12 0 0 (fun res => MQ below (va_Qi (fun r u => (r, u) = res) (Bw D (tyW cI cZ cO) 17 a (cM cI cZ a) (AA 17 a s.heap.size)) (AA 17 a s.heap.size)) args s 0 0 (AA 17 a s.heap.size)) (bX9_find_91 k37 k91 x1 x2 x3 x4 x5 x6 S) 91 [(0, .ref (a 0)), (1, .int x1), (2, .int x2), (3, .int x3), (4, .int x4), (5, .int x5), (6, .int x6)] [] S := by
  unfold bX9_find_91
  refine g_iload (j := 6) hc dX9_find_91 rfl ?_
  refine g_if_lt (tgt := 298) hc dX9_find_93 (by decide) ?_ ?_
  · refine g_iconst (v := 0) hc dX9_find_298 (by decide) ?_
    refine g_istore (L := fun v1 => [(6, .int v1), (0, .ref (a 0)), (1, .int x1), (2, .int x2), (3, .int x3), (4, .int x4), (5, .int x5)]) hc dX9_find_299 (by decide) (fun _ => rfl) (fun v1 => ?_)
    refine g_ldc (v := 1000000) hc dX9_find_301 (List.mem_of_getElem? (i := 5) rfl) ?_
    refine g_istore (L := fun v2 => [(7, .int v2), (6, .int v1), (0, .ref (a 0)), (1, .int x1), (2, .int x2), (3, .int x3), (4, .int x4), (5, .int x5)]) hc dX9_find_303 (by decide) (fun _ => rfl) (fun v2 => ?_)
    refine g_iconst (v := 0) hc dX9_find_305 (by decide) ?_
    refine g_istore (L := fun v3 => [(8, .int v3), (7, .int v2), (6, .int v1), (0, .ref (a 0)), (1, .int x1), (2, .int x2), (3, .int x3), (4, .int x4), (5, .int x5)]) hc dX9_find_306 (by decide) (fun _ => rfl) (fun v3 => ?_)
    refine g_lv [3, 4, 5, 6, 7, 8, 2, 1, 0] rfl ?_
    exact TX9_find_308 hc hr hlk hE k37 hk37 FU x1 x2 x3 x4 x5 v1 v2 v3 S
  · refine g_iconst (v := 0) hc dX9_find_96 (by decide) ?_
    refine g_istore (L := fun v4 => [(7, .int v4), (0, .ref (a 0)), (1, .int x1), (2, .int x2), (3, .int x3), (4, .int x4), (5, .int x5), (6, .int x6)]) hc dX9_find_97 (by decide) (fun _ => rfl) (fun v4 => ?_)
    refine g_lv [1, 2, 3, 4, 5, 6, 7, 0] rfl ?_
    exact TX9_find_99 hc hr hlk hE k37 hk37 k91 hk91 FU x1 x2 x3 x4 x5 x6 v4 S
set_option maxHeartbeats 4000000 in
set_option maxRecDepth 100000 in
theorem TX9_find_91 {p : Program} {e : Env} {s : State} {m : MethodId} {args : Array Value} {below : List Frame} {meth : Method} {c : Code} (hc : CT p s m args c cX9_find 12 RX9 wsX9_find D (tyW cI cZ cO)) (hr : meth.sig.returnType = (some .int)) (hlk : meth.locks = false) (hE : EvM (AA 17 a s.heap.size) s) (k37 : Int32 → Int32 → Int32 → Int32 → St → Option (Int32 × St)) (hk37 : ∀ (x1 : Int32) (x2 : Int32) (x3 : Int32) (x4 : Int32) (S : St), GF p l e rX9_find s m args below meth c D 17 a (cM cI cZ a) (AA 17 a s.heap.size) 12 0 0 (fun res => MQ below (va_Qi (fun r u => (r, u) = res) (Bw D (tyW cI cZ cO) 17 a (cM cI cZ a) (AA 17 a s.heap.size)) (AA 17 a s.heap.size)) args s 0 0 (AA 17 a s.heap.size)) (k37 x1 x2 x3 x4 S) 37 [(0, .ref (a 0)), (1, .int x1), (2, .int x2), (3, .int x3), (4, .int x4)] [] S) (n : Nat) (x1 : Int32) (x2 : Int32) (x3 : Int32) (x4 : Int32) (x5 : Int32) (x6 : Int32) (S : St) : GF p l e rX9_find s m args below meth c D 17 a (cM cI cZ a) (AA 17 a s.heap.size) 12 0 0 (fun res => MQ below (va_Qi (fun r u => (r, u) = res) (Bw D (tyW cI cZ cO) 17 a (cM cI cZ a) (AA 17 a s.heap.size)) (AA 17 a s.heap.size)) args s 0 0 (AA 17 a s.heap.size)) (lX9_find_91 k37 n x1 x2 x3 x4 x5 x6 S) 91 [(0, .ref (a 0)), (1, .int x1), (2, .int x2), (3, .int x3), (4, .int x4), (5, .int x5), (6, .int x6)] [] S :=
  lp_ind (P := fun k : Int32 → Int32 → Int32 → Int32 → Int32 → Int32 → St → Option (Int32 × St) => ∀ (x1 : Int32) (x2 : Int32) (x3 : Int32) (x4 : Int32) (x5 : Int32) (x6 : Int32) (S : St), GF p l e rX9_find s m args below meth c D 17 a (cM cI cZ a) (AA 17 a s.heap.size) 12 0 0 (fun res => MQ below (va_Qi (fun r u => (r, u) = res) (Bw D (tyW cI cZ cO) 17 a (cM cI cZ a) (AA 17 a s.heap.size)) (AA 17 a s.heap.size)) args s 0 0 (AA 17 a s.heap.size)) (k x1 x2 x3 x4 x5 x6 S) 91 [(0, .ref (a 0)), (1, .int x1), (2, .int x2), (3, .int x3), (4, .int x4), (5, .int x5), (6, .int x6)] [] S) (fun _ _ _ _ _ _ _ => g_none) (fun k91 hk91 => tX9_find_91 hc hr hlk hE k37 hk37 k91 hk91) n x1 x2 x3 x4 x5 x6 S
set_option maxHeartbeats 4000000 in
set_option maxRecDepth 100000 in
theorem tX9_find_83 {p : Program} {e : Env} {s : State} {m : MethodId} {args : Array Value} {below : List Frame} {meth : Method} {c : Code} (hc : CT p s m args c cX9_find 12 RX9 wsX9_find D (tyW cI cZ cO)) (hr : meth.sig.returnType = (some .int)) (hlk : meth.locks = false) (hE : EvM (AA 17 a s.heap.size) s) (k37 : Int32 → Int32 → Int32 → Int32 → St → Option (Int32 × St)) (hk37 : ∀ (x1 : Int32) (x2 : Int32) (x3 : Int32) (x4 : Int32) (S : St), GF p l e rX9_find s m args below meth c D 17 a (cM cI cZ a) (AA 17 a s.heap.size) 12 0 0 (fun res => MQ below (va_Qi (fun r u => (r, u) = res) (Bw D (tyW cI cZ cO) 17 a (cM cI cZ a) (AA 17 a s.heap.size)) (AA 17 a s.heap.size)) args s 0 0 (AA 17 a s.heap.size)) (k37 x1 x2 x3 x4 S) 37 [(0, .ref (a 0)), (1, .int x1), (2, .int x2), (3, .int x3), (4, .int x4)] [] S) (x1 : Int32) (x2 : Int32) (x3 : Int32) (x4 : Int32) (y0 : Int32) (S : St) : GF p l e rX9_find s m args below meth c D 17 a (cM cI cZ a) (AA 17 a s.heap.size) 12 0 0 (fun res => MQ below (va_Qi (fun r u => (r, u) = res) (Bw D (tyW cI cZ cO) 17 a (cM cI cZ a) (AA 17 a s.heap.size)) (AA 17 a s.heap.size)) args s 0 0 (AA 17 a s.heap.size)) (bX9_find_83 k37 x1 x2 x3 x4 y0 S) 83 [(0, .ref (a 0)), (1, .int x1), (2, .int x2), (3, .int x3), (4, .int x4)] [.int y0] S := by
  unfold bX9_find_83
  refine g_istore (L := fun v1 => [(5, .int v1), (0, .ref (a 0)), (1, .int x1), (2, .int x2), (3, .int x3), (4, .int x4)]) hc dX9_find_83 (by decide) (fun _ => rfl) (fun v1 => ?_)
  refine g_iload (j := 0) hc dX9_find_85 rfl ?_
  refine g_iconst (v := 1) hc dX9_find_87 (by decide) ?_
  refine g_isub hc dX9_find_88 ?_
  refine g_istore (L := fun v2 => [(6, .int v2), (5, .int v1), (0, .ref (a 0)), (1, .int x1), (2, .int x2), (3, .int x3), (4, .int x4)]) hc dX9_find_89 (by decide) (fun _ => rfl) (fun v2 => ?_)
  refine g_lv [2, 3, 4, 5, 6, 1, 0] rfl ?_
  exact TX9_find_91 hc hr hlk hE k37 hk37 FU x1 x2 x3 x4 v1 v2 S
set_option maxHeartbeats 4000000 in
set_option maxRecDepth 100000 in
theorem tX9_find_37 {p : Program} {e : Env} {s : State} {m : MethodId} {args : Array Value} {below : List Frame} {meth : Method} {c : Code} (hc : CT p s m args c cX9_find 12 RX9 wsX9_find D (tyW cI cZ cO)) (hr : meth.sig.returnType = (some .int)) (hlk : meth.locks = false) (hE : EvM (AA 17 a s.heap.size) s) (k37 : Int32 → Int32 → Int32 → Int32 → St → Option (Int32 × St)) (hk37 : ∀ (x1 : Int32) (x2 : Int32) (x3 : Int32) (x4 : Int32) (S : St), GF p l e rX9_find s m args below meth c D 17 a (cM cI cZ a) (AA 17 a s.heap.size) 12 0 0 (fun res => MQ below (va_Qi (fun r u => (r, u) = res) (Bw D (tyW cI cZ cO) 17 a (cM cI cZ a) (AA 17 a s.heap.size)) (AA 17 a s.heap.size)) args s 0 0 (AA 17 a s.heap.size)) (k37 x1 x2 x3 x4 S) 37 [(0, .ref (a 0)), (1, .int x1), (2, .int x2), (3, .int x3), (4, .int x4)] [] S) (x1 : Int32) (x2 : Int32) (x3 : Int32) (x4 : Int32) (S : St) : GF p l e rX9_find s m args below meth c D 17 a (cM cI cZ a) (AA 17 a s.heap.size) 12 0 0 (fun res => MQ below (va_Qi (fun r u => (r, u) = res) (Bw D (tyW cI cZ cO) 17 a (cM cI cZ a) (AA 17 a s.heap.size)) (AA 17 a s.heap.size)) args s 0 0 (AA 17 a s.heap.size)) (bX9_find_37 k37 x1 x2 x3 x4 S) 37 [(0, .ref (a 0)), (1, .int x1), (2, .int x2), (3, .int x3), (4, .int x4)] [] S := by
  unfold bX9_find_37
  refine g_iload (j := 4) hc dX9_find_37 rfl ?_
  refine g_bipush (v := 8) hc dX9_find_39 (by decide) ?_
  refine g_icmp_ge (tgt := 508) hc dX9_find_41 (by decide) ?_ ?_
  · refine g_iload_n (j := 3) hc dX9_find_508 rfl rfl ?_
    exact g_iret hc hr hlk dX9_find_509
  · refine g_aload_n (j := 0) hc dX9_find_44 rfl rfl ?_
    refine g_iload (j := 4) hc dX9_find_45 rfl ?_
    refine g_callVi (As := [.int x4]) (rest := []) (k := 0) (ci := 9) (q0 := (RX9, TX9, 24)) hc hE trM rfl (fun _ h => mX9_many x4 S _ h) (cwV 1 hc.1.2.2.2.2 gX9_find_X9_many rfl rfl rfl (by decide +kernel) ⟨by decide, by decide⟩) (by decide) rfl rfl rfl rfl (Nat.le_of_ble_eq_true rfl) dX9_find_47 ⟨by decide, by decide⟩ (fun v1 S2 => ?_)
    refine g_if_ne (tgt := 56) hc dX9_find_50 (by decide) ?_ ?_
    · refine g_aload_n (j := 0) hc dX9_find_56 rfl rfl ?_
      refine g_get (C0 := RX9) (T := TX9) (M := 24) (k := 0) (ci := 9) hc inX9_find_X9 (by decide) rfl rfl 12 (by decide) (List.mem_of_getElem? (i := 2) rfl) rfl rfl dX9_find_57 ?_
      refine g_iload (j := 4) hc dX9_find_60 rfl ?_
      refine g_zald (k := 8) (t0 := 1) hc (by decide) rfl rfl dX9_find_62 ?_
      refine g_if_eq (tgt := 79) hc dX9_find_63 (by decide) ?_ ?_
      · refine g_aload_n (j := 0) hc dX9_find_79 rfl rfl ?_
        refine g_get (C0 := RX9) (T := TX9) (M := 24) (k := 0) (ci := 9) hc inX9_find_X9 (by decide) rfl rfl 2 (by decide) (List.mem_of_getElem? (i := 3) rfl) rfl rfl dX9_find_80 ?_
        exact tX9_find_83 hc hr hlk hE k37 hk37 x1 x2 x3 x4 (S2 0 2) S2
      · refine g_aload_n (j := 0) hc dX9_find_66 rfl rfl ?_
        refine g_get (C0 := RX9) (T := TX9) (M := 24) (k := 0) (ci := 9) hc inX9_find_X9 (by decide) rfl rfl 2 (by decide) (List.mem_of_getElem? (i := 3) rfl) rfl rfl dX9_find_67 ?_
        refine g_iconst (v := 1) hc dX9_find_70 (by decide) ?_
        refine g_isub hc dX9_find_71 ?_
        refine g_iconst (v := 2) hc dX9_find_72 (by decide) ?_
        refine g_idiv hc (by decide) dX9_find_73 ?_
        refine g_iconst (v := 1) hc dX9_find_74 (by decide) ?_
        refine g_iadd hc dX9_find_75 ?_
        refine g_goto (tgt := 83) hc dX9_find_76 (by decide) ?_
        exact tX9_find_83 hc hr hlk hE k37 hk37 x1 x2 x3 x4 ((((S2 0 2) - 1) / 2) + 1) S2
    · refine g_goto (tgt := 502) hc dX9_find_53 (by decide) ?_
      exact tX9_find_502 hc hr hlk hE k37 hk37 x1 x2 x3 x4 S2
set_option maxHeartbeats 4000000 in
set_option maxRecDepth 100000 in
theorem TX9_find_37 {p : Program} {e : Env} {s : State} {m : MethodId} {args : Array Value} {below : List Frame} {meth : Method} {c : Code} (hc : CT p s m args c cX9_find 12 RX9 wsX9_find D (tyW cI cZ cO)) (hr : meth.sig.returnType = (some .int)) (hlk : meth.locks = false) (hE : EvM (AA 17 a s.heap.size) s) (n : Nat) (x1 : Int32) (x2 : Int32) (x3 : Int32) (x4 : Int32) (S : St) : GF p l e rX9_find s m args below meth c D 17 a (cM cI cZ a) (AA 17 a s.heap.size) 12 0 0 (fun res => MQ below (va_Qi (fun r u => (r, u) = res) (Bw D (tyW cI cZ cO) 17 a (cM cI cZ a) (AA 17 a s.heap.size)) (AA 17 a s.heap.size)) args s 0 0 (AA 17 a s.heap.size)) (lX9_find_37 n x1 x2 x3 x4 S) 37 [(0, .ref (a 0)), (1, .int x1), (2, .int x2), (3, .int x3), (4, .int x4)] [] S :=
  lp_ind (P := fun k : Int32 → Int32 → Int32 → Int32 → St → Option (Int32 × St) => ∀ (x1 : Int32) (x2 : Int32) (x3 : Int32) (x4 : Int32) (S : St), GF p l e rX9_find s m args below meth c D 17 a (cM cI cZ a) (AA 17 a s.heap.size) 12 0 0 (fun res => MQ below (va_Qi (fun r u => (r, u) = res) (Bw D (tyW cI cZ cO) 17 a (cM cI cZ a) (AA 17 a s.heap.size)) (AA 17 a s.heap.size)) args s 0 0 (AA 17 a s.heap.size)) (k x1 x2 x3 x4 S) 37 [(0, .ref (a 0)), (1, .int x1), (2, .int x2), (3, .int x3), (4, .int x4)] [] S) (fun _ _ _ _ _ => g_none) (fun k37 hk37 => tX9_find_37 hc hr hlk hE k37 hk37) n x1 x2 x3 x4 S
set_option maxHeartbeats 4000000 in
set_option maxRecDepth 100000 in
theorem tX9_find_12 {p : Program} {e : Env} {s : State} {m : MethodId} {args : Array Value} {below : List Frame} {meth : Method} {c : Code} (hc : CT p s m args c cX9_find 12 RX9 wsX9_find D (tyW cI cZ cO)) (hr : meth.sig.returnType = (some .int)) (hlk : meth.locks = false) (hE : EvM (AA 17 a s.heap.size) s) (k12 : Int32 → Int32 → Int32 → Int32 → St → Option (Int32 × St)) (hk12 : ∀ (x1 : Int32) (x2 : Int32) (x3 : Int32) (x4 : Int32) (S : St), GF p l e rX9_find s m args below meth c D 17 a (cM cI cZ a) (AA 17 a s.heap.size) 12 0 0 (fun res => MQ below (va_Qi (fun r u => (r, u) = res) (Bw D (tyW cI cZ cO) 17 a (cM cI cZ a) (AA 17 a s.heap.size)) (AA 17 a s.heap.size)) args s 0 0 (AA 17 a s.heap.size)) (k12 x1 x2 x3 x4 S) 12 [(0, .ref (a 0)), (1, .int x1), (2, .int x2), (3, .int x3), (4, .int x4)] [] S) (x1 : Int32) (x2 : Int32) (x3 : Int32) (x4 : Int32) (S : St) : GF p l e rX9_find s m args below meth c D 17 a (cM cI cZ a) (AA 17 a s.heap.size) 12 0 0 (fun res => MQ below (va_Qi (fun r u => (r, u) = res) (Bw D (tyW cI cZ cO) 17 a (cM cI cZ a) (AA 17 a s.heap.size)) (AA 17 a s.heap.size)) args s 0 0 (AA 17 a s.heap.size)) (bX9_find_12 k12 x1 x2 x3 x4 S) 12 [(0, .ref (a 0)), (1, .int x1), (2, .int x2), (3, .int x3), (4, .int x4)] [] S := by
  unfold bX9_find_12
  refine g_iload (j := 4) hc dX9_find_12 rfl ?_
  refine g_sipush (v := 192) hc dX9_find_14 (by decide) ?_
  refine g_icmp_ge (tgt := 34) hc dX9_find_17 (by decide) ?_ ?_
  · refine g_iconst (v := 0) hc dX9_find_34 (by decide) ?_
    refine g_istore (L := fun v1 => [(4, .int v1), (0, .ref (a 0)), (1, .int x1), (2, .int x2), (3, .int x3)]) hc dX9_find_35 (by decide) (fun _ => rfl) (fun v1 => ?_)
    refine g_lv [1, 2, 3, 4, 0] rfl ?_
    exact TX9_find_37 hc hr hlk hE FU x1 x2 x3 v1 S
  · refine g_aload_n (j := 0) hc dX9_find_20 rfl rfl ?_
    refine g_get (C0 := RX9) (T := TX9) (M := 24) (k := 0) (ci := 9) hc inX9_find_X9 (by decide) rfl rfl 21 (by decide) (List.mem_of_getElem? (i := 1) rfl) rfl rfl dX9_find_21 ?_
    refine g_iload (j := 4) hc dX9_find_24 rfl ?_
    refine g_iconst (v := 0) hc dX9_find_26 (by decide) ?_
    refine g_iast (k := 14) (t0 := 0) hc locM (by decide) rfl rfl rfl dX9_find_27 (fun S2 => ?_)
    refine g_iinc (j := 4) (w := x4 + 1) (L := fun v3 => [(4, .int v3), (0, .ref (a 0)), (1, .int x1), (2, .int x2), (3, .int x3)]) hc dX9_find_28 rfl (by rfl) (by decide) (fun _ => rfl) (fun v3 => ?_)
    refine g_goto (tgt := 12) hc dX9_find_31 (by decide) ?_
    refine g_lv [1, 2, 3, 4, 0] rfl ?_
    exact hk12 x1 x2 x3 v3 S2
set_option maxHeartbeats 4000000 in
set_option maxRecDepth 100000 in
theorem TX9_find_12 {p : Program} {e : Env} {s : State} {m : MethodId} {args : Array Value} {below : List Frame} {meth : Method} {c : Code} (hc : CT p s m args c cX9_find 12 RX9 wsX9_find D (tyW cI cZ cO)) (hr : meth.sig.returnType = (some .int)) (hlk : meth.locks = false) (hE : EvM (AA 17 a s.heap.size) s) (n : Nat) (x1 : Int32) (x2 : Int32) (x3 : Int32) (x4 : Int32) (S : St) : GF p l e rX9_find s m args below meth c D 17 a (cM cI cZ a) (AA 17 a s.heap.size) 12 0 0 (fun res => MQ below (va_Qi (fun r u => (r, u) = res) (Bw D (tyW cI cZ cO) 17 a (cM cI cZ a) (AA 17 a s.heap.size)) (AA 17 a s.heap.size)) args s 0 0 (AA 17 a s.heap.size)) (lX9_find_12 n x1 x2 x3 x4 S) 12 [(0, .ref (a 0)), (1, .int x1), (2, .int x2), (3, .int x3), (4, .int x4)] [] S :=
  lp_ind (P := fun k : Int32 → Int32 → Int32 → Int32 → St → Option (Int32 × St) => ∀ (x1 : Int32) (x2 : Int32) (x3 : Int32) (x4 : Int32) (S : St), GF p l e rX9_find s m args below meth c D 17 a (cM cI cZ a) (AA 17 a s.heap.size) 12 0 0 (fun res => MQ below (va_Qi (fun r u => (r, u) = res) (Bw D (tyW cI cZ cO) 17 a (cM cI cZ a) (AA 17 a s.heap.size)) (AA 17 a s.heap.size)) args s 0 0 (AA 17 a s.heap.size)) (k x1 x2 x3 x4 S) 12 [(0, .ref (a 0)), (1, .int x1), (2, .int x2), (3, .int x3), (4, .int x4)] [] S) (fun _ _ _ _ _ => g_none) (fun k12 hk12 => tX9_find_12 hc hr hlk hE k12 hk12) n x1 x2 x3 x4 S
set_option maxHeartbeats 4000000 in
set_option maxRecDepth 100000 in
theorem mX9_find (x1 : Int32) (S : St) : ∀ q, uX9_find x1 S = some q → Ki l yX9_find wsX9_find rX9_find D (tyW cI cZ cO) 17 a (cM cI cZ a) (EvM) [.ref (a 0), .int x1] S q := by
  refine m_Ki (cc := cX9_find) (nL := 12) (ret := (some .int)) (lv := [(0, .ref (a 0)), (1, .int x1)]) (by decide) rfl (Nat.le_of_ble_eq_true rfl) rfl ?_
  intro p e s m args below meth c hc hr hlk hE
  unfold uX9_find
  refine g_iconst (v := 1) hc dX9_find_0 (by decide) ?_
  refine g_iload_n (j := 1) hc dX9_find_1 rfl rfl ?_
  refine g_callSi (As := [.int x1]) (rest := [.int 1]) hc hE trM rfl (fun _ h => mX9_bathsOf x1 S _ h) (va_cwS 1 hc.1.2.2.2.2 gX9_find_X9_bathsOf rfl rfl rfl (by decide +kernel) ⟨by decide, by decide⟩) rfl rfl (Nat.le_of_ble_eq_true rfl) dX9_find_2 ⟨by decide, by decide⟩ (fun v1 S2 => ?_)
  refine g_ishl hc dX9_find_5 ?_
  refine g_istore_n (L := fun v3 => [(2, .int v3), (0, .ref (a 0)), (1, .int x1)]) hc dX9_find_6 rfl (by decide) (fun _ => rfl) (fun v3 => ?_)
  refine g_iconst (v := 0) hc dX9_find_7 (by decide) ?_
  refine g_istore_n (L := fun v4 => [(3, .int v4), (2, .int v3), (0, .ref (a 0)), (1, .int x1)]) hc dX9_find_8 rfl (by decide) (fun _ => rfl) (fun v4 => ?_)
  refine g_iconst (v := 0) hc dX9_find_9 (by decide) ?_
  refine g_istore (L := fun v5 => [(4, .int v5), (3, .int v4), (2, .int v3), (0, .ref (a 0)), (1, .int x1)]) hc dX9_find_10 (by decide) (fun _ => rfl) (fun v5 => ?_)
  refine g_lv [3, 4, 2, 1, 0] rfl ?_
  exact TX9_find_12 hc hr hlk hE FU x1 v3 v4 v5 S2
set_option maxHeartbeats 4000000 in
set_option maxRecDepth 100000 in
theorem tX9_keeps_17 {p : Program} {e : Env} {s : State} {m : MethodId} {args : Array Value} {below : List Frame} {meth : Method} {c : Code} (hc : CT p s m args c cX9_keeps 4 RX9 wsX9_keeps D (tyW cI cZ cO)) (hr : meth.sig.returnType = none) (hlk : meth.locks = false) (hE : EvM (AA 17 a s.heap.size) s) (k17 : Int32 → St → Option (Int32 × St)) (hk17 : ∀ (x3 : Int32) (S : St), GF p l e rX9_keeps s m args below meth c D 17 a (cM cI cZ a) (AA 17 a s.heap.size) 4 0 0 (fun res => MQ below (va_Qv (fun u => ((0 : Int32), u) = res) (Bw D (tyW cI cZ cO) 17 a (cM cI cZ a) (AA 17 a s.heap.size)) (AA 17 a s.heap.size)) args s 0 0 (AA 17 a s.heap.size)) (k17 x3 S) 17 [(0, .ref (a 0)), (3, .int x3)] [] S) (x3 : Int32) (S : St) : GF p l e rX9_keeps s m args below meth c D 17 a (cM cI cZ a) (AA 17 a s.heap.size) 4 0 0 (fun res => MQ below (va_Qv (fun u => ((0 : Int32), u) = res) (Bw D (tyW cI cZ cO) 17 a (cM cI cZ a) (AA 17 a s.heap.size)) (AA 17 a s.heap.size)) args s 0 0 (AA 17 a s.heap.size)) (bX9_keeps_17 k17 x3 S) 17 [(0, .ref (a 0)), (3, .int x3)] [] S := by
  unfold bX9_keeps_17
  refine g_iload_n (j := 1) hc dX9_keeps_17 rfl rfl ?_
  refine g_sipush (v := 192) hc dX9_keeps_18 (by decide) ?_
  refine g_icmp_ge (tgt := 42) hc dX9_keeps_21 (by decide) ?_ ?_
  · exact g_vret hc hr hlk dX9_keeps_42
  · refine g_aload_n (j := 0) hc dX9_keeps_24 rfl rfl ?_
    refine g_get (C0 := RX9) (T := TX9) (M := 24) (k := 0) (ci := 9) hc inX9_keeps_X9 (by decide) rfl rfl 20 (by decide) (List.mem_of_getElem? (i := 4) rfl) rfl rfl dX9_keeps_25 ?_
    refine g_iload_n (j := 1) hc dX9_keeps_28 rfl rfl ?_
    refine g_aload_n (j := 0) hc dX9_keeps_29 rfl rfl ?_
    refine g_get (C0 := RX9) (T := TX9) (M := 24) (k := 0) (ci := 9) hc inX9_keeps_X9 (by decide) rfl rfl 21 (by decide) (List.mem_of_getElem? (i := 5) rfl) rfl rfl dX9_keeps_30 ?_
    refine g_iload_n (j := 1) hc dX9_keeps_33 rfl rfl ?_
    refine g_iald (k := 14) (t0 := 0) hc (by decide) rfl rfl dX9_keeps_34 ?_
    refine g_iast (k := 13) (t0 := 0) hc locM (by decide) rfl rfl rfl dX9_keeps_35 (fun S1 => ?_)
    refine g_iinc (j := 1) (w := x3 + 1) (L := fun v2 => [(3, .int v2), (0, .ref (a 0))]) hc dX9_keeps_36 rfl (by rfl) (by decide) (fun _ => rfl) (fun v2 => ?_)
    refine g_goto (tgt := 17) hc dX9_keeps_39 (by decide) ?_
    refine g_lv [1, 0] rfl ?_
    exact hk17 v2 S1
set_option maxHeartbeats 4000000 in
set_option maxRecDepth 100000 in
theorem TX9_keeps_17 {p : Program} {e : Env} {s : State} {m : MethodId} {args : Array Value} {below : List Frame} {meth : Method} {c : Code} (hc : CT p s m args c cX9_keeps 4 RX9 wsX9_keeps D (tyW cI cZ cO)) (hr : meth.sig.returnType = none) (hlk : meth.locks = false) (hE : EvM (AA 17 a s.heap.size) s) (n : Nat) (x3 : Int32) (S : St) : GF p l e rX9_keeps s m args below meth c D 17 a (cM cI cZ a) (AA 17 a s.heap.size) 4 0 0 (fun res => MQ below (va_Qv (fun u => ((0 : Int32), u) = res) (Bw D (tyW cI cZ cO) 17 a (cM cI cZ a) (AA 17 a s.heap.size)) (AA 17 a s.heap.size)) args s 0 0 (AA 17 a s.heap.size)) (lX9_keeps_17 n x3 S) 17 [(0, .ref (a 0)), (3, .int x3)] [] S :=
  lp_ind (P := fun k : Int32 → St → Option (Int32 × St) => ∀ (x3 : Int32) (S : St), GF p l e rX9_keeps s m args below meth c D 17 a (cM cI cZ a) (AA 17 a s.heap.size) 4 0 0 (fun res => MQ below (va_Qv (fun u => ((0 : Int32), u) = res) (Bw D (tyW cI cZ cO) 17 a (cM cI cZ a) (AA 17 a s.heap.size)) (AA 17 a s.heap.size)) args s 0 0 (AA 17 a s.heap.size)) (k x3 S) 17 [(0, .ref (a 0)), (3, .int x3)] [] S) (fun _ _ => g_none) (fun k17 hk17 => tX9_keeps_17 hc hr hlk hE k17 hk17) n x3 S
set_option maxHeartbeats 4000000 in
set_option maxRecDepth 100000 in
theorem mX9_keeps (x1 : Int32) (x2 : Int32) (S : St) : ∀ q, uX9_keeps x1 x2 S = some q → Kv l yX9_keeps wsX9_keeps rX9_keeps D (tyW cI cZ cO) 17 a (cM cI cZ a) (EvM) [.ref (a 0), .int x1, .int x2] S q := by
  refine m_Kv (cc := cX9_keeps) (nL := 4) (ret := none) (lv := [(0, .ref (a 0)), (1, .int x1), (2, .int x2)]) (by decide) rfl (Nat.le_of_ble_eq_true rfl) rfl ?_
  intro p e s m args below meth c hc hr hlk hE
  unfold uX9_keeps
  refine g_aload_n (j := 0) hc dX9_keeps_0 rfl rfl ?_
  refine g_iconst (v := 1) hc dX9_keeps_1 (by decide) ?_
  refine g_put (ty := .boolean) (C0 := RX9) (T := TX9) (M := 24) (k := 0) (ci := 9) hc locM tyX9 tyX9_ok nmX9 inX9_keeps_X9 (by decide) rfl rfl 17 (by decide) (List.mem_of_getElem? (i := 1) rfl) rfl rfl (by decide +kernel) (by decide) (by decide) (Nat.le_of_ble_eq_true rfl) rfl rfl dX9_keeps_2 (fun S1 => ?_)
  refine g_aload_n (j := 0) hc dX9_keeps_5 rfl rfl ?_
  refine g_iload_n (j := 1) hc dX9_keeps_6 rfl rfl ?_
  refine g_put (ty := .int) (C0 := RX9) (T := TX9) (M := 24) (k := 0) (ci := 9) hc locM tyX9 tyX9_ok nmX9 inX9_keeps_X9 (by decide) rfl rfl 18 (by decide) (List.mem_of_getElem? (i := 2) rfl) rfl rfl (by decide +kernel) rfl rfl (Nat.le_of_ble_eq_true rfl) rfl rfl dX9_keeps_7 (fun S2 => ?_)
  refine g_aload_n (j := 0) hc dX9_keeps_10 rfl rfl ?_
  refine g_iload_n (j := 2) hc dX9_keeps_11 rfl rfl ?_
  refine g_put (ty := .int) (C0 := RX9) (T := TX9) (M := 24) (k := 0) (ci := 9) hc locM tyX9 tyX9_ok nmX9 inX9_keeps_X9 (by decide) rfl rfl 19 (by decide) (List.mem_of_getElem? (i := 3) rfl) rfl rfl (by decide +kernel) rfl rfl (Nat.le_of_ble_eq_true rfl) rfl rfl dX9_keeps_12 (fun S3 => ?_)
  refine g_iconst (v := 0) hc dX9_keeps_15 (by decide) ?_
  refine g_istore_n (L := fun v4 => [(3, .int v4), (0, .ref (a 0)), (1, .int x1), (2, .int x2)]) hc dX9_keeps_16 rfl (by decide) (fun _ => rfl) (fun v4 => ?_)
  refine g_lv [1, 0] rfl ?_
  exact TX9_keeps_17 hc hr hlk hE FU v4 S3
set_option maxHeartbeats 4000000 in
set_option maxRecDepth 100000 in
theorem tX9_plan_36 {p : Program} {e : Env} {s : State} {m : MethodId} {args : Array Value} {below : List Frame} {meth : Method} {c : Code} (hc : CT p s m args c cX9_plan 3 RX9 wsX9_plan D (tyW cI cZ cO)) (hr : meth.sig.returnType = (some .int)) (hlk : meth.locks = false) (hE : EvM (AA 17 a s.heap.size) s) (x2 : Int32) (S : St) : GF p l e rX9_plan s m args below meth c D 17 a (cM cI cZ a) (AA 17 a s.heap.size) 3 0 0 (fun res => MQ below (va_Qi (fun r u => (r, u) = res) (Bw D (tyW cI cZ cO) 17 a (cM cI cZ a) (AA 17 a s.heap.size)) (AA 17 a s.heap.size)) args s 0 0 (AA 17 a s.heap.size)) (bX9_plan_36 x2 S) 36 [(2, .int x2)] [] S := by
  unfold bX9_plan_36
  refine g_iload_n (j := 0) hc dX9_plan_36 rfl rfl ?_
  exact g_iret hc hr hlk dX9_plan_37
set_option maxHeartbeats 4000000 in
set_option maxRecDepth 100000 in
theorem mX9_plan (x1 : Int32) (S : St) : ∀ q, uX9_plan x1 S = some q → Ki l yX9_plan wsX9_plan rX9_plan D (tyW cI cZ cO) 17 a (cM cI cZ a) (EvM) [.ref (a 0), .int x1] S q := by
  refine m_Ki (cc := cX9_plan) (nL := 3) (ret := (some .int)) (lv := [(0, .ref (a 0)), (1, .int x1)]) (by decide) rfl (Nat.le_of_ble_eq_true rfl) rfl ?_
  intro p e s m args below meth c hc hr hlk hE
  unfold uX9_plan
  refine g_aload_n (j := 0) hc dX9_plan_0 rfl rfl ?_
  refine g_iconst (v := 0) hc dX9_plan_1 (by decide) ?_
  refine g_put (ty := .int) (C0 := RX9) (T := TX9) (M := 24) (k := 0) (ci := 9) hc locM tyX9 tyX9_ok nmX9 inX9_plan_X9 (by decide) rfl rfl 0 (by decide) (List.mem_of_getElem? (i := 1) rfl) rfl rfl (by decide +kernel) rfl rfl (Nat.le_of_ble_eq_true rfl) rfl rfl dX9_plan_2 (fun S1 => ?_)
  refine g_aload_n (j := 0) hc dX9_plan_5 rfl rfl ?_
  refine g_iload_n (j := 1) hc dX9_plan_6 rfl rfl ?_
  refine g_callSi (As := [.int x1]) (rest := [.ref (a 0)]) hc hE trM rfl (fun _ h => mX9_isRow x1 S1 _ h) (va_cwS 1 hc.1.2.2.2.2 gX9_plan_X9_isRow rfl rfl rfl (by decide +kernel) ⟨by decide, by decide⟩) rfl rfl (Nat.le_of_ble_eq_true rfl) dX9_plan_7 ⟨by decide, by decide⟩ (fun v2 S3 => ?_)
  refine g_iconst (v := 1) hc dX9_plan_10 (by decide) ?_
  refine g_callVi (As := [.int v2, .int 1]) (rest := []) (k := 0) (ci := 9) (q0 := (RX9, TX9, 24)) hc hE trM rfl (fun _ h => mX9_right v2 1 S3 _ h) (cwV 2 hc.1.2.2.2.2 gX9_plan_X9_right rfl rfl rfl (by decide +kernel) ⟨by decide, by decide⟩) (by decide) rfl rfl rfl rfl (Nat.le_of_ble_eq_true rfl) dX9_plan_11 ⟨by decide, by decide⟩ (fun v4 S5 => ?_)
  refine g_if_ne (tgt := 19) hc dX9_plan_14 (by decide) ?_ ?_
  · refine g_aload_n (j := 0) hc dX9_plan_19 rfl rfl ?_
    refine g_iload_n (j := 1) hc dX9_plan_20 rfl rfl ?_
    refine g_callVi (As := [.int x1]) (rest := []) (k := 0) (ci := 9) (q0 := (RX9, TX9, 24)) hc hE trM rfl (fun _ h => mX9_find x1 S5 _ h) (cwV 1 hc.1.2.2.2.2 gX9_plan_X9_find rfl rfl rfl (by decide +kernel) ⟨by decide, by decide⟩) (by decide) rfl rfl rfl rfl (Nat.le_of_ble_eq_true rfl) dX9_plan_21 ⟨by decide, by decide⟩ (fun v6 S7 => ?_)
    refine g_istore_n (L := fun v8 => [(2, .int v8), (0, .ref (a 0)), (1, .int x1)]) hc dX9_plan_24 rfl (by decide) (fun _ => rfl) (fun v8 => ?_)
    refine g_iload_n (j := 0) hc dX9_plan_25 rfl rfl ?_
    refine g_iconst (v := -1) hc dX9_plan_26 (by decide) ?_
    refine g_icmp_eq (tgt := 36) hc dX9_plan_27 (by decide) ?_ ?_
    · refine g_lv [0] rfl ?_
      exact tX9_plan_36 hc hr hlk hE v8 S7
    · refine g_aload_n (j := 1) hc dX9_plan_30 rfl rfl ?_
      refine g_iload_n (j := 2) hc dX9_plan_31 rfl rfl ?_
      refine g_iload_n (j := 0) hc dX9_plan_32 rfl rfl ?_
      refine g_callVv (As := [.int x1, .int v8]) (rest := []) (k := 0) (ci := 9) (q0 := (RX9, TX9, 24)) hc hE trM rfl (fun _ h => mX9_keeps x1 v8 S7 _ h) (cwV 2 hc.1.2.2.2.2 gX9_plan_X9_keeps rfl rfl rfl (by decide +kernel) ⟨by decide, by decide⟩) (by decide) rfl rfl rfl rfl (Nat.le_of_ble_eq_true rfl) dX9_plan_33 ⟨by decide, by decide⟩ (fun S10 => ?_)
      refine g_lv [0] rfl ?_
      exact tX9_plan_36 hc hr hlk hE v8 S10
  · refine g_iconst (v := 0) hc dX9_plan_17 (by decide) ?_
    exact g_iret hc hr hlk dX9_plan_18
set_option maxHeartbeats 4000000 in
set_option maxRecDepth 100000 in
theorem tX9_best_137 {p : Program} {e : Env} {s : State} {m : MethodId} {args : Array Value} {below : List Frame} {meth : Method} {c : Code} (hc : CT p s m args c cX9_best 8 RX9 wsX9_best D (tyW cI cZ cO)) (hr : meth.sig.returnType = (some .int)) (hlk : meth.locks = false) (hE : EvM (AA 17 a s.heap.size) s) (k33 : Int32 → Int32 → Int32 → St → Option (Int32 × St)) (hk33 : ∀ (x1 : Int32) (x2 : Int32) (x3 : Int32) (S : St), GF p l e rX9_best s m args below meth c D 17 a (cM cI cZ a) (AA 17 a s.heap.size) 8 0 0 (fun res => MQ below (va_Qi (fun r u => (r, u) = res) (Bw D (tyW cI cZ cO) 17 a (cM cI cZ a) (AA 17 a s.heap.size)) (AA 17 a s.heap.size)) args s 0 0 (AA 17 a s.heap.size)) (k33 x1 x2 x3 S) 33 [(0, .ref (a 0)), (1, .int x1), (2, .int x2), (3, .int x3)] [] S) (k48 : Int32 → Int32 → Int32 → Int32 → Int32 → St → Option (Int32 × St)) (hk48 : ∀ (x1 : Int32) (x2 : Int32) (x3 : Int32) (x4 : Int32) (x5 : Int32) (S : St), GF p l e rX9_best s m args below meth c D 17 a (cM cI cZ a) (AA 17 a s.heap.size) 8 0 0 (fun res => MQ below (va_Qi (fun r u => (r, u) = res) (Bw D (tyW cI cZ cO) 17 a (cM cI cZ a) (AA 17 a s.heap.size)) (AA 17 a s.heap.size)) args s 0 0 (AA 17 a s.heap.size)) (k48 x1 x2 x3 x4 x5 S) 48 [(0, .ref (a 0)), (1, .int x1), (2, .int x2), (3, .int x3), (4, .int x4), (5, .int x5)] [] S) (x1 : Int32) (x2 : Int32) (x3 : Int32) (x4 : Int32) (x5 : Int32) (S : St) : GF p l e rX9_best s m args below meth c D 17 a (cM cI cZ a) (AA 17 a s.heap.size) 8 0 0 (fun res => MQ below (va_Qi (fun r u => (r, u) = res) (Bw D (tyW cI cZ cO) 17 a (cM cI cZ a) (AA 17 a s.heap.size)) (AA 17 a s.heap.size)) args s 0 0 (AA 17 a s.heap.size)) (bX9_best_137 k33 k48 x1 x2 x3 x4 x5 S) 137 [(0, .ref (a 0)), (1, .int x1), (2, .int x2), (3, .int x3), (4, .int x4), (5, .int x5)] [] S := by
  unfold bX9_best_137
  refine g_iinc (j := 5) (w := x5 + 1) (L := fun v1 => [(5, .int v1), (0, .ref (a 0)), (1, .int x1), (2, .int x2), (3, .int x3), (4, .int x4)]) hc dX9_best_137 rfl (by rfl) (by decide) (fun _ => rfl) (fun v1 => ?_)
  refine g_goto (tgt := 48) hc dX9_best_140 (by decide) ?_
  refine g_lv [1, 2, 3, 4, 5, 0] rfl ?_
  exact hk48 x1 x2 x3 x4 v1 S
set_option maxHeartbeats 4000000 in
set_option maxRecDepth 100000 in
theorem tX9_best_126 {p : Program} {e : Env} {s : State} {m : MethodId} {args : Array Value} {below : List Frame} {meth : Method} {c : Code} (hc : CT p s m args c cX9_best 8 RX9 wsX9_best D (tyW cI cZ cO)) (hr : meth.sig.returnType = (some .int)) (hlk : meth.locks = false) (hE : EvM (AA 17 a s.heap.size) s) (k33 : Int32 → Int32 → Int32 → St → Option (Int32 × St)) (hk33 : ∀ (x1 : Int32) (x2 : Int32) (x3 : Int32) (S : St), GF p l e rX9_best s m args below meth c D 17 a (cM cI cZ a) (AA 17 a s.heap.size) 8 0 0 (fun res => MQ below (va_Qi (fun r u => (r, u) = res) (Bw D (tyW cI cZ cO) 17 a (cM cI cZ a) (AA 17 a s.heap.size)) (AA 17 a s.heap.size)) args s 0 0 (AA 17 a s.heap.size)) (k33 x1 x2 x3 S) 33 [(0, .ref (a 0)), (1, .int x1), (2, .int x2), (3, .int x3)] [] S) (k48 : Int32 → Int32 → Int32 → Int32 → Int32 → St → Option (Int32 × St)) (hk48 : ∀ (x1 : Int32) (x2 : Int32) (x3 : Int32) (x4 : Int32) (x5 : Int32) (S : St), GF p l e rX9_best s m args below meth c D 17 a (cM cI cZ a) (AA 17 a s.heap.size) 8 0 0 (fun res => MQ below (va_Qi (fun r u => (r, u) = res) (Bw D (tyW cI cZ cO) 17 a (cM cI cZ a) (AA 17 a s.heap.size)) (AA 17 a s.heap.size)) args s 0 0 (AA 17 a s.heap.size)) (k48 x1 x2 x3 x4 x5 S) 48 [(0, .ref (a 0)), (1, .int x1), (2, .int x2), (3, .int x3), (4, .int x4), (5, .int x5)] [] S) (x1 : Int32) (x3 : Int32) (x4 : Int32) (x5 : Int32) (x6 : Int32) (x7 : Int32) (S : St) : GF p l e rX9_best s m args below meth c D 17 a (cM cI cZ a) (AA 17 a s.heap.size) 8 0 0 (fun res => MQ below (va_Qi (fun r u => (r, u) = res) (Bw D (tyW cI cZ cO) 17 a (cM cI cZ a) (AA 17 a s.heap.size)) (AA 17 a s.heap.size)) args s 0 0 (AA 17 a s.heap.size)) (bX9_best_126 k33 k48 x1 x3 x4 x5 x6 x7 S) 126 [(0, .ref (a 0)), (1, .int x1), (3, .int x3), (4, .int x4), (5, .int x5), (6, .int x6), (7, .int x7)] [] S := by
  unfold bX9_best_126
  refine g_iload (j := 6) hc dX9_best_126 rfl ?_
  refine g_istore_n (L := fun v1 => [(2, .int v1), (0, .ref (a 0)), (1, .int x1), (3, .int x3), (4, .int x4), (5, .int x5), (6, .int x6), (7, .int x7)]) hc dX9_best_128 rfl (by decide) (fun _ => rfl) (fun v1 => ?_)
  refine g_aload_n (j := 1) hc dX9_best_129 rfl rfl ?_
  refine g_iload (j := 6) hc dX9_best_130 rfl ?_
  refine g_iload (j := 7) hc dX9_best_132 rfl ?_
  refine g_callVv (As := [.int x6, .int x7]) (rest := []) (k := 0) (ci := 9) (q0 := (RX9, TX9, 24)) hc hE trM rfl (fun _ h => mX9_keeps x6 x7 S _ h) (cwV 2 hc.1.2.2.2.2 gX9_best_X9_keeps rfl rfl rfl (by decide +kernel) ⟨by decide, by decide⟩) (by decide) rfl rfl rfl rfl (Nat.le_of_ble_eq_true rfl) dX9_best_134 ⟨by decide, by decide⟩ (fun S3 => ?_)
  refine g_lv [1, 2, 0, 3, 4, 5] rfl ?_
  exact tX9_best_137 hc hr hlk hE k33 hk33 k48 hk48 x1 v1 x3 x4 x5 S3
set_option maxHeartbeats 4000000 in
set_option maxRecDepth 100000 in
theorem tX9_best_61 {p : Program} {e : Env} {s : State} {m : MethodId} {args : Array Value} {below : List Frame} {meth : Method} {c : Code} (hc : CT p s m args c cX9_best 8 RX9 wsX9_best D (tyW cI cZ cO)) (hr : meth.sig.returnType = (some .int)) (hlk : meth.locks = false) (hE : EvM (AA 17 a s.heap.size) s) (k33 : Int32 → Int32 → Int32 → St → Option (Int32 × St)) (hk33 : ∀ (x1 : Int32) (x2 : Int32) (x3 : Int32) (S : St), GF p l e rX9_best s m args below meth c D 17 a (cM cI cZ a) (AA 17 a s.heap.size) 8 0 0 (fun res => MQ below (va_Qi (fun r u => (r, u) = res) (Bw D (tyW cI cZ cO) 17 a (cM cI cZ a) (AA 17 a s.heap.size)) (AA 17 a s.heap.size)) args s 0 0 (AA 17 a s.heap.size)) (k33 x1 x2 x3 S) 33 [(0, .ref (a 0)), (1, .int x1), (2, .int x2), (3, .int x3)] [] S) (k48 : Int32 → Int32 → Int32 → Int32 → Int32 → St → Option (Int32 × St)) (hk48 : ∀ (x1 : Int32) (x2 : Int32) (x3 : Int32) (x4 : Int32) (x5 : Int32) (S : St), GF p l e rX9_best s m args below meth c D 17 a (cM cI cZ a) (AA 17 a s.heap.size) 8 0 0 (fun res => MQ below (va_Qi (fun r u => (r, u) = res) (Bw D (tyW cI cZ cO) 17 a (cM cI cZ a) (AA 17 a s.heap.size)) (AA 17 a s.heap.size)) args s 0 0 (AA 17 a s.heap.size)) (k48 x1 x2 x3 x4 x5 S) 48 [(0, .ref (a 0)), (1, .int x1), (2, .int x2), (3, .int x3), (4, .int x4), (5, .int x5)] [] S) (k61 : Int32 → Int32 → Int32 → Int32 → Int32 → Int32 → Int32 → St → Option (Int32 × St)) (hk61 : ∀ (x1 : Int32) (x2 : Int32) (x3 : Int32) (x4 : Int32) (x5 : Int32) (x6 : Int32) (x7 : Int32) (S : St), GF p l e rX9_best s m args below meth c D 17 a (cM cI cZ a) (AA 17 a s.heap.size) 8 0 0 (fun res => MQ below (va_Qi (fun r u => (r, u) = res) (Bw D (tyW cI cZ cO) 17 a (cM cI cZ a) (AA 17 a s.heap.size)) (AA 17 a s.heap.size)) args s 0 0 (AA 17 a s.heap.size)) (k61 x1 x2 x3 x4 x5 x6 x7 S) 61 [(0, .ref (a 0)), (1, .int x1), (2, .int x2), (3, .int x3), (4, .int x4), (5, .int x5), (6, .int x6), (7, .int x7)] [] S) (x1 : Int32) (x2 : Int32) (x3 : Int32) (x4 : Int32) (x5 : Int32) (x6 : Int32) (x7 : Int32) (S : St) : GF p l e rX9_best s m args below meth c D 17 a (cM cI cZ a) (AA 17 a s.heap.size) 8 0 0 (fun res => MQ below (va_Qi (fun r u => (r, u) = res) (Bw D (tyW cI cZ cO) 17 a (cM cI cZ a) (AA 17 a s.heap.size)) (AA 17 a s.heap.size)) args s 0 0 (AA 17 a s.heap.size)) (bX9_best_61 k33 k48 k61 x1 x2 x3 x4 x5 x6 x7 S) 61 [(0, .ref (a 0)), (1, .int x1), (2, .int x2), (3, .int x3), (4, .int x4), (5, .int x5), (6, .int x6), (7, .int x7)] [] S := by
  unfold bX9_best_61
  refine g_iload (j := 7) hc dX9_best_61 rfl ?_
  refine g_iload_n (j := 3) hc dX9_best_63 rfl rfl ?_
  refine g_icmp_ge (tgt := 98) hc dX9_best_64 (by decide) ?_ ?_
  · refine g_aload_n (j := 0) hc dX9_best_98 rfl rfl ?_
    refine g_iload (j := 6) hc dX9_best_99 rfl ?_
    refine g_callVi (As := [.int x6]) (rest := []) (k := 0) (ci := 9) (q0 := (RX9, TX9, 24)) hc hE trM rfl (fun _ h => mX9_find x6 S _ h) (cwV 1 hc.1.2.2.2.2 gX9_best_X9_find rfl rfl rfl (by decide +kernel) ⟨by decide, by decide⟩) (by decide) rfl rfl rfl rfl (Nat.le_of_ble_eq_true rfl) dX9_best_101 ⟨by decide, by decide⟩ (fun v1 S2 => ?_)
    refine g_istore (L := fun v3 => [(7, .int v3), (0, .ref (a 0)), (1, .int x1), (2, .int x2), (3, .int x3), (4, .int x4), (5, .int x5), (6, .int x6)]) hc dX9_best_104 (by decide) (fun _ => rfl) (fun v3 => ?_)
    refine g_iload (j := 0) hc dX9_best_106 rfl ?_
    refine g_iconst (v := -1) hc dX9_best_108 (by decide) ?_
    refine g_icmp_eq (tgt := 137) hc dX9_best_109 (by decide) ?_ ?_
    · refine g_lv [1, 2, 3, 4, 5, 6] rfl ?_
      exact tX9_best_137 hc hr hlk hE k33 hk33 k48 hk48 x1 x2 x3 x4 x5 S2
    · refine g_iload_n (j := 3) hc dX9_best_112 rfl rfl ?_
      refine g_iconst (v := -1) hc dX9_best_113 (by decide) ?_
      refine g_icmp_eq (tgt := 126) hc dX9_best_114 (by decide) ?_ ?_
      · refine g_lv [1, 2, 4, 5, 6, 7, 0] rfl ?_
        exact tX9_best_126 hc hr hlk hE k33 hk33 k48 hk48 x1 x3 x4 x5 x6 v3 S2
      · refine g_iload (j := 0) hc dX9_best_117 rfl ?_
        refine g_iload_n (j := 3) hc dX9_best_119 rfl rfl ?_
        refine g_icmp_lt (tgt := 126) hc dX9_best_120 (by decide) ?_ ?_
        · refine g_lv [1, 2, 4, 5, 6, 7, 0] rfl ?_
          exact tX9_best_126 hc hr hlk hE k33 hk33 k48 hk48 x1 x3 x4 x5 x6 v3 S2
        · refine g_goto (tgt := 137) hc dX9_best_123 (by decide) ?_
          refine g_lv [1, 2, 3, 4, 5, 6] rfl ?_
          exact tX9_best_137 hc hr hlk hE k33 hk33 k48 hk48 x1 x2 x3 x4 x5 S2
  · refine g_iload (j := 6) hc dX9_best_67 rfl ?_
    refine g_iload (j := 5) hc dX9_best_69 rfl ?_
    refine g_iconst (v := 2) hc dX9_best_71 (by decide) ?_
    refine g_iload_n (j := 3) hc dX9_best_72 rfl rfl ?_
    refine g_iconst (v := 1) hc dX9_best_73 (by decide) ?_
    refine g_isub hc dX9_best_74 ?_
    refine g_iload (j := 7) hc dX9_best_75 rfl ?_
    refine g_isub hc dX9_best_77 ?_
    refine g_imul hc dX9_best_78 ?_
    refine g_ishr hc dX9_best_79 ?_
    refine g_iconst (v := 3) hc dX9_best_80 (by decide) ?_
    refine g_iand hc dX9_best_81 ?_
    refine g_iconst (v := 1) hc dX9_best_82 (by decide) ?_
    refine g_iadd hc dX9_best_83 ?_
    refine g_iconst (v := 3) hc dX9_best_84 (by decide) ?_
    refine g_iload (j := 7) hc dX9_best_85 rfl ?_
    refine g_imul hc dX9_best_87 ?_
    refine g_ishl hc dX9_best_88 ?_
    refine g_ior hc dX9_best_89 ?_
    refine g_istore (L := fun v4 => [(6, .int v4), (0, .ref (a 0)), (1, .int x1), (2, .int x2), (3, .int x3), (4, .int x4), (5, .int x5), (7, .int x7)]) hc dX9_best_90 (by decide) (fun _ => rfl) (fun v4 => ?_)
    refine g_iinc (j := 7) (w := x7 + 1) (L := fun v5 => [(7, .int v5), (6, .int v4), (0, .ref (a 0)), (1, .int x1), (2, .int x2), (3, .int x3), (4, .int x4), (5, .int x5)]) hc dX9_best_92 rfl (by rfl) (by decide) (fun _ => rfl) (fun v5 => ?_)
    refine g_goto (tgt := 61) hc dX9_best_95 (by decide) ?_
    refine g_lv [2, 3, 4, 5, 6, 7, 1, 0] rfl ?_
    exact hk61 x1 x2 x3 x4 x5 v4 v5 S
set_option maxHeartbeats 4000000 in
set_option maxRecDepth 100000 in
theorem TX9_best_61 {p : Program} {e : Env} {s : State} {m : MethodId} {args : Array Value} {below : List Frame} {meth : Method} {c : Code} (hc : CT p s m args c cX9_best 8 RX9 wsX9_best D (tyW cI cZ cO)) (hr : meth.sig.returnType = (some .int)) (hlk : meth.locks = false) (hE : EvM (AA 17 a s.heap.size) s) (k33 : Int32 → Int32 → Int32 → St → Option (Int32 × St)) (hk33 : ∀ (x1 : Int32) (x2 : Int32) (x3 : Int32) (S : St), GF p l e rX9_best s m args below meth c D 17 a (cM cI cZ a) (AA 17 a s.heap.size) 8 0 0 (fun res => MQ below (va_Qi (fun r u => (r, u) = res) (Bw D (tyW cI cZ cO) 17 a (cM cI cZ a) (AA 17 a s.heap.size)) (AA 17 a s.heap.size)) args s 0 0 (AA 17 a s.heap.size)) (k33 x1 x2 x3 S) 33 [(0, .ref (a 0)), (1, .int x1), (2, .int x2), (3, .int x3)] [] S) (k48 : Int32 → Int32 → Int32 → Int32 → Int32 → St → Option (Int32 × St)) (hk48 : ∀ (x1 : Int32) (x2 : Int32) (x3 : Int32) (x4 : Int32) (x5 : Int32) (S : St), GF p l e rX9_best s m args below meth c D 17 a (cM cI cZ a) (AA 17 a s.heap.size) 8 0 0 (fun res => MQ below (va_Qi (fun r u => (r, u) = res) (Bw D (tyW cI cZ cO) 17 a (cM cI cZ a) (AA 17 a s.heap.size)) (AA 17 a s.heap.size)) args s 0 0 (AA 17 a s.heap.size)) (k48 x1 x2 x3 x4 x5 S) 48 [(0, .ref (a 0)), (1, .int x1), (2, .int x2), (3, .int x3), (4, .int x4), (5, .int x5)] [] S) (n : Nat) (x1 : Int32) (x2 : Int32) (x3 : Int32) (x4 : Int32) (x5 : Int32) (x6 : Int32) (x7 : Int32) (S : St) : GF p l e rX9_best s m args below meth c D 17 a (cM cI cZ a) (AA 17 a s.heap.size) 8 0 0 (fun res => MQ below (va_Qi (fun r u => (r, u) = res) (Bw D (tyW cI cZ cO) 17 a (cM cI cZ a) (AA 17 a s.heap.size)) (AA 17 a s.heap.size)) args s 0 0 (AA 17 a s.heap.size)) (lX9_best_61 k33 k48 n x1 x2 x3 x4 x5 x6 x7 S) 61 [(0, .ref (a 0)), (1, .int x1), (2, .int x2), (3, .int x3), (4, .int x4), (5, .int x5), (6, .int x6), (7, .int x7)] [] S :=
  lp_ind (P := fun k : Int32 → Int32 → Int32 → Int32 → Int32 → Int32 → Int32 → St → Option (Int32 × St) => ∀ (x1 : Int32) (x2 : Int32) (x3 : Int32) (x4 : Int32) (x5 : Int32) (x6 : Int32) (x7 : Int32) (S : St), GF p l e rX9_best s m args below meth c D 17 a (cM cI cZ a) (AA 17 a s.heap.size) 8 0 0 (fun res => MQ below (va_Qi (fun r u => (r, u) = res) (Bw D (tyW cI cZ cO) 17 a (cM cI cZ a) (AA 17 a s.heap.size)) (AA 17 a s.heap.size)) args s 0 0 (AA 17 a s.heap.size)) (k x1 x2 x3 x4 x5 x6 x7 S) 61 [(0, .ref (a 0)), (1, .int x1), (2, .int x2), (3, .int x3), (4, .int x4), (5, .int x5), (6, .int x6), (7, .int x7)] [] S) (fun _ _ _ _ _ _ _ _ => g_none) (fun k61 hk61 => tX9_best_61 hc hr hlk hE k33 hk33 k48 hk48 k61 hk61) n x1 x2 x3 x4 x5 x6 x7 S
set_option maxHeartbeats 4000000 in
set_option maxRecDepth 100000 in
theorem tX9_best_48 {p : Program} {e : Env} {s : State} {m : MethodId} {args : Array Value} {below : List Frame} {meth : Method} {c : Code} (hc : CT p s m args c cX9_best 8 RX9 wsX9_best D (tyW cI cZ cO)) (hr : meth.sig.returnType = (some .int)) (hlk : meth.locks = false) (hE : EvM (AA 17 a s.heap.size) s) (k33 : Int32 → Int32 → Int32 → St → Option (Int32 × St)) (hk33 : ∀ (x1 : Int32) (x2 : Int32) (x3 : Int32) (S : St), GF p l e rX9_best s m args below meth c D 17 a (cM cI cZ a) (AA 17 a s.heap.size) 8 0 0 (fun res => MQ below (va_Qi (fun r u => (r, u) = res) (Bw D (tyW cI cZ cO) 17 a (cM cI cZ a) (AA 17 a s.heap.size)) (AA 17 a s.heap.size)) args s 0 0 (AA 17 a s.heap.size)) (k33 x1 x2 x3 S) 33 [(0, .ref (a 0)), (1, .int x1), (2, .int x2), (3, .int x3)] [] S) (k48 : Int32 → Int32 → Int32 → Int32 → Int32 → St → Option (Int32 × St)) (hk48 : ∀ (x1 : Int32) (x2 : Int32) (x3 : Int32) (x4 : Int32) (x5 : Int32) (S : St), GF p l e rX9_best s m args below meth c D 17 a (cM cI cZ a) (AA 17 a s.heap.size) 8 0 0 (fun res => MQ below (va_Qi (fun r u => (r, u) = res) (Bw D (tyW cI cZ cO) 17 a (cM cI cZ a) (AA 17 a s.heap.size)) (AA 17 a s.heap.size)) args s 0 0 (AA 17 a s.heap.size)) (k48 x1 x2 x3 x4 x5 S) 48 [(0, .ref (a 0)), (1, .int x1), (2, .int x2), (3, .int x3), (4, .int x4), (5, .int x5)] [] S) (x1 : Int32) (x2 : Int32) (x3 : Int32) (x4 : Int32) (x5 : Int32) (S : St) : GF p l e rX9_best s m args below meth c D 17 a (cM cI cZ a) (AA 17 a s.heap.size) 8 0 0 (fun res => MQ below (va_Qi (fun r u => (r, u) = res) (Bw D (tyW cI cZ cO) 17 a (cM cI cZ a) (AA 17 a s.heap.size)) (AA 17 a s.heap.size)) args s 0 0 (AA 17 a s.heap.size)) (bX9_best_48 k33 k48 x1 x2 x3 x4 x5 S) 48 [(0, .ref (a 0)), (1, .int x1), (2, .int x2), (3, .int x3), (4, .int x4), (5, .int x5)] [] S := by
  unfold bX9_best_48
  refine g_iload (j := 5) hc dX9_best_48 rfl ?_
  refine g_iload (j := 4) hc dX9_best_50 rfl ?_
  refine g_icmp_ge (tgt := 143) hc dX9_best_52 (by decide) ?_ ?_
  · refine g_iinc (j := 3) (w := x3 + 1) (L := fun v1 => [(3, .int v1), (0, .ref (a 0)), (1, .int x1), (2, .int x2), (4, .int x4), (5, .int x5)]) hc dX9_best_143 rfl (by rfl) (by decide) (fun _ => rfl) (fun v1 => ?_)
    refine g_goto (tgt := 33) hc dX9_best_146 (by decide) ?_
    refine g_lv [1, 2, 3, 0] rfl ?_
    exact hk33 x1 x2 v1 S
  · refine g_iconst (v := 0) hc dX9_best_55 (by decide) ?_
    refine g_istore (L := fun v2 => [(6, .int v2), (0, .ref (a 0)), (1, .int x1), (2, .int x2), (3, .int x3), (4, .int x4), (5, .int x5)]) hc dX9_best_56 (by decide) (fun _ => rfl) (fun v2 => ?_)
    refine g_iconst (v := 0) hc dX9_best_58 (by decide) ?_
    refine g_istore (L := fun v3 => [(7, .int v3), (6, .int v2), (0, .ref (a 0)), (1, .int x1), (2, .int x2), (3, .int x3), (4, .int x4), (5, .int x5)]) hc dX9_best_59 (by decide) (fun _ => rfl) (fun v3 => ?_)
    refine g_lv [2, 3, 4, 5, 6, 7, 1, 0] rfl ?_
    exact TX9_best_61 hc hr hlk hE k33 hk33 k48 hk48 FU x1 x2 x3 x4 x5 v2 v3 S
set_option maxHeartbeats 4000000 in
set_option maxRecDepth 100000 in
theorem TX9_best_48 {p : Program} {e : Env} {s : State} {m : MethodId} {args : Array Value} {below : List Frame} {meth : Method} {c : Code} (hc : CT p s m args c cX9_best 8 RX9 wsX9_best D (tyW cI cZ cO)) (hr : meth.sig.returnType = (some .int)) (hlk : meth.locks = false) (hE : EvM (AA 17 a s.heap.size) s) (k33 : Int32 → Int32 → Int32 → St → Option (Int32 × St)) (hk33 : ∀ (x1 : Int32) (x2 : Int32) (x3 : Int32) (S : St), GF p l e rX9_best s m args below meth c D 17 a (cM cI cZ a) (AA 17 a s.heap.size) 8 0 0 (fun res => MQ below (va_Qi (fun r u => (r, u) = res) (Bw D (tyW cI cZ cO) 17 a (cM cI cZ a) (AA 17 a s.heap.size)) (AA 17 a s.heap.size)) args s 0 0 (AA 17 a s.heap.size)) (k33 x1 x2 x3 S) 33 [(0, .ref (a 0)), (1, .int x1), (2, .int x2), (3, .int x3)] [] S) (n : Nat) (x1 : Int32) (x2 : Int32) (x3 : Int32) (x4 : Int32) (x5 : Int32) (S : St) : GF p l e rX9_best s m args below meth c D 17 a (cM cI cZ a) (AA 17 a s.heap.size) 8 0 0 (fun res => MQ below (va_Qi (fun r u => (r, u) = res) (Bw D (tyW cI cZ cO) 17 a (cM cI cZ a) (AA 17 a s.heap.size)) (AA 17 a s.heap.size)) args s 0 0 (AA 17 a s.heap.size)) (lX9_best_48 k33 n x1 x2 x3 x4 x5 S) 48 [(0, .ref (a 0)), (1, .int x1), (2, .int x2), (3, .int x3), (4, .int x4), (5, .int x5)] [] S :=
  lp_ind (P := fun k : Int32 → Int32 → Int32 → Int32 → Int32 → St → Option (Int32 × St) => ∀ (x1 : Int32) (x2 : Int32) (x3 : Int32) (x4 : Int32) (x5 : Int32) (S : St), GF p l e rX9_best s m args below meth c D 17 a (cM cI cZ a) (AA 17 a s.heap.size) 8 0 0 (fun res => MQ below (va_Qi (fun r u => (r, u) = res) (Bw D (tyW cI cZ cO) 17 a (cM cI cZ a) (AA 17 a s.heap.size)) (AA 17 a s.heap.size)) args s 0 0 (AA 17 a s.heap.size)) (k x1 x2 x3 x4 x5 S) 48 [(0, .ref (a 0)), (1, .int x1), (2, .int x2), (3, .int x3), (4, .int x4), (5, .int x5)] [] S) (fun _ _ _ _ _ _ => g_none) (fun k48 hk48 => tX9_best_48 hc hr hlk hE k33 hk33 k48 hk48) n x1 x2 x3 x4 x5 S
set_option maxHeartbeats 4000000 in
set_option maxRecDepth 100000 in
theorem tX9_best_33 {p : Program} {e : Env} {s : State} {m : MethodId} {args : Array Value} {below : List Frame} {meth : Method} {c : Code} (hc : CT p s m args c cX9_best 8 RX9 wsX9_best D (tyW cI cZ cO)) (hr : meth.sig.returnType = (some .int)) (hlk : meth.locks = false) (hE : EvM (AA 17 a s.heap.size) s) (k33 : Int32 → Int32 → Int32 → St → Option (Int32 × St)) (hk33 : ∀ (x1 : Int32) (x2 : Int32) (x3 : Int32) (S : St), GF p l e rX9_best s m args below meth c D 17 a (cM cI cZ a) (AA 17 a s.heap.size) 8 0 0 (fun res => MQ below (va_Qi (fun r u => (r, u) = res) (Bw D (tyW cI cZ cO) 17 a (cM cI cZ a) (AA 17 a s.heap.size)) (AA 17 a s.heap.size)) args s 0 0 (AA 17 a s.heap.size)) (k33 x1 x2 x3 S) 33 [(0, .ref (a 0)), (1, .int x1), (2, .int x2), (3, .int x3)] [] S) (x1 : Int32) (x2 : Int32) (x3 : Int32) (S : St) : GF p l e rX9_best s m args below meth c D 17 a (cM cI cZ a) (AA 17 a s.heap.size) 8 0 0 (fun res => MQ below (va_Qi (fun r u => (r, u) = res) (Bw D (tyW cI cZ cO) 17 a (cM cI cZ a) (AA 17 a s.heap.size)) (AA 17 a s.heap.size)) args s 0 0 (AA 17 a s.heap.size)) (bX9_best_33 k33 x1 x2 x3 S) 33 [(0, .ref (a 0)), (1, .int x1), (2, .int x2), (3, .int x3)] [] S := by
  unfold bX9_best_33
  refine g_iload_n (j := 3) hc dX9_best_33 rfl rfl ?_
  refine g_iload_n (j := 1) hc dX9_best_34 rfl rfl ?_
  refine g_icmp_gt (tgt := 149) hc dX9_best_35 (by decide) ?_ ?_
  · refine g_iload_n (j := 2) hc dX9_best_149 rfl rfl ?_
    exact g_iret hc hr hlk dX9_best_150
  · refine g_iconst (v := 1) hc dX9_best_38 (by decide) ?_
    refine g_iconst (v := 2) hc dX9_best_39 (by decide) ?_
    refine g_iload_n (j := 3) hc dX9_best_40 rfl rfl ?_
    refine g_imul hc dX9_best_41 ?_
    refine g_ishl hc dX9_best_42 ?_
    refine g_istore (L := fun v1 => [(4, .int v1), (0, .ref (a 0)), (1, .int x1), (2, .int x2), (3, .int x3)]) hc dX9_best_43 (by decide) (fun _ => rfl) (fun v1 => ?_)
    refine g_iconst (v := 0) hc dX9_best_45 (by decide) ?_
    refine g_istore (L := fun v2 => [(5, .int v2), (4, .int v1), (0, .ref (a 0)), (1, .int x1), (2, .int x2), (3, .int x3)]) hc dX9_best_46 (by decide) (fun _ => rfl) (fun v2 => ?_)
    refine g_lv [2, 3, 4, 5, 1, 0] rfl ?_
    exact TX9_best_48 hc hr hlk hE k33 hk33 FU x1 x2 x3 v1 v2 S
set_option maxHeartbeats 4000000 in
set_option maxRecDepth 100000 in
theorem TX9_best_33 {p : Program} {e : Env} {s : State} {m : MethodId} {args : Array Value} {below : List Frame} {meth : Method} {c : Code} (hc : CT p s m args c cX9_best 8 RX9 wsX9_best D (tyW cI cZ cO)) (hr : meth.sig.returnType = (some .int)) (hlk : meth.locks = false) (hE : EvM (AA 17 a s.heap.size) s) (n : Nat) (x1 : Int32) (x2 : Int32) (x3 : Int32) (S : St) : GF p l e rX9_best s m args below meth c D 17 a (cM cI cZ a) (AA 17 a s.heap.size) 8 0 0 (fun res => MQ below (va_Qi (fun r u => (r, u) = res) (Bw D (tyW cI cZ cO) 17 a (cM cI cZ a) (AA 17 a s.heap.size)) (AA 17 a s.heap.size)) args s 0 0 (AA 17 a s.heap.size)) (lX9_best_33 n x1 x2 x3 S) 33 [(0, .ref (a 0)), (1, .int x1), (2, .int x2), (3, .int x3)] [] S :=
  lp_ind (P := fun k : Int32 → Int32 → Int32 → St → Option (Int32 × St) => ∀ (x1 : Int32) (x2 : Int32) (x3 : Int32) (S : St), GF p l e rX9_best s m args below meth c D 17 a (cM cI cZ a) (AA 17 a s.heap.size) 8 0 0 (fun res => MQ below (va_Qi (fun r u => (r, u) = res) (Bw D (tyW cI cZ cO) 17 a (cM cI cZ a) (AA 17 a s.heap.size)) (AA 17 a s.heap.size)) args s 0 0 (AA 17 a s.heap.size)) (k x1 x2 x3 S) 33 [(0, .ref (a 0)), (1, .int x1), (2, .int x2), (3, .int x3)] [] S) (fun _ _ _ _ => g_none) (fun k33 hk33 => tX9_best_33 hc hr hlk hE k33 hk33) n x1 x2 x3 S
set_option maxHeartbeats 4000000 in
set_option maxRecDepth 100000 in
theorem tX9_best_20 {p : Program} {e : Env} {s : State} {m : MethodId} {args : Array Value} {below : List Frame} {meth : Method} {c : Code} (hc : CT p s m args c cX9_best 8 RX9 wsX9_best D (tyW cI cZ cO)) (hr : meth.sig.returnType = (some .int)) (hlk : meth.locks = false) (hE : EvM (AA 17 a s.heap.size) s) (x1 : Int32) (y1 : Int32) (S : St) : GF p l e rX9_best s m args below meth c D 17 a (cM cI cZ a) (AA 17 a s.heap.size) 8 0 0 (fun res => MQ below (va_Qi (fun r u => (r, u) = res) (Bw D (tyW cI cZ cO) 17 a (cM cI cZ a) (AA 17 a s.heap.size)) (AA 17 a s.heap.size)) args s 0 0 (AA 17 a s.heap.size)) (bX9_best_20 x1 y1 S) 20 [(0, .ref (a 0)), (1, .int x1)] [.int y1, .ref (a 0)] S := by
  unfold bX9_best_20
  refine g_iconst (v := 1) hc dX9_best_20 (by decide) ?_
  refine g_callVi (As := [.int y1, .int 1]) (rest := []) (k := 0) (ci := 9) (q0 := (RX9, TX9, 24)) hc hE trM rfl (fun _ h => mX9_right y1 1 S _ h) (cwV 2 hc.1.2.2.2.2 gX9_best_X9_right rfl rfl rfl (by decide +kernel) ⟨by decide, by decide⟩) (by decide) rfl rfl rfl rfl (Nat.le_of_ble_eq_true rfl) dX9_best_21 ⟨by decide, by decide⟩ (fun v1 S2 => ?_)
  refine g_if_ne (tgt := 29) hc dX9_best_24 (by decide) ?_ ?_
  · refine g_iconst (v := -1) hc dX9_best_29 (by decide) ?_
    refine g_istore_n (L := fun v3 => [(2, .int v3), (0, .ref (a 0)), (1, .int x1)]) hc dX9_best_30 rfl (by decide) (fun _ => rfl) (fun v3 => ?_)
    refine g_iconst (v := 0) hc dX9_best_31 (by decide) ?_
    refine g_istore_n (L := fun v4 => [(3, .int v4), (2, .int v3), (0, .ref (a 0)), (1, .int x1)]) hc dX9_best_32 rfl (by decide) (fun _ => rfl) (fun v4 => ?_)
    refine g_lv [2, 3, 1, 0] rfl ?_
    exact TX9_best_33 hc hr hlk hE FU x1 v3 v4 S2
  · refine g_iconst (v := 0) hc dX9_best_27 (by decide) ?_
    exact g_iret hc hr hlk dX9_best_28
set_option maxHeartbeats 4000000 in
set_option maxRecDepth 100000 in
theorem tX9_best_19 {p : Program} {e : Env} {s : State} {m : MethodId} {args : Array Value} {below : List Frame} {meth : Method} {c : Code} (hc : CT p s m args c cX9_best 8 RX9 wsX9_best D (tyW cI cZ cO)) (hr : meth.sig.returnType = (some .int)) (hlk : meth.locks = false) (hE : EvM (AA 17 a s.heap.size) s) (x1 : Int32) (S : St) : GF p l e rX9_best s m args below meth c D 17 a (cM cI cZ a) (AA 17 a s.heap.size) 8 0 0 (fun res => MQ below (va_Qi (fun r u => (r, u) = res) (Bw D (tyW cI cZ cO) 17 a (cM cI cZ a) (AA 17 a s.heap.size)) (AA 17 a s.heap.size)) args s 0 0 (AA 17 a s.heap.size)) (bX9_best_19 x1 S) 19 [(0, .ref (a 0)), (1, .int x1)] [.ref (a 0)] S := by
  unfold bX9_best_19
  refine g_iconst (v := 0) hc dX9_best_19 (by decide) ?_
  exact tX9_best_20 hc hr hlk hE x1 0 S
set_option maxHeartbeats 4000000 in
set_option maxRecDepth 100000 in
theorem mX9_best (x1 : Int32) (S : St) : ∀ q, uX9_best x1 S = some q → Ki l yX9_best wsX9_best rX9_best D (tyW cI cZ cO) 17 a (cM cI cZ a) (EvM) [.ref (a 0), .int x1] S q := by
  refine m_Ki (cc := cX9_best) (nL := 8) (ret := (some .int)) (lv := [(0, .ref (a 0)), (1, .int x1)]) (by decide) rfl (Nat.le_of_ble_eq_true rfl) rfl ?_
  intro p e s m args below meth c hc hr hlk hE
  unfold uX9_best
  refine g_aload_n (j := 0) hc dX9_best_0 rfl rfl ?_
  refine g_iconst (v := 0) hc dX9_best_1 (by decide) ?_
  refine g_put (ty := .int) (C0 := RX9) (T := TX9) (M := 24) (k := 0) (ci := 9) hc locM tyX9 tyX9_ok nmX9 inX9_best_X9 (by decide) rfl rfl 0 (by decide) (List.mem_of_getElem? (i := 1) rfl) rfl rfl (by decide +kernel) rfl rfl (Nat.le_of_ble_eq_true rfl) rfl rfl dX9_best_2 (fun S1 => ?_)
  refine g_aload_n (j := 0) hc dX9_best_5 rfl rfl ?_
  refine g_iload_n (j := 1) hc dX9_best_6 rfl rfl ?_
  refine g_if_lt (tgt := 19) hc dX9_best_7 (by decide) ?_ ?_
  · exact tX9_best_19 hc hr hlk hE x1 S1
  · refine g_iload_n (j := 1) hc dX9_best_10 rfl rfl ?_
    refine g_iconst (v := 4) hc dX9_best_11 (by decide) ?_
    refine g_icmp_gt (tgt := 19) hc dX9_best_12 (by decide) ?_ ?_
    · exact tX9_best_19 hc hr hlk hE x1 S1
    · refine g_iconst (v := 1) hc dX9_best_15 (by decide) ?_
      refine g_goto (tgt := 20) hc dX9_best_16 (by decide) ?_
      exact tX9_best_20 hc hr hlk hE x1 1 S1
set_option maxHeartbeats 4000000 in
set_option maxRecDepth 100000 in
theorem tX9_kept_68 {p : Program} {e : Env} {s : State} {m : MethodId} {args : Array Value} {below : List Frame} {meth : Method} {c : Code} (hc : CT p s m args c cX9_kept 2 RX9 wsX9_kept D (tyW cI cZ cO)) (hr : meth.sig.returnType = (some .int)) (hlk : meth.locks = false) (hE : EvM (AA 17 a s.heap.size) s) (y0 : Int32) (S : St) : GF p l e rX9_kept s m args below meth c D 17 a (cM cI cZ a) (AA 17 a s.heap.size) 2 0 0 (fun res => MQ below (va_Qi (fun r u => (r, u) = res) (Bw D (tyW cI cZ cO) 17 a (cM cI cZ a) (AA 17 a s.heap.size)) (AA 17 a s.heap.size)) args s 0 0 (AA 17 a s.heap.size)) (bX9_kept_68 y0 S) 68 [] [.int y0] S := by
  unfold bX9_kept_68
  exact g_iret hc hr hlk dX9_kept_68
set_option maxHeartbeats 4000000 in
set_option maxRecDepth 100000 in
theorem tX9_kept_20 {p : Program} {e : Env} {s : State} {m : MethodId} {args : Array Value} {below : List Frame} {meth : Method} {c : Code} (hc : CT p s m args c cX9_kept 2 RX9 wsX9_kept D (tyW cI cZ cO)) (hr : meth.sig.returnType = (some .int)) (hlk : meth.locks = false) (hE : EvM (AA 17 a s.heap.size) s) (x1 : Int32) (y1 : Int32) (S : St) : GF p l e rX9_kept s m args below meth c D 17 a (cM cI cZ a) (AA 17 a s.heap.size) 2 0 0 (fun res => MQ below (va_Qi (fun r u => (r, u) = res) (Bw D (tyW cI cZ cO) 17 a (cM cI cZ a) (AA 17 a s.heap.size)) (AA 17 a s.heap.size)) args s 0 0 (AA 17 a s.heap.size)) (bX9_kept_20 x1 y1 S) 20 [(0, .ref (a 0)), (1, .int x1)] [.int y1, .ref (a 0)] S := by
  unfold bX9_kept_20
  refine g_iconst (v := 1) hc dX9_kept_20 (by decide) ?_
  refine g_callVi (As := [.int y1, .int 1]) (rest := []) (k := 0) (ci := 9) (q0 := (RX9, TX9, 24)) hc hE trM rfl (fun _ h => mX9_right y1 1 S _ h) (cwV 2 hc.1.2.2.2.2 gX9_kept_X9_right rfl rfl rfl (by decide +kernel) ⟨by decide, by decide⟩) (by decide) rfl rfl rfl rfl (Nat.le_of_ble_eq_true rfl) dX9_kept_21 ⟨by decide, by decide⟩ (fun v1 S2 => ?_)
  refine g_if_ne (tgt := 29) hc dX9_kept_24 (by decide) ?_ ?_
  · refine g_aload_n (j := 0) hc dX9_kept_29 rfl rfl ?_
    refine g_get (C0 := RX9) (T := TX9) (M := 24) (k := 0) (ci := 9) hc inX9_kept_X9 (by decide) rfl rfl 17 (by decide) (List.mem_of_getElem? (i := 2) rfl) rfl rfl dX9_kept_30 ?_
    refine g_if_ne (tgt := 38) hc dX9_kept_33 (by decide) ?_ ?_
    · refine g_iload_n (j := 1) hc dX9_kept_38 rfl rfl ?_
      refine g_if_ne (tgt := 49) hc dX9_kept_39 (by decide) ?_ ?_
      · refine g_iload_n (j := 1) hc dX9_kept_49 rfl rfl ?_
        refine g_iconst (v := 1) hc dX9_kept_50 (by decide) ?_
        refine g_icmp_ne (tgt := 64) hc dX9_kept_51 (by decide) ?_ ?_
        · refine g_aload_n (j := 0) hc dX9_kept_64 rfl rfl ?_
          refine g_get (C0 := RX9) (T := TX9) (M := 24) (k := 0) (ci := 9) hc inX9_kept_X9 (by decide) rfl rfl 19 (by decide) (List.mem_of_getElem? (i := 4) rfl) rfl rfl dX9_kept_65 ?_
          refine g_lv [] rfl ?_
          exact tX9_kept_68 hc hr hlk hE (S2 0 19) S2
        · refine g_aload_n (j := 0) hc dX9_kept_54 rfl rfl ?_
          refine g_get (C0 := RX9) (T := TX9) (M := 24) (k := 0) (ci := 9) hc inX9_kept_X9 (by decide) rfl rfl 18 (by decide) (List.mem_of_getElem? (i := 3) rfl) rfl rfl dX9_kept_55 ?_
          refine g_callSi (As := [.int (S2 0 18)]) (rest := []) hc hE trM rfl (fun _ h => mX9_bathsOf (S2 0 18) S2 _ h) (va_cwS 1 hc.1.2.2.2.2 gX9_kept_X9_bathsOf rfl rfl rfl (by decide +kernel) ⟨by decide, by decide⟩) rfl rfl (Nat.le_of_ble_eq_true rfl) dX9_kept_58 ⟨by decide, by decide⟩ (fun v3 S4 => ?_)
          refine g_goto (tgt := 68) hc dX9_kept_61 (by decide) ?_
          refine g_lv [] rfl ?_
          exact tX9_kept_68 hc hr hlk hE v3 S4
      · refine g_aload_n (j := 0) hc dX9_kept_42 rfl rfl ?_
        refine g_get (C0 := RX9) (T := TX9) (M := 24) (k := 0) (ci := 9) hc inX9_kept_X9 (by decide) rfl rfl 18 (by decide) (List.mem_of_getElem? (i := 3) rfl) rfl rfl dX9_kept_43 ?_
        refine g_goto (tgt := 68) hc dX9_kept_46 (by decide) ?_
        refine g_lv [] rfl ?_
        exact tX9_kept_68 hc hr hlk hE (S2 0 18) S2
    · refine g_iconst (v := -1) hc dX9_kept_36 (by decide) ?_
      exact g_iret hc hr hlk dX9_kept_37
  · refine g_iconst (v := 0) hc dX9_kept_27 (by decide) ?_
    exact g_iret hc hr hlk dX9_kept_28
set_option maxHeartbeats 4000000 in
set_option maxRecDepth 100000 in
theorem tX9_kept_19 {p : Program} {e : Env} {s : State} {m : MethodId} {args : Array Value} {below : List Frame} {meth : Method} {c : Code} (hc : CT p s m args c cX9_kept 2 RX9 wsX9_kept D (tyW cI cZ cO)) (hr : meth.sig.returnType = (some .int)) (hlk : meth.locks = false) (hE : EvM (AA 17 a s.heap.size) s) (x1 : Int32) (S : St) : GF p l e rX9_kept s m args below meth c D 17 a (cM cI cZ a) (AA 17 a s.heap.size) 2 0 0 (fun res => MQ below (va_Qi (fun r u => (r, u) = res) (Bw D (tyW cI cZ cO) 17 a (cM cI cZ a) (AA 17 a s.heap.size)) (AA 17 a s.heap.size)) args s 0 0 (AA 17 a s.heap.size)) (bX9_kept_19 x1 S) 19 [(0, .ref (a 0)), (1, .int x1)] [.ref (a 0)] S := by
  unfold bX9_kept_19
  refine g_iconst (v := 0) hc dX9_kept_19 (by decide) ?_
  exact tX9_kept_20 hc hr hlk hE x1 0 S
set_option maxHeartbeats 4000000 in
set_option maxRecDepth 100000 in
theorem mX9_kept (x1 : Int32) (S : St) : ∀ q, uX9_kept x1 S = some q → Ki l yX9_kept wsX9_kept rX9_kept D (tyW cI cZ cO) 17 a (cM cI cZ a) (EvM) [.ref (a 0), .int x1] S q := by
  refine m_Ki (cc := cX9_kept) (nL := 2) (ret := (some .int)) (lv := [(0, .ref (a 0)), (1, .int x1)]) (by decide) rfl (Nat.le_of_ble_eq_true rfl) rfl ?_
  intro p e s m args below meth c hc hr hlk hE
  unfold uX9_kept
  refine g_aload_n (j := 0) hc dX9_kept_0 rfl rfl ?_
  refine g_iconst (v := 0) hc dX9_kept_1 (by decide) ?_
  refine g_put (ty := .int) (C0 := RX9) (T := TX9) (M := 24) (k := 0) (ci := 9) hc locM tyX9 tyX9_ok nmX9 inX9_kept_X9 (by decide) rfl rfl 0 (by decide) (List.mem_of_getElem? (i := 1) rfl) rfl rfl (by decide +kernel) rfl rfl (Nat.le_of_ble_eq_true rfl) rfl rfl dX9_kept_2 (fun S1 => ?_)
  refine g_aload_n (j := 0) hc dX9_kept_5 rfl rfl ?_
  refine g_iload_n (j := 1) hc dX9_kept_6 rfl rfl ?_
  refine g_if_lt (tgt := 19) hc dX9_kept_7 (by decide) ?_ ?_
  · exact tX9_kept_19 hc hr hlk hE x1 S1
  · refine g_iload_n (j := 1) hc dX9_kept_10 rfl rfl ?_
    refine g_iconst (v := 2) hc dX9_kept_11 (by decide) ?_
    refine g_icmp_gt (tgt := 19) hc dX9_kept_12 (by decide) ?_ ?_
    · exact tX9_kept_19 hc hr hlk hE x1 S1
    · refine g_iconst (v := 1) hc dX9_kept_15 (by decide) ?_
      refine g_goto (tgt := 20) hc dX9_kept_16 (by decide) ?_
      exact tX9_kept_20 hc hr hlk hE x1 1 S1
set_option maxHeartbeats 4000000 in
set_option maxRecDepth 100000 in
theorem tX9_bits_45 {p : Program} {e : Env} {s : State} {m : MethodId} {args : Array Value} {below : List Frame} {meth : Method} {c : Code} (hc : CT p s m args c cX9_bits 3 RX9 wsX9_bits D (tyW cI cZ cO)) (hr : meth.sig.returnType = (some .int)) (hlk : meth.locks = false) (hE : EvM (AA 17 a s.heap.size) s) (y0 : Int32) (S : St) : GF p l e rX9_bits s m args below meth c D 17 a (cM cI cZ a) (AA 17 a s.heap.size) 3 0 0 (fun res => MQ below (va_Qi (fun r u => (r, u) = res) (Bw D (tyW cI cZ cO) 17 a (cM cI cZ a) (AA 17 a s.heap.size)) (AA 17 a s.heap.size)) args s 0 0 (AA 17 a s.heap.size)) (bX9_bits_45 y0 S) 45 [] [.int y0] S := by
  unfold bX9_bits_45
  exact g_iret hc hr hlk dX9_bits_45
set_option maxHeartbeats 4000000 in
set_option maxRecDepth 100000 in
theorem tX9_bits_21 {p : Program} {e : Env} {s : State} {m : MethodId} {args : Array Value} {below : List Frame} {meth : Method} {c : Code} (hc : CT p s m args c cX9_bits 3 RX9 wsX9_bits D (tyW cI cZ cO)) (hr : meth.sig.returnType = (some .int)) (hlk : meth.locks = false) (hE : EvM (AA 17 a s.heap.size) s) (S : St) : GF p l e rX9_bits s m args below meth c D 17 a (cM cI cZ a) (AA 17 a s.heap.size) 3 0 0 (fun res => MQ below (va_Qi (fun r u => (r, u) = res) (Bw D (tyW cI cZ cO) 17 a (cM cI cZ a) (AA 17 a s.heap.size)) (AA 17 a s.heap.size)) args s 0 0 (AA 17 a s.heap.size)) (bX9_bits_21 S) 21 [] [] S := by
  unfold bX9_bits_21
  refine g_iconst (v := 0) hc dX9_bits_21 (by decide) ?_
  exact g_iret hc hr hlk dX9_bits_22
set_option maxHeartbeats 4000000 in
set_option maxRecDepth 100000 in
theorem mX9_bits (x1 : Int32) (x2 : Int32) (S : St) : ∀ q, uX9_bits x1 x2 S = some q → Ki l yX9_bits wsX9_bits rX9_bits D (tyW cI cZ cO) 17 a (cM cI cZ a) (EvM) [.ref (a 0), .int x1, .int x2] S q := by
  refine m_Ki (cc := cX9_bits) (nL := 3) (ret := (some .int)) (lv := [(0, .ref (a 0)), (1, .int x1), (2, .int x2)]) (by decide) rfl (Nat.le_of_ble_eq_true rfl) rfl ?_
  intro p e s m args below meth c hc hr hlk hE
  unfold uX9_bits
  refine g_aload_n (j := 0) hc dX9_bits_0 rfl rfl ?_
  refine g_iconst (v := 0) hc dX9_bits_1 (by decide) ?_
  refine g_put (ty := .int) (C0 := RX9) (T := TX9) (M := 24) (k := 0) (ci := 9) hc locM tyX9 tyX9_ok nmX9 inX9_bits_X9 (by decide) rfl rfl 0 (by decide) (List.mem_of_getElem? (i := 1) rfl) rfl rfl (by decide +kernel) rfl rfl (Nat.le_of_ble_eq_true rfl) rfl rfl dX9_bits_2 (fun S1 => ?_)
  refine g_aload_n (j := 0) hc dX9_bits_5 rfl rfl ?_
  refine g_iload_n (j := 1) hc dX9_bits_6 rfl rfl ?_
  refine g_callVi (As := [.int x1]) (rest := []) (k := 0) (ci := 9) (q0 := (RX9, TX9, 24)) hc hE trM rfl (fun _ h => mX9_isBundle x1 S1 _ h) (cwV 1 hc.1.2.2.2.2 gX9_bits_X9_isBundle rfl rfl rfl (by decide +kernel) ⟨by decide, by decide⟩) (by decide) rfl rfl rfl rfl (Nat.le_of_ble_eq_true rfl) dX9_bits_7 ⟨by decide, by decide⟩ (fun v2 S3 => ?_)
  refine g_if_eq (tgt := 21) hc dX9_bits_10 (by decide) ?_ ?_
  · refine g_lv [] rfl ?_
    exact tX9_bits_21 hc hr hlk hE S3
  · refine g_aload_n (j := 0) hc dX9_bits_13 rfl rfl ?_
    refine g_iload_n (j := 2) hc dX9_bits_14 rfl rfl ?_
    refine g_callVi (As := [.int x2]) (rest := []) (k := 0) (ci := 9) (q0 := (RX9, TX9, 24)) hc hE trM rfl (fun _ h => mX9_isPlace x2 S3 _ h) (cwV 1 hc.1.2.2.2.2 gX9_bits_X9_isPlace rfl rfl rfl (by decide +kernel) ⟨by decide, by decide⟩) (by decide) rfl rfl rfl rfl (Nat.le_of_ble_eq_true rfl) dX9_bits_15 ⟨by decide, by decide⟩ (fun v4 S5 => ?_)
    refine g_if_ne (tgt := 23) hc dX9_bits_18 (by decide) ?_ ?_
    · refine g_aload_n (j := 0) hc dX9_bits_23 rfl rfl ?_
      refine g_get (C0 := RX9) (T := TX9) (M := 24) (k := 0) (ci := 9) hc inX9_bits_X9 (by decide) rfl rfl 17 (by decide) (List.mem_of_getElem? (i := 2) rfl) rfl rfl dX9_bits_24 ?_
      refine g_if_eq (tgt := 44) hc dX9_bits_27 (by decide) ?_ ?_
      · refine g_iconst (v := -1) hc dX9_bits_44 (by decide) ?_
        refine g_lv [] rfl ?_
        exact tX9_bits_45 hc hr hlk hE ((-1)) S5
      · refine g_aload_n (j := 0) hc dX9_bits_30 rfl rfl ?_
        refine g_get (C0 := RX9) (T := TX9) (M := 24) (k := 0) (ci := 9) hc inX9_bits_X9 (by decide) rfl rfl 20 (by decide) (List.mem_of_getElem? (i := 3) rfl) rfl rfl dX9_bits_31 ?_
        refine g_bipush (v := 24) hc dX9_bits_34 (by decide) ?_
        refine g_iload_n (j := 1) hc dX9_bits_36 rfl rfl ?_
        refine g_imul hc dX9_bits_37 ?_
        refine g_iload_n (j := 2) hc dX9_bits_38 rfl rfl ?_
        refine g_iadd hc dX9_bits_39 ?_
        refine g_iald (k := 13) (t0 := 0) hc (by decide) rfl rfl dX9_bits_40 ?_
        refine g_goto (tgt := 45) hc dX9_bits_41 (by decide) ?_
        refine g_lv [] rfl ?_
        exact tX9_bits_45 hc hr hlk hE (S5 13 ((24 * x1) + x2).toNatClampNeg) S5
    · refine g_lv [] rfl ?_
      exact tX9_bits_21 hc hr hlk hE S5
set_option maxHeartbeats 4000000 in
set_option maxRecDepth 100000 in
theorem tX9_bindsFor_52 {p : Program} {e : Env} {s : State} {m : MethodId} {args : Array Value} {below : List Frame} {meth : Method} {c : Code} (hc : CT p s m args c cX9_bindsFor 4 RX9 wsX9_bindsFor D (tyW cI cZ cO)) (hr : meth.sig.returnType = none) (hlk : meth.locks = false) (hE : EvM (AA 17 a s.heap.size) s) (k2 : Int32 → Int32 → St → Option (Int32 × St)) (hk2 : ∀ (x1 : Int32) (x2 : Int32) (S : St), GF p l e rX9_bindsFor s m args below meth c D 17 a (cM cI cZ a) (AA 17 a s.heap.size) 4 0 0 (fun res => MQ below (va_Qv (fun u => ((0 : Int32), u) = res) (Bw D (tyW cI cZ cO) 17 a (cM cI cZ a) (AA 17 a s.heap.size)) (AA 17 a s.heap.size)) args s 0 0 (AA 17 a s.heap.size)) (k2 x1 x2 S) 2 [(0, .ref (a 0)), (1, .int x1), (2, .int x2)] [] S) (k10 : Int32 → Int32 → Int32 → St → Option (Int32 × St)) (hk10 : ∀ (x1 : Int32) (x2 : Int32) (x3 : Int32) (S : St), GF p l e rX9_bindsFor s m args below meth c D 17 a (cM cI cZ a) (AA 17 a s.heap.size) 4 0 0 (fun res => MQ below (va_Qv (fun u => ((0 : Int32), u) = res) (Bw D (tyW cI cZ cO) 17 a (cM cI cZ a) (AA 17 a s.heap.size)) (AA 17 a s.heap.size)) args s 0 0 (AA 17 a s.heap.size)) (k10 x1 x2 x3 S) 10 [(0, .ref (a 0)), (1, .int x1), (2, .int x2), (3, .int x3)] [] S) (x1 : Int32) (x2 : Int32) (x3 : Int32) (y1 : Int32) (y2 : Int32) (S : St) : GF p l e rX9_bindsFor s m args below meth c D 17 a (cM cI cZ a) (AA 17 a s.heap.size) 4 0 0 (fun res => MQ below (va_Qv (fun u => ((0 : Int32), u) = res) (Bw D (tyW cI cZ cO) 17 a (cM cI cZ a) (AA 17 a s.heap.size)) (AA 17 a s.heap.size)) args s 0 0 (AA 17 a s.heap.size)) (bX9_bindsFor_52 k2 k10 x1 x2 x3 y1 y2 S) 52 [(0, .ref (a 0)), (1, .int x1), (2, .int x2), (3, .int x3)] [.int y2, .int y1, .ref (a 9)] S := by
  unfold bX9_bindsFor_52
  refine g_zast (k := 9) (t0 := 1) hc locM (by decide) rfl rfl rfl dX9_bindsFor_52 (fun S1 => ?_)
  refine g_iinc (j := 3) (w := x3 + 1) (L := fun v2 => [(3, .int v2), (0, .ref (a 0)), (1, .int x1), (2, .int x2)]) hc dX9_bindsFor_53 rfl (by rfl) (by decide) (fun _ => rfl) (fun v2 => ?_)
  refine g_goto (tgt := 10) hc dX9_bindsFor_56 (by decide) ?_
  refine g_lv [1, 2, 3, 0] rfl ?_
  exact hk10 x1 x2 v2 S1
set_option maxHeartbeats 4000000 in
set_option maxRecDepth 100000 in
theorem tX9_bindsFor_10 {p : Program} {e : Env} {s : State} {m : MethodId} {args : Array Value} {below : List Frame} {meth : Method} {c : Code} (hc : CT p s m args c cX9_bindsFor 4 RX9 wsX9_bindsFor D (tyW cI cZ cO)) (hr : meth.sig.returnType = none) (hlk : meth.locks = false) (hE : EvM (AA 17 a s.heap.size) s) (k2 : Int32 → Int32 → St → Option (Int32 × St)) (hk2 : ∀ (x1 : Int32) (x2 : Int32) (S : St), GF p l e rX9_bindsFor s m args below meth c D 17 a (cM cI cZ a) (AA 17 a s.heap.size) 4 0 0 (fun res => MQ below (va_Qv (fun u => ((0 : Int32), u) = res) (Bw D (tyW cI cZ cO) 17 a (cM cI cZ a) (AA 17 a s.heap.size)) (AA 17 a s.heap.size)) args s 0 0 (AA 17 a s.heap.size)) (k2 x1 x2 S) 2 [(0, .ref (a 0)), (1, .int x1), (2, .int x2)] [] S) (k10 : Int32 → Int32 → Int32 → St → Option (Int32 × St)) (hk10 : ∀ (x1 : Int32) (x2 : Int32) (x3 : Int32) (S : St), GF p l e rX9_bindsFor s m args below meth c D 17 a (cM cI cZ a) (AA 17 a s.heap.size) 4 0 0 (fun res => MQ below (va_Qv (fun u => ((0 : Int32), u) = res) (Bw D (tyW cI cZ cO) 17 a (cM cI cZ a) (AA 17 a s.heap.size)) (AA 17 a s.heap.size)) args s 0 0 (AA 17 a s.heap.size)) (k10 x1 x2 x3 S) 10 [(0, .ref (a 0)), (1, .int x1), (2, .int x2), (3, .int x3)] [] S) (x1 : Int32) (x2 : Int32) (x3 : Int32) (S : St) : GF p l e rX9_bindsFor s m args below meth c D 17 a (cM cI cZ a) (AA 17 a s.heap.size) 4 0 0 (fun res => MQ below (va_Qv (fun u => ((0 : Int32), u) = res) (Bw D (tyW cI cZ cO) 17 a (cM cI cZ a) (AA 17 a s.heap.size)) (AA 17 a s.heap.size)) args s 0 0 (AA 17 a s.heap.size)) (bX9_bindsFor_10 k2 k10 x1 x2 x3 S) 10 [(0, .ref (a 0)), (1, .int x1), (2, .int x2), (3, .int x3)] [] S := by
  unfold bX9_bindsFor_10
  refine g_iload_n (j := 3) hc dX9_bindsFor_10 rfl rfl ?_
  refine g_aload_n (j := 0) hc dX9_bindsFor_11 rfl rfl ?_
  refine g_get (C0 := RX9) (T := TX9) (M := 24) (k := 0) (ci := 9) hc inX9_bindsFor_X9 (by decide) rfl rfl 2 (by decide) (List.mem_of_getElem? (i := 1) rfl) rfl rfl dX9_bindsFor_12 ?_
  refine g_icmp_ge (tgt := 59) hc dX9_bindsFor_15 (by decide) ?_ ?_
  · refine g_iinc (j := 2) (w := x2 + 1) (L := fun v1 => [(2, .int v1), (0, .ref (a 0)), (1, .int x1), (3, .int x3)]) hc dX9_bindsFor_59 rfl (by rfl) (by decide) (fun _ => rfl) (fun v1 => ?_)
    refine g_goto (tgt := 2) hc dX9_bindsFor_62 (by decide) ?_
    refine g_lv [1, 2, 0] rfl ?_
    exact hk2 x1 v1 S
  · refine g_aload_n (j := 0) hc dX9_bindsFor_18 rfl rfl ?_
    refine g_get (C0 := RX9) (T := TX9) (M := 24) (k := 0) (ci := 9) hc inX9_bindsFor_X9 (by decide) rfl rfl 13 (by decide) (List.mem_of_getElem? (i := 2) rfl) rfl rfl dX9_bindsFor_19 ?_
    refine g_bipush (v := 24) hc dX9_bindsFor_22 (by decide) ?_
    refine g_iload_n (j := 2) hc dX9_bindsFor_24 rfl rfl ?_
    refine g_imul hc dX9_bindsFor_25 ?_
    refine g_iload_n (j := 3) hc dX9_bindsFor_26 rfl rfl ?_
    refine g_iadd hc dX9_bindsFor_27 ?_
    refine g_aload_n (j := 0) hc dX9_bindsFor_28 rfl rfl ?_
    refine g_get (C0 := RX9) (T := TX9) (M := 24) (k := 0) (ci := 9) hc inX9_bindsFor_X9 (by decide) rfl rfl 20 (by decide) (List.mem_of_getElem? (i := 3) rfl) rfl rfl dX9_bindsFor_29 ?_
    refine g_bipush (v := 24) hc dX9_bindsFor_32 (by decide) ?_
    refine g_iload_n (j := 2) hc dX9_bindsFor_34 rfl rfl ?_
    refine g_imul hc dX9_bindsFor_35 ?_
    refine g_iload_n (j := 3) hc dX9_bindsFor_36 rfl rfl ?_
    refine g_iadd hc dX9_bindsFor_37 ?_
    refine g_iald (k := 13) (t0 := 0) hc (by decide) rfl rfl dX9_bindsFor_38 ?_
    refine g_iload_n (j := 1) hc dX9_bindsFor_39 rfl rfl ?_
    refine g_ishr hc dX9_bindsFor_40 ?_
    refine g_iconst (v := 1) hc dX9_bindsFor_41 (by decide) ?_
    refine g_iand hc dX9_bindsFor_42 ?_
    refine g_iconst (v := 1) hc dX9_bindsFor_43 (by decide) ?_
    refine g_icmp_ne (tgt := 51) hc dX9_bindsFor_44 (by decide) ?_ ?_
    · refine g_iconst (v := 0) hc dX9_bindsFor_51 (by decide) ?_
      exact tX9_bindsFor_52 hc hr hlk hE k2 hk2 k10 hk10 x1 x2 x3 ((24 * x2) + x3) 0 S
    · refine g_iconst (v := 1) hc dX9_bindsFor_47 (by decide) ?_
      refine g_goto (tgt := 52) hc dX9_bindsFor_48 (by decide) ?_
      exact tX9_bindsFor_52 hc hr hlk hE k2 hk2 k10 hk10 x1 x2 x3 ((24 * x2) + x3) 1 S
set_option maxHeartbeats 4000000 in
set_option maxRecDepth 100000 in
theorem TX9_bindsFor_10 {p : Program} {e : Env} {s : State} {m : MethodId} {args : Array Value} {below : List Frame} {meth : Method} {c : Code} (hc : CT p s m args c cX9_bindsFor 4 RX9 wsX9_bindsFor D (tyW cI cZ cO)) (hr : meth.sig.returnType = none) (hlk : meth.locks = false) (hE : EvM (AA 17 a s.heap.size) s) (k2 : Int32 → Int32 → St → Option (Int32 × St)) (hk2 : ∀ (x1 : Int32) (x2 : Int32) (S : St), GF p l e rX9_bindsFor s m args below meth c D 17 a (cM cI cZ a) (AA 17 a s.heap.size) 4 0 0 (fun res => MQ below (va_Qv (fun u => ((0 : Int32), u) = res) (Bw D (tyW cI cZ cO) 17 a (cM cI cZ a) (AA 17 a s.heap.size)) (AA 17 a s.heap.size)) args s 0 0 (AA 17 a s.heap.size)) (k2 x1 x2 S) 2 [(0, .ref (a 0)), (1, .int x1), (2, .int x2)] [] S) (n : Nat) (x1 : Int32) (x2 : Int32) (x3 : Int32) (S : St) : GF p l e rX9_bindsFor s m args below meth c D 17 a (cM cI cZ a) (AA 17 a s.heap.size) 4 0 0 (fun res => MQ below (va_Qv (fun u => ((0 : Int32), u) = res) (Bw D (tyW cI cZ cO) 17 a (cM cI cZ a) (AA 17 a s.heap.size)) (AA 17 a s.heap.size)) args s 0 0 (AA 17 a s.heap.size)) (lX9_bindsFor_10 k2 n x1 x2 x3 S) 10 [(0, .ref (a 0)), (1, .int x1), (2, .int x2), (3, .int x3)] [] S :=
  lp_ind (P := fun k : Int32 → Int32 → Int32 → St → Option (Int32 × St) => ∀ (x1 : Int32) (x2 : Int32) (x3 : Int32) (S : St), GF p l e rX9_bindsFor s m args below meth c D 17 a (cM cI cZ a) (AA 17 a s.heap.size) 4 0 0 (fun res => MQ below (va_Qv (fun u => ((0 : Int32), u) = res) (Bw D (tyW cI cZ cO) 17 a (cM cI cZ a) (AA 17 a s.heap.size)) (AA 17 a s.heap.size)) args s 0 0 (AA 17 a s.heap.size)) (k x1 x2 x3 S) 10 [(0, .ref (a 0)), (1, .int x1), (2, .int x2), (3, .int x3)] [] S) (fun _ _ _ _ => g_none) (fun k10 hk10 => tX9_bindsFor_10 hc hr hlk hE k2 hk2 k10 hk10) n x1 x2 x3 S
set_option maxHeartbeats 4000000 in
set_option maxRecDepth 100000 in
theorem tX9_bindsFor_2 {p : Program} {e : Env} {s : State} {m : MethodId} {args : Array Value} {below : List Frame} {meth : Method} {c : Code} (hc : CT p s m args c cX9_bindsFor 4 RX9 wsX9_bindsFor D (tyW cI cZ cO)) (hr : meth.sig.returnType = none) (hlk : meth.locks = false) (hE : EvM (AA 17 a s.heap.size) s) (k2 : Int32 → Int32 → St → Option (Int32 × St)) (hk2 : ∀ (x1 : Int32) (x2 : Int32) (S : St), GF p l e rX9_bindsFor s m args below meth c D 17 a (cM cI cZ a) (AA 17 a s.heap.size) 4 0 0 (fun res => MQ below (va_Qv (fun u => ((0 : Int32), u) = res) (Bw D (tyW cI cZ cO) 17 a (cM cI cZ a) (AA 17 a s.heap.size)) (AA 17 a s.heap.size)) args s 0 0 (AA 17 a s.heap.size)) (k2 x1 x2 S) 2 [(0, .ref (a 0)), (1, .int x1), (2, .int x2)] [] S) (x1 : Int32) (x2 : Int32) (S : St) : GF p l e rX9_bindsFor s m args below meth c D 17 a (cM cI cZ a) (AA 17 a s.heap.size) 4 0 0 (fun res => MQ below (va_Qv (fun u => ((0 : Int32), u) = res) (Bw D (tyW cI cZ cO) 17 a (cM cI cZ a) (AA 17 a s.heap.size)) (AA 17 a s.heap.size)) args s 0 0 (AA 17 a s.heap.size)) (bX9_bindsFor_2 k2 x1 x2 S) 2 [(0, .ref (a 0)), (1, .int x1), (2, .int x2)] [] S := by
  unfold bX9_bindsFor_2
  refine g_iload_n (j := 2) hc dX9_bindsFor_2 rfl rfl ?_
  refine g_bipush (v := 8) hc dX9_bindsFor_3 (by decide) ?_
  refine g_icmp_ge (tgt := 65) hc dX9_bindsFor_5 (by decide) ?_ ?_
  · exact g_vret hc hr hlk dX9_bindsFor_65
  · refine g_iconst (v := 0) hc dX9_bindsFor_8 (by decide) ?_
    refine g_istore_n (L := fun v1 => [(3, .int v1), (0, .ref (a 0)), (1, .int x1), (2, .int x2)]) hc dX9_bindsFor_9 rfl (by decide) (fun _ => rfl) (fun v1 => ?_)
    refine g_lv [1, 2, 3, 0] rfl ?_
    exact TX9_bindsFor_10 hc hr hlk hE k2 hk2 FU x1 x2 v1 S
set_option maxHeartbeats 4000000 in
set_option maxRecDepth 100000 in
theorem TX9_bindsFor_2 {p : Program} {e : Env} {s : State} {m : MethodId} {args : Array Value} {below : List Frame} {meth : Method} {c : Code} (hc : CT p s m args c cX9_bindsFor 4 RX9 wsX9_bindsFor D (tyW cI cZ cO)) (hr : meth.sig.returnType = none) (hlk : meth.locks = false) (hE : EvM (AA 17 a s.heap.size) s) (n : Nat) (x1 : Int32) (x2 : Int32) (S : St) : GF p l e rX9_bindsFor s m args below meth c D 17 a (cM cI cZ a) (AA 17 a s.heap.size) 4 0 0 (fun res => MQ below (va_Qv (fun u => ((0 : Int32), u) = res) (Bw D (tyW cI cZ cO) 17 a (cM cI cZ a) (AA 17 a s.heap.size)) (AA 17 a s.heap.size)) args s 0 0 (AA 17 a s.heap.size)) (lX9_bindsFor_2 n x1 x2 S) 2 [(0, .ref (a 0)), (1, .int x1), (2, .int x2)] [] S :=
  lp_ind (P := fun k : Int32 → Int32 → St → Option (Int32 × St) => ∀ (x1 : Int32) (x2 : Int32) (S : St), GF p l e rX9_bindsFor s m args below meth c D 17 a (cM cI cZ a) (AA 17 a s.heap.size) 4 0 0 (fun res => MQ below (va_Qv (fun u => ((0 : Int32), u) = res) (Bw D (tyW cI cZ cO) 17 a (cM cI cZ a) (AA 17 a s.heap.size)) (AA 17 a s.heap.size)) args s 0 0 (AA 17 a s.heap.size)) (k x1 x2 S) 2 [(0, .ref (a 0)), (1, .int x1), (2, .int x2)] [] S) (fun _ _ _ => g_none) (fun k2 hk2 => tX9_bindsFor_2 hc hr hlk hE k2 hk2) n x1 x2 S
set_option maxHeartbeats 4000000 in
set_option maxRecDepth 100000 in
theorem mX9_bindsFor (x1 : Int32) (S : St) : ∀ q, uX9_bindsFor x1 S = some q → Kv l yX9_bindsFor wsX9_bindsFor rX9_bindsFor D (tyW cI cZ cO) 17 a (cM cI cZ a) (EvM) [.ref (a 0), .int x1] S q := by
  refine m_Kv (cc := cX9_bindsFor) (nL := 4) (ret := none) (lv := [(0, .ref (a 0)), (1, .int x1)]) (by decide) rfl (Nat.le_of_ble_eq_true rfl) rfl ?_
  intro p e s m args below meth c hc hr hlk hE
  unfold uX9_bindsFor
  refine g_iconst (v := 0) hc dX9_bindsFor_0 (by decide) ?_
  refine g_istore_n (L := fun v1 => [(2, .int v1), (0, .ref (a 0)), (1, .int x1)]) hc dX9_bindsFor_1 rfl (by decide) (fun _ => rfl) (fun v1 => ?_)
  refine g_lv [1, 2, 0] rfl ?_
  exact TX9_bindsFor_2 hc hr hlk hE FU x1 v1 S
set_option maxHeartbeats 4000000 in
set_option maxRecDepth 100000 in
theorem tX9_takes_49 {p : Program} {e : Env} {s : State} {m : MethodId} {args : Array Value} {below : List Frame} {meth : Method} {c : Code} (hc : CT p s m args c cX9_takes 5 RX9 wsX9_takes D (tyW cI cZ cO)) (hr : meth.sig.returnType = (some .int)) (hlk : meth.locks = false) (hE : EvM (AA 17 a s.heap.size) s) (k4 : Int32 → Int32 → Int32 → St → Option (Int32 × St)) (hk4 : ∀ (x1 : Int32) (x2 : Int32) (x3 : Int32) (S : St), GF p l e rX9_takes s m args below meth c D 17 a (cM cI cZ a) (AA 17 a s.heap.size) 5 0 0 (fun res => MQ below (va_Qi (fun r u => (r, u) = res) (Bw D (tyW cI cZ cO) 17 a (cM cI cZ a) (AA 17 a s.heap.size)) (AA 17 a s.heap.size)) args s 0 0 (AA 17 a s.heap.size)) (k4 x1 x2 x3 S) 4 [(0, .ref (a 0)), (1, .int x1), (2, .int x2), (3, .int x3)] [] S) (k13 : Int32 → Int32 → Int32 → Int32 → St → Option (Int32 × St)) (hk13 : ∀ (x1 : Int32) (x2 : Int32) (x3 : Int32) (x4 : Int32) (S : St), GF p l e rX9_takes s m args below meth c D 17 a (cM cI cZ a) (AA 17 a s.heap.size) 5 0 0 (fun res => MQ below (va_Qi (fun r u => (r, u) = res) (Bw D (tyW cI cZ cO) 17 a (cM cI cZ a) (AA 17 a s.heap.size)) (AA 17 a s.heap.size)) args s 0 0 (AA 17 a s.heap.size)) (k13 x1 x2 x3 x4 S) 13 [(0, .ref (a 0)), (1, .int x1), (2, .int x2), (3, .int x3), (4, .int x4)] [] S) (x1 : Int32) (x2 : Int32) (x3 : Int32) (x4 : Int32) (S : St) : GF p l e rX9_takes s m args below meth c D 17 a (cM cI cZ a) (AA 17 a s.heap.size) 5 0 0 (fun res => MQ below (va_Qi (fun r u => (r, u) = res) (Bw D (tyW cI cZ cO) 17 a (cM cI cZ a) (AA 17 a s.heap.size)) (AA 17 a s.heap.size)) args s 0 0 (AA 17 a s.heap.size)) (bX9_takes_49 k4 k13 x1 x2 x3 x4 S) 49 [(0, .ref (a 0)), (1, .int x1), (2, .int x2), (3, .int x3), (4, .int x4)] [] S := by
  unfold bX9_takes_49
  refine g_iinc (j := 4) (w := x4 + 1) (L := fun v1 => [(4, .int v1), (0, .ref (a 0)), (1, .int x1), (2, .int x2), (3, .int x3)]) hc dX9_takes_49 rfl (by rfl) (by decide) (fun _ => rfl) (fun v1 => ?_)
  refine g_goto (tgt := 13) hc dX9_takes_52 (by decide) ?_
  refine g_lv [1, 2, 3, 4, 0] rfl ?_
  exact hk13 x1 x2 x3 v1 S
set_option maxHeartbeats 4000000 in
set_option maxRecDepth 100000 in
theorem tX9_takes_13 {p : Program} {e : Env} {s : State} {m : MethodId} {args : Array Value} {below : List Frame} {meth : Method} {c : Code} (hc : CT p s m args c cX9_takes 5 RX9 wsX9_takes D (tyW cI cZ cO)) (hr : meth.sig.returnType = (some .int)) (hlk : meth.locks = false) (hE : EvM (AA 17 a s.heap.size) s) (k4 : Int32 → Int32 → Int32 → St → Option (Int32 × St)) (hk4 : ∀ (x1 : Int32) (x2 : Int32) (x3 : Int32) (S : St), GF p l e rX9_takes s m args below meth c D 17 a (cM cI cZ a) (AA 17 a s.heap.size) 5 0 0 (fun res => MQ below (va_Qi (fun r u => (r, u) = res) (Bw D (tyW cI cZ cO) 17 a (cM cI cZ a) (AA 17 a s.heap.size)) (AA 17 a s.heap.size)) args s 0 0 (AA 17 a s.heap.size)) (k4 x1 x2 x3 S) 4 [(0, .ref (a 0)), (1, .int x1), (2, .int x2), (3, .int x3)] [] S) (k13 : Int32 → Int32 → Int32 → Int32 → St → Option (Int32 × St)) (hk13 : ∀ (x1 : Int32) (x2 : Int32) (x3 : Int32) (x4 : Int32) (S : St), GF p l e rX9_takes s m args below meth c D 17 a (cM cI cZ a) (AA 17 a s.heap.size) 5 0 0 (fun res => MQ below (va_Qi (fun r u => (r, u) = res) (Bw D (tyW cI cZ cO) 17 a (cM cI cZ a) (AA 17 a s.heap.size)) (AA 17 a s.heap.size)) args s 0 0 (AA 17 a s.heap.size)) (k13 x1 x2 x3 x4 S) 13 [(0, .ref (a 0)), (1, .int x1), (2, .int x2), (3, .int x3), (4, .int x4)] [] S) (x1 : Int32) (x2 : Int32) (x3 : Int32) (x4 : Int32) (S : St) : GF p l e rX9_takes s m args below meth c D 17 a (cM cI cZ a) (AA 17 a s.heap.size) 5 0 0 (fun res => MQ below (va_Qi (fun r u => (r, u) = res) (Bw D (tyW cI cZ cO) 17 a (cM cI cZ a) (AA 17 a s.heap.size)) (AA 17 a s.heap.size)) args s 0 0 (AA 17 a s.heap.size)) (bX9_takes_13 k4 k13 x1 x2 x3 x4 S) 13 [(0, .ref (a 0)), (1, .int x1), (2, .int x2), (3, .int x3), (4, .int x4)] [] S := by
  unfold bX9_takes_13
  refine g_iload (j := 4) hc dX9_takes_13 rfl ?_
  refine g_aload_n (j := 0) hc dX9_takes_15 rfl rfl ?_
  refine g_get (C0 := RX9) (T := TX9) (M := 24) (k := 0) (ci := 9) hc inX9_takes_X9 (by decide) rfl rfl 2 (by decide) (List.mem_of_getElem? (i := 1) rfl) rfl rfl dX9_takes_16 ?_
  refine g_icmp_ge (tgt := 55) hc dX9_takes_19 (by decide) ?_ ?_
  · refine g_iinc (j := 3) (w := x3 + 1) (L := fun v1 => [(3, .int v1), (0, .ref (a 0)), (1, .int x1), (2, .int x2), (4, .int x4)]) hc dX9_takes_55 rfl (by rfl) (by decide) (fun _ => rfl) (fun v1 => ?_)
    refine g_goto (tgt := 4) hc dX9_takes_58 (by decide) ?_
    refine g_lv [1, 2, 3, 0] rfl ?_
    exact hk4 x1 x2 v1 S
  · refine g_aload_n (j := 0) hc dX9_takes_22 rfl rfl ?_
    refine g_get (C0 := RX9) (T := TX9) (M := 24) (k := 0) (ci := 9) hc inX9_takes_X9 (by decide) rfl rfl 20 (by decide) (List.mem_of_getElem? (i := 2) rfl) rfl rfl dX9_takes_23 ?_
    refine g_bipush (v := 24) hc dX9_takes_26 (by decide) ?_
    refine g_iload_n (j := 3) hc dX9_takes_28 rfl rfl ?_
    refine g_imul hc dX9_takes_29 ?_
    refine g_iload (j := 4) hc dX9_takes_30 rfl ?_
    refine g_iadd hc dX9_takes_32 ?_
    refine g_iald (k := 13) (t0 := 0) hc (by decide) rfl rfl dX9_takes_33 ?_
    refine g_iload_n (j := 1) hc dX9_takes_34 rfl rfl ?_
    refine g_ishr hc dX9_takes_35 ?_
    refine g_iconst (v := 1) hc dX9_takes_36 (by decide) ?_
    refine g_iand hc dX9_takes_37 ?_
    refine g_if_ne (tgt := 49) hc dX9_takes_38 (by decide) ?_ ?_
    · exact tX9_takes_49 hc hr hlk hE k4 hk4 k13 hk13 x1 x2 x3 x4 S
    · refine g_iload_n (j := 2) hc dX9_takes_41 rfl rfl ?_
      refine g_aload_n (j := 0) hc dX9_takes_42 rfl rfl ?_
      refine g_iload_n (j := 3) hc dX9_takes_43 rfl rfl ?_
      refine g_callVi (As := [.int x3]) (rest := [.int x2]) (k := 0) (ci := 9) (q0 := (RX9, TX9, 24)) hc hE trM rfl (fun _ h => mX9_many x3 S _ h) (cwV 1 hc.1.2.2.2.2 gX9_takes_X9_many rfl rfl rfl (by decide +kernel) ⟨by decide, by decide⟩) (by decide) rfl rfl rfl rfl (Nat.le_of_ble_eq_true rfl) dX9_takes_44 ⟨by decide, by decide⟩ (fun v2 S3 => ?_)
      refine g_iadd hc dX9_takes_47 ?_
      refine g_istore_n (L := fun v4 => [(2, .int v4), (0, .ref (a 0)), (1, .int x1), (3, .int x3), (4, .int x4)]) hc dX9_takes_48 rfl (by decide) (fun _ => rfl) (fun v4 => ?_)
      refine g_lv [1, 2, 0, 3, 4] rfl ?_
      exact tX9_takes_49 hc hr hlk hE k4 hk4 k13 hk13 x1 v4 x3 x4 S3
set_option maxHeartbeats 4000000 in
set_option maxRecDepth 100000 in
theorem TX9_takes_13 {p : Program} {e : Env} {s : State} {m : MethodId} {args : Array Value} {below : List Frame} {meth : Method} {c : Code} (hc : CT p s m args c cX9_takes 5 RX9 wsX9_takes D (tyW cI cZ cO)) (hr : meth.sig.returnType = (some .int)) (hlk : meth.locks = false) (hE : EvM (AA 17 a s.heap.size) s) (k4 : Int32 → Int32 → Int32 → St → Option (Int32 × St)) (hk4 : ∀ (x1 : Int32) (x2 : Int32) (x3 : Int32) (S : St), GF p l e rX9_takes s m args below meth c D 17 a (cM cI cZ a) (AA 17 a s.heap.size) 5 0 0 (fun res => MQ below (va_Qi (fun r u => (r, u) = res) (Bw D (tyW cI cZ cO) 17 a (cM cI cZ a) (AA 17 a s.heap.size)) (AA 17 a s.heap.size)) args s 0 0 (AA 17 a s.heap.size)) (k4 x1 x2 x3 S) 4 [(0, .ref (a 0)), (1, .int x1), (2, .int x2), (3, .int x3)] [] S) (n : Nat) (x1 : Int32) (x2 : Int32) (x3 : Int32) (x4 : Int32) (S : St) : GF p l e rX9_takes s m args below meth c D 17 a (cM cI cZ a) (AA 17 a s.heap.size) 5 0 0 (fun res => MQ below (va_Qi (fun r u => (r, u) = res) (Bw D (tyW cI cZ cO) 17 a (cM cI cZ a) (AA 17 a s.heap.size)) (AA 17 a s.heap.size)) args s 0 0 (AA 17 a s.heap.size)) (lX9_takes_13 k4 n x1 x2 x3 x4 S) 13 [(0, .ref (a 0)), (1, .int x1), (2, .int x2), (3, .int x3), (4, .int x4)] [] S :=
  lp_ind (P := fun k : Int32 → Int32 → Int32 → Int32 → St → Option (Int32 × St) => ∀ (x1 : Int32) (x2 : Int32) (x3 : Int32) (x4 : Int32) (S : St), GF p l e rX9_takes s m args below meth c D 17 a (cM cI cZ a) (AA 17 a s.heap.size) 5 0 0 (fun res => MQ below (va_Qi (fun r u => (r, u) = res) (Bw D (tyW cI cZ cO) 17 a (cM cI cZ a) (AA 17 a s.heap.size)) (AA 17 a s.heap.size)) args s 0 0 (AA 17 a s.heap.size)) (k x1 x2 x3 x4 S) 13 [(0, .ref (a 0)), (1, .int x1), (2, .int x2), (3, .int x3), (4, .int x4)] [] S) (fun _ _ _ _ _ => g_none) (fun k13 hk13 => tX9_takes_13 hc hr hlk hE k4 hk4 k13 hk13) n x1 x2 x3 x4 S
set_option maxHeartbeats 4000000 in
set_option maxRecDepth 100000 in
theorem tX9_takes_4 {p : Program} {e : Env} {s : State} {m : MethodId} {args : Array Value} {below : List Frame} {meth : Method} {c : Code} (hc : CT p s m args c cX9_takes 5 RX9 wsX9_takes D (tyW cI cZ cO)) (hr : meth.sig.returnType = (some .int)) (hlk : meth.locks = false) (hE : EvM (AA 17 a s.heap.size) s) (k4 : Int32 → Int32 → Int32 → St → Option (Int32 × St)) (hk4 : ∀ (x1 : Int32) (x2 : Int32) (x3 : Int32) (S : St), GF p l e rX9_takes s m args below meth c D 17 a (cM cI cZ a) (AA 17 a s.heap.size) 5 0 0 (fun res => MQ below (va_Qi (fun r u => (r, u) = res) (Bw D (tyW cI cZ cO) 17 a (cM cI cZ a) (AA 17 a s.heap.size)) (AA 17 a s.heap.size)) args s 0 0 (AA 17 a s.heap.size)) (k4 x1 x2 x3 S) 4 [(0, .ref (a 0)), (1, .int x1), (2, .int x2), (3, .int x3)] [] S) (x1 : Int32) (x2 : Int32) (x3 : Int32) (S : St) : GF p l e rX9_takes s m args below meth c D 17 a (cM cI cZ a) (AA 17 a s.heap.size) 5 0 0 (fun res => MQ below (va_Qi (fun r u => (r, u) = res) (Bw D (tyW cI cZ cO) 17 a (cM cI cZ a) (AA 17 a s.heap.size)) (AA 17 a s.heap.size)) args s 0 0 (AA 17 a s.heap.size)) (bX9_takes_4 k4 x1 x2 x3 S) 4 [(0, .ref (a 0)), (1, .int x1), (2, .int x2), (3, .int x3)] [] S := by
  unfold bX9_takes_4
  refine g_iload_n (j := 3) hc dX9_takes_4 rfl rfl ?_
  refine g_bipush (v := 8) hc dX9_takes_5 (by decide) ?_
  refine g_icmp_ge (tgt := 61) hc dX9_takes_7 (by decide) ?_ ?_
  · refine g_iload_n (j := 2) hc dX9_takes_61 rfl rfl ?_
    exact g_iret hc hr hlk dX9_takes_62
  · refine g_iconst (v := 0) hc dX9_takes_10 (by decide) ?_
    refine g_istore (L := fun v1 => [(4, .int v1), (0, .ref (a 0)), (1, .int x1), (2, .int x2), (3, .int x3)]) hc dX9_takes_11 (by decide) (fun _ => rfl) (fun v1 => ?_)
    refine g_lv [1, 2, 3, 4, 0] rfl ?_
    exact TX9_takes_13 hc hr hlk hE k4 hk4 FU x1 x2 x3 v1 S
set_option maxHeartbeats 4000000 in
set_option maxRecDepth 100000 in
theorem TX9_takes_4 {p : Program} {e : Env} {s : State} {m : MethodId} {args : Array Value} {below : List Frame} {meth : Method} {c : Code} (hc : CT p s m args c cX9_takes 5 RX9 wsX9_takes D (tyW cI cZ cO)) (hr : meth.sig.returnType = (some .int)) (hlk : meth.locks = false) (hE : EvM (AA 17 a s.heap.size) s) (n : Nat) (x1 : Int32) (x2 : Int32) (x3 : Int32) (S : St) : GF p l e rX9_takes s m args below meth c D 17 a (cM cI cZ a) (AA 17 a s.heap.size) 5 0 0 (fun res => MQ below (va_Qi (fun r u => (r, u) = res) (Bw D (tyW cI cZ cO) 17 a (cM cI cZ a) (AA 17 a s.heap.size)) (AA 17 a s.heap.size)) args s 0 0 (AA 17 a s.heap.size)) (lX9_takes_4 n x1 x2 x3 S) 4 [(0, .ref (a 0)), (1, .int x1), (2, .int x2), (3, .int x3)] [] S :=
  lp_ind (P := fun k : Int32 → Int32 → Int32 → St → Option (Int32 × St) => ∀ (x1 : Int32) (x2 : Int32) (x3 : Int32) (S : St), GF p l e rX9_takes s m args below meth c D 17 a (cM cI cZ a) (AA 17 a s.heap.size) 5 0 0 (fun res => MQ below (va_Qi (fun r u => (r, u) = res) (Bw D (tyW cI cZ cO) 17 a (cM cI cZ a) (AA 17 a s.heap.size)) (AA 17 a s.heap.size)) args s 0 0 (AA 17 a s.heap.size)) (k x1 x2 x3 S) 4 [(0, .ref (a 0)), (1, .int x1), (2, .int x2), (3, .int x3)] [] S) (fun _ _ _ _ => g_none) (fun k4 hk4 => tX9_takes_4 hc hr hlk hE k4 hk4) n x1 x2 x3 S
set_option maxHeartbeats 4000000 in
set_option maxRecDepth 100000 in
theorem mX9_takes (x1 : Int32) (S : St) : ∀ q, uX9_takes x1 S = some q → Ki l yX9_takes wsX9_takes rX9_takes D (tyW cI cZ cO) 17 a (cM cI cZ a) (EvM) [.ref (a 0), .int x1] S q := by
  refine m_Ki (cc := cX9_takes) (nL := 5) (ret := (some .int)) (lv := [(0, .ref (a 0)), (1, .int x1)]) (by decide) rfl (Nat.le_of_ble_eq_true rfl) rfl ?_
  intro p e s m args below meth c hc hr hlk hE
  unfold uX9_takes
  refine g_iconst (v := 0) hc dX9_takes_0 (by decide) ?_
  refine g_istore_n (L := fun v1 => [(2, .int v1), (0, .ref (a 0)), (1, .int x1)]) hc dX9_takes_1 rfl (by decide) (fun _ => rfl) (fun v1 => ?_)
  refine g_iconst (v := 0) hc dX9_takes_2 (by decide) ?_
  refine g_istore_n (L := fun v2 => [(3, .int v2), (2, .int v1), (0, .ref (a 0)), (1, .int x1)]) hc dX9_takes_3 rfl (by decide) (fun _ => rfl) (fun v2 => ?_)
  refine g_lv [2, 3, 1, 0] rfl ?_
  exact TX9_takes_4 hc hr hlk hE FU x1 v1 v2 S
set_option maxHeartbeats 4000000 in
set_option maxRecDepth 100000 in
theorem tX9_dye_147 {p : Program} {e : Env} {s : State} {m : MethodId} {args : Array Value} {below : List Frame} {meth : Method} {c : Code} (hc : CT p s m args c cX9_dye 7 RX9 wsX9_dye D (tyW cI cZ cO)) (hr : meth.sig.returnType = (some .int)) (hlk : meth.locks = false) (hE : EvM (AA 17 a s.heap.size) s) (k147 : Int32 → Int32 → Int32 → St → Option (Int32 × St)) (hk147 : ∀ (x1 : Int32) (x2 : Int32) (x4 : Int32) (S : St), GF p l e rX9_dye s m args below meth c D 17 a (cM cI cZ a) (AA 17 a s.heap.size) 7 0 0 (fun res => MQ below (va_Qi (fun r u => (r, u) = res) (Bw D (tyW cI cZ cO) 17 a (cM cI cZ a) (AA 17 a s.heap.size)) (AA 17 a s.heap.size)) args s 0 0 (AA 17 a s.heap.size)) (k147 x1 x2 x4 S) 147 [(0, .ref (a 0)), (1, .int x1), (2, .int x2), (4, .int x4)] [] S) (x1 : Int32) (x2 : Int32) (x4 : Int32) (S : St) : GF p l e rX9_dye s m args below meth c D 17 a (cM cI cZ a) (AA 17 a s.heap.size) 7 0 0 (fun res => MQ below (va_Qi (fun r u => (r, u) = res) (Bw D (tyW cI cZ cO) 17 a (cM cI cZ a) (AA 17 a s.heap.size)) (AA 17 a s.heap.size)) args s 0 0 (AA 17 a s.heap.size)) (bX9_dye_147 k147 x1 x2 x4 S) 147 [(0, .ref (a 0)), (1, .int x1), (2, .int x2), (4, .int x4)] [] S := by
  unfold bX9_dye_147
  refine g_iload (j := 3) hc dX9_dye_147 rfl ?_
  refine g_iload_n (j := 1) hc dX9_dye_149 rfl rfl ?_
  refine g_icmp_ge (tgt := 210) hc dX9_dye_150 (by decide) ?_ ?_
  · refine g_iload_n (j := 2) hc dX9_dye_210 rfl rfl ?_
    exact g_iret hc hr hlk dX9_dye_211
  · refine g_aload_n (j := 0) hc dX9_dye_153 rfl rfl ?_
    refine g_get (C0 := RX9) (T := TX9) (M := 24) (k := 0) (ci := 9) hc inX9_dye_X9 (by decide) rfl rfl 18 (by decide) (List.mem_of_getElem? (i := 3) rfl) rfl rfl dX9_dye_154 ?_
    refine g_iconst (v := 3) hc dX9_dye_157 (by decide) ?_
    refine g_iload (j := 3) hc dX9_dye_158 rfl ?_
    refine g_imul hc dX9_dye_160 ?_
    refine g_ishr hc dX9_dye_161 ?_
    refine g_bipush (v := 7) hc dX9_dye_162 (by decide) ?_
    refine g_iand hc dX9_dye_164 ?_
    refine g_iconst (v := 1) hc dX9_dye_165 (by decide) ?_
    refine g_isub hc dX9_dye_166 ?_
    refine g_istore (L := fun v1 => [(5, .int v1), (0, .ref (a 0)), (1, .int x1), (2, .int x2), (4, .int x4)]) hc dX9_dye_167 (by decide) (fun _ => rfl) (fun v1 => ?_)
    refine g_aload_n (j := 1) hc dX9_dye_169 rfl rfl ?_
    refine g_iload (j := 4) hc dX9_dye_170 rfl ?_
    refine g_callVv (As := [.int x4]) (rest := []) (k := 0) (ci := 9) (q0 := (RX9, TX9, 24)) hc hE trM rfl (fun _ h => mX9_bindsFor x4 S _ h) (cwV 1 hc.1.2.2.2.2 gX9_dye_X9_bindsFor rfl rfl rfl (by decide +kernel) ⟨by decide, by decide⟩) (by decide) rfl rfl rfl rfl (Nat.le_of_ble_eq_true rfl) dX9_dye_172 ⟨by decide, by decide⟩ (fun S3 => ?_)
    refine g_aload_n (j := 1) hc dX9_dye_175 rfl rfl ?_
    refine g_callVi (As := []) (rest := []) (k := 0) (ci := 9) (q0 := (RX9, TX9, 24)) hc hE trM rfl (fun _ h => mX9_taken S3 _ h) (cwV 0 hc.1.2.2.2.2 gX9_dye_X9_taken rfl rfl rfl (by decide +kernel) ⟨by decide, by decide⟩) (by decide) rfl rfl rfl rfl (Nat.le_of_ble_eq_true rfl) dX9_dye_176 ⟨by decide, by decide⟩ (fun v4 S5 => ?_)
    refine g_istore (L := fun v6 => [(6, .int v6), (5, .int v1), (0, .ref (a 0)), (1, .int x1), (2, .int x2), (4, .int x4)]) hc dX9_dye_179 (by decide) (fun _ => rfl) (fun v6 => ?_)
    refine g_aload_n (j := 2) hc dX9_dye_181 rfl rfl ?_
    refine g_get (C0 := RX9) (T := TX9) (M := 24) (k := 0) (ci := 9) hc inX9_dye_X9 (by decide) rfl rfl 8 (by decide) (List.mem_of_getElem? (i := 5) rfl) rfl rfl dX9_dye_182 ?_
    refine g_iload (j := 1) hc dX9_dye_185 rfl ?_
    refine g_dup2 hc dX9_dye_187 rfl rfl ?_
    refine g_iald (k := 4) (t0 := 0) hc (by decide) rfl rfl dX9_dye_188 ?_
    refine g_iload (j := 0) hc dX9_dye_189 rfl ?_
    refine g_isub hc dX9_dye_191 ?_
    refine g_iast (k := 4) (t0 := 0) hc locM (by decide) rfl rfl rfl dX9_dye_192 (fun S7 => ?_)
    refine g_iload_n (j := 4) hc dX9_dye_193 rfl rfl ?_
    refine g_iload (j := 0) hc dX9_dye_194 rfl ?_
    refine g_iadd hc dX9_dye_196 ?_
    refine g_istore_n (L := fun v8 => [(2, .int v8), (6, .int v6), (5, .int v1), (0, .ref (a 0)), (1, .int x1), (4, .int x4)]) hc dX9_dye_197 rfl (by decide) (fun _ => rfl) (fun v8 => ?_)
    refine g_aload_n (j := 3) hc dX9_dye_198 rfl rfl ?_
    refine g_iload (j := 2) hc dX9_dye_199 rfl ?_
    refine g_callVv (As := [.int v1]) (rest := []) (k := 0) (ci := 9) (q0 := (RX9, TX9, 24)) hc hE trM rfl (fun _ h => mX9_bathes v1 S7 _ h) (cwV 1 hc.1.2.2.2.2 gX9_dye_X9_bathes rfl rfl rfl (by decide +kernel) ⟨by decide, by decide⟩) (by decide) rfl rfl rfl rfl (Nat.le_of_ble_eq_true rfl) dX9_dye_201 ⟨by decide, by decide⟩ (fun S10 => ?_)
    refine g_iinc (j := 5) (w := x4 + 1) (L := fun v11 => [(4, .int v11), (2, .int v8), (6, .int v6), (5, .int v1), (0, .ref (a 0)), (1, .int x1)]) hc dX9_dye_204 rfl (by rfl) (by decide) (fun _ => rfl) (fun v11 => ?_)
    refine g_goto (tgt := 147) hc dX9_dye_207 (by decide) ?_
    refine g_lv [4, 5, 1, 0] rfl ?_
    exact hk147 x1 v8 v11 S10
set_option maxHeartbeats 4000000 in
set_option maxRecDepth 100000 in
theorem TX9_dye_147 {p : Program} {e : Env} {s : State} {m : MethodId} {args : Array Value} {below : List Frame} {meth : Method} {c : Code} (hc : CT p s m args c cX9_dye 7 RX9 wsX9_dye D (tyW cI cZ cO)) (hr : meth.sig.returnType = (some .int)) (hlk : meth.locks = false) (hE : EvM (AA 17 a s.heap.size) s) (n : Nat) (x1 : Int32) (x2 : Int32) (x4 : Int32) (S : St) : GF p l e rX9_dye s m args below meth c D 17 a (cM cI cZ a) (AA 17 a s.heap.size) 7 0 0 (fun res => MQ below (va_Qi (fun r u => (r, u) = res) (Bw D (tyW cI cZ cO) 17 a (cM cI cZ a) (AA 17 a s.heap.size)) (AA 17 a s.heap.size)) args s 0 0 (AA 17 a s.heap.size)) (lX9_dye_147 n x1 x2 x4 S) 147 [(0, .ref (a 0)), (1, .int x1), (2, .int x2), (4, .int x4)] [] S :=
  lp_ind (P := fun k : Int32 → Int32 → Int32 → St → Option (Int32 × St) => ∀ (x1 : Int32) (x2 : Int32) (x4 : Int32) (S : St), GF p l e rX9_dye s m args below meth c D 17 a (cM cI cZ a) (AA 17 a s.heap.size) 7 0 0 (fun res => MQ below (va_Qi (fun r u => (r, u) = res) (Bw D (tyW cI cZ cO) 17 a (cM cI cZ a) (AA 17 a s.heap.size)) (AA 17 a s.heap.size)) args s 0 0 (AA 17 a s.heap.size)) (k x1 x2 x4 S) 147 [(0, .ref (a 0)), (1, .int x1), (2, .int x2), (4, .int x4)] [] S) (fun _ _ _ _ => g_none) (fun k147 hk147 => tX9_dye_147 hc hr hlk hE k147 hk147) n x1 x2 x4 S
set_option maxHeartbeats 4000000 in
set_option maxRecDepth 100000 in
theorem tX9_dye_127 {p : Program} {e : Env} {s : State} {m : MethodId} {args : Array Value} {below : List Frame} {meth : Method} {c : Code} (hc : CT p s m args c cX9_dye 7 RX9 wsX9_dye D (tyW cI cZ cO)) (hr : meth.sig.returnType = (some .int)) (hlk : meth.locks = false) (hE : EvM (AA 17 a s.heap.size) s) (k95 : Int32 → Int32 → Int32 → Int32 → St → Option (Int32 × St)) (hk95 : ∀ (x1 : Int32) (x2 : Int32) (x3 : Int32) (x4 : Int32) (S : St), GF p l e rX9_dye s m args below meth c D 17 a (cM cI cZ a) (AA 17 a s.heap.size) 7 0 0 (fun res => MQ below (va_Qi (fun r u => (r, u) = res) (Bw D (tyW cI cZ cO) 17 a (cM cI cZ a) (AA 17 a s.heap.size)) (AA 17 a s.heap.size)) args s 0 0 (AA 17 a s.heap.size)) (k95 x1 x2 x3 x4 S) 95 [(0, .ref (a 0)), (1, .int x1), (2, .int x2), (3, .int x3), (4, .int x4)] [] S) (x1 : Int32) (x2 : Int32) (x4 : Int32) (y0 : Int32) (S : St) : GF p l e rX9_dye s m args below meth c D 17 a (cM cI cZ a) (AA 17 a s.heap.size) 7 0 0 (fun res => MQ below (va_Qi (fun r u => (r, u) = res) (Bw D (tyW cI cZ cO) 17 a (cM cI cZ a) (AA 17 a s.heap.size)) (AA 17 a s.heap.size)) args s 0 0 (AA 17 a s.heap.size)) (bX9_dye_127 k95 x1 x2 x4 y0 S) 127 [(0, .ref (a 0)), (1, .int x1), (2, .int x2), (4, .int x4)] [.int y0] S := by
  unfold bX9_dye_127
  refine g_istore_n (L := fun v1 => [(3, .int v1), (0, .ref (a 0)), (1, .int x1), (2, .int x2), (4, .int x4)]) hc dX9_dye_127 rfl (by decide) (fun _ => rfl) (fun v1 => ?_)
  refine g_iinc (j := 4) (w := x4 + 1) (L := fun v2 => [(4, .int v2), (3, .int v1), (0, .ref (a 0)), (1, .int x1), (2, .int x2)]) hc dX9_dye_128 rfl (by rfl) (by decide) (fun _ => rfl) (fun v2 => ?_)
  refine g_goto (tgt := 95) hc dX9_dye_131 (by decide) ?_
  refine g_lv [2, 3, 4, 1, 0] rfl ?_
  exact hk95 x1 x2 v1 v2 S
set_option maxHeartbeats 4000000 in
set_option maxRecDepth 100000 in
theorem tX9_dye_126 {p : Program} {e : Env} {s : State} {m : MethodId} {args : Array Value} {below : List Frame} {meth : Method} {c : Code} (hc : CT p s m args c cX9_dye 7 RX9 wsX9_dye D (tyW cI cZ cO)) (hr : meth.sig.returnType = (some .int)) (hlk : meth.locks = false) (hE : EvM (AA 17 a s.heap.size) s) (k95 : Int32 → Int32 → Int32 → Int32 → St → Option (Int32 × St)) (hk95 : ∀ (x1 : Int32) (x2 : Int32) (x3 : Int32) (x4 : Int32) (S : St), GF p l e rX9_dye s m args below meth c D 17 a (cM cI cZ a) (AA 17 a s.heap.size) 7 0 0 (fun res => MQ below (va_Qi (fun r u => (r, u) = res) (Bw D (tyW cI cZ cO) 17 a (cM cI cZ a) (AA 17 a s.heap.size)) (AA 17 a s.heap.size)) args s 0 0 (AA 17 a s.heap.size)) (k95 x1 x2 x3 x4 S) 95 [(0, .ref (a 0)), (1, .int x1), (2, .int x2), (3, .int x3), (4, .int x4)] [] S) (x1 : Int32) (x2 : Int32) (x4 : Int32) (S : St) : GF p l e rX9_dye s m args below meth c D 17 a (cM cI cZ a) (AA 17 a s.heap.size) 7 0 0 (fun res => MQ below (va_Qi (fun r u => (r, u) = res) (Bw D (tyW cI cZ cO) 17 a (cM cI cZ a) (AA 17 a s.heap.size)) (AA 17 a s.heap.size)) args s 0 0 (AA 17 a s.heap.size)) (bX9_dye_126 k95 x1 x2 x4 S) 126 [(0, .ref (a 0)), (1, .int x1), (2, .int x2), (4, .int x4)] [] S := by
  unfold bX9_dye_126
  refine g_iconst (v := 0) hc dX9_dye_126 (by decide) ?_
  exact tX9_dye_127 hc hr hlk hE k95 hk95 x1 x2 x4 0 S
set_option maxHeartbeats 4000000 in
set_option maxRecDepth 100000 in
theorem tX9_dye_95 {p : Program} {e : Env} {s : State} {m : MethodId} {args : Array Value} {below : List Frame} {meth : Method} {c : Code} (hc : CT p s m args c cX9_dye 7 RX9 wsX9_dye D (tyW cI cZ cO)) (hr : meth.sig.returnType = (some .int)) (hlk : meth.locks = false) (hE : EvM (AA 17 a s.heap.size) s) (k95 : Int32 → Int32 → Int32 → Int32 → St → Option (Int32 × St)) (hk95 : ∀ (x1 : Int32) (x2 : Int32) (x3 : Int32) (x4 : Int32) (S : St), GF p l e rX9_dye s m args below meth c D 17 a (cM cI cZ a) (AA 17 a s.heap.size) 7 0 0 (fun res => MQ below (va_Qi (fun r u => (r, u) = res) (Bw D (tyW cI cZ cO) 17 a (cM cI cZ a) (AA 17 a s.heap.size)) (AA 17 a s.heap.size)) args s 0 0 (AA 17 a s.heap.size)) (k95 x1 x2 x3 x4 S) 95 [(0, .ref (a 0)), (1, .int x1), (2, .int x2), (3, .int x3), (4, .int x4)] [] S) (x1 : Int32) (x2 : Int32) (x3 : Int32) (x4 : Int32) (S : St) : GF p l e rX9_dye s m args below meth c D 17 a (cM cI cZ a) (AA 17 a s.heap.size) 7 0 0 (fun res => MQ below (va_Qi (fun r u => (r, u) = res) (Bw D (tyW cI cZ cO) 17 a (cM cI cZ a) (AA 17 a s.heap.size)) (AA 17 a s.heap.size)) args s 0 0 (AA 17 a s.heap.size)) (bX9_dye_95 k95 x1 x2 x3 x4 S) 95 [(0, .ref (a 0)), (1, .int x1), (2, .int x2), (3, .int x3), (4, .int x4)] [] S := by
  unfold bX9_dye_95
  refine g_iload (j := 4) hc dX9_dye_95 rfl ?_
  refine g_iconst (v := 4) hc dX9_dye_97 (by decide) ?_
  refine g_icmp_ge (tgt := 134) hc dX9_dye_98 (by decide) ?_ ?_
  · refine g_iload_n (j := 3) hc dX9_dye_134 rfl rfl ?_
    refine g_if_ne (tgt := 140) hc dX9_dye_135 (by decide) ?_ ?_
    · refine g_aload_n (j := 0) hc dX9_dye_140 rfl rfl ?_
      refine g_callVv (As := []) (rest := []) (k := 0) (ci := 9) (q0 := (RX9, TX9, 24)) hc hE trM rfl (fun _ h => mX9_undyed S _ h) (cwV 0 hc.1.2.2.2.2 gX9_dye_X9_undyed rfl rfl rfl (by decide +kernel) ⟨by decide, by decide⟩) (by decide) rfl rfl rfl rfl (Nat.le_of_ble_eq_true rfl) dX9_dye_141 ⟨by decide, by decide⟩ (fun S2 => ?_)
      refine g_iconst (v := 0) hc dX9_dye_144 (by decide) ?_
      refine g_istore (L := fun v3 => [(4, .int v3), (0, .ref (a 0)), (1, .int x1), (2, .int x2), (3, .int x3)]) hc dX9_dye_145 (by decide) (fun _ => rfl) (fun v3 => ?_)
      refine g_lv [1, 2, 3, 0] rfl ?_
      exact TX9_dye_147 hc hr hlk hE FU x1 x2 v3 S2
    · refine g_iconst (v := -1) hc dX9_dye_138 (by decide) ?_
      exact g_iret hc hr hlk dX9_dye_139
  · refine g_iload_n (j := 3) hc dX9_dye_101 rfl rfl ?_
    refine g_if_eq (tgt := 126) hc dX9_dye_102 (by decide) ?_ ?_
    · refine g_lv [0, 1, 2, 4] rfl ?_
      exact tX9_dye_126 hc hr hlk hE k95 hk95 x1 x2 x4 S
    · refine g_aload_n (j := 0) hc dX9_dye_105 rfl rfl ?_
      refine g_get (C0 := RX9) (T := TX9) (M := 24) (k := 0) (ci := 9) hc inX9_dye_X9 (by decide) rfl rfl 8 (by decide) (List.mem_of_getElem? (i := 5) rfl) rfl rfl dX9_dye_106 ?_
      refine g_iload (j := 4) hc dX9_dye_109 rfl ?_
      refine g_iald (k := 4) (t0 := 0) hc (by decide) rfl rfl dX9_dye_111 ?_
      refine g_aload_n (j := 0) hc dX9_dye_112 rfl rfl ?_
      refine g_get (C0 := RX9) (T := TX9) (M := 24) (k := 0) (ci := 9) hc inX9_dye_X9 (by decide) rfl rfl 23 (by decide) (List.mem_of_getElem? (i := 4) rfl) rfl rfl dX9_dye_113 ?_
      refine g_iload (j := 4) hc dX9_dye_116 rfl ?_
      refine g_iald (k := 16) (t0 := 0) hc (by decide) rfl rfl dX9_dye_118 ?_
      refine g_icmp_lt (tgt := 126) hc dX9_dye_119 (by decide) ?_ ?_
      · refine g_lv [0, 1, 2, 4] rfl ?_
        exact tX9_dye_126 hc hr hlk hE k95 hk95 x1 x2 x4 S
      · refine g_iconst (v := 1) hc dX9_dye_122 (by decide) ?_
        refine g_goto (tgt := 127) hc dX9_dye_123 (by decide) ?_
        refine g_lv [0, 1, 2, 4] rfl ?_
        exact tX9_dye_127 hc hr hlk hE k95 hk95 x1 x2 x4 1 S
set_option maxHeartbeats 4000000 in
set_option maxRecDepth 100000 in
theorem TX9_dye_95 {p : Program} {e : Env} {s : State} {m : MethodId} {args : Array Value} {below : List Frame} {meth : Method} {c : Code} (hc : CT p s m args c cX9_dye 7 RX9 wsX9_dye D (tyW cI cZ cO)) (hr : meth.sig.returnType = (some .int)) (hlk : meth.locks = false) (hE : EvM (AA 17 a s.heap.size) s) (n : Nat) (x1 : Int32) (x2 : Int32) (x3 : Int32) (x4 : Int32) (S : St) : GF p l e rX9_dye s m args below meth c D 17 a (cM cI cZ a) (AA 17 a s.heap.size) 7 0 0 (fun res => MQ below (va_Qi (fun r u => (r, u) = res) (Bw D (tyW cI cZ cO) 17 a (cM cI cZ a) (AA 17 a s.heap.size)) (AA 17 a s.heap.size)) args s 0 0 (AA 17 a s.heap.size)) (lX9_dye_95 n x1 x2 x3 x4 S) 95 [(0, .ref (a 0)), (1, .int x1), (2, .int x2), (3, .int x3), (4, .int x4)] [] S :=
  lp_ind (P := fun k : Int32 → Int32 → Int32 → Int32 → St → Option (Int32 × St) => ∀ (x1 : Int32) (x2 : Int32) (x3 : Int32) (x4 : Int32) (S : St), GF p l e rX9_dye s m args below meth c D 17 a (cM cI cZ a) (AA 17 a s.heap.size) 7 0 0 (fun res => MQ below (va_Qi (fun r u => (r, u) = res) (Bw D (tyW cI cZ cO) 17 a (cM cI cZ a) (AA 17 a s.heap.size)) (AA 17 a s.heap.size)) args s 0 0 (AA 17 a s.heap.size)) (k x1 x2 x3 x4 S) 95 [(0, .ref (a 0)), (1, .int x1), (2, .int x2), (3, .int x3), (4, .int x4)] [] S) (fun _ _ _ _ _ => g_none) (fun k95 hk95 => tX9_dye_95 hc hr hlk hE k95 hk95) n x1 x2 x3 x4 S
set_option maxHeartbeats 4000000 in
set_option maxRecDepth 100000 in
theorem tX9_dye_52 {p : Program} {e : Env} {s : State} {m : MethodId} {args : Array Value} {below : List Frame} {meth : Method} {c : Code} (hc : CT p s m args c cX9_dye 7 RX9 wsX9_dye D (tyW cI cZ cO)) (hr : meth.sig.returnType = (some .int)) (hlk : meth.locks = false) (hE : EvM (AA 17 a s.heap.size) s) (k52 : Int32 → Int32 → Int32 → Int32 → St → Option (Int32 × St)) (hk52 : ∀ (x1 : Int32) (x2 : Int32) (x3 : Int32) (x4 : Int32) (S : St), GF p l e rX9_dye s m args below meth c D 17 a (cM cI cZ a) (AA 17 a s.heap.size) 7 0 0 (fun res => MQ below (va_Qi (fun r u => (r, u) = res) (Bw D (tyW cI cZ cO) 17 a (cM cI cZ a) (AA 17 a s.heap.size)) (AA 17 a s.heap.size)) args s 0 0 (AA 17 a s.heap.size)) (k52 x1 x2 x3 x4 S) 52 [(0, .ref (a 0)), (1, .int x1), (2, .int x2), (3, .int x3), (4, .int x4)] [] S) (x1 : Int32) (x2 : Int32) (x3 : Int32) (x4 : Int32) (S : St) : GF p l e rX9_dye s m args below meth c D 17 a (cM cI cZ a) (AA 17 a s.heap.size) 7 0 0 (fun res => MQ below (va_Qi (fun r u => (r, u) = res) (Bw D (tyW cI cZ cO) 17 a (cM cI cZ a) (AA 17 a s.heap.size)) (AA 17 a s.heap.size)) args s 0 0 (AA 17 a s.heap.size)) (bX9_dye_52 k52 x1 x2 x3 x4 S) 52 [(0, .ref (a 0)), (1, .int x1), (2, .int x2), (3, .int x3), (4, .int x4)] [] S := by
  unfold bX9_dye_52
  refine g_iload (j := 4) hc dX9_dye_52 rfl ?_
  refine g_iload_n (j := 1) hc dX9_dye_54 rfl rfl ?_
  refine g_icmp_ge (tgt := 92) hc dX9_dye_55 (by decide) ?_ ?_
  · refine g_iconst (v := 0) hc dX9_dye_92 (by decide) ?_
    refine g_istore (L := fun v1 => [(4, .int v1), (0, .ref (a 0)), (1, .int x1), (2, .int x2), (3, .int x3)]) hc dX9_dye_93 (by decide) (fun _ => rfl) (fun v1 => ?_)
    refine g_lv [1, 2, 3, 4, 0] rfl ?_
    exact TX9_dye_95 hc hr hlk hE FU x1 x2 x3 v1 S
  · refine g_aload_n (j := 0) hc dX9_dye_58 rfl rfl ?_
    refine g_get (C0 := RX9) (T := TX9) (M := 24) (k := 0) (ci := 9) hc inX9_dye_X9 (by decide) rfl rfl 23 (by decide) (List.mem_of_getElem? (i := 4) rfl) rfl rfl dX9_dye_59 ?_
    refine g_aload_n (j := 0) hc dX9_dye_62 rfl rfl ?_
    refine g_get (C0 := RX9) (T := TX9) (M := 24) (k := 0) (ci := 9) hc inX9_dye_X9 (by decide) rfl rfl 18 (by decide) (List.mem_of_getElem? (i := 3) rfl) rfl rfl dX9_dye_63 ?_
    refine g_iconst (v := 3) hc dX9_dye_66 (by decide) ?_
    refine g_iload (j := 4) hc dX9_dye_67 rfl ?_
    refine g_imul hc dX9_dye_69 ?_
    refine g_ishr hc dX9_dye_70 ?_
    refine g_bipush (v := 7) hc dX9_dye_71 (by decide) ?_
    refine g_iand hc dX9_dye_73 ?_
    refine g_iconst (v := 1) hc dX9_dye_74 (by decide) ?_
    refine g_isub hc dX9_dye_75 ?_
    refine g_dup2 hc dX9_dye_76 rfl rfl ?_
    refine g_iald (k := 16) (t0 := 0) hc (by decide) rfl rfl dX9_dye_77 ?_
    refine g_aload_n (j := 0) hc dX9_dye_78 rfl rfl ?_
    refine g_iload (j := 4) hc dX9_dye_79 rfl ?_
    refine g_callVi (As := [.int x4]) (rest := [.int (S 16 ((((S 0 18) >>> ((3 * x4) &&& 31)) &&& 7) - 1).toNatClampNeg), .int ((((S 0 18) >>> ((3 * x4) &&& 31)) &&& 7) - 1), .ref (a 16)]) (k := 0) (ci := 9) (q0 := (RX9, TX9, 24)) hc hE trM rfl (fun _ h => mX9_takes x4 S _ h) (cwV 1 hc.1.2.2.2.2 gX9_dye_X9_takes rfl rfl rfl (by decide +kernel) ⟨by decide, by decide⟩) (by decide) rfl rfl rfl rfl (Nat.le_of_ble_eq_true rfl) dX9_dye_81 ⟨by decide, by decide⟩ (fun v2 S3 => ?_)
    refine g_iadd hc dX9_dye_84 ?_
    refine g_iast (k := 16) (t0 := 0) hc locM (by decide) rfl rfl rfl dX9_dye_85 (fun S4 => ?_)
    refine g_iinc (j := 4) (w := x4 + 1) (L := fun v5 => [(4, .int v5), (0, .ref (a 0)), (1, .int x1), (2, .int x2), (3, .int x3)]) hc dX9_dye_86 rfl (by rfl) (by decide) (fun _ => rfl) (fun v5 => ?_)
    refine g_goto (tgt := 52) hc dX9_dye_89 (by decide) ?_
    refine g_lv [1, 2, 3, 4, 0] rfl ?_
    exact hk52 x1 x2 x3 v5 S4
set_option maxHeartbeats 4000000 in
set_option maxRecDepth 100000 in
theorem TX9_dye_52 {p : Program} {e : Env} {s : State} {m : MethodId} {args : Array Value} {below : List Frame} {meth : Method} {c : Code} (hc : CT p s m args c cX9_dye 7 RX9 wsX9_dye D (tyW cI cZ cO)) (hr : meth.sig.returnType = (some .int)) (hlk : meth.locks = false) (hE : EvM (AA 17 a s.heap.size) s) (n : Nat) (x1 : Int32) (x2 : Int32) (x3 : Int32) (x4 : Int32) (S : St) : GF p l e rX9_dye s m args below meth c D 17 a (cM cI cZ a) (AA 17 a s.heap.size) 7 0 0 (fun res => MQ below (va_Qi (fun r u => (r, u) = res) (Bw D (tyW cI cZ cO) 17 a (cM cI cZ a) (AA 17 a s.heap.size)) (AA 17 a s.heap.size)) args s 0 0 (AA 17 a s.heap.size)) (lX9_dye_52 n x1 x2 x3 x4 S) 52 [(0, .ref (a 0)), (1, .int x1), (2, .int x2), (3, .int x3), (4, .int x4)] [] S :=
  lp_ind (P := fun k : Int32 → Int32 → Int32 → Int32 → St → Option (Int32 × St) => ∀ (x1 : Int32) (x2 : Int32) (x3 : Int32) (x4 : Int32) (S : St), GF p l e rX9_dye s m args below meth c D 17 a (cM cI cZ a) (AA 17 a s.heap.size) 7 0 0 (fun res => MQ below (va_Qi (fun r u => (r, u) = res) (Bw D (tyW cI cZ cO) 17 a (cM cI cZ a) (AA 17 a s.heap.size)) (AA 17 a s.heap.size)) args s 0 0 (AA 17 a s.heap.size)) (k x1 x2 x3 x4 S) 52 [(0, .ref (a 0)), (1, .int x1), (2, .int x2), (3, .int x3), (4, .int x4)] [] S) (fun _ _ _ _ _ => g_none) (fun k52 hk52 => tX9_dye_52 hc hr hlk hE k52 hk52) n x1 x2 x3 x4 S
set_option maxHeartbeats 4000000 in
set_option maxRecDepth 100000 in
theorem tX9_dye_29 {p : Program} {e : Env} {s : State} {m : MethodId} {args : Array Value} {below : List Frame} {meth : Method} {c : Code} (hc : CT p s m args c cX9_dye 7 RX9 wsX9_dye D (tyW cI cZ cO)) (hr : meth.sig.returnType = (some .int)) (hlk : meth.locks = false) (hE : EvM (AA 17 a s.heap.size) s) (k29 : Int32 → Int32 → Int32 → Int32 → St → Option (Int32 × St)) (hk29 : ∀ (x1 : Int32) (x2 : Int32) (x3 : Int32) (x4 : Int32) (S : St), GF p l e rX9_dye s m args below meth c D 17 a (cM cI cZ a) (AA 17 a s.heap.size) 7 0 0 (fun res => MQ below (va_Qi (fun r u => (r, u) = res) (Bw D (tyW cI cZ cO) 17 a (cM cI cZ a) (AA 17 a s.heap.size)) (AA 17 a s.heap.size)) args s 0 0 (AA 17 a s.heap.size)) (k29 x1 x2 x3 x4 S) 29 [(0, .ref (a 0)), (1, .int x1), (2, .int x2), (3, .int x3), (4, .int x4)] [] S) (x1 : Int32) (x2 : Int32) (x3 : Int32) (x4 : Int32) (S : St) : GF p l e rX9_dye s m args below meth c D 17 a (cM cI cZ a) (AA 17 a s.heap.size) 7 0 0 (fun res => MQ below (va_Qi (fun r u => (r, u) = res) (Bw D (tyW cI cZ cO) 17 a (cM cI cZ a) (AA 17 a s.heap.size)) (AA 17 a s.heap.size)) args s 0 0 (AA 17 a s.heap.size)) (bX9_dye_29 k29 x1 x2 x3 x4 S) 29 [(0, .ref (a 0)), (1, .int x1), (2, .int x2), (3, .int x3), (4, .int x4)] [] S := by
  unfold bX9_dye_29
  refine g_iload (j := 4) hc dX9_dye_29 rfl ?_
  refine g_iconst (v := 4) hc dX9_dye_31 (by decide) ?_
  refine g_icmp_ge (tgt := 49) hc dX9_dye_32 (by decide) ?_ ?_
  · refine g_iconst (v := 0) hc dX9_dye_49 (by decide) ?_
    refine g_istore (L := fun v1 => [(4, .int v1), (0, .ref (a 0)), (1, .int x1), (2, .int x2), (3, .int x3)]) hc dX9_dye_50 (by decide) (fun _ => rfl) (fun v1 => ?_)
    refine g_lv [1, 2, 3, 4, 0] rfl ?_
    exact TX9_dye_52 hc hr hlk hE FU x1 x2 x3 v1 S
  · refine g_aload_n (j := 0) hc dX9_dye_35 rfl rfl ?_
    refine g_get (C0 := RX9) (T := TX9) (M := 24) (k := 0) (ci := 9) hc inX9_dye_X9 (by decide) rfl rfl 23 (by decide) (List.mem_of_getElem? (i := 4) rfl) rfl rfl dX9_dye_36 ?_
    refine g_iload (j := 4) hc dX9_dye_39 rfl ?_
    refine g_iconst (v := 0) hc dX9_dye_41 (by decide) ?_
    refine g_iast (k := 16) (t0 := 0) hc locM (by decide) rfl rfl rfl dX9_dye_42 (fun S2 => ?_)
    refine g_iinc (j := 4) (w := x4 + 1) (L := fun v3 => [(4, .int v3), (0, .ref (a 0)), (1, .int x1), (2, .int x2), (3, .int x3)]) hc dX9_dye_43 rfl (by rfl) (by decide) (fun _ => rfl) (fun v3 => ?_)
    refine g_goto (tgt := 29) hc dX9_dye_46 (by decide) ?_
    refine g_lv [1, 2, 3, 4, 0] rfl ?_
    exact hk29 x1 x2 x3 v3 S2
set_option maxHeartbeats 4000000 in
set_option maxRecDepth 100000 in
theorem TX9_dye_29 {p : Program} {e : Env} {s : State} {m : MethodId} {args : Array Value} {below : List Frame} {meth : Method} {c : Code} (hc : CT p s m args c cX9_dye 7 RX9 wsX9_dye D (tyW cI cZ cO)) (hr : meth.sig.returnType = (some .int)) (hlk : meth.locks = false) (hE : EvM (AA 17 a s.heap.size) s) (n : Nat) (x1 : Int32) (x2 : Int32) (x3 : Int32) (x4 : Int32) (S : St) : GF p l e rX9_dye s m args below meth c D 17 a (cM cI cZ a) (AA 17 a s.heap.size) 7 0 0 (fun res => MQ below (va_Qi (fun r u => (r, u) = res) (Bw D (tyW cI cZ cO) 17 a (cM cI cZ a) (AA 17 a s.heap.size)) (AA 17 a s.heap.size)) args s 0 0 (AA 17 a s.heap.size)) (lX9_dye_29 n x1 x2 x3 x4 S) 29 [(0, .ref (a 0)), (1, .int x1), (2, .int x2), (3, .int x3), (4, .int x4)] [] S :=
  lp_ind (P := fun k : Int32 → Int32 → Int32 → Int32 → St → Option (Int32 × St) => ∀ (x1 : Int32) (x2 : Int32) (x3 : Int32) (x4 : Int32) (S : St), GF p l e rX9_dye s m args below meth c D 17 a (cM cI cZ a) (AA 17 a s.heap.size) 7 0 0 (fun res => MQ below (va_Qi (fun r u => (r, u) = res) (Bw D (tyW cI cZ cO) 17 a (cM cI cZ a) (AA 17 a s.heap.size)) (AA 17 a s.heap.size)) args s 0 0 (AA 17 a s.heap.size)) (k x1 x2 x3 x4 S) 29 [(0, .ref (a 0)), (1, .int x1), (2, .int x2), (3, .int x3), (4, .int x4)] [] S) (fun _ _ _ _ _ => g_none) (fun k29 hk29 => tX9_dye_29 hc hr hlk hE k29 hk29) n x1 x2 x3 x4 S
set_option maxHeartbeats 4000000 in
set_option maxRecDepth 100000 in
theorem mX9_dye (S : St) : ∀ q, uX9_dye S = some q → Ki l yX9_dye wsX9_dye rX9_dye D (tyW cI cZ cO) 17 a (cM cI cZ a) (EvM) [.ref (a 0)] S q := by
  refine m_Ki (cc := cX9_dye) (nL := 7) (ret := (some .int)) (lv := [(0, .ref (a 0))]) (by decide) rfl (Nat.le_of_ble_eq_true rfl) rfl ?_
  intro p e s m args below meth c hc hr hlk hE
  unfold uX9_dye
  refine g_aload_n (j := 0) hc dX9_dye_0 rfl rfl ?_
  refine g_iconst (v := 0) hc dX9_dye_1 (by decide) ?_
  refine g_put (ty := .int) (C0 := RX9) (T := TX9) (M := 24) (k := 0) (ci := 9) hc locM tyX9 tyX9_ok nmX9 inX9_dye_X9 (by decide) rfl rfl 0 (by decide) (List.mem_of_getElem? (i := 1) rfl) rfl rfl (by decide +kernel) rfl rfl (Nat.le_of_ble_eq_true rfl) rfl rfl dX9_dye_2 (fun S1 => ?_)
  refine g_aload_n (j := 0) hc dX9_dye_5 rfl rfl ?_
  refine g_get (C0 := RX9) (T := TX9) (M := 24) (k := 0) (ci := 9) hc inX9_dye_X9 (by decide) rfl rfl 17 (by decide) (List.mem_of_getElem? (i := 2) rfl) rfl rfl dX9_dye_6 ?_
  refine g_if_ne (tgt := 14) hc dX9_dye_9 (by decide) ?_ ?_
  · refine g_aload_n (j := 0) hc dX9_dye_14 rfl rfl ?_
    refine g_get (C0 := RX9) (T := TX9) (M := 24) (k := 0) (ci := 9) hc inX9_dye_X9 (by decide) rfl rfl 18 (by decide) (List.mem_of_getElem? (i := 3) rfl) rfl rfl dX9_dye_15 ?_
    refine g_callSi (As := [.int (S1 0 18)]) (rest := []) hc hE trM rfl (fun _ h => mX9_bathsOf (S1 0 18) S1 _ h) (va_cwS 1 hc.1.2.2.2.2 gX9_dye_X9_bathsOf rfl rfl rfl (by decide +kernel) ⟨by decide, by decide⟩) rfl rfl (Nat.le_of_ble_eq_true rfl) dX9_dye_18 ⟨by decide, by decide⟩ (fun v2 S3 => ?_)
    refine g_istore_n (L := fun v4 => [(1, .int v4), (0, .ref (a 0))]) hc dX9_dye_21 rfl (by decide) (fun _ => rfl) (fun v4 => ?_)
    refine g_iconst (v := 0) hc dX9_dye_22 (by decide) ?_
    refine g_istore_n (L := fun v5 => [(2, .int v5), (1, .int v4), (0, .ref (a 0))]) hc dX9_dye_23 rfl (by decide) (fun _ => rfl) (fun v5 => ?_)
    refine g_iconst (v := 1) hc dX9_dye_24 (by decide) ?_
    refine g_istore_n (L := fun v6 => [(3, .int v6), (2, .int v5), (1, .int v4), (0, .ref (a 0))]) hc dX9_dye_25 rfl (by decide) (fun _ => rfl) (fun v6 => ?_)
    refine g_iconst (v := 0) hc dX9_dye_26 (by decide) ?_
    refine g_istore (L := fun v7 => [(4, .int v7), (3, .int v6), (2, .int v5), (1, .int v4), (0, .ref (a 0))]) hc dX9_dye_27 (by decide) (fun _ => rfl) (fun v7 => ?_)
    refine g_lv [4, 3, 2, 1, 0] rfl ?_
    exact TX9_dye_29 hc hr hlk hE FU v4 v5 v6 v7 S3
  · refine g_iconst (v := -1) hc dX9_dye_12 (by decide) ?_
    exact g_iret hc hr hlk dX9_dye_13
end
