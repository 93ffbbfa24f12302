-- X0_wash
def rX0_wash : Room := { frames := 0, cells := 0, slots := 0, locals := 0 }
theorem inX0_wash_X0 : ∀ w ∈ u_ws RX0 TX0 7, w ∈ wsX0_wash := by decide +kernel
def bX0_wash_17 (k2 : Int32 → St → Option (Int32 × St)) (k17 : Int32 → Int32 → St → Option (Int32 × St)) (x1 : Int32) (x2 : Int32) (S : St) : Option (Int32 × St) :=
  if 24 ≤ x2 then lt (x1 + 1) (fun v1 => k2 v1 S) else ck x1 8 (ckn x1.toNatClampNeg 8 (ck x2 24 (lz (s2 S (31 + x1.toNatClampNeg) x2.toNatClampNeg 0) (fun S2 => lt (x2 + 1) (fun v3 => k17 x1 v3 S2)))))
def lX0_wash_17 (k2 : Int32 → St → Option (Int32 × St)) (n : Nat) : Int32 → Int32 → St → Option (Int32 × St) :=
  lp (fun k17 => bX0_wash_17 k2 k17) (fun _ _ _ => none) n
def bX0_wash_2 (k2 : Int32 → St → Option (Int32 × St)) (x1 : Int32) (S : St) : Option (Int32 × St) :=
  if 8 ≤ x1 then some (0, S) else ck x1 8 (lz (s2 S 15 x1.toNatClampNeg 0) (fun S1 => lt 0 (fun v2 => lX0_wash_17 k2 FU x1 v2 S1)))
def lX0_wash_2 (n : Nat) : Int32 → St → Option (Int32 × St) :=
  lp (fun k2 => bX0_wash_2 k2) (fun _ _ => none) n
def uX0_wash (S : St) : Option (Int32 × St) :=
  lt 0 (fun v1 => lX0_wash_2 FU v1 S)
-- X0_stretch
def rX0_stretch : Room := { frames := 1, cells := 0, slots := 0, locals := 22 }
theorem inX0_stretch_X0 : ∀ w ∈ u_ws RX0 TX0 7, w ∈ wsX0_stretch := by decide +kernel
def bX0_stretch_33 (k33 : Int32 → St → Option (Int32 × St)) (x3 : Int32) (S : St) : Option (Int32 × St) :=
  if 8 ≤ x3 then ck (0 : Int32) 8 (lz (s2 S 13 (0 : Int32).toNatClampNeg (S 3 0)) (fun S1 => cl (uX0_wash S1) (fun _ S3 => some (0, S3)))) else ck x3 8 (lz (s2 S 13 x3.toNatClampNeg 0) (fun S4 => ck x3 8 (lz (s2 S4 14 x3.toNatClampNeg (0 &&& 1)) (fun S5 => lt (x3 + 1) (fun v6 => k33 v6 S5)))))
def lX0_stretch_33 (n : Nat) : Int32 → St → Option (Int32 × St) :=
  lp (fun k33 => bX0_stretch_33 k33) (fun _ _ => none) n
def bX0_stretch_12 (k12 : Int32 → St → Option (Int32 × St)) (x3 : Int32) (S : St) : Option (Int32 × St) :=
  if 16 ≤ x3 then lt 0 (fun v1 => lX0_stretch_33 FU v1 S) else ck x3 16 (lz (s2 S 12 x3.toNatClampNeg 0) (fun S2 => lt (x3 + 1) (fun v3 => k12 v3 S2)))
def lX0_stretch_12 (n : Nat) : Int32 → St → Option (Int32 × St) :=
  lp (fun k12 => bX0_stretch_12 k12) (fun _ _ => none) n
def uX0_stretch (x1 : Int32) (x2 : Int32) (S : St) : Option (Int32 × St) :=
  lz (s2 S 3 0 x1) (fun S1 => lz (s2 S1 3 1 x2) (fun S2 => lt 0 (fun v3 => lX0_stretch_12 FU v3 S2)))
-- X0_move
def rX0_move : Room := { frames := 1, cells := 0, slots := 0, locals := 22 }
theorem inX0_move_X0 : ∀ w ∈ u_ws RX0 TX0 7, w ∈ wsX0_move := by decide +kernel
def uX0_move (x1 : Int32) (x2 : Int32) (S : St) : Option (Int32 × St) :=
  ck x1 16 (ck (S 12 x1.toNatClampNeg) 8 (ck (S 12 x1.toNatClampNeg) 8 (lz (s2 S 13 (S 12 x1.toNatClampNeg).toNatClampNeg ((S 13 (S 12 x1.toNatClampNeg).toNatClampNeg) - 1)) (fun S1 => ck x1 16 (lz (s2 S1 12 x1.toNatClampNeg x2) (fun S2 => ck x2 8 (ck x2 8 (lz (s2 S2 13 x2.toNatClampNeg ((S2 13 x2.toNatClampNeg) + 1)) (fun S3 => cl (uX0_wash S3) (fun _ S5 => some (0, S5)))))))))))
-- X0_setFolded
def rX0_setFolded : Room := { frames := 1, cells := 0, slots := 0, locals := 22 }
theorem inX0_setFolded_X0 : ∀ w ∈ u_ws RX0 TX0 7, w ∈ wsX0_setFolded := by decide +kernel
def uX0_setFolded (x1 : Int32) (x2 : Int32) (S : St) : Option (Int32 × St) :=
  ck x1 8 (lz (s2 S 14 x1.toNatClampNeg (x2 &&& 1)) (fun S1 => cl (uX0_wash S1) (fun _ S3 => some (0, S3))))
-- X0_threads
def rX0_threads : Room := { frames := 0, cells := 0, slots := 0, locals := 0 }
theorem inX0_threads_X0 : ∀ w ∈ u_ws RX0 TX0 7, w ∈ wsX0_threads := by decide +kernel
def uX0_threads (S : St) : Option (Int32 × St) :=
  some (S 3 0, S)
-- X0_places
def rX0_places : Room := { frames := 0, cells := 0, slots := 0, locals := 0 }
theorem inX0_places_X0 : ∀ w ∈ u_ws RX0 TX0 7, w ∈ wsX0_places := by decide +kernel
def uX0_places (S : St) : Option (Int32 × St) :=
  some (S 3 1, S)
-- X0_bundleOf
def rX0_bundleOf : Room := { frames := 0, cells := 0, slots := 0, locals := 0 }
theorem inX0_bundleOf_X0 : ∀ w ∈ u_ws RX0 TX0 7, w ∈ wsX0_bundleOf := by decide +kernel
def uX0_bundleOf (x1 : Int32) (S : St) : Option (Int32 × St) :=
  ck x1 16 (some (S 12 x1.toNatClampNeg, S))
-- X0_threadsIn
def rX0_threadsIn : Room := { frames := 0, cells := 0, slots := 0, locals := 0 }
theorem inX0_threadsIn_X0 : ∀ w ∈ u_ws RX0 TX0 7, w ∈ wsX0_threadsIn := by decide +kernel
def uX0_threadsIn (x1 : Int32) (S : St) : Option (Int32 × St) :=
  ck x1 8 (some (S 13 x1.toNatClampNeg, S))
-- X0_isFolded
def rX0_isFolded : Room := { frames := 0, cells := 0, slots := 0, locals := 0 }
theorem inX0_isFolded_X0 : ∀ w ∈ u_ws RX0 TX0 7, w ∈ wsX0_isFolded := by decide +kernel
def uX0_isFolded (x1 : Int32) (S : St) : Option (Int32 × St) :=
  ck x1 8 (rz (S 14 x1.toNatClampNeg) (some (S 14 x1.toNatClampNeg, S)))
-- X0_isBound
def rX0_isBound : Room := { frames := 0, cells := 0, slots := 0, locals := 0 }
theorem inX0_isBound_X0 : ∀ w ∈ u_ws RX0 TX0 7, w ∈ wsX0_isBound := by decide +kernel
def bX0_isBound_18 (y0 : Int32) (S : St) : Option (Int32 × St) :=
  rz y0 (some (y0, S))
def uX0_isBound (x1 : Int32) (x2 : Int32) (S : St) : Option (Int32 × St) :=
  ck x1 8 (if (((S 15 x1.toNatClampNeg) >>> (x2 &&& 31)) &&& 1) = 0 then bX0_isBound_18 0 S else bX0_isBound_18 1 S)
-- X0_colourAt
def rX0_colourAt : Room := { frames := 0, cells := 0, slots := 0, locals := 0 }
theorem inX0_colourAt_X0 : ∀ w ∈ u_ws RX0 TX0 7, w ∈ wsX0_colourAt := by decide +kernel
def uX0_colourAt (x1 : Int32) (x2 : Int32) (S : St) : Option (Int32 × St) :=
  ck x1 16 (ck (S 12 x1.toNatClampNeg) 8 (ckn ((S 12 x1.toNatClampNeg).toNatClampNeg) 8 (ck x2 24 (some (S (31 + (S 12 x1.toNatClampNeg).toNatClampNeg) x2.toNatClampNeg, S)))))
-- X0_freePlaces
def rX0_freePlaces : Room := { frames := 0, cells := 0, slots := 0, locals := 0 }
theorem inX0_freePlaces_X0 : ∀ w ∈ u_ws RX0 TX0 7, w ∈ wsX0_freePlaces := by decide +kernel
def bX0_freePlaces_24 (y0 : Int32) (S : St) : Option (Int32 × St) :=
  some (y0, S)
def uX0_freePlaces (x1 : Int32) (S : St) : Option (Int32 × St) :=
  ck x1 8 (if (S 14 x1.toNatClampNeg) = 0 then bX0_freePlaces_24 (S 3 1) S else bX0_freePlaces_24 (((S 3 1) + 1) / 2) S)
-- X0_underFold
def rX0_underFold : Room := { frames := 1, cells := 0, slots := 0, locals := 21 }
theorem inX0_underFold_X0 : ∀ w ∈ u_ws RX0 TX0 7, w ∈ wsX0_underFold := by decide +kernel
def bX0_underFold_21 (y0 : Int32) (S : St) : Option (Int32 × St) :=
  some (y0, S)
def uX0_underFold (x1 : Int32) (x2 : Int32) (S : St) : Option (Int32 × St) :=
  cl (uX0_freePlaces x1 S) (fun v1 S2 => if v1 ≤ x2 then bX0_underFold_21 (((S2 3 1) - 1) - x2) S2 else bX0_underFold_21 x2 S2)
-- X0_reach
def rX0_reach : Room := { frames := 0, cells := 0, slots := 0, locals := 0 }
theorem inX0_reach_X0 : ∀ w ∈ u_ws RX0 TX0 7, w ∈ wsX0_reach := by decide +kernel
def bX0_reach_46 (k6 : Int32 → Int32 → Int32 → Int32 → St → Option (Int32 × St)) (x1 : Int32) (x3 : Int32) (x4 : Int32) (x5 : Int32) (S : St) : Option (Int32 × St) :=
  lt (x5 + 1) (fun v1 => k6 x1 x3 x4 v1 S)
def bX0_reach_6 (k6 : Int32 → Int32 → Int32 → Int32 → St → Option (Int32 × St)) (x1 : Int32) (x3 : Int32) (x4 : Int32) (x5 : Int32) (S : St) : Option (Int32 × St) :=
  if x3 < x5 then some (x4, S) else lt (x4 ||| (1 <<< (x5 &&& 31))) (fun v1 => ck x1 8 (if (S 14 x1.toNatClampNeg) = 0 then bX0_reach_46 k6 x1 x3 v1 x5 S else lt (v1 ||| (1 <<< ((((S 3 1) - 1) - x5) &&& 31))) (fun v2 => bX0_reach_46 k6 x1 x3 v2 x5 S)))
def lX0_reach_6 (n : Nat) : Int32 → Int32 → Int32 → Int32 → St → Option (Int32 × St) :=
  lp (fun k6 => bX0_reach_6 k6) (fun _ _ _ _ _ => none) n
def uX0_reach (x1 : Int32) (x2 : Int32) (x3 : Int32) (S : St) : Option (Int32 × St) :=
  lt 0 (fun v1 => lt x2 (fun v2 => lX0_reach_6 FU x1 x3 v1 v2 S))
-- X0_bind
def rX0_bind : Room := { frames := 1, cells := 0, slots := 0, locals := 25 }
theorem inX0_bind_X0 : ∀ w ∈ u_ws RX0 TX0 7, w ∈ wsX0_bind := by decide +kernel
def uX0_bind (x1 : Int32) (x2 : Int32) (x3 : Int32) (S : St) : Option (Int32 × St) :=
  cl (uX0_reach x1 x2 x3 S) (fun v1 S2 => ck x1 8 (lt (v1 &&& ((S2 15 x1.toNatClampNeg) ^^^ ((-1)))) (fun v3 => ck x1 8 (ck x1 8 (lz (s2 S2 15 x1.toNatClampNeg ((S2 15 x1.toNatClampNeg) ||| v3)) (fun S4 => cl (uJ6_bitCount_0f7a4 v3 S4) (fun v5 S6 => some (v5, S6))))))))
-- X0_loosen
def rX0_loosen : Room := { frames := 1, cells := 0, slots := 0, locals := 25 }
theorem inX0_loosen_X0 : ∀ w ∈ u_ws RX0 TX0 7, w ∈ wsX0_loosen := by decide +kernel
def uX0_loosen (x1 : Int32) (x2 : Int32) (x3 : Int32) (S : St) : Option (Int32 × St) :=
  cl (uX0_reach x1 x2 x3 S) (fun v1 S2 => ck x1 8 (lt (v1 &&& (S2 15 x1.toNatClampNeg)) (fun v3 => ck x1 8 (ck x1 8 (lz (s2 S2 15 x1.toNatClampNeg ((S2 15 x1.toNatClampNeg) &&& (v3 ^^^ ((-1))))) (fun S4 => cl (uJ6_bitCount_0f7a4 v3 S4) (fun v5 S6 => some (v5, S6))))))))
-- X0_knotsOf
def rX0_knotsOf : Room := { frames := 1, cells := 0, slots := 0, locals := 22 }
theorem inX0_knotsOf_X0 : ∀ w ∈ u_ws RX0 TX0 7, w ∈ wsX0_knotsOf := by decide +kernel
def bX0_knotsOf_6 (k6 : Int32 → Int32 → Int32 → Int32 → St → Option (Int32 × St)) (x2 : Int32) (x3 : Int32) (x4 : Int32) (x5 : Int32) (S : St) : Option (Int32 × St) :=
  if (S 3 1) ≤ x5 then some (x4, S) else cl (uX4_bitsAt x2 x5 S) (fun v1 S2 => lt (x4 ||| (((v1 >>> (x3 &&& 31)) &&& 1) <<< (x5 &&& 31))) (fun v3 => lt (x5 + 1) (fun v4 => k6 x2 x3 v3 v4 S2)))
def lX0_knotsOf_6 (n : Nat) : Int32 → Int32 → Int32 → Int32 → St → Option (Int32 × St) :=
  lp (fun k6 => bX0_knotsOf_6 k6) (fun _ _ _ _ _ => none) n
def uX0_knotsOf (x2 : Int32) (x3 : Int32) (S : St) : Option (Int32 × St) :=
  lt 0 (fun v1 => lt 0 (fun v2 => lX0_knotsOf_6 FU x2 x3 v1 v2 S))
-- X0_bindAs
def rX0_bindAs : Room := { frames := 2, cells := 0, slots := 0, locals := 47 }
theorem inX0_bindAs_X0 : ∀ w ∈ u_ws RX0 TX0 7, w ∈ wsX0_bindAs := by decide +kernel
def bX0_bindAs_2 (k2 : Int32 → Int32 → St → Option (Int32 × St)) (x2 : Int32) (x3 : Int32) (S : St) : Option (Int32 × St) :=
  if 8 ≤ x3 then some (0, S) else cl (uX0_knotsOf x3 x2 S) (fun v1 S2 => ck x3 8 (lz (s2 S2 15 x3.toNatClampNeg v1) (fun S3 => lt (x3 + 1) (fun v4 => k2 x2 v4 S3))))
def lX0_bindAs_2 (n : Nat) : Int32 → Int32 → St → Option (Int32 × St) :=
  lp (fun k2 => bX0_bindAs_2 k2) (fun _ _ _ => none) n
def uX0_bindAs (x2 : Int32) (S : St) : Option (Int32 × St) :=
  lt 0 (fun v1 => lX0_bindAs_2 FU x2 v1 S)
-- X0_takenBy
def rX0_takenBy : Room := { frames := 1, cells := 0, slots := 0, locals := 20 }
theorem inX0_takenBy_X0 : ∀ w ∈ u_ws RX0 TX0 7, w ∈ wsX0_takenBy := by decide +kernel
def uX0_takenBy (x1 : Int32) (x2 : Int32) (S : St) : Option (Int32 × St) :=
  ck x1 8 (cl (uJ6_bitCount_0f7a4 x2 S) (fun v1 S2 => some ((S 13 x1.toNatClampNeg) * ((S 3 1) - v1), S2)))
-- X0_takesUp
def rX0_takesUp : Room := { frames := 2, cells := 0, slots := 0, locals := 42 }
theorem inX0_takesUp_X0 : ∀ w ∈ u_ws RX0 TX0 7, w ∈ wsX0_takesUp := by decide +kernel
def bX0_takesUp_4 (k4 : Int32 → Int32 → St → Option (Int32 × St)) (x1 : Int32) (x2 : Int32) (S : St) : Option (Int32 × St) :=
  if 8 ≤ x2 then some (x1, S) else ck x2 8 (cl (uX0_takenBy x2 (S 15 x2.toNatClampNeg) S) (fun v1 S2 => lt (x1 + v1) (fun v3 => lt (x2 + 1) (fun v4 => k4 v3 v4 S2))))
def lX0_takesUp_4 (n : Nat) : Int32 → Int32 → St → Option (Int32 × St) :=
  lp (fun k4 => bX0_takesUp_4 k4) (fun _ _ _ => none) n
def uX0_takesUp (S : St) : Option (Int32 × St) :=
  lt 0 (fun v1 => lt 0 (fun v2 => lX0_takesUp_4 FU v1 v2 S))
-- X0_wouldTakeUp
def rX0_wouldTakeUp : Room := { frames := 2, cells := 0, slots := 0, locals := 47 }
def bX0_wouldTakeUp_5 (k5 : Int32 → Int32 → Int32 → St → Option (Int32 × St)) (x2 : Int32) (x3 : Int32) (x4 : Int32) (S : St) : Option (Int32 × St) :=
  if 8 ≤ x4 then some (x3, S) else cl (uX0_knotsOf x4 x2 S) (fun v1 S2 => cl (uX0_takenBy x4 v1 S2) (fun v3 S4 => lt (x3 + v3) (fun v5 => lt (x4 + 1) (fun v6 => k5 x2 v5 v6 S4))))
def lX0_wouldTakeUp_5 (n : Nat) : Int32 → Int32 → Int32 → St → Option (Int32 × St) :=
  lp (fun k5 => bX0_wouldTakeUp_5 k5) (fun _ _ _ _ => none) n
def uX0_wouldTakeUp (x2 : Int32) (S : St) : Option (Int32 × St) :=
  lt 0 (fun v1 => lt 0 (fun v2 => lX0_wouldTakeUp_5 FU x2 v1 v2 S))
-- X0_dip
def rX0_dip : Room := { frames := 1, cells := 0, slots := 0, locals := 22 }
theorem inX0_dip_X0 : ∀ w ∈ u_ws RX0 TX0 7, w ∈ wsX0_dip := by decide +kernel
def bX0_dip_53 (k2 : Int32 → Int32 → St → Option (Int32 × St)) (k11 : Int32 → Int32 → Int32 → St → Option (Int32 × St)) (x1 : Int32) (x3 : Int32) (x4 : Int32) (S : St) : Option (Int32 × St) :=
  lt (x4 + 1) (fun v1 => k11 x1 x3 v1 S)
def bX0_dip_11 (k2 : Int32 → Int32 → St → Option (Int32 × St)) (k11 : Int32 → Int32 → Int32 → St → Option (Int32 × St)) (x1 : Int32) (x3 : Int32) (x4 : Int32) (S : St) : Option (Int32 × St) :=
  if (S 3 1) ≤ x4 then lt (x3 + 1) (fun v1 => k2 x1 v1 S) else cl (uX0_isBound x3 x4 S) (fun v2 S3 => if v2 = 0 then ck x3 8 (ck x3 8 (ckn x3.toNatClampNeg 8 (ck x4 24 (cl (uX2_comesOf (S3 (31 + x3.toNatClampNeg) x4.toNatClampNeg) x1 S3) (fun v4 S5 => ckn x3.toNatClampNeg 8 (ck x4 24 (lz (s2 S5 (31 + x3.toNatClampNeg) x4.toNatClampNeg v4) (fun S6 => bX0_dip_53 k2 k11 x1 x3 x4 S6)))))))) else bX0_dip_53 k2 k11 x1 x3 x4 S3)
def lX0_dip_11 (k2 : Int32 → Int32 → St → Option (Int32 × St)) (n : Nat) : Int32 → Int32 → Int32 → St → Option (Int32 × St) :=
  lp (fun k11 => bX0_dip_11 k2 k11) (fun _ _ _ _ => none) n
def bX0_dip_2 (k2 : Int32 → Int32 → St → Option (Int32 × St)) (x1 : Int32) (x3 : Int32) (S : St) : Option (Int32 × St) :=
  if 8 ≤ x3 then some (0, S) else lt 0 (fun v1 => lX0_dip_11 k2 FU x1 x3 v1 S)
def lX0_dip_2 (n : Nat) : Int32 → Int32 → St → Option (Int32 × St) :=
  lp (fun k2 => bX0_dip_2 k2) (fun _ _ _ => none) n
def uX0_dip (x1 : Int32) (S : St) : Option (Int32 × St) :=
  lt 0 (fun v1 => lX0_dip_2 FU x1 v1 S)
-- X0_coloursWorn
def rX0_coloursWorn : Room := { frames := 0, cells := 0, slots := 0, locals := 0 }
theorem inX0_coloursWorn_X0 : ∀ w ∈ u_ws RX0 TX0 7, w ∈ wsX0_coloursWorn := by decide +kernel
def bX0_coloursWorn_48 (k4 : Int32 → Int32 → St → Option (Int32 × St)) (x1 : Int32) (x2 : Int32) (S : St) : Option (Int32 × St) :=
  lt (x2 + 1) (fun v1 => k4 x1 v1 S)
def bX0_coloursWorn_12 (k4 : Int32 → Int32 → St → Option (Int32 × St)) (k12 : Int32 → Int32 → Int32 → St → Option (Int32 × St)) (x1 : Int32) (x2 : Int32) (x3 : Int32) (S : St) : Option (Int32 × St) :=
  if (S 3 1) ≤ x3 then bX0_coloursWorn_48 k4 x1 x2 S else ck x2 8 (if (S 13 x2.toNatClampNeg) ≤ 0 then bX0_coloursWorn_48 k4 x1 x2 S else ck x2 8 (ckn x2.toNatClampNeg 8 (ck x3 24 (lt (x1 ||| (1 <<< ((S (31 + x2.toNatClampNeg) x3.toNatClampNeg) &&& 31))) (fun v1 => lt (x3 + 1) (fun v2 => k12 v1 x2 v2 S))))))
def lX0_coloursWorn_12 (k4 : Int32 → Int32 → St → Option (Int32 × St)) (n : Nat) : Int32 → Int32 → Int32 → St → Option (Int32 × St) :=
  lp (fun k12 => bX0_coloursWorn_12 k4 k12) (fun _ _ _ _ => none) n
def bX0_coloursWorn_4 (k4 : Int32 → Int32 → St → Option (Int32 × St)) (x1 : Int32) (x2 : Int32) (S : St) : Option (Int32 × St) :=
  if 8 ≤ x2 then some (x1, S) else lt 0 (fun v1 => lX0_coloursWorn_12 k4 FU x1 x2 v1 S)
def lX0_coloursWorn_4 (n : Nat) : Int32 → Int32 → St → Option (Int32 × St) :=
  lp (fun k4 => bX0_coloursWorn_4 k4) (fun _ _ _ => none) n
def uX0_coloursWorn (S : St) : Option (Int32 × St) :=
  lt 0 (fun v1 => lt 0 (fun v2 => lX0_coloursWorn_4 FU v1 v2 S))
section
variable {N : Nat} {C : St → Nat → va_E} {Ev : (Nat → Prop) → State → Prop} {tys : List (ClassId × FieldType)} {l : Launch} {D : va_G} {cI cZ cO cJ : ClassId} {a : Nat → Nat} {tF : Nat}
set_option maxHeartbeats 4000000 in
set_option maxRecDepth 100000 in
theorem tX0_wash_17 {p : Program} {e : Env} {s : State} {m : MethodId} {args : Array Value} {below : List Frame} {meth : Method} {c : Code} (hc : CT p s m args c cX0_wash 3 RX0 wsX0_wash D (tyW cI cZ cO)) (hr : meth.sig.returnType = none) (hlk : meth.locks = false) (hE : EvX tF (AA 72 a s.heap.size) s) (k2 : Int32 → St → Option (Int32 × St)) (hk2 : ∀ (x1 : Int32) (S : St), GF p l e rX0_wash s m args below meth c D 72 a (cX cI cZ cO a) (AA 72 a s.heap.size) 3 0 0 (fun res => MQ below (va_Qv (fun u => ((0 : Int32), u) = res) (Bw D (tyW cI cZ cO) 72 a (cX cI cZ cO a) (AA 72 a s.heap.size)) (AA 72 a s.heap.size)) args s 0 0 (AA 72 a s.heap.size)) (k2 x1 S) 2 [(0, .ref (a 3)), (1, .int x1)] [] S) (k17 : Int32 → Int32 → St → Option (Int32 × St)) (hk17 : ∀ (x1 : Int32) (x2 : Int32) (S : St), GF p l e rX0_wash s m args below meth c D 72 a (cX cI cZ cO a) (AA 72 a s.heap.size) 3 0 0 (fun res => MQ below (va_Qv (fun u => ((0 : Int32), u) = res) (Bw D (tyW cI cZ cO) 72 a (cX cI cZ cO a) (AA 72 a s.heap.size)) (AA 72 a s.heap.size)) args s 0 0 (AA 72 a s.heap.size)) (k17 x1 x2 S) 17 [(0, .ref (a 3)), (1, .int x1), (2, .int x2)] [] S) (x1 : Int32) (x2 : Int32) (S : St) : GF p l e rX0_wash s m args below meth c D 72 a (cX cI cZ cO a) (AA 72 a s.heap.size) 3 0 0 (fun res => MQ below (va_Qv (fun u => ((0 : Int32), u) = res) (Bw D (tyW cI cZ cO) 72 a (cX cI cZ cO a) (AA 72 a s.heap.size)) (AA 72 a s.heap.size)) args s 0 0 (AA 72 a s.heap.size)) (bX0_wash_17 k2 k17 x1 x2 S) 17 [(0, .ref (a 3)), (1, .int x1), (2, .int x2)] [] S := by
  unfold bX0_wash_17
  refine g_iload_n (j := 2) hc dX0_wash_17 rfl rfl ?_
  refine g_bipush (v := 24) hc dX0_wash_18 (by decide) ?_
  refine g_icmp_ge (tgt := 38) hc dX0_wash_20 (by decide) ?_ ?_
  · refine g_iinc (j := 1) (w := x1 + 1) (L := fun v1 => [(1, .int v1), (0, .ref (a 3)), (2, .int x2)]) hc dX0_wash_38 rfl (by rfl) (by decide) (fun _ => rfl) (fun v1 => ?_)
    refine g_goto (tgt := 2) hc dX0_wash_41 (by decide) ?_
    refine g_lv [1, 0] rfl ?_
    exact hk2 v1 S
  · refine g_aload_n (j := 0) hc dX0_wash_23 rfl rfl ?_
    refine g_get (C0 := RX0) (T := TX0) (M := 7) (k := 3) (ci := 0) hc inX0_wash_X0 (by decide) rfl rfl 6 (by decide) (List.mem_of_getElem? (i := 2) rfl) rfl rfl dX0_wash_24 ?_
    refine g_iload_n (j := 1) hc dX0_wash_27 rfl rfl ?_
    refine g_aald (k := 16) (base := 31) (t0 := 2) hc (by decide) rfl rfl dX0_wash_28 ?_
    refine g_iload_n (j := 2) hc dX0_wash_29 rfl rfl ?_
    refine g_iconst (v := 0) hc dX0_wash_30 (by decide) ?_
    refine g_iastr (base := 31) (cnt := 8) (t0 := 0) hc locX (by decide) (fun S r h => rowX_31 S h) rfl dX0_wash_31 (fun S2 => ?_)
    refine g_iinc (j := 2) (w := x2 + 1) (L := fun v3 => [(2, .int v3), (0, .ref (a 3)), (1, .int x1)]) hc dX0_wash_32 rfl (by rfl) (by decide) (fun _ => rfl) (fun v3 => ?_)
    refine g_goto (tgt := 17) hc dX0_wash_35 (by decide) ?_
    refine g_lv [1, 2, 0] rfl ?_
    exact hk17 x1 v3 S2
set_option maxHeartbeats 4000000 in
set_option maxRecDepth 100000 in
theorem TX0_wash_17 {p : Program} {e : Env} {s : State} {m : MethodId} {args : Array Value} {below : List Frame} {meth : Method} {c : Code} (hc : CT p s m args c cX0_wash 3 RX0 wsX0_wash D (tyW cI cZ cO)) (hr : meth.sig.returnType = none) (hlk : meth.locks = false) (hE : EvX tF (AA 72 a s.heap.size) s) (k2 : Int32 → St → Option (Int32 × St)) (hk2 : ∀ (x1 : Int32) (S : St), GF p l e rX0_wash s m args below meth c D 72 a (cX cI cZ cO a) (AA 72 a s.heap.size) 3 0 0 (fun res => MQ below (va_Qv (fun u => ((0 : Int32), u) = res) (Bw D (tyW cI cZ cO) 72 a (cX cI cZ cO a) (AA 72 a s.heap.size)) (AA 72 a s.heap.size)) args s 0 0 (AA 72 a s.heap.size)) (k2 x1 S) 2 [(0, .ref (a 3)), (1, .int x1)] [] S) (n : Nat) (x1 : Int32) (x2 : Int32) (S : St) : GF p l e rX0_wash s m args below meth c D 72 a (cX cI cZ cO a) (AA 72 a s.heap.size) 3 0 0 (fun res => MQ below (va_Qv (fun u => ((0 : Int32), u) = res) (Bw D (tyW cI cZ cO) 72 a (cX cI cZ cO a) (AA 72 a s.heap.size)) (AA 72 a s.heap.size)) args s 0 0 (AA 72 a s.heap.size)) (lX0_wash_17 k2 n x1 x2 S) 17 [(0, .ref (a 3)), (1, .int x1), (2, .int x2)] [] S :=
  lp_ind (P := fun k : Int32 → Int32 → St → Option (Int32 × St) => ∀ (x1 : Int32) (x2 : Int32) (S : St), GF p l e rX0_wash s m args below meth c D 72 a (cX cI cZ cO a) (AA 72 a s.heap.size) 3 0 0 (fun res => MQ below (va_Qv (fun u => ((0 : Int32), u) = res) (Bw D (tyW cI cZ cO) 72 a (cX cI cZ cO a) (AA 72 a s.heap.size)) (AA 72 a s.heap.size)) args s 0 0 (AA 72 a s.heap.size)) (k x1 x2 S) 17 [(0, .ref (a 3)), (1, .int x1), (2, .int x2)] [] S) (fun _ _ _ => g_none) (fun k17 hk17 => tX0_wash_17 hc hr hlk hE k2 hk2 k17 hk17) n x1 x2 S
set_option maxHeartbeats 4000000 in
set_option maxRecDepth 100000 in
theorem tX0_wash_2 {p : Program} {e : Env} {s : State} {m : MethodId} {args : Array Value} {below : List Frame} {meth : Method} {c : Code} (hc : CT p s m args c cX0_wash 3 RX0 wsX0_wash D (tyW cI cZ cO)) (hr : meth.sig.returnType = none) (hlk : meth.locks = false) (hE : EvX tF (AA 72 a s.heap.size) s) (k2 : Int32 → St → Option (Int32 × St)) (hk2 : ∀ (x1 : Int32) (S : St), GF p l e rX0_wash s m args below meth c D 72 a (cX cI cZ cO a) (AA 72 a s.heap.size) 3 0 0 (fun res => MQ below (va_Qv (fun u => ((0 : Int32), u) = res) (Bw D (tyW cI cZ cO) 72 a (cX cI cZ cO a) (AA 72 a s.heap.size)) (AA 72 a s.heap.size)) args s 0 0 (AA 72 a s.heap.size)) (k2 x1 S) 2 [(0, .ref (a 3)), (1, .int x1)] [] S) (x1 : Int32) (S : St) : GF p l e rX0_wash s m args below meth c D 72 a (cX cI cZ cO a) (AA 72 a s.heap.size) 3 0 0 (fun res => MQ below (va_Qv (fun u => ((0 : Int32), u) = res) (Bw D (tyW cI cZ cO) 72 a (cX cI cZ cO a) (AA 72 a s.heap.size)) (AA 72 a s.heap.size)) args s 0 0 (AA 72 a s.heap.size)) (bX0_wash_2 k2 x1 S) 2 [(0, .ref (a 3)), (1, .int x1)] [] S := by
  unfold bX0_wash_2
  refine g_iload_n (j := 1) hc dX0_wash_2 rfl rfl ?_
  refine g_bipush (v := 8) hc dX0_wash_3 (by decide) ?_
  refine g_icmp_ge (tgt := 44) hc dX0_wash_5 (by decide) ?_ ?_
  · exact g_vret hc hr hlk dX0_wash_44
  · refine g_aload_n (j := 0) hc dX0_wash_8 rfl rfl ?_
    refine g_get (C0 := RX0) (T := TX0) (M := 7) (k := 3) (ci := 0) hc inX0_wash_X0 (by decide) rfl rfl 5 (by decide) (List.mem_of_getElem? (i := 1) rfl) rfl rfl dX0_wash_9 ?_
    refine g_iload_n (j := 1) hc dX0_wash_12 rfl rfl ?_
    refine g_iconst (v := 0) hc dX0_wash_13 (by decide) ?_
    refine g_iast (k := 15) (t0 := 0) hc locX (by decide) rfl rfl rfl dX0_wash_14 (fun S1 => ?_)
    refine g_iconst (v := 0) hc dX0_wash_15 (by decide) ?_
    refine g_istore_n (L := fun v2 => [(2, .int v2), (0, .ref (a 3)), (1, .int x1)]) hc dX0_wash_16 rfl (by decide) (fun _ => rfl) (fun v2 => ?_)
    refine g_lv [1, 2, 0] rfl ?_
    exact TX0_wash_17 hc hr hlk hE k2 hk2 FU x1 v2 S1
set_option maxHeartbeats 4000000 in
set_option maxRecDepth 100000 in
theorem TX0_wash_2 {p : Program} {e : Env} {s : State} {m : MethodId} {args : Array Value} {below : List Frame} {meth : Method} {c : Code} (hc : CT p s m args c cX0_wash 3 RX0 wsX0_wash D (tyW cI cZ cO)) (hr : meth.sig.returnType = none) (hlk : meth.locks = false) (hE : EvX tF (AA 72 a s.heap.size) s) (n : Nat) (x1 : Int32) (S : St) : GF p l e rX0_wash s m args below meth c D 72 a (cX cI cZ cO a) (AA 72 a s.heap.size) 3 0 0 (fun res => MQ below (va_Qv (fun u => ((0 : Int32), u) = res) (Bw D (tyW cI cZ cO) 72 a (cX cI cZ cO a) (AA 72 a s.heap.size)) (AA 72 a s.heap.size)) args s 0 0 (AA 72 a s.heap.size)) (lX0_wash_2 n x1 S) 2 [(0, .ref (a 3)), (1, .int x1)] [] S :=
  lp_ind (P := fun k : Int32 → St → Option (Int32 × St) => ∀ (x1 : Int32) (S : St), GF p l e rX0_wash s m args below meth c D 72 a (cX cI cZ cO a) (AA 72 a s.heap.size) 3 0 0 (fun res => MQ below (va_Qv (fun u => ((0 : Int32), u) = res) (Bw D (tyW cI cZ cO) 72 a (cX cI cZ cO a) (AA 72 a s.heap.size)) (AA 72 a s.heap.size)) args s 0 0 (AA 72 a s.heap.size)) (k x1 S) 2 [(0, .ref (a 3)), (1, .int x1)] [] S) (fun _ _ => g_none) (fun k2 hk2 => tX0_wash_2 hc hr hlk hE k2 hk2) n x1 S
set_option maxHeartbeats 4000000 in
set_option maxRecDepth 100000 in
theorem mX0_wash (S : St) : ∀ q, uX0_wash S = some q → Kv l yX0_wash wsX0_wash rX0_wash D (tyW cI cZ cO) 72 a (cX cI cZ cO a) (EvX tF) [.ref (a 3)] S q := by
  refine m_Kv (cc := cX0_wash) (nL := 3) (ret := none) (lv := [(0, .ref (a 3))]) (by decide) rfl (Nat.le_of_ble_eq_true rfl) rfl ?_
  intro p e s m args below meth c hc hr hlk hE
  unfold uX0_wash
  refine g_iconst (v := 0) hc dX0_wash_0 (by decide) ?_
  refine g_istore_n (L := fun v1 => [(1, .int v1), (0, .ref (a 3))]) hc dX0_wash_1 rfl (by decide) (fun _ => rfl) (fun v1 => ?_)
  refine g_lv [1, 0] rfl ?_
  exact TX0_wash_2 hc hr hlk hE FU v1 S
set_option maxHeartbeats 4000000 in
set_option maxRecDepth 100000 in
theorem tX0_stretch_33 {p : Program} {e : Env} {s : State} {m : MethodId} {args : Array Value} {below : List Frame} {meth : Method} {c : Code} (hc : CT p s m args c cX0_stretch 4 RX0 wsX0_stretch D (tyW cI cZ cO)) (hr : meth.sig.returnType = none) (hlk : meth.locks = false) (hE : EvX tF (AA 72 a s.heap.size) s) (k33 : Int32 → St → Option (Int32 × St)) (hk33 : ∀ (x3 : Int32) (S : St), GF p l e rX0_stretch s m args below meth c D 72 a (cX cI cZ cO a) (AA 72 a s.heap.size) 4 0 0 (fun res => MQ below (va_Qv (fun u => ((0 : Int32), u) = res) (Bw D (tyW cI cZ cO) 72 a (cX cI cZ cO a) (AA 72 a s.heap.size)) (AA 72 a s.heap.size)) args s 0 0 (AA 72 a s.heap.size)) (k33 x3 S) 33 [(0, .ref (a 3)), (3, .int x3)] [] S) (x3 : Int32) (S : St) : GF p l e rX0_stretch s m args below meth c D 72 a (cX cI cZ cO a) (AA 72 a s.heap.size) 4 0 0 (fun res => MQ below (va_Qv (fun u => ((0 : Int32), u) = res) (Bw D (tyW cI cZ cO) 72 a (cX cI cZ cO a) (AA 72 a s.heap.size)) (AA 72 a s.heap.size)) args s 0 0 (AA 72 a s.heap.size)) (bX0_stretch_33 k33 x3 S) 33 [(0, .ref (a 3)), (3, .int x3)] [] S := by
  unfold bX0_stretch_33
  refine g_iload_n (j := 1) hc dX0_stretch_33 rfl rfl ?_
  refine g_bipush (v := 8) hc dX0_stretch_34 (by decide) ?_
  refine g_icmp_ge (tgt := 59) hc dX0_stretch_36 (by decide) ?_ ?_
  · refine g_aload_n (j := 0) hc dX0_stretch_59 rfl rfl ?_
    refine g_get (C0 := RX0) (T := TX0) (M := 7) (k := 3) (ci := 0) hc inX0_stretch_X0 (by decide) rfl rfl 3 (by decide) (List.mem_of_getElem? (i := 4) rfl) rfl rfl dX0_stretch_60 ?_
    refine g_iconst (v := 0) hc dX0_stretch_63 (by decide) ?_
    refine g_aload_n (j := 0) hc dX0_stretch_64 rfl rfl ?_
    refine g_get (C0 := RX0) (T := TX0) (M := 7) (k := 3) (ci := 0) hc inX0_stretch_X0 (by decide) rfl rfl 0 (by decide) (List.mem_of_getElem? (i := 1) rfl) rfl rfl dX0_stretch_65 ?_
    refine g_iast (k := 13) (t0 := 0) hc locX (by decide) rfl rfl rfl dX0_stretch_68 (fun S1 => ?_)
    refine g_aload_n (j := 0) hc dX0_stretch_69 rfl rfl ?_
    refine g_callVv (As := []) (rest := []) (k := 3) (ci := 0) (q0 := (RX0, TX0, 7)) hc hE trX rfl (fun _ h => mX0_wash S1 _ h) (cwV 0 hc.1.2.2.2.2 gX0_stretch_X0_wash rfl rfl rfl (by decide +kernel) ⟨by decide, by decide⟩) (by decide) rfl rfl rfl rfl (Nat.le_of_ble_eq_true rfl) dX0_stretch_70 ⟨by decide, by decide⟩ (fun S3 => ?_)
    exact g_vret hc hr hlk dX0_stretch_73
  · refine g_aload_n (j := 0) hc dX0_stretch_39 rfl rfl ?_
    refine g_get (C0 := RX0) (T := TX0) (M := 7) (k := 3) (ci := 0) hc inX0_stretch_X0 (by decide) rfl rfl 3 (by decide) (List.mem_of_getElem? (i := 4) rfl) rfl rfl dX0_stretch_40 ?_
    refine g_iload_n (j := 1) hc dX0_stretch_43 rfl rfl ?_
    refine g_iconst (v := 0) hc dX0_stretch_44 (by decide) ?_
    refine g_iast (k := 13) (t0 := 0) hc locX (by decide) rfl rfl rfl dX0_stretch_45 (fun S4 => ?_)
    refine g_aload_n (j := 0) hc dX0_stretch_46 rfl rfl ?_
    refine g_get (C0 := RX0) (T := TX0) (M := 7) (k := 3) (ci := 0) hc inX0_stretch_X0 (by decide) rfl rfl 4 (by decide) (List.mem_of_getElem? (i := 5) rfl) rfl rfl dX0_stretch_47 ?_
    refine g_iload_n (j := 1) hc dX0_stretch_50 rfl rfl ?_
    refine g_iconst (v := 0) hc dX0_stretch_51 (by decide) ?_
    refine g_zast (k := 14) (t0 := 1) hc locX (by decide) rfl rfl rfl dX0_stretch_52 (fun S5 => ?_)
    refine g_iinc (j := 1) (w := x3 + 1) (L := fun v6 => [(3, .int v6), (0, .ref (a 3))]) hc dX0_stretch_53 rfl (by rfl) (by decide) (fun _ => rfl) (fun v6 => ?_)
    refine g_goto (tgt := 33) hc dX0_stretch_56 (by decide) ?_
    refine g_lv [1, 0] rfl ?_
    exact hk33 v6 S5
set_option maxHeartbeats 4000000 in
set_option maxRecDepth 100000 in
theorem TX0_stretch_33 {p : Program} {e : Env} {s : State} {m : MethodId} {args : Array Value} {below : List Frame} {meth : Method} {c : Code} (hc : CT p s m args c cX0_stretch 4 RX0 wsX0_stretch D (tyW cI cZ cO)) (hr : meth.sig.returnType = none) (hlk : meth.locks = false) (hE : EvX tF (AA 72 a s.heap.size) s) (n : Nat) (x3 : Int32) (S : St) : GF p l e rX0_stretch s m args below meth c D 72 a (cX cI cZ cO a) (AA 72 a s.heap.size) 4 0 0 (fun res => MQ below (va_Qv (fun u => ((0 : Int32), u) = res) (Bw D (tyW cI cZ cO) 72 a (cX cI cZ cO a) (AA 72 a s.heap.size)) (AA 72 a s.heap.size)) args s 0 0 (AA 72 a s.heap.size)) (lX0_stretch_33 n x3 S) 33 [(0, .ref (a 3)), (3, .int x3)] [] S :=
  lp_ind (P := fun k : Int32 → St → Option (Int32 × St) => ∀ (x3 : Int32) (S : St), GF p l e rX0_stretch s m args below meth c D 72 a (cX cI cZ cO a) (AA 72 a s.heap.size) 4 0 0 (fun res => MQ below (va_Qv (fun u => ((0 : Int32), u) = res) (Bw D (tyW cI cZ cO) 72 a (cX cI cZ cO a) (AA 72 a s.heap.size)) (AA 72 a s.heap.size)) args s 0 0 (AA 72 a s.heap.size)) (k x3 S) 33 [(0, .ref (a 3)), (3, .int x3)] [] S) (fun _ _ => g_none) (fun k33 hk33 => tX0_stretch_33 hc hr hlk hE k33 hk33) n x3 S
set_option maxHeartbeats 4000000 in
set_option maxRecDepth 100000 in
theorem tX0_stretch_12 {p : Program} {e : Env} {s : State} {m : MethodId} {args : Array Value} {below : List Frame} {meth : Method} {c : Code} (hc : CT p s m args c cX0_stretch 4 RX0 wsX0_stretch D (tyW cI cZ cO)) (hr : meth.sig.returnType = none) (hlk : meth.locks = false) (hE : EvX tF (AA 72 a s.heap.size) s) (k12 : Int32 → St → Option (Int32 × St)) (hk12 : ∀ (x3 : Int32) (S : St), GF p l e rX0_stretch s m args below meth c D 72 a (cX cI cZ cO a) (AA 72 a s.heap.size) 4 0 0 (fun res => MQ below (va_Qv (fun u => ((0 : Int32), u) = res) (Bw D (tyW cI cZ cO) 72 a (cX cI cZ cO a) (AA 72 a s.heap.size)) (AA 72 a s.heap.size)) args s 0 0 (AA 72 a s.heap.size)) (k12 x3 S) 12 [(0, .ref (a 3)), (3, .int x3)] [] S) (x3 : Int32) (S : St) : GF p l e rX0_stretch s m args below meth c D 72 a (cX cI cZ cO a) (AA 72 a s.heap.size) 4 0 0 (fun res => MQ below (va_Qv (fun u => ((0 : Int32), u) = res) (Bw D (tyW cI cZ cO) 72 a (cX cI cZ cO a) (AA 72 a s.heap.size)) (AA 72 a s.heap.size)) args s 0 0 (AA 72 a s.heap.size)) (bX0_stretch_12 k12 x3 S) 12 [(0, .ref (a 3)), (3, .int x3)] [] S := by
  unfold bX0_stretch_12
  refine g_iload_n (j := 1) hc dX0_stretch_12 rfl rfl ?_
  refine g_bipush (v := 16) hc dX0_stretch_13 (by decide) ?_
  refine g_icmp_ge (tgt := 31) hc dX0_stretch_15 (by decide) ?_ ?_
  · refine g_iconst (v := 0) hc dX0_stretch_31 (by decide) ?_
    refine g_istore_n (L := fun v1 => [(3, .int v1), (0, .ref (a 3))]) hc dX0_stretch_32 rfl (by decide) (fun _ => rfl) (fun v1 => ?_)
    refine g_lv [1, 0] rfl ?_
    exact TX0_stretch_33 hc hr hlk hE FU v1 S
  · refine g_aload_n (j := 0) hc dX0_stretch_18 rfl rfl ?_
    refine g_get (C0 := RX0) (T := TX0) (M := 7) (k := 3) (ci := 0) hc inX0_stretch_X0 (by decide) rfl rfl 2 (by decide) (List.mem_of_getElem? (i := 3) rfl) rfl rfl dX0_stretch_19 ?_
    refine g_iload_n (j := 1) hc dX0_stretch_22 rfl rfl ?_
    refine g_iconst (v := 0) hc dX0_stretch_23 (by decide) ?_
    refine g_iast (k := 12) (t0 := 0) hc locX (by decide) rfl rfl rfl dX0_stretch_24 (fun S2 => ?_)
    refine g_iinc (j := 1) (w := x3 + 1) (L := fun v3 => [(3, .int v3), (0, .ref (a 3))]) hc dX0_stretch_25 rfl (by rfl) (by decide) (fun _ => rfl) (fun v3 => ?_)
    refine g_goto (tgt := 12) hc dX0_stretch_28 (by decide) ?_
    refine g_lv [1, 0] rfl ?_
    exact hk12 v3 S2
set_option maxHeartbeats 4000000 in
set_option maxRecDepth 100000 in
theorem TX0_stretch_12 {p : Program} {e : Env} {s : State} {m : MethodId} {args : Array Value} {below : List Frame} {meth : Method} {c : Code} (hc : CT p s m args c cX0_stretch 4 RX0 wsX0_stretch D (tyW cI cZ cO)) (hr : meth.sig.returnType = none) (hlk : meth.locks = false) (hE : EvX tF (AA 72 a s.heap.size) s) (n : Nat) (x3 : Int32) (S : St) : GF p l e rX0_stretch s m args below meth c D 72 a (cX cI cZ cO a) (AA 72 a s.heap.size) 4 0 0 (fun res => MQ below (va_Qv (fun u => ((0 : Int32), u) = res) (Bw D (tyW cI cZ cO) 72 a (cX cI cZ cO a) (AA 72 a s.heap.size)) (AA 72 a s.heap.size)) args s 0 0 (AA 72 a s.heap.size)) (lX0_stretch_12 n x3 S) 12 [(0, .ref (a 3)), (3, .int x3)] [] S :=
  lp_ind (P := fun k : Int32 → St → Option (Int32 × St) => ∀ (x3 : Int32) (S : St), GF p l e rX0_stretch s m args below meth c D 72 a (cX cI cZ cO a) (AA 72 a s.heap.size) 4 0 0 (fun res => MQ below (va_Qv (fun u => ((0 : Int32), u) = res) (Bw D (tyW cI cZ cO) 72 a (cX cI cZ cO a) (AA 72 a s.heap.size)) (AA 72 a s.heap.size)) args s 0 0 (AA 72 a s.heap.size)) (k x3 S) 12 [(0, .ref (a 3)), (3, .int x3)] [] S) (fun _ _ => g_none) (fun k12 hk12 => tX0_stretch_12 hc hr hlk hE k12 hk12) n x3 S
set_option maxHeartbeats 4000000 in
set_option maxRecDepth 100000 in
theorem mX0_stretch (x1 : Int32) (x2 : Int32) (S : St) : ∀ q, uX0_stretch x1 x2 S = some q → Kv l yX0_stretch wsX0_stretch rX0_stretch D (tyW cI cZ cO) 72 a (cX cI cZ cO a) (EvX tF) [.ref (a 3), .int x1, .int x2] S q := by
  refine m_Kv (cc := cX0_stretch) (nL := 4) (ret := none) (lv := [(0, .ref (a 3)), (1, .int x1), (2, .int x2)]) (by decide) rfl (Nat.le_of_ble_eq_true rfl) rfl ?_
  intro p e s m args below meth c hc hr hlk hE
  unfold uX0_stretch
  refine g_aload_n (j := 0) hc dX0_stretch_0 rfl rfl ?_
  refine g_iload_n (j := 1) hc dX0_stretch_1 rfl rfl ?_
  refine g_put (ty := .int) (C0 := RX0) (T := TX0) (M := 7) (k := 3) (ci := 0) hc locX tyX0 tyX0_ok nmX0 inX0_stretch_X0 (by decide) rfl rfl 0 (by decide) (List.mem_of_getElem? (i := 1) rfl) rfl rfl (by decide +kernel) rfl rfl (Nat.le_of_ble_eq_true rfl) rfl rfl dX0_stretch_2 (fun S1 => ?_)
  refine g_aload_n (j := 0) hc dX0_stretch_5 rfl rfl ?_
  refine g_iload_n (j := 2) hc dX0_stretch_6 rfl rfl ?_
  refine g_put (ty := .int) (C0 := RX0) (T := TX0) (M := 7) (k := 3) (ci := 0) hc locX tyX0 tyX0_ok nmX0 inX0_stretch_X0 (by decide) rfl rfl 1 (by decide) (List.mem_of_getElem? (i := 2) rfl) rfl rfl (by decide +kernel) rfl rfl (Nat.le_of_ble_eq_true rfl) rfl rfl dX0_stretch_7 (fun S2 => ?_)
  refine g_iconst (v := 0) hc dX0_stretch_10 (by decide) ?_
  refine g_istore_n (L := fun v3 => [(3, .int v3), (0, .ref (a 3)), (1, .int x1), (2, .int x2)]) hc dX0_stretch_11 rfl (by decide) (fun _ => rfl) (fun v3 => ?_)
  refine g_lv [1, 0] rfl ?_
  exact TX0_stretch_12 hc hr hlk hE FU v3 S2
set_option maxHeartbeats 4000000 in
set_option maxRecDepth 100000 in
theorem mX0_move (x1 : Int32) (x2 : Int32) (S : St) : ∀ q, uX0_move x1 x2 S = some q → Kv l yX0_move wsX0_move rX0_move D (tyW cI cZ cO) 72 a (cX cI cZ cO a) (EvX tF) [.ref (a 3), .int x1, .int x2] S q := by
  refine m_Kv (cc := cX0_move) (nL := 3) (ret := none) (lv := [(0, .ref (a 3)), (1, .int x1), (2, .int x2)]) (by decide) rfl (Nat.le_of_ble_eq_true rfl) rfl ?_
  intro p e s m args below meth c hc hr hlk hE
  unfold uX0_move
  refine g_aload_n (j := 0) hc dX0_move_0 rfl rfl ?_
  refine g_get (C0 := RX0) (T := TX0) (M := 7) (k := 3) (ci := 0) hc inX0_move_X0 (by decide) rfl rfl 3 (by decide) (List.mem_of_getElem? (i := 1) rfl) rfl rfl dX0_move_1 ?_
  refine g_aload_n (j := 0) hc dX0_move_4 rfl rfl ?_
  refine g_get (C0 := RX0) (T := TX0) (M := 7) (k := 3) (ci := 0) hc inX0_move_X0 (by decide) rfl rfl 2 (by decide) (List.mem_of_getElem? (i := 2) rfl) rfl rfl dX0_move_5 ?_
  refine g_iload_n (j := 1) hc dX0_move_8 rfl rfl ?_
  refine g_iald (k := 12) (t0 := 0) hc (by decide) rfl rfl dX0_move_9 ?_
  refine g_dup2 hc dX0_move_10 rfl rfl ?_
  refine g_iald (k := 13) (t0 := 0) hc (by decide) rfl rfl dX0_move_11 ?_
  refine g_iconst (v := 1) hc dX0_move_12 (by decide) ?_
  refine g_isub hc dX0_move_13 ?_
  refine g_iast (k := 13) (t0 := 0) hc locX (by decide) rfl rfl rfl dX0_move_14 (fun S1 => ?_)
  refine g_aload_n (j := 0) hc dX0_move_15 rfl rfl ?_
  refine g_get (C0 := RX0) (T := TX0) (M := 7) (k := 3) (ci := 0) hc inX0_move_X0 (by decide) rfl rfl 2 (by decide) (List.mem_of_getElem? (i := 2) rfl) rfl rfl dX0_move_16 ?_
  refine g_iload_n (j := 1) hc dX0_move_19 rfl rfl ?_
  refine g_iload_n (j := 2) hc dX0_move_20 rfl rfl ?_
  refine g_iast (k := 12) (t0 := 0) hc locX (by decide) rfl rfl rfl dX0_move_21 (fun S2 => ?_)
  refine g_aload_n (j := 0) hc dX0_move_22 rfl rfl ?_
  refine g_get (C0 := RX0) (T := TX0) (M := 7) (k := 3) (ci := 0) hc inX0_move_X0 (by decide) rfl rfl 3 (by decide) (List.mem_of_getElem? (i := 1) rfl) rfl rfl dX0_move_23 ?_
  refine g_iload_n (j := 2) hc dX0_move_26 rfl rfl ?_
  refine g_dup2 hc dX0_move_27 rfl rfl ?_
  refine g_iald (k := 13) (t0 := 0) hc (by decide) rfl rfl dX0_move_28 ?_
  refine g_iconst (v := 1) hc dX0_move_29 (by decide) ?_
  refine g_iadd hc dX0_move_30 ?_
  refine g_iast (k := 13) (t0 := 0) hc locX (by decide) rfl rfl rfl dX0_move_31 (fun S3 => ?_)
  refine g_aload_n (j := 0) hc dX0_move_32 rfl rfl ?_
  refine g_callVv (As := []) (rest := []) (k := 3) (ci := 0) (q0 := (RX0, TX0, 7)) hc hE trX rfl (fun _ h => mX0_wash S3 _ h) (cwV 0 hc.1.2.2.2.2 gX0_move_X0_wash rfl rfl rfl (by decide +kernel) ⟨by decide, by decide⟩) (by decide) rfl rfl rfl rfl (Nat.le_of_ble_eq_true rfl) dX0_move_33 ⟨by decide, by decide⟩ (fun S5 => ?_)
  exact g_vret hc hr hlk dX0_move_36
set_option maxHeartbeats 4000000 in
set_option maxRecDepth 100000 in
theorem mX0_setFolded (x1 : Int32) (x2 : Int32) (S : St) : ∀ q, uX0_setFolded x1 x2 S = some q → Kv l yX0_setFolded wsX0_setFolded rX0_setFolded D (tyW cI cZ cO) 72 a (cX cI cZ cO a) (EvX tF) [.ref (a 3), .int x1, .int x2] S q := by
  refine m_Kv (cc := cX0_setFolded) (nL := 3) (ret := none) (lv := [(0, .ref (a 3)), (1, .int x1), (2, .int x2)]) (by decide) rfl (Nat.le_of_ble_eq_true rfl) rfl ?_
  intro p e s m args below meth c hc hr hlk hE
  unfold uX0_setFolded
  refine g_aload_n (j := 0) hc dX0_setFolded_0 rfl rfl ?_
  refine g_get (C0 := RX0) (T := TX0) (M := 7) (k := 3) (ci := 0) hc inX0_setFolded_X0 (by decide) rfl rfl 4 (by decide) (List.mem_of_getElem? (i := 1) rfl) rfl rfl dX0_setFolded_1 ?_
  refine g_iload_n (j := 1) hc dX0_setFolded_4 rfl rfl ?_
  refine g_iload_n (j := 2) hc dX0_setFolded_5 rfl rfl ?_
  refine g_zast (k := 14) (t0 := 1) hc locX (by decide) rfl rfl rfl dX0_setFolded_6 (fun S1 => ?_)
  refine g_aload_n (j := 0) hc dX0_setFolded_7 rfl rfl ?_
  refine g_callVv (As := []) (rest := []) (k := 3) (ci := 0) (q0 := (RX0, TX0, 7)) hc hE trX rfl (fun _ h => mX0_wash S1 _ h) (cwV 0 hc.1.2.2.2.2 gX0_setFolded_X0_wash rfl rfl rfl (by decide +kernel) ⟨by decide, by decide⟩) (by decide) rfl rfl rfl rfl (Nat.le_of_ble_eq_true rfl) dX0_setFolded_8 ⟨by decide, by decide⟩ (fun S3 => ?_)
  exact g_vret hc hr hlk dX0_setFolded_11
set_option maxHeartbeats 4000000 in
set_option maxRecDepth 100000 in
theorem mX0_threads (S : St) : ∀ q, uX0_threads S = some q → Ki l yX0_threads wsX0_threads rX0_threads D (tyW cI cZ cO) 72 a (cX cI cZ cO a) (EvX tF) [.ref (a 3)] S q := by
  refine m_Ki (cc := cX0_threads) (nL := 1) (ret := (some .int)) (lv := [(0, .ref (a 3))]) (by decide) rfl (Nat.le_of_ble_eq_true rfl) rfl ?_
  intro p e s m args below meth c hc hr hlk hE
  unfold uX0_threads
  refine g_aload_n (j := 0) hc dX0_threads_0 rfl rfl ?_
  refine g_get (C0 := RX0) (T := TX0) (M := 7) (k := 3) (ci := 0) hc inX0_threads_X0 (by decide) rfl rfl 0 (by decide) (List.mem_of_getElem? (i := 1) rfl) rfl rfl dX0_threads_1 ?_
  exact g_iret hc hr hlk dX0_threads_4
set_option maxHeartbeats 4000000 in
set_option maxRecDepth 100000 in
theorem mX0_places (S : St) : ∀ q, uX0_places S = some q → Ki l yX0_places wsX0_places rX0_places D (tyW cI cZ cO) 72 a (cX cI cZ cO a) (EvX tF) [.ref (a 3)] S q := by
  refine m_Ki (cc := cX0_places) (nL := 1) (ret := (some .int)) (lv := [(0, .ref (a 3))]) (by decide) rfl (Nat.le_of_ble_eq_true rfl) rfl ?_
  intro p e s m args below meth c hc hr hlk hE
  unfold uX0_places
  refine g_aload_n (j := 0) hc dX0_places_0 rfl rfl ?_
  refine g_get (C0 := RX0) (T := TX0) (M := 7) (k := 3) (ci := 0) hc inX0_places_X0 (by decide) rfl rfl 1 (by decide) (List.mem_of_getElem? (i := 1) rfl) rfl rfl dX0_places_1 ?_
  exact g_iret hc hr hlk dX0_places_4
set_option maxHeartbeats 4000000 in
set_option maxRecDepth 100000 in
theorem mX0_bundleOf (x1 : Int32) (S : St) : ∀ q, uX0_bundleOf x1 S = some q → Ki l yX0_bundleOf wsX0_bundleOf rX0_bundleOf D (tyW cI cZ cO) 72 a (cX cI cZ cO a) (EvX tF) [.ref (a 3), .int x1] S q := by
  refine m_Ki (cc := cX0_bundleOf) (nL := 2) (ret := (some .int)) (lv := [(0, .ref (a 3)), (1, .int x1)]) (by decide) rfl (Nat.le_of_ble_eq_true rfl) rfl ?_
  intro p e s m args below meth c hc hr hlk hE
  unfold uX0_bundleOf
  refine g_aload_n (j := 0) hc dX0_bundleOf_0 rfl rfl ?_
  refine g_get (C0 := RX0) (T := TX0) (M := 7) (k := 3) (ci := 0) hc inX0_bundleOf_X0 (by decide) rfl rfl 2 (by decide) (List.mem_of_getElem? (i := 1) rfl) rfl rfl dX0_bundleOf_1 ?_
  refine g_iload_n (j := 1) hc dX0_bundleOf_4 rfl rfl ?_
  refine g_iald (k := 12) (t0 := 0) hc (by decide) rfl rfl dX0_bundleOf_5 ?_
  exact g_iret hc hr hlk dX0_bundleOf_6
set_option maxHeartbeats 4000000 in
set_option maxRecDepth 100000 in
theorem mX0_threadsIn (x1 : Int32) (S : St) : ∀ q, uX0_threadsIn x1 S = some q → Ki l yX0_threadsIn wsX0_threadsIn rX0_threadsIn D (tyW cI cZ cO) 72 a (cX cI cZ cO a) (EvX tF) [.ref (a 3), .int x1] S q := by
  refine m_Ki (cc := cX0_threadsIn) (nL := 2) (ret := (some .int)) (lv := [(0, .ref (a 3)), (1, .int x1)]) (by decide) rfl (Nat.le_of_ble_eq_true rfl) rfl ?_
  intro p e s m args below meth c hc hr hlk hE
  unfold uX0_threadsIn
  refine g_aload_n (j := 0) hc dX0_threadsIn_0 rfl rfl ?_
  refine g_get (C0 := RX0) (T := TX0) (M := 7) (k := 3) (ci := 0) hc inX0_threadsIn_X0 (by decide) rfl rfl 3 (by decide) (List.mem_of_getElem? (i := 1) rfl) rfl rfl dX0_threadsIn_1 ?_
  refine g_iload_n (j := 1) hc dX0_threadsIn_4 rfl rfl ?_
  refine g_iald (k := 13) (t0 := 0) hc (by decide) rfl rfl dX0_threadsIn_5 ?_
  exact g_iret hc hr hlk dX0_threadsIn_6
set_option maxHeartbeats 4000000 in
set_option maxRecDepth 100000 in
theorem mX0_isFolded (x1 : Int32) (S : St) : ∀ q, uX0_isFolded x1 S = some q → Ki l yX0_isFolded wsX0_isFolded rX0_isFolded D (tyW cI cZ cO) 72 a (cX cI cZ cO a) (EvX tF) [.ref (a 3), .int x1] S q := by
  refine m_Ki (cc := cX0_isFolded) (nL := 2) (ret := (some .boolean)) (lv := [(0, .ref (a 3)), (1, .int x1)]) (by decide) rfl (Nat.le_of_ble_eq_true rfl) rfl ?_
  intro p e s m args below meth c hc hr hlk hE
  unfold uX0_isFolded
  refine g_aload_n (j := 0) hc dX0_isFolded_0 rfl rfl ?_
  refine g_get (C0 := RX0) (T := TX0) (M := 7) (k := 3) (ci := 0) hc inX0_isFolded_X0 (by decide) rfl rfl 4 (by decide) (List.mem_of_getElem? (i := 1) rfl) rfl rfl dX0_isFolded_1 ?_
  refine g_iload_n (j := 1) hc dX0_isFolded_4 rfl rfl ?_
  refine g_zald (k := 14) (t0 := 1) hc (by decide) rfl rfl dX0_isFolded_5 ?_
  exact g_zret hc hr hlk dX0_isFolded_6
set_option maxHeartbeats 4000000 in
set_option maxRecDepth 100000 in
theorem tX0_isBound_18 {p : Program} {e : Env} {s : State} {m : MethodId} {args : Array Value} {below : List Frame} {meth : Method} {c : Code} (hc : CT p s m args c cX0_isBound 3 RX0 wsX0_isBound D (tyW cI cZ cO)) (hr : meth.sig.returnType = (some .boolean)) (hlk : meth.locks = false) (hE : EvX tF (AA 72 a s.heap.size) s) (y0 : Int32) (S : St) : GF p l e rX0_isBound s m args below meth c D 72 a (cX cI cZ cO a) (AA 72 a s.heap.size) 3 0 0 (fun res => MQ below (va_Qi (fun r u => (r, u) = res) (Bw D (tyW cI cZ cO) 72 a (cX cI cZ cO a) (AA 72 a s.heap.size)) (AA 72 a s.heap.size)) args s 0 0 (AA 72 a s.heap.size)) (bX0_isBound_18 y0 S) 18 [] [.int y0] S := by
  unfold bX0_isBound_18
  exact g_zret hc hr hlk dX0_isBound_18
set_option maxHeartbeats 4000000 in
set_option maxRecDepth 100000 in
theorem mX0_isBound (x1 : Int32) (x2 : Int32) (S : St) : ∀ q, uX0_isBound x1 x2 S = some q → Ki l yX0_isBound wsX0_isBound rX0_isBound D (tyW cI cZ cO) 72 a (cX cI cZ cO a) (EvX tF) [.ref (a 3), .int x1, .int x2] S q := by
  refine m_Ki (cc := cX0_isBound) (nL := 3) (ret := (some .boolean)) (lv := [(0, .ref (a 3)), (1, .int x1), (2, .int x2)]) (by decide) rfl (Nat.le_of_ble_eq_true rfl) rfl ?_
  intro p e s m args below meth c hc hr hlk hE
  unfold uX0_isBound
  refine g_aload_n (j := 0) hc dX0_isBound_0 rfl rfl ?_
  refine g_get (C0 := RX0) (T := TX0) (M := 7) (k := 3) (ci := 0) hc inX0_isBound_X0 (by decide) rfl rfl 5 (by decide) (List.mem_of_getElem? (i := 1) rfl) rfl rfl dX0_isBound_1 ?_
  refine g_iload_n (j := 1) hc dX0_isBound_4 rfl rfl ?_
  refine g_iald (k := 15) (t0 := 0) hc (by decide) rfl rfl dX0_isBound_5 ?_
  refine g_iload_n (j := 2) hc dX0_isBound_6 rfl rfl ?_
  refine g_ishr hc dX0_isBound_7 ?_
  refine g_iconst (v := 1) hc dX0_isBound_8 (by decide) ?_
  refine g_iand hc dX0_isBound_9 ?_
  refine g_if_eq (tgt := 17) hc dX0_isBound_10 (by decide) ?_ ?_
  · refine g_iconst (v := 0) hc dX0_isBound_17 (by decide) ?_
    refine g_lv [] rfl ?_
    exact tX0_isBound_18 hc hr hlk hE 0 S
  · refine g_iconst (v := 1) hc dX0_isBound_13 (by decide) ?_
    refine g_goto (tgt := 18) hc dX0_isBound_14 (by decide) ?_
    refine g_lv [] rfl ?_
    exact tX0_isBound_18 hc hr hlk hE 1 S
set_option maxHeartbeats 4000000 in
set_option maxRecDepth 100000 in
theorem mX0_colourAt (x1 : Int32) (x2 : Int32) (S : St) : ∀ q, uX0_colourAt x1 x2 S = some q → Ki l yX0_colourAt wsX0_colourAt rX0_colourAt D (tyW cI cZ cO) 72 a (cX cI cZ cO a) (EvX tF) [.ref (a 3), .int x1, .int x2] S q := by
  refine m_Ki (cc := cX0_colourAt) (nL := 3) (ret := (some .int)) (lv := [(0, .ref (a 3)), (1, .int x1), (2, .int x2)]) (by decide) rfl (Nat.le_of_ble_eq_true rfl) rfl ?_
  intro p e s m args below meth c hc hr hlk hE
  unfold uX0_colourAt
  refine g_aload_n (j := 0) hc dX0_colourAt_0 rfl rfl ?_
  refine g_get (C0 := RX0) (T := TX0) (M := 7) (k := 3) (ci := 0) hc inX0_colourAt_X0 (by decide) rfl rfl 6 (by decide) (List.mem_of_getElem? (i := 1) rfl) rfl rfl dX0_colourAt_1 ?_
  refine g_aload_n (j := 0) hc dX0_colourAt_4 rfl rfl ?_
  refine g_get (C0 := RX0) (T := TX0) (M := 7) (k := 3) (ci := 0) hc inX0_colourAt_X0 (by decide) rfl rfl 2 (by decide) (List.mem_of_getElem? (i := 2) rfl) rfl rfl dX0_colourAt_5 ?_
  refine g_iload_n (j := 1) hc dX0_colourAt_8 rfl rfl ?_
  refine g_iald (k := 12) (t0 := 0) hc (by decide) rfl rfl dX0_colourAt_9 ?_
  refine g_aald (k := 16) (base := 31) (t0 := 2) hc (by decide) rfl rfl dX0_colourAt_10 ?_
  refine g_iload_n (j := 2) hc dX0_colourAt_11 rfl rfl ?_
  refine g_ialdr (base := 31) (cnt := 8) (t0 := 0) hc (by decide) (fun S r h => rowX_31 S h) rfl dX0_colourAt_12 ?_
  exact g_iret hc hr hlk dX0_colourAt_13
set_option maxHeartbeats 4000000 in
set_option maxRecDepth 100000 in
theorem tX0_freePlaces_24 {p : Program} {e : Env} {s : State} {m : MethodId} {args : Array Value} {below : List Frame} {meth : Method} {c : Code} (hc : CT p s m args c cX0_freePlaces 2 RX0 wsX0_freePlaces D (tyW cI cZ cO)) (hr : meth.sig.returnType = (some .int)) (hlk : meth.locks = false) (hE : EvX tF (AA 72 a s.heap.size) s) (y0 : Int32) (S : St) : GF p l e rX0_freePlaces s m args below meth c D 72 a (cX cI cZ cO a) (AA 72 a s.heap.size) 2 0 0 (fun res => MQ below (va_Qi (fun r u => (r, u) = res) (Bw D (tyW cI cZ cO) 72 a (cX cI cZ cO a) (AA 72 a s.heap.size)) (AA 72 a s.heap.size)) args s 0 0 (AA 72 a s.heap.size)) (bX0_freePlaces_24 y0 S) 24 [] [.int y0] S := by
  unfold bX0_freePlaces_24
  exact g_iret hc hr hlk dX0_freePlaces_24
set_option maxHeartbeats 4000000 in
set_option maxRecDepth 100000 in
theorem mX0_freePlaces (x1 : Int32) (S : St) : ∀ q, uX0_freePlaces x1 S = some q → Ki l yX0_freePlaces wsX0_freePlaces rX0_freePlaces D (tyW cI cZ cO) 72 a (cX cI cZ cO a) (EvX tF) [.ref (a 3), .int x1] S q := by
  refine m_Ki (cc := cX0_freePlaces) (nL := 2) (ret := (some .int)) (lv := [(0, .ref (a 3)), (1, .int x1)]) (by decide) rfl (Nat.le_of_ble_eq_true rfl) rfl ?_
  intro p e s m args below meth c hc hr hlk hE
  unfold uX0_freePlaces
  refine g_aload_n (j := 0) hc dX0_freePlaces_0 rfl rfl ?_
  refine g_get (C0 := RX0) (T := TX0) (M := 7) (k := 3) (ci := 0) hc inX0_freePlaces_X0 (by decide) rfl rfl 4 (by decide) (List.mem_of_getElem? (i := 1) rfl) rfl rfl dX0_freePlaces_1 ?_
  refine g_iload_n (j := 1) hc dX0_freePlaces_4 rfl rfl ?_
  refine g_zald (k := 14) (t0 := 1) hc (by decide) rfl rfl dX0_freePlaces_5 ?_
  refine g_if_eq (tgt := 20) hc dX0_freePlaces_6 (by decide) ?_ ?_
  · refine g_aload_n (j := 0) hc dX0_freePlaces_20 rfl rfl ?_
    refine g_get (C0 := RX0) (T := TX0) (M := 7) (k := 3) (ci := 0) hc inX0_freePlaces_X0 (by decide) rfl rfl 1 (by decide) (List.mem_of_getElem? (i := 2) rfl) rfl rfl dX0_freePlaces_21 ?_
    refine g_lv [] rfl ?_
    exact tX0_freePlaces_24 hc hr hlk hE (S 3 1) S
  · refine g_aload_n (j := 0) hc dX0_freePlaces_9 rfl rfl ?_
    refine g_get (C0 := RX0) (T := TX0) (M := 7) (k := 3) (ci := 0) hc inX0_freePlaces_X0 (by decide) rfl rfl 1 (by decide) (List.mem_of_getElem? (i := 2) rfl) rfl rfl dX0_freePlaces_10 ?_
    refine g_iconst (v := 1) hc dX0_freePlaces_13 (by decide) ?_
    refine g_iadd hc dX0_freePlaces_14 ?_
    refine g_iconst (v := 2) hc dX0_freePlaces_15 (by decide) ?_
    refine g_idiv hc (by decide) dX0_freePlaces_16 ?_
    refine g_goto (tgt := 24) hc dX0_freePlaces_17 (by decide) ?_
    refine g_lv [] rfl ?_
    exact tX0_freePlaces_24 hc hr hlk hE (((S 3 1) + 1) / 2) S
set_option maxHeartbeats 4000000 in
set_option maxRecDepth 100000 in
theorem tX0_underFold_21 {p : Program} {e : Env} {s : State} {m : MethodId} {args : Array Value} {below : List Frame} {meth : Method} {c : Code} (hc : CT p s m args c cX0_underFold 3 RX0 wsX0_underFold D (tyW cI cZ cO)) (hr : meth.sig.returnType = (some .int)) (hlk : meth.locks = false) (hE : EvX tF (AA 72 a s.heap.size) s) (y0 : Int32) (S : St) : GF p l e rX0_underFold s m args below meth c D 72 a (cX cI cZ cO a) (AA 72 a s.heap.size) 3 0 0 (fun res => MQ below (va_Qi (fun r u => (r, u) = res) (Bw D (tyW cI cZ cO) 72 a (cX cI cZ cO a) (AA 72 a s.heap.size)) (AA 72 a s.heap.size)) args s 0 0 (AA 72 a s.heap.size)) (bX0_underFold_21 y0 S) 21 [] [.int y0] S := by
  unfold bX0_underFold_21
  exact g_iret hc hr hlk dX0_underFold_21
set_option maxHeartbeats 4000000 in
set_option maxRecDepth 100000 in
theorem mX0_underFold (x1 : Int32) (x2 : Int32) (S : St) : ∀ q, uX0_underFold x1 x2 S = some q → Ki l yX0_underFold wsX0_underFold rX0_underFold D (tyW cI cZ cO) 72 a (cX cI cZ cO a) (EvX tF) [.ref (a 3), .int x1, .int x2] S q := by
  refine m_Ki (cc := cX0_underFold) (nL := 3) (ret := (some .int)) (lv := [(0, .ref (a 3)), (1, .int x1), (2, .int x2)]) (by decide) rfl (Nat.le_of_ble_eq_true rfl) rfl ?_
  intro p e s m args below meth c hc hr hlk hE
  unfold uX0_underFold
  refine g_iload_n (j := 2) hc dX0_underFold_0 rfl rfl ?_
  refine g_aload_n (j := 0) hc dX0_underFold_1 rfl rfl ?_
  refine g_iload_n (j := 1) hc dX0_underFold_2 rfl rfl ?_
  refine g_callVi (As := [.int x1]) (rest := [.int x2]) (k := 3) (ci := 0) (q0 := (RX0, TX0, 7)) hc hE trX rfl (fun _ h => mX0_freePlaces x1 S _ h) (cwV 1 hc.1.2.2.2.2 gX0_underFold_X0_freePlaces rfl rfl rfl (by decide +kernel) ⟨by decide, by decide⟩) (by decide) rfl rfl rfl rfl (Nat.le_of_ble_eq_true rfl) dX0_underFold_3 ⟨by decide, by decide⟩ (fun v1 S2 => ?_)
  refine g_icmp_ge (tgt := 13) hc dX0_underFold_6 (by decide) ?_ ?_
  · refine g_aload_n (j := 0) hc dX0_underFold_13 rfl rfl ?_
    refine g_get (C0 := RX0) (T := TX0) (M := 7) (k := 3) (ci := 0) hc inX0_underFold_X0 (by decide) rfl rfl 1 (by decide) (List.mem_of_getElem? (i := 1) rfl) rfl rfl dX0_underFold_14 ?_
    refine g_iconst (v := 1) hc dX0_underFold_17 (by decide) ?_
    refine g_isub hc dX0_underFold_18 ?_
    refine g_iload_n (j := 2) hc dX0_underFold_19 rfl rfl ?_
    refine g_isub hc dX0_underFold_20 ?_
    refine g_lv [] rfl ?_
    exact tX0_underFold_21 hc hr hlk hE (((S2 3 1) - 1) - x2) S2
  · refine g_iload_n (j := 2) hc dX0_underFold_9 rfl rfl ?_
    refine g_goto (tgt := 21) hc dX0_underFold_10 (by decide) ?_
    refine g_lv [] rfl ?_
    exact tX0_underFold_21 hc hr hlk hE x2 S2
set_option maxHeartbeats 4000000 in
set_option maxRecDepth 100000 in
theorem tX0_reach_46 {p : Program} {e : Env} {s : State} {m : MethodId} {args : Array Value} {below : List Frame} {meth : Method} {c : Code} (hc : CT p s m args c cX0_reach 6 RX0 wsX0_reach D (tyW cI cZ cO)) (hr : meth.sig.returnType = (some .int)) (hlk : meth.locks = false) (hE : EvX tF (AA 72 a s.heap.size) s) (k6 : Int32 → Int32 → Int32 → Int32 → St → Option (Int32 × St)) (hk6 : ∀ (x1 : Int32) (x3 : Int32) (x4 : Int32) (x5 : Int32) (S : St), GF p l e rX0_reach s m args below meth c D 72 a (cX cI cZ cO a) (AA 72 a s.heap.size) 6 0 0 (fun res => MQ below (va_Qi (fun r u => (r, u) = res) (Bw D (tyW cI cZ cO) 72 a (cX cI cZ cO a) (AA 72 a s.heap.size)) (AA 72 a s.heap.size)) args s 0 0 (AA 72 a s.heap.size)) (k6 x1 x3 x4 x5 S) 6 [(0, .ref (a 3)), (1, .int x1), (3, .int x3), (4, .int x4), (5, .int x5)] [] S) (x1 : Int32) (x3 : Int32) (x4 : Int32) (x5 : Int32) (S : St) : GF p l e rX0_reach s m args below meth c D 72 a (cX cI cZ cO a) (AA 72 a s.heap.size) 6 0 0 (fun res => MQ below (va_Qi (fun r u => (r, u) = res) (Bw D (tyW cI cZ cO) 72 a (cX cI cZ cO a) (AA 72 a s.heap.size)) (AA 72 a s.heap.size)) args s 0 0 (AA 72 a s.heap.size)) (bX0_reach_46 k6 x1 x3 x4 x5 S) 46 [(0, .ref (a 3)), (1, .int x1), (3, .int x3), (4, .int x4), (5, .int x5)] [] S := by
  unfold bX0_reach_46
  refine g_iinc (j := 4) (w := x5 + 1) (L := fun v1 => [(5, .int v1), (0, .ref (a 3)), (1, .int x1), (3, .int x3), (4, .int x4)]) hc dX0_reach_46 rfl (by rfl) (by decide) (fun _ => rfl) (fun v1 => ?_)
  refine g_goto (tgt := 6) hc dX0_reach_49 (by decide) ?_
  refine g_lv [1, 2, 3, 4, 0] rfl ?_
  exact hk6 x1 x3 x4 v1 S
set_option maxHeartbeats 4000000 in
set_option maxRecDepth 100000 in
theorem tX0_reach_6 {p : Program} {e : Env} {s : State} {m : MethodId} {args : Array Value} {below : List Frame} {meth : Method} {c : Code} (hc : CT p s m args c cX0_reach 6 RX0 wsX0_reach D (tyW cI cZ cO)) (hr : meth.sig.returnType = (some .int)) (hlk : meth.locks = false) (hE : EvX tF (AA 72 a s.heap.size) s) (k6 : Int32 → Int32 → Int32 → Int32 → St → Option (Int32 × St)) (hk6 : ∀ (x1 : Int32) (x3 : Int32) (x4 : Int32) (x5 : Int32) (S : St), GF p l e rX0_reach s m args below meth c D 72 a (cX cI cZ cO a) (AA 72 a s.heap.size) 6 0 0 (fun res => MQ below (va_Qi (fun r u => (r, u) = res) (Bw D (tyW cI cZ cO) 72 a (cX cI cZ cO a) (AA 72 a s.heap.size)) (AA 72 a s.heap.size)) args s 0 0 (AA 72 a s.heap.size)) (k6 x1 x3 x4 x5 S) 6 [(0, .ref (a 3)), (1, .int x1), (3, .int x3), (4, .int x4), (5, .int x5)] [] S) (x1 : Int32) (x3 : Int32) (x4 : Int32) (x5 : Int32) (S : St) : GF p l e rX0_reach s m args below meth c D 72 a (cX cI cZ cO a) (AA 72 a s.heap.size) 6 0 0 (fun res => MQ below (va_Qi (fun r u => (r, u) = res) (Bw D (tyW cI cZ cO) 72 a (cX cI cZ cO a) (AA 72 a s.heap.size)) (AA 72 a s.heap.size)) args s 0 0 (AA 72 a s.heap.size)) (bX0_reach_6 k6 x1 x3 x4 x5 S) 6 [(0, .ref (a 3)), (1, .int x1), (3, .int x3), (4, .int x4), (5, .int x5)] [] S := by
  unfold bX0_reach_6
  refine g_iload (j := 4) hc dX0_reach_6 rfl ?_
  refine g_iload_n (j := 2) hc dX0_reach_8 rfl rfl ?_
  refine g_icmp_gt (tgt := 52) hc dX0_reach_9 (by decide) ?_ ?_
  · refine g_iload (j := 3) hc dX0_reach_52 rfl ?_
    exact g_iret hc hr hlk dX0_reach_54
  · refine g_iload (j := 3) hc dX0_reach_12 rfl ?_
    refine g_iconst (v := 1) hc dX0_reach_14 (by decide) ?_
    refine g_iload (j := 4) hc dX0_reach_15 rfl ?_
    refine g_ishl hc dX0_reach_17 ?_
    refine g_ior hc dX0_reach_18 ?_
    refine g_istore (L := fun v1 => [(4, .int v1), (0, .ref (a 3)), (1, .int x1), (3, .int x3), (5, .int x5)]) hc dX0_reach_19 (by decide) (fun _ => rfl) (fun v1 => ?_)
    refine g_aload_n (j := 1) hc dX0_reach_21 rfl rfl ?_
    refine g_get (C0 := RX0) (T := TX0) (M := 7) (k := 3) (ci := 0) hc inX0_reach_X0 (by decide) rfl rfl 4 (by decide) (List.mem_of_getElem? (i := 1) rfl) rfl rfl dX0_reach_22 ?_
    refine g_iload_n (j := 2) hc dX0_reach_25 rfl rfl ?_
    refine g_zald (k := 14) (t0 := 1) hc (by decide) rfl rfl dX0_reach_26 ?_
    refine g_if_eq (tgt := 46) hc dX0_reach_27 (by decide) ?_ ?_
    · refine g_lv [1, 2, 3, 0, 4] rfl ?_
      exact tX0_reach_46 hc hr hlk hE k6 hk6 x1 x3 v1 x5 S
    · refine g_iload (j := 0) hc dX0_reach_30 rfl ?_
      refine g_iconst (v := 1) hc dX0_reach_32 (by decide) ?_
      refine g_aload_n (j := 1) hc dX0_reach_33 rfl rfl ?_
      refine g_get (C0 := RX0) (T := TX0) (M := 7) (k := 3) (ci := 0) hc inX0_reach_X0 (by decide) rfl rfl 1 (by decide) (List.mem_of_getElem? (i := 2) rfl) rfl rfl dX0_reach_34 ?_
      refine g_iconst (v := 1) hc dX0_reach_37 (by decide) ?_
      refine g_isub hc dX0_reach_38 ?_
      refine g_iload (j := 4) hc dX0_reach_39 rfl ?_
      refine g_isub hc dX0_reach_41 ?_
      refine g_ishl hc dX0_reach_42 ?_
      refine g_ior hc dX0_reach_43 ?_
      refine g_istore (L := fun v2 => [(4, .int v2), (0, .ref (a 3)), (1, .int x1), (3, .int x3), (5, .int x5)]) hc dX0_reach_44 (by decide) (fun _ => rfl) (fun v2 => ?_)
      refine g_lv [1, 2, 3, 0, 4] rfl ?_
      exact tX0_reach_46 hc hr hlk hE k6 hk6 x1 x3 v2 x5 S
set_option maxHeartbeats 4000000 in
set_option maxRecDepth 100000 in
theorem TX0_reach_6 {p : Program} {e : Env} {s : State} {m : MethodId} {args : Array Value} {below : List Frame} {meth : Method} {c : Code} (hc : CT p s m args c cX0_reach 6 RX0 wsX0_reach D (tyW cI cZ cO)) (hr : meth.sig.returnType = (some .int)) (hlk : meth.locks = false) (hE : EvX tF (AA 72 a s.heap.size) s) (n : Nat) (x1 : Int32) (x3 : Int32) (x4 : Int32) (x5 : Int32) (S : St) : GF p l e rX0_reach s m args below meth c D 72 a (cX cI cZ cO a) (AA 72 a s.heap.size) 6 0 0 (fun res => MQ below (va_Qi (fun r u => (r, u) = res) (Bw D (tyW cI cZ cO) 72 a (cX cI cZ cO a) (AA 72 a s.heap.size)) (AA 72 a s.heap.size)) args s 0 0 (AA 72 a s.heap.size)) (lX0_reach_6 n x1 x3 x4 x5 S) 6 [(0, .ref (a 3)), (1, .int x1), (3, .int x3), (4, .int x4), (5, .int x5)] [] S :=
  lp_ind (P := fun k : Int32 → Int32 → Int32 → Int32 → St → Option (Int32 × St) => ∀ (x1 : Int32) (x3 : Int32) (x4 : Int32) (x5 : Int32) (S : St), GF p l e rX0_reach s m args below meth c D 72 a (cX cI cZ cO a) (AA 72 a s.heap.size) 6 0 0 (fun res => MQ below (va_Qi (fun r u => (r, u) = res) (Bw D (tyW cI cZ cO) 72 a (cX cI cZ cO a) (AA 72 a s.heap.size)) (AA 72 a s.heap.size)) args s 0 0 (AA 72 a s.heap.size)) (k x1 x3 x4 x5 S) 6 [(0, .ref (a 3)), (1, .int x1), (3, .int x3), (4, .int x4), (5, .int x5)] [] S) (fun _ _ _ _ _ => g_none) (fun k6 hk6 => tX0_reach_6 hc hr hlk hE k6 hk6) n x1 x3 x4 x5 S
set_option maxHeartbeats 4000000 in
set_option maxRecDepth 100000 in
theorem mX0_reach (x1 : Int32) (x2 : Int32) (x3 : Int32) (S : St) : ∀ q, uX0_reach x1 x2 x3 S = some q → Ki l yX0_reach wsX0_reach rX0_reach D (tyW cI cZ cO) 72 a (cX cI cZ cO a) (EvX tF) [.ref (a 3), .int x1, .int x2, .int x3] S q := by
  refine m_Ki (cc := cX0_reach) (nL := 6) (ret := (some .int)) (lv := [(0, .ref (a 3)), (1, .int x1), (2, .int x2), (3, .int x3)]) (by decide) rfl (Nat.le_of_ble_eq_true rfl) rfl ?_
  intro p e s m args below meth c hc hr hlk hE
  unfold uX0_reach
  refine g_iconst (v := 0) hc dX0_reach_0 (by decide) ?_
  refine g_istore (L := fun v1 => [(4, .int v1), (0, .ref (a 3)), (1, .int x1), (2, .int x2), (3, .int x3)]) hc dX0_reach_1 (by decide) (fun _ => rfl) (fun v1 => ?_)
  refine g_iload_n (j := 3) hc dX0_reach_3 rfl rfl ?_
  refine g_istore (L := fun v2 => [(5, .int v2), (4, .int v1), (0, .ref (a 3)), (1, .int x1), (2, .int x2), (3, .int x3)]) hc dX0_reach_4 (by decide) (fun _ => rfl) (fun v2 => ?_)
  refine g_lv [2, 3, 5, 1, 0] rfl ?_
  exact TX0_reach_6 hc hr hlk hE FU x1 x3 v1 v2 S
set_option maxHeartbeats 4000000 in
set_option maxRecDepth 100000 in
theorem mX0_bind (x1 : Int32) (x2 : Int32) (x3 : Int32) (S : St) : ∀ q, uX0_bind x1 x2 x3 S = some q → Ki l yX0_bind wsX0_bind rX0_bind D (tyW cI cZ cO) 72 a (cX cI cZ cO a) (EvX tF) [.ref (a 3), .int x1, .int x2, .int x3] S q := by
  refine m_Ki (cc := cX0_bind) (nL := 5) (ret := (some .int)) (lv := [(0, .ref (a 3)), (1, .int x1), (2, .int x2), (3, .int x3)]) (by decide) rfl (Nat.le_of_ble_eq_true rfl) rfl ?_
  intro p e s m args below meth c hc hr hlk hE
  unfold uX0_bind
  refine g_aload_n (j := 0) hc dX0_bind_0 rfl rfl ?_
  refine g_iload_n (j := 1) hc dX0_bind_1 rfl rfl ?_
  refine g_iload_n (j := 2) hc dX0_bind_2 rfl rfl ?_
  refine g_iload_n (j := 3) hc dX0_bind_3 rfl rfl ?_
  refine g_callVi (As := [.int x1, .int x2, .int x3]) (rest := []) (k := 3) (ci := 0) (q0 := (RX0, TX0, 7)) hc hE trX rfl (fun _ h => mX0_reach x1 x2 x3 S _ h) (cwV 3 hc.1.2.2.2.2 gX0_bind_X0_reach rfl rfl rfl (by decide +kernel) ⟨by decide, by decide⟩) (by decide) rfl rfl rfl rfl (Nat.le_of_ble_eq_true rfl) dX0_bind_4 ⟨by decide, by decide⟩ (fun v1 S2 => ?_)
  refine g_aload_n (j := 0) hc dX0_bind_7 rfl rfl ?_
  refine g_get (C0 := RX0) (T := TX0) (M := 7) (k := 3) (ci := 0) hc inX0_bind_X0 (by decide) rfl rfl 5 (by decide) (List.mem_of_getElem? (i := 1) rfl) rfl rfl dX0_bind_8 ?_
  refine g_iload_n (j := 1) hc dX0_bind_11 rfl rfl ?_
  refine g_iald (k := 15) (t0 := 0) hc (by decide) rfl rfl dX0_bind_12 ?_
  refine g_iconst (v := -1) hc dX0_bind_13 (by decide) ?_
  refine g_ixor hc dX0_bind_14 ?_
  refine g_iand hc dX0_bind_15 ?_
  refine g_istore (L := fun v3 => [(4, .int v3), (0, .ref (a 3)), (1, .int x1), (2, .int x2), (3, .int x3)]) hc dX0_bind_16 (by decide) (fun _ => rfl) (fun v3 => ?_)
  refine g_aload_n (j := 1) hc dX0_bind_18 rfl rfl ?_
  refine g_get (C0 := RX0) (T := TX0) (M := 7) (k := 3) (ci := 0) hc inX0_bind_X0 (by decide) rfl rfl 5 (by decide) (List.mem_of_getElem? (i := 1) rfl) rfl rfl dX0_bind_19 ?_
  refine g_iload_n (j := 2) hc dX0_bind_22 rfl rfl ?_
  refine g_dup2 hc dX0_bind_23 rfl rfl ?_
  refine g_iald (k := 15) (t0 := 0) hc (by decide) rfl rfl dX0_bind_24 ?_
  refine g_iload (j := 0) hc dX0_bind_25 rfl ?_
  refine g_ior hc dX0_bind_27 ?_
  refine g_iast (k := 15) (t0 := 0) hc locX (by decide) rfl rfl rfl dX0_bind_28 (fun S4 => ?_)
  refine g_iload (j := 0) hc dX0_bind_29 rfl ?_
  refine g_callSi (As := [.int v3]) (rest := []) hc hE trX rfl (fun _ h => mJ6_bitCount_0f7a4 v3 S4 _ h) (va_cwS 1 hc.1.2.2.2.2 gX0_bind_J6_bitCount_0f7a4 rfl rfl rfl (by decide +kernel) ⟨by decide, by decide⟩) rfl rfl (Nat.le_of_ble_eq_true rfl) dX0_bind_31 ⟨by decide, by decide⟩ (fun v5 S6 => ?_)
  exact g_iret hc hr hlk dX0_bind_34
set_option maxHeartbeats 4000000 in
set_option maxRecDepth 100000 in
theorem mX0_loosen (x1 : Int32) (x2 : Int32) (x3 : Int32) (S : St) : ∀ q, uX0_loosen x1 x2 x3 S = some q → Ki l yX0_loosen wsX0_loosen rX0_loosen D (tyW cI cZ cO) 72 a (cX cI cZ cO a) (EvX tF) [.ref (a 3), .int x1, .int x2, .int x3] S q := by
  refine m_Ki (cc := cX0_loosen) (nL := 5) (ret := (some .int)) (lv := [(0, .ref (a 3)), (1, .int x1), (2, .int x2), (3, .int x3)]) (by decide) rfl (Nat.le_of_ble_eq_true rfl) rfl ?_
  intro p e s m args below meth c hc hr hlk hE
  unfold uX0_loosen
  refine g_aload_n (j := 0) hc dX0_loosen_0 rfl rfl ?_
  refine g_iload_n (j := 1) hc dX0_loosen_1 rfl rfl ?_
  refine g_iload_n (j := 2) hc dX0_loosen_2 rfl rfl ?_
  refine g_iload_n (j := 3) hc dX0_loosen_3 rfl rfl ?_
  refine g_callVi (As := [.int x1, .int x2, .int x3]) (rest := []) (k := 3) (ci := 0) (q0 := (RX0, TX0, 7)) hc hE trX rfl (fun _ h => mX0_reach x1 x2 x3 S _ h) (cwV 3 hc.1.2.2.2.2 gX0_loosen_X0_reach rfl rfl rfl (by decide +kernel) ⟨by decide, by decide⟩) (by decide) rfl rfl rfl rfl (Nat.le_of_ble_eq_true rfl) dX0_loosen_4 ⟨by decide, by decide⟩ (fun v1 S2 => ?_)
  refine g_aload_n (j := 0) hc dX0_loosen_7 rfl rfl ?_
  refine g_get (C0 := RX0) (T := TX0) (M := 7) (k := 3) (ci := 0) hc inX0_loosen_X0 (by decide) rfl rfl 5 (by decide) (List.mem_of_getElem? (i := 1) rfl) rfl rfl dX0_loosen_8 ?_
  refine g_iload_n (j := 1) hc dX0_loosen_11 rfl rfl ?_
  refine g_iald (k := 15) (t0 := 0) hc (by decide) rfl rfl dX0_loosen_12 ?_
  refine g_iand hc dX0_loosen_13 ?_
  refine g_istore (L := fun v3 => [(4, .int v3), (0, .ref (a 3)), (1, .int x1), (2, .int x2), (3, .int x3)]) hc dX0_loosen_14 (by decide) (fun _ => rfl) (fun v3 => ?_)
  refine g_aload_n (j := 1) hc dX0_loosen_16 rfl rfl ?_
  refine g_get (C0 := RX0) (T := TX0) (M := 7) (k := 3) (ci := 0) hc inX0_loosen_X0 (by decide) rfl rfl 5 (by decide) (List.mem_of_getElem? (i := 1) rfl) rfl rfl dX0_loosen_17 ?_
  refine g_iload_n (j := 2) hc dX0_loosen_20 rfl rfl ?_
  refine g_dup2 hc dX0_loosen_21 rfl rfl ?_
  refine g_iald (k := 15) (t0 := 0) hc (by decide) rfl rfl dX0_loosen_22 ?_
  refine g_iload (j := 0) hc dX0_loosen_23 rfl ?_
  refine g_iconst (v := -1) hc dX0_loosen_25 (by decide) ?_
  refine g_ixor hc dX0_loosen_26 ?_
  refine g_iand hc dX0_loosen_27 ?_
  refine g_iast (k := 15) (t0 := 0) hc locX (by decide) rfl rfl rfl dX0_loosen_28 (fun S4 => ?_)
  refine g_iload (j := 0) hc dX0_loosen_29 rfl ?_
  refine g_callSi (As := [.int v3]) (rest := []) hc hE trX rfl (fun _ h => mJ6_bitCount_0f7a4 v3 S4 _ h) (va_cwS 1 hc.1.2.2.2.2 gX0_loosen_J6_bitCount_0f7a4 rfl rfl rfl (by decide +kernel) ⟨by decide, by decide⟩) rfl rfl (Nat.le_of_ble_eq_true rfl) dX0_loosen_31 ⟨by decide, by decide⟩ (fun v5 S6 => ?_)
  exact g_iret hc hr hlk dX0_loosen_34
set_option maxHeartbeats 4000000 in
set_option maxRecDepth 100000 in
theorem tX0_knotsOf_6 {p : Program} {e : Env} {s : State} {m : MethodId} {args : Array Value} {below : List Frame} {meth : Method} {c : Code} (hc : CT p s m args c cX0_knotsOf 6 RX0 wsX0_knotsOf D (tyW cI cZ cO)) (hr : meth.sig.returnType = (some .int)) (hlk : meth.locks = false) (hE : EvX tF (AA 72 a s.heap.size) s) (k6 : Int32 → Int32 → Int32 → Int32 → St → Option (Int32 × St)) (hk6 : ∀ (x2 : Int32) (x3 : Int32) (x4 : Int32) (x5 : Int32) (S : St), GF p l e rX0_knotsOf s m args below meth c D 72 a (cX cI cZ cO a) (AA 72 a s.heap.size) 6 0 0 (fun res => MQ below (va_Qi (fun r u => (r, u) = res) (Bw D (tyW cI cZ cO) 72 a (cX cI cZ cO a) (AA 72 a s.heap.size)) (AA 72 a s.heap.size)) args s 0 0 (AA 72 a s.heap.size)) (k6 x2 x3 x4 x5 S) 6 [(0, .ref (a 3)), (1, .ref (a 6)), (2, .int x2), (3, .int x3), (4, .int x4), (5, .int x5)] [] S) (x2 : Int32) (x3 : Int32) (x4 : Int32) (x5 : Int32) (S : St) : GF p l e rX0_knotsOf s m args below meth c D 72 a (cX cI cZ cO a) (AA 72 a s.heap.size) 6 0 0 (fun res => MQ below (va_Qi (fun r u => (r, u) = res) (Bw D (tyW cI cZ cO) 72 a (cX cI cZ cO a) (AA 72 a s.heap.size)) (AA 72 a s.heap.size)) args s 0 0 (AA 72 a s.heap.size)) (bX0_knotsOf_6 k6 x2 x3 x4 x5 S) 6 [(0, .ref (a 3)), (1, .ref (a 6)), (2, .int x2), (3, .int x3), (4, .int x4), (5, .int x5)] [] S := by
  unfold bX0_knotsOf_6
  refine g_iload (j := 5) hc dX0_knotsOf_6 rfl ?_
  refine g_aload_n (j := 0) hc dX0_knotsOf_8 rfl rfl ?_
  refine g_get (C0 := RX0) (T := TX0) (M := 7) (k := 3) (ci := 0) hc inX0_knotsOf_X0 (by decide) rfl rfl 1 (by decide) (List.mem_of_getElem? (i := 1) rfl) rfl rfl dX0_knotsOf_9 ?_
  refine g_icmp_ge (tgt := 40) hc dX0_knotsOf_12 (by decide) ?_ ?_
  · refine g_iload (j := 4) hc dX0_knotsOf_40 rfl ?_
    exact g_iret hc hr hlk dX0_knotsOf_42
  · refine g_iload (j := 4) hc dX0_knotsOf_15 rfl ?_
    refine g_aload_n (j := 1) hc dX0_knotsOf_17 rfl rfl ?_
    refine g_iload_n (j := 2) hc dX0_knotsOf_18 rfl rfl ?_
    refine g_iload (j := 5) hc dX0_knotsOf_19 rfl ?_
    refine g_callVi (As := [.int x2, .int x5]) (rest := [.int x4]) (k := 6) (ci := 4) (q0 := (RX4, TX4, 4)) hc hE trX rfl (fun _ h => mX4_bitsAt x2 x5 S _ h) (cwV 2 hc.1.2.2.2.2 gX0_knotsOf_X4_bitsAt rfl rfl rfl (by decide +kernel) ⟨by decide, by decide⟩) (by decide) rfl rfl rfl rfl (Nat.le_of_ble_eq_true rfl) dX0_knotsOf_21 ⟨by decide, by decide⟩ (fun v1 S2 => ?_)
    refine g_iload_n (j := 3) hc dX0_knotsOf_24 rfl rfl ?_
    refine g_ishr hc dX0_knotsOf_25 ?_
    refine g_iconst (v := 1) hc dX0_knotsOf_26 (by decide) ?_
    refine g_iand hc dX0_knotsOf_27 ?_
    refine g_iload (j := 5) hc dX0_knotsOf_28 rfl ?_
    refine g_ishl hc dX0_knotsOf_30 ?_
    refine g_ior hc dX0_knotsOf_31 ?_
    refine g_istore (L := fun v3 => [(4, .int v3), (0, .ref (a 3)), (1, .ref (a 6)), (2, .int x2), (3, .int x3), (5, .int x5)]) hc dX0_knotsOf_32 (by decide) (fun _ => rfl) (fun v3 => ?_)
    refine g_iinc (j := 5) (w := x5 + 1) (L := fun v4 => [(5, .int v4), (4, .int v3), (0, .ref (a 3)), (1, .ref (a 6)), (2, .int x2), (3, .int x3)]) hc dX0_knotsOf_34 rfl (by rfl) (by decide) (fun _ => rfl) (fun v4 => ?_)
    refine g_goto (tgt := 6) hc dX0_knotsOf_37 (by decide) ?_
    refine g_lv [2, 3, 4, 5, 1, 0] rfl ?_
    exact hk6 x2 x3 v3 v4 S2
set_option maxHeartbeats 4000000 in
set_option maxRecDepth 100000 in
theorem TX0_knotsOf_6 {p : Program} {e : Env} {s : State} {m : MethodId} {args : Array Value} {below : List Frame} {meth : Method} {c : Code} (hc : CT p s m args c cX0_knotsOf 6 RX0 wsX0_knotsOf D (tyW cI cZ cO)) (hr : meth.sig.returnType = (some .int)) (hlk : meth.locks = false) (hE : EvX tF (AA 72 a s.heap.size) s) (n : Nat) (x2 : Int32) (x3 : Int32) (x4 : Int32) (x5 : Int32) (S : St) : GF p l e rX0_knotsOf s m args below meth c D 72 a (cX cI cZ cO a) (AA 72 a s.heap.size) 6 0 0 (fun res => MQ below (va_Qi (fun r u => (r, u) = res) (Bw D (tyW cI cZ cO) 72 a (cX cI cZ cO a) (AA 72 a s.heap.size)) (AA 72 a s.heap.size)) args s 0 0 (AA 72 a s.heap.size)) (lX0_knotsOf_6 n x2 x3 x4 x5 S) 6 [(0, .ref (a 3)), (1, .ref (a 6)), (2, .int x2), (3, .int x3), (4, .int x4), (5, .int x5)] [] S :=
  lp_ind (P := fun k : Int32 → Int32 → Int32 → Int32 → St → Option (Int32 × St) => ∀ (x2 : Int32) (x3 : Int32) (x4 : Int32) (x5 : Int32) (S : St), GF p l e rX0_knotsOf s m args below meth c D 72 a (cX cI cZ cO a) (AA 72 a s.heap.size) 6 0 0 (fun res => MQ below (va_Qi (fun r u => (r, u) = res) (Bw D (tyW cI cZ cO) 72 a (cX cI cZ cO a) (AA 72 a s.heap.size)) (AA 72 a s.heap.size)) args s 0 0 (AA 72 a s.heap.size)) (k x2 x3 x4 x5 S) 6 [(0, .ref (a 3)), (1, .ref (a 6)), (2, .int x2), (3, .int x3), (4, .int x4), (5, .int x5)] [] S) (fun _ _ _ _ _ => g_none) (fun k6 hk6 => tX0_knotsOf_6 hc hr hlk hE k6 hk6) n x2 x3 x4 x5 S
set_option maxHeartbeats 4000000 in
set_option maxRecDepth 100000 in
theorem mX0_knotsOf (x2 : Int32) (x3 : Int32) (S : St) : ∀ q, uX0_knotsOf x2 x3 S = some q → Ki l yX0_knotsOf wsX0_knotsOf rX0_knotsOf D (tyW cI cZ cO) 72 a (cX cI cZ cO a) (EvX tF) [.ref (a 3), .ref (a 6), .int x2, .int x3] S q := by
  refine m_Ki (cc := cX0_knotsOf) (nL := 6) (ret := (some .int)) (lv := [(0, .ref (a 3)), (1, .ref (a 6)), (2, .int x2), (3, .int x3)]) (by decide) rfl (Nat.le_of_ble_eq_true rfl) rfl ?_
  intro p e s m args below meth c hc hr hlk hE
  unfold uX0_knotsOf
  refine g_iconst (v := 0) hc dX0_knotsOf_0 (by decide) ?_
  refine g_istore (L := fun v1 => [(4, .int v1), (0, .ref (a 3)), (1, .ref (a 6)), (2, .int x2), (3, .int x3)]) hc dX0_knotsOf_1 (by decide) (fun _ => rfl) (fun v1 => ?_)
  refine g_iconst (v := 0) hc dX0_knotsOf_3 (by decide) ?_
  refine g_istore (L := fun v2 => [(5, .int v2), (4, .int v1), (0, .ref (a 3)), (1, .ref (a 6)), (2, .int x2), (3, .int x3)]) hc dX0_knotsOf_4 (by decide) (fun _ => rfl) (fun v2 => ?_)
  refine g_lv [2, 3, 4, 5, 1, 0] rfl ?_
  exact TX0_knotsOf_6 hc hr hlk hE FU x2 x3 v1 v2 S
set_option maxHeartbeats 4000000 in
set_option maxRecDepth 100000 in
theorem tX0_bindAs_2 {p : Program} {e : Env} {s : State} {m : MethodId} {args : Array Value} {below : List Frame} {meth : Method} {c : Code} (hc : CT p s m args c cX0_bindAs 4 RX0 wsX0_bindAs D (tyW cI cZ cO)) (hr : meth.sig.returnType = none) (hlk : meth.locks = false) (hE : EvX tF (AA 72 a s.heap.size) s) (k2 : Int32 → Int32 → St → Option (Int32 × St)) (hk2 : ∀ (x2 : Int32) (x3 : Int32) (S : St), GF p l e rX0_bindAs s m args below meth c D 72 a (cX cI cZ cO a) (AA 72 a s.heap.size) 4 0 0 (fun res => MQ below (va_Qv (fun u => ((0 : Int32), u) = res) (Bw D (tyW cI cZ cO) 72 a (cX cI cZ cO a) (AA 72 a s.heap.size)) (AA 72 a s.heap.size)) args s 0 0 (AA 72 a s.heap.size)) (k2 x2 x3 S) 2 [(0, .ref (a 3)), (1, .ref (a 6)), (2, .int x2), (3, .int x3)] [] S) (x2 : Int32) (x3 : Int32) (S : St) : GF p l e rX0_bindAs s m args below meth c D 72 a (cX cI cZ cO a) (AA 72 a s.heap.size) 4 0 0 (fun res => MQ below (va_Qv (fun u => ((0 : Int32), u) = res) (Bw D (tyW cI cZ cO) 72 a (cX cI cZ cO a) (AA 72 a s.heap.size)) (AA 72 a s.heap.size)) args s 0 0 (AA 72 a s.heap.size)) (bX0_bindAs_2 k2 x2 x3 S) 2 [(0, .ref (a 3)), (1, .ref (a 6)), (2, .int x2), (3, .int x3)] [] S := by
  unfold bX0_bindAs_2
  refine g_iload_n (j := 3) hc dX0_bindAs_2 rfl rfl ?_
  refine g_bipush (v := 8) hc dX0_bindAs_3 (by decide) ?_
  refine g_icmp_ge (tgt := 27) hc dX0_bindAs_5 (by decide) ?_ ?_
  · exact g_vret hc hr hlk dX0_bindAs_27
  · refine g_aload_n (j := 0) hc dX0_bindAs_8 rfl rfl ?_
    refine g_get (C0 := RX0) (T := TX0) (M := 7) (k := 3) (ci := 0) hc inX0_bindAs_X0 (by decide) rfl rfl 5 (by decide) (List.mem_of_getElem? (i := 1) rfl) rfl rfl dX0_bindAs_9 ?_
    refine g_iload_n (j := 3) hc dX0_bindAs_12 rfl rfl ?_
    refine g_aload_n (j := 0) hc dX0_bindAs_13 rfl rfl ?_
    refine g_aload_n (j := 1) hc dX0_bindAs_14 rfl rfl ?_
    refine g_iload_n (j := 3) hc dX0_bindAs_15 rfl rfl ?_
    refine g_iload_n (j := 2) hc dX0_bindAs_16 rfl rfl ?_
    refine g_callVi (As := [.ref (a 6), .int x3, .int x2]) (rest := [.int x3, .ref (a 15)]) (k := 3) (ci := 0) (q0 := (RX0, TX0, 7)) hc hE trX rfl (fun _ h => mX0_knotsOf x3 x2 S _ h) (cwV 3 hc.1.2.2.2.2 gX0_bindAs_X0_knotsOf rfl rfl rfl (by decide +kernel) ⟨by decide, by decide⟩) (by decide) rfl rfl rfl rfl (Nat.le_of_ble_eq_true rfl) dX0_bindAs_17 ⟨by decide, by decide⟩ (fun v1 S2 => ?_)
    refine g_iast (k := 15) (t0 := 0) hc locX (by decide) rfl rfl rfl dX0_bindAs_20 (fun S3 => ?_)
    refine g_iinc (j := 3) (w := x3 + 1) (L := fun v4 => [(3, .int v4), (0, .ref (a 3)), (1, .ref (a 6)), (2, .int x2)]) hc dX0_bindAs_21 rfl (by rfl) (by decide) (fun _ => rfl) (fun v4 => ?_)
    refine g_goto (tgt := 2) hc dX0_bindAs_24 (by decide) ?_
    refine g_lv [1, 2, 3, 0] rfl ?_
    exact hk2 x2 v4 S3
set_option maxHeartbeats 4000000 in
set_option maxRecDepth 100000 in
theorem TX0_bindAs_2 {p : Program} {e : Env} {s : State} {m : MethodId} {args : Array Value} {below : List Frame} {meth : Method} {c : Code} (hc : CT p s m args c cX0_bindAs 4 RX0 wsX0_bindAs D (tyW cI cZ cO)) (hr : meth.sig.returnType = none) (hlk : meth.locks = false) (hE : EvX tF (AA 72 a s.heap.size) s) (n : Nat) (x2 : Int32) (x3 : Int32) (S : St) : GF p l e rX0_bindAs s m args below meth c D 72 a (cX cI cZ cO a) (AA 72 a s.heap.size) 4 0 0 (fun res => MQ below (va_Qv (fun u => ((0 : Int32), u) = res) (Bw D (tyW cI cZ cO) 72 a (cX cI cZ cO a) (AA 72 a s.heap.size)) (AA 72 a s.heap.size)) args s 0 0 (AA 72 a s.heap.size)) (lX0_bindAs_2 n x2 x3 S) 2 [(0, .ref (a 3)), (1, .ref (a 6)), (2, .int x2), (3, .int x3)] [] S :=
  lp_ind (P := fun k : Int32 → Int32 → St → Option (Int32 × St) => ∀ (x2 : Int32) (x3 : Int32) (S : St), GF p l e rX0_bindAs s m args below meth c D 72 a (cX cI cZ cO a) (AA 72 a s.heap.size) 4 0 0 (fun res => MQ below (va_Qv (fun u => ((0 : Int32), u) = res) (Bw D (tyW cI cZ cO) 72 a (cX cI cZ cO a) (AA 72 a s.heap.size)) (AA 72 a s.heap.size)) args s 0 0 (AA 72 a s.heap.size)) (k x2 x3 S) 2 [(0, .ref (a 3)), (1, .ref (a 6)), (2, .int x2), (3, .int x3)] [] S) (fun _ _ _ => g_none) (fun k2 hk2 => tX0_bindAs_2 hc hr hlk hE k2 hk2) n x2 x3 S
set_option maxHeartbeats 4000000 in
set_option maxRecDepth 100000 in
theorem mX0_bindAs (x2 : Int32) (S : St) : ∀ q, uX0_bindAs x2 S = some q → Kv l yX0_bindAs wsX0_bindAs rX0_bindAs D (tyW cI cZ cO) 72 a (cX cI cZ cO a) (EvX tF) [.ref (a 3), .ref (a 6), .int x2] S q := by
  refine m_Kv (cc := cX0_bindAs) (nL := 4) (ret := none) (lv := [(0, .ref (a 3)), (1, .ref (a 6)), (2, .int x2)]) (by decide) rfl (Nat.le_of_ble_eq_true rfl) rfl ?_
  intro p e s m args below meth c hc hr hlk hE
  unfold uX0_bindAs
  refine g_iconst (v := 0) hc dX0_bindAs_0 (by decide) ?_
  refine g_istore_n (L := fun v1 => [(3, .int v1), (0, .ref (a 3)), (1, .ref (a 6)), (2, .int x2)]) hc dX0_bindAs_1 rfl (by decide) (fun _ => rfl) (fun v1 => ?_)
  refine g_lv [1, 2, 3, 0] rfl ?_
  exact TX0_bindAs_2 hc hr hlk hE FU x2 v1 S
set_option maxHeartbeats 4000000 in
set_option maxRecDepth 100000 in
theorem mX0_takenBy (x1 : Int32) (x2 : Int32) (S : St) : ∀ q, uX0_takenBy x1 x2 S = some q → Ki l yX0_takenBy wsX0_takenBy rX0_takenBy D (tyW cI cZ cO) 72 a (cX cI cZ cO a) (EvX tF) [.ref (a 3), .int x1, .int x2] S q := by
  refine m_Ki (cc := cX0_takenBy) (nL := 3) (ret := (some .int)) (lv := [(0, .ref (a 3)), (1, .int x1), (2, .int x2)]) (by decide) rfl (Nat.le_of_ble_eq_true rfl) rfl ?_
  intro p e s m args below meth c hc hr hlk hE
  unfold uX0_takenBy
  refine g_aload_n (j := 0) hc dX0_takenBy_0 rfl rfl ?_
  refine g_get (C0 := RX0) (T := TX0) (M := 7) (k := 3) (ci := 0) hc inX0_takenBy_X0 (by decide) rfl rfl 3 (by decide) (List.mem_of_getElem? (i := 1) rfl) rfl rfl dX0_takenBy_1 ?_
  refine g_iload_n (j := 1) hc dX0_takenBy_4 rfl rfl ?_
  refine g_iald (k := 13) (t0 := 0) hc (by decide) rfl rfl dX0_takenBy_5 ?_
  refine g_aload_n (j := 0) hc dX0_takenBy_6 rfl rfl ?_
  refine g_get (C0 := RX0) (T := TX0) (M := 7) (k := 3) (ci := 0) hc inX0_takenBy_X0 (by decide) rfl rfl 1 (by decide) (List.mem_of_getElem? (i := 2) rfl) rfl rfl dX0_takenBy_7 ?_
  refine g_iload_n (j := 2) hc dX0_takenBy_10 rfl rfl ?_
  refine g_callSi (As := [.int x2]) (rest := [.int (S 3 1), .int (S 13 x1.toNatClampNeg)]) hc hE trX rfl (fun _ h => mJ6_bitCount_0f7a4 x2 S _ h) (va_cwS 1 hc.1.2.2.2.2 gX0_takenBy_J6_bitCount_0f7a4 rfl rfl rfl (by decide +kernel) ⟨by decide, by decide⟩) rfl rfl (Nat.le_of_ble_eq_true rfl) dX0_takenBy_11 ⟨by decide, by decide⟩ (fun v1 S2 => ?_)
  refine g_isub hc dX0_takenBy_14 ?_
  refine g_imul hc dX0_takenBy_15 ?_
  exact g_iret hc hr hlk dX0_takenBy_16
set_option maxHeartbeats 4000000 in
set_option maxRecDepth 100000 in
theorem tX0_takesUp_4 {p : Program} {e : Env} {s : State} {m : MethodId} {args : Array Value} {below : List Frame} {meth : Method} {c : Code} (hc : CT p s m args c cX0_takesUp 3 RX0 wsX0_takesUp D (tyW cI cZ cO)) (hr : meth.sig.returnType = (some .int)) (hlk : meth.locks = false) (hE : EvX tF (AA 72 a s.heap.size) s) (k4 : Int32 → Int32 → St → Option (Int32 × St)) (hk4 : ∀ (x1 : Int32) (x2 : Int32) (S : St), GF p l e rX0_takesUp s m args below meth c D 72 a (cX cI cZ cO a) (AA 72 a s.heap.size) 3 0 0 (fun res => MQ below (va_Qi (fun r u => (r, u) = res) (Bw D (tyW cI cZ cO) 72 a (cX cI cZ cO a) (AA 72 a s.heap.size)) (AA 72 a s.heap.size)) args s 0 0 (AA 72 a s.heap.size)) (k4 x1 x2 S) 4 [(0, .ref (a 3)), (1, .int x1), (2, .int x2)] [] S) (x1 : Int32) (x2 : Int32) (S : St) : GF p l e rX0_takesUp s m args below meth c D 72 a (cX cI cZ cO a) (AA 72 a s.heap.size) 3 0 0 (fun res => MQ below (va_Qi (fun r u => (r, u) = res) (Bw D (tyW cI cZ cO) 72 a (cX cI cZ cO a) (AA 72 a s.heap.size)) (AA 72 a s.heap.size)) args s 0 0 (AA 72 a s.heap.size)) (bX0_takesUp_4 k4 x1 x2 S) 4 [(0, .ref (a 3)), (1, .int x1), (2, .int x2)] [] S := by
  unfold bX0_takesUp_4
  refine g_iload_n (j := 2) hc dX0_takesUp_4 rfl rfl ?_
  refine g_bipush (v := 8) hc dX0_takesUp_5 (by decide) ?_
  refine g_icmp_ge (tgt := 30) hc dX0_takesUp_7 (by decide) ?_ ?_
  · refine g_iload_n (j := 1) hc dX0_takesUp_30 rfl rfl ?_
    exact g_iret hc hr hlk dX0_takesUp_31
  · refine g_iload_n (j := 1) hc dX0_takesUp_10 rfl rfl ?_
    refine g_aload_n (j := 0) hc dX0_takesUp_11 rfl rfl ?_
    refine g_iload_n (j := 2) hc dX0_takesUp_12 rfl rfl ?_
    refine g_aload_n (j := 0) hc dX0_takesUp_13 rfl rfl ?_
    refine g_get (C0 := RX0) (T := TX0) (M := 7) (k := 3) (ci := 0) hc inX0_takesUp_X0 (by decide) rfl rfl 5 (by decide) (List.mem_of_getElem? (i := 1) rfl) rfl rfl dX0_takesUp_14 ?_
    refine g_iload_n (j := 2) hc dX0_takesUp_17 rfl rfl ?_
    refine g_iald (k := 15) (t0 := 0) hc (by decide) rfl rfl dX0_takesUp_18 ?_
    refine g_callVi (As := [.int x2, .int (S 15 x2.toNatClampNeg)]) (rest := [.int x1]) (k := 3) (ci := 0) (q0 := (RX0, TX0, 7)) hc hE trX rfl (fun _ h => mX0_takenBy x2 (S 15 x2.toNatClampNeg) S _ h) (cwV 2 hc.1.2.2.2.2 gX0_takesUp_X0_takenBy rfl rfl rfl (by decide +kernel) ⟨by decide, by decide⟩) (by decide) rfl rfl rfl rfl (Nat.le_of_ble_eq_true rfl) dX0_takesUp_19 ⟨by decide, by decide⟩ (fun v1 S2 => ?_)
    refine g_iadd hc dX0_takesUp_22 ?_
    refine g_istore_n (L := fun v3 => [(1, .int v3), (0, .ref (a 3)), (2, .int x2)]) hc dX0_takesUp_23 rfl (by decide) (fun _ => rfl) (fun v3 => ?_)
    refine g_iinc (j := 2) (w := x2 + 1) (L := fun v4 => [(2, .int v4), (1, .int v3), (0, .ref (a 3))]) hc dX0_takesUp_24 rfl (by rfl) (by decide) (fun _ => rfl) (fun v4 => ?_)
    refine g_goto (tgt := 4) hc dX0_takesUp_27 (by decide) ?_
    refine g_lv [2, 1, 0] rfl ?_
    exact hk4 v3 v4 S2
set_option maxHeartbeats 4000000 in
set_option maxRecDepth 100000 in
theorem TX0_takesUp_4 {p : Program} {e : Env} {s : State} {m : MethodId} {args : Array Value} {below : List Frame} {meth : Method} {c : Code} (hc : CT p s m args c cX0_takesUp 3 RX0 wsX0_takesUp D (tyW cI cZ cO)) (hr : meth.sig.returnType = (some .int)) (hlk : meth.locks = false) (hE : EvX tF (AA 72 a s.heap.size) s) (n : Nat) (x1 : Int32) (x2 : Int32) (S : St) : GF p l e rX0_takesUp s m args below meth c D 72 a (cX cI cZ cO a) (AA 72 a s.heap.size) 3 0 0 (fun res => MQ below (va_Qi (fun r u => (r, u) = res) (Bw D (tyW cI cZ cO) 72 a (cX cI cZ cO a) (AA 72 a s.heap.size)) (AA 72 a s.heap.size)) args s 0 0 (AA 72 a s.heap.size)) (lX0_takesUp_4 n x1 x2 S) 4 [(0, .ref (a 3)), (1, .int x1), (2, .int x2)] [] S :=
  lp_ind (P := fun k : Int32 → Int32 → St → Option (Int32 × St) => ∀ (x1 : Int32) (x2 : Int32) (S : St), GF p l e rX0_takesUp s m args below meth c D 72 a (cX cI cZ cO a) (AA 72 a s.heap.size) 3 0 0 (fun res => MQ below (va_Qi (fun r u => (r, u) = res) (Bw D (tyW cI cZ cO) 72 a (cX cI cZ cO a) (AA 72 a s.heap.size)) (AA 72 a s.heap.size)) args s 0 0 (AA 72 a s.heap.size)) (k x1 x2 S) 4 [(0, .ref (a 3)), (1, .int x1), (2, .int x2)] [] S) (fun _ _ _ => g_none) (fun k4 hk4 => tX0_takesUp_4 hc hr hlk hE k4 hk4) n x1 x2 S
set_option maxHeartbeats 4000000 in
set_option maxRecDepth 100000 in
theorem mX0_takesUp (S : St) : ∀ q, uX0_takesUp S = some q → Ki l yX0_takesUp wsX0_takesUp rX0_takesUp D (tyW cI cZ cO) 72 a (cX cI cZ cO a) (EvX tF) [.ref (a 3)] S q := by
  refine m_Ki (cc := cX0_takesUp) (nL := 3) (ret := (some .int)) (lv := [(0, .ref (a 3))]) (by decide) rfl (Nat.le_of_ble_eq_true rfl) rfl ?_
  intro p e s m args below meth c hc hr hlk hE
  unfold uX0_takesUp
  refine g_iconst (v := 0) hc dX0_takesUp_0 (by decide) ?_
  refine g_istore_n (L := fun v1 => [(1, .int v1), (0, .ref (a 3))]) hc dX0_takesUp_1 rfl (by decide) (fun _ => rfl) (fun v1 => ?_)
  refine g_iconst (v := 0) hc dX0_takesUp_2 (by decide) ?_
  refine g_istore_n (L := fun v2 => [(2, .int v2), (1, .int v1), (0, .ref (a 3))]) hc dX0_takesUp_3 rfl (by decide) (fun _ => rfl) (fun v2 => ?_)
  refine g_lv [2, 1, 0] rfl ?_
  exact TX0_takesUp_4 hc hr hlk hE FU v1 v2 S
set_option maxHeartbeats 4000000 in
set_option maxRecDepth 100000 in
theorem tX0_wouldTakeUp_5 {p : Program} {e : Env} {s : State} {m : MethodId} {args : Array Value} {below : List Frame} {meth : Method} {c : Code} (hc : CT p s m args c cX0_wouldTakeUp 5 RX0 wsX0_wouldTakeUp D (tyW cI cZ cO)) (hr : meth.sig.returnType = (some .int)) (hlk : meth.locks = false) (hE : EvX tF (AA 72 a s.heap.size) s) (k5 : Int32 → Int32 → Int32 → St → Option (Int32 × St)) (hk5 : ∀ (x2 : Int32) (x3 : Int32) (x4 : Int32) (S : St), GF p l e rX0_wouldTakeUp s m args below meth c D 72 a (cX cI cZ cO a) (AA 72 a s.heap.size) 5 0 0 (fun res => MQ below (va_Qi (fun r u => (r, u) = res) (Bw D (tyW cI cZ cO) 72 a (cX cI cZ cO a) (AA 72 a s.heap.size)) (AA 72 a s.heap.size)) args s 0 0 (AA 72 a s.heap.size)) (k5 x2 x3 x4 S) 5 [(0, .ref (a 3)), (1, .ref (a 6)), (2, .int x2), (3, .int x3), (4, .int x4)] [] S) (x2 : Int32) (x3 : Int32) (x4 : Int32) (S : St) : GF p l e rX0_wouldTakeUp s m args below meth c D 72 a (cX cI cZ cO a) (AA 72 a s.heap.size) 5 0 0 (fun res => MQ below (va_Qi (fun r u => (r, u) = res) (Bw D (tyW cI cZ cO) 72 a (cX cI cZ cO a) (AA 72 a s.heap.size)) (AA 72 a s.heap.size)) args s 0 0 (AA 72 a s.heap.size)) (bX0_wouldTakeUp_5 k5 x2 x3 x4 S) 5 [(0, .ref (a 3)), (1, .ref (a 6)), (2, .int x2), (3, .int x3), (4, .int x4)] [] S := by
  unfold bX0_wouldTakeUp_5
  refine g_iload (j := 4) hc dX0_wouldTakeUp_5 rfl ?_
  refine g_bipush (v := 8) hc dX0_wouldTakeUp_7 (by decide) ?_
  refine g_icmp_ge (tgt := 35) hc dX0_wouldTakeUp_9 (by decide) ?_ ?_
  · refine g_iload_n (j := 3) hc dX0_wouldTakeUp_35 rfl rfl ?_
    exact g_iret hc hr hlk dX0_wouldTakeUp_36
  · refine g_iload_n (j := 3) hc dX0_wouldTakeUp_12 rfl rfl ?_
    refine g_aload_n (j := 0) hc dX0_wouldTakeUp_13 rfl rfl ?_
    refine g_iload (j := 4) hc dX0_wouldTakeUp_14 rfl ?_
    refine g_aload_n (j := 0) hc dX0_wouldTakeUp_16 rfl rfl ?_
    refine g_aload_n (j := 1) hc dX0_wouldTakeUp_17 rfl rfl ?_
    refine g_iload (j := 4) hc dX0_wouldTakeUp_18 rfl ?_
    refine g_iload_n (j := 2) hc dX0_wouldTakeUp_20 rfl rfl ?_
    refine g_callVi (As := [.ref (a 6), .int x4, .int x2]) (rest := [.int x4, .ref (a 3), .int x3]) (k := 3) (ci := 0) (q0 := (RX0, TX0, 7)) hc hE trX rfl (fun _ h => mX0_knotsOf x4 x2 S _ h) (cwV 3 hc.1.2.2.2.2 gX0_wouldTakeUp_X0_knotsOf rfl rfl rfl (by decide +kernel) ⟨by decide, by decide⟩) (by decide) rfl rfl rfl rfl (Nat.le_of_ble_eq_true rfl) dX0_wouldTakeUp_21 ⟨by decide, by decide⟩ (fun v1 S2 => ?_)
    refine g_callVi (As := [.int x4, .int v1]) (rest := [.int x3]) (k := 3) (ci := 0) (q0 := (RX0, TX0, 7)) hc hE trX rfl (fun _ h => mX0_takenBy x4 v1 S2 _ h) (cwV 2 hc.1.2.2.2.2 gX0_wouldTakeUp_X0_takenBy rfl rfl rfl (by decide +kernel) ⟨by decide, by decide⟩) (by decide) rfl rfl rfl rfl (Nat.le_of_ble_eq_true rfl) dX0_wouldTakeUp_24 ⟨by decide, by decide⟩ (fun v3 S4 => ?_)
    refine g_iadd hc dX0_wouldTakeUp_27 ?_
    refine g_istore_n (L := fun v5 => [(3, .int v5), (0, .ref (a 3)), (1, .ref (a 6)), (2, .int x2), (4, .int x4)]) hc dX0_wouldTakeUp_28 rfl (by decide) (fun _ => rfl) (fun v5 => ?_)
    refine g_iinc (j := 4) (w := x4 + 1) (L := fun v6 => [(4, .int v6), (3, .int v5), (0, .ref (a 3)), (1, .ref (a 6)), (2, .int x2)]) hc dX0_wouldTakeUp_29 rfl (by rfl) (by decide) (fun _ => rfl) (fun v6 => ?_)
    refine g_goto (tgt := 5) hc dX0_wouldTakeUp_32 (by decide) ?_
    refine g_lv [2, 3, 4, 1, 0] rfl ?_
    exact hk5 x2 v5 v6 S4
set_option maxHeartbeats 4000000 in
set_option maxRecDepth 100000 in
theorem TX0_wouldTakeUp_5 {p : Program} {e : Env} {s : State} {m : MethodId} {args : Array Value} {below : List Frame} {meth : Method} {c : Code} (hc : CT p s m args c cX0_wouldTakeUp 5 RX0 wsX0_wouldTakeUp D (tyW cI cZ cO)) (hr : meth.sig.returnType = (some .int)) (hlk : meth.locks = false) (hE : EvX tF (AA 72 a s.heap.size) s) (n : Nat) (x2 : Int32) (x3 : Int32) (x4 : Int32) (S : St) : GF p l e rX0_wouldTakeUp s m args below meth c D 72 a (cX cI cZ cO a) (AA 72 a s.heap.size) 5 0 0 (fun res => MQ below (va_Qi (fun r u => (r, u) = res) (Bw D (tyW cI cZ cO) 72 a (cX cI cZ cO a) (AA 72 a s.heap.size)) (AA 72 a s.heap.size)) args s 0 0 (AA 72 a s.heap.size)) (lX0_wouldTakeUp_5 n x2 x3 x4 S) 5 [(0, .ref (a 3)), (1, .ref (a 6)), (2, .int x2), (3, .int x3), (4, .int x4)] [] S :=
  lp_ind (P := fun k : Int32 → Int32 → Int32 → St → Option (Int32 × St) => ∀ (x2 : Int32) (x3 : Int32) (x4 : Int32) (S : St), GF p l e rX0_wouldTakeUp s m args below meth c D 72 a (cX cI cZ cO a) (AA 72 a s.heap.size) 5 0 0 (fun res => MQ below (va_Qi (fun r u => (r, u) = res) (Bw D (tyW cI cZ cO) 72 a (cX cI cZ cO a) (AA 72 a s.heap.size)) (AA 72 a s.heap.size)) args s 0 0 (AA 72 a s.heap.size)) (k x2 x3 x4 S) 5 [(0, .ref (a 3)), (1, .ref (a 6)), (2, .int x2), (3, .int x3), (4, .int x4)] [] S) (fun _ _ _ _ => g_none) (fun k5 hk5 => tX0_wouldTakeUp_5 hc hr hlk hE k5 hk5) n x2 x3 x4 S
set_option maxHeartbeats 4000000 in
set_option maxRecDepth 100000 in
theorem mX0_wouldTakeUp (x2 : Int32) (S : St) : ∀ q, uX0_wouldTakeUp x2 S = some q → Ki l yX0_wouldTakeUp wsX0_wouldTakeUp rX0_wouldTakeUp D (tyW cI cZ cO) 72 a (cX cI cZ cO a) (EvX tF) [.ref (a 3), .ref (a 6), .int x2] S q := by
  refine m_Ki (cc := cX0_wouldTakeUp) (nL := 5) (ret := (some .int)) (lv := [(0, .ref (a 3)), (1, .ref (a 6)), (2, .int x2)]) (by decide) rfl (Nat.le_of_ble_eq_true rfl) rfl ?_
  intro p e s m args below meth c hc hr hlk hE
  unfold uX0_wouldTakeUp
  refine g_iconst (v := 0) hc dX0_wouldTakeUp_0 (by decide) ?_
  refine g_istore_n (L := fun v1 => [(3, .int v1), (0, .ref (a 3)), (1, .ref (a 6)), (2, .int x2)]) hc dX0_wouldTakeUp_1 rfl (by decide) (fun _ => rfl) (fun v1 => ?_)
  refine g_iconst (v := 0) hc dX0_wouldTakeUp_2 (by decide) ?_
  refine g_istore (L := fun v2 => [(4, .int v2), (3, .int v1), (0, .ref (a 3)), (1, .ref (a 6)), (2, .int x2)]) hc dX0_wouldTakeUp_3 (by decide) (fun _ => rfl) (fun v2 => ?_)
  refine g_lv [2, 3, 4, 1, 0] rfl ?_
  exact TX0_wouldTakeUp_5 hc hr hlk hE FU x2 v1 v2 S
set_option maxHeartbeats 4000000 in
set_option maxRecDepth 100000 in
theorem tX0_dip_53 {p : Program} {e : Env} {s : State} {m : MethodId} {args : Array Value} {below : List Frame} {meth : Method} {c : Code} (hc : CT p s m args c cX0_dip 5 RX0 wsX0_dip D (tyW cI cZ cO)) (hr : meth.sig.returnType = none) (hlk : meth.locks = false) (hE : EvX tF (AA 72 a s.heap.size) s) (k2 : Int32 → Int32 → St → Option (Int32 × St)) (hk2 : ∀ (x1 : Int32) (x3 : Int32) (S : St), GF p l e rX0_dip s m args below meth c D 72 a (cX cI cZ cO a) (AA 72 a s.heap.size) 5 0 0 (fun res => MQ below (va_Qv (fun u => ((0 : Int32), u) = res) (Bw D (tyW cI cZ cO) 72 a (cX cI cZ cO a) (AA 72 a s.heap.size)) (AA 72 a s.heap.size)) args s 0 0 (AA 72 a s.heap.size)) (k2 x1 x3 S) 2 [(0, .ref (a 3)), (1, .int x1), (2, .ref (a 1)), (3, .int x3)] [] S) (k11 : Int32 → Int32 → Int32 → St → Option (Int32 × St)) (hk11 : ∀ (x1 : Int32) (x3 : Int32) (x4 : Int32) (S : St), GF p l e rX0_dip s m args below meth c D 72 a (cX cI cZ cO a) (AA 72 a s.heap.size) 5 0 0 (fun res => MQ below (va_Qv (fun u => ((0 : Int32), u) = res) (Bw D (tyW cI cZ cO) 72 a (cX cI cZ cO a) (AA 72 a s.heap.size)) (AA 72 a s.heap.size)) args s 0 0 (AA 72 a s.heap.size)) (k11 x1 x3 x4 S) 11 [(0, .ref (a 3)), (1, .int x1), (2, .ref (a 1)), (3, .int x3), (4, .int x4)] [] S) (x1 : Int32) (x3 : Int32) (x4 : Int32) (S : St) : GF p l e rX0_dip s m args below meth c D 72 a (cX cI cZ cO a) (AA 72 a s.heap.size) 5 0 0 (fun res => MQ below (va_Qv (fun u => ((0 : Int32), u) = res) (Bw D (tyW cI cZ cO) 72 a (cX cI cZ cO a) (AA 72 a s.heap.size)) (AA 72 a s.heap.size)) args s 0 0 (AA 72 a s.heap.size)) (bX0_dip_53 k2 k11 x1 x3 x4 S) 53 [(0, .ref (a 3)), (1, .int x1), (2, .ref (a 1)), (3, .int x3), (4, .int x4)] [] S := by
  unfold bX0_dip_53
  refine g_iinc (j := 4) (w := x4 + 1) (L := fun v1 => [(4, .int v1), (0, .ref (a 3)), (1, .int x1), (2, .ref (a 1)), (3, .int x3)]) hc dX0_dip_53 rfl (by rfl) (by decide) (fun _ => rfl) (fun v1 => ?_)
  refine g_goto (tgt := 11) hc dX0_dip_56 (by decide) ?_
  refine g_lv [1, 2, 3, 4, 0] rfl ?_
  exact hk11 x1 x3 v1 S
set_option maxHeartbeats 4000000 in
set_option maxRecDepth 100000 in
theorem tX0_dip_11 {p : Program} {e : Env} {s : State} {m : MethodId} {args : Array Value} {below : List Frame} {meth : Method} {c : Code} (hc : CT p s m args c cX0_dip 5 RX0 wsX0_dip D (tyW cI cZ cO)) (hr : meth.sig.returnType = none) (hlk : meth.locks = false) (hE : EvX tF (AA 72 a s.heap.size) s) (k2 : Int32 → Int32 → St → Option (Int32 × St)) (hk2 : ∀ (x1 : Int32) (x3 : Int32) (S : St), GF p l e rX0_dip s m args below meth c D 72 a (cX cI cZ cO a) (AA 72 a s.heap.size) 5 0 0 (fun res => MQ below (va_Qv (fun u => ((0 : Int32), u) = res) (Bw D (tyW cI cZ cO) 72 a (cX cI cZ cO a) (AA 72 a s.heap.size)) (AA 72 a s.heap.size)) args s 0 0 (AA 72 a s.heap.size)) (k2 x1 x3 S) 2 [(0, .ref (a 3)), (1, .int x1), (2, .ref (a 1)), (3, .int x3)] [] S) (k11 : Int32 → Int32 → Int32 → St → Option (Int32 × St)) (hk11 : ∀ (x1 : Int32) (x3 : Int32) (x4 : Int32) (S : St), GF p l e rX0_dip s m args below meth c D 72 a (cX cI cZ cO a) (AA 72 a s.heap.size) 5 0 0 (fun res => MQ below (va_Qv (fun u => ((0 : Int32), u) = res) (Bw D (tyW cI cZ cO) 72 a (cX cI cZ cO a) (AA 72 a s.heap.size)) (AA 72 a s.heap.size)) args s 0 0 (AA 72 a s.heap.size)) (k11 x1 x3 x4 S) 11 [(0, .ref (a 3)), (1, .int x1), (2, .ref (a 1)), (3, .int x3), (4, .int x4)] [] S) (x1 : Int32) (x3 : Int32) (x4 : Int32) (S : St) : GF p l e rX0_dip s m args below meth c D 72 a (cX cI cZ cO a) (AA 72 a s.heap.size) 5 0 0 (fun res => MQ below (va_Qv (fun u => ((0 : Int32), u) = res) (Bw D (tyW cI cZ cO) 72 a (cX cI cZ cO a) (AA 72 a s.heap.size)) (AA 72 a s.heap.size)) args s 0 0 (AA 72 a s.heap.size)) (bX0_dip_11 k2 k11 x1 x3 x4 S) 11 [(0, .ref (a 3)), (1, .int x1), (2, .ref (a 1)), (3, .int x3), (4, .int x4)] [] S := by
  unfold bX0_dip_11
  refine g_iload (j := 4) hc dX0_dip_11 rfl ?_
  refine g_aload_n (j := 0) hc dX0_dip_13 rfl rfl ?_
  refine g_get (C0 := RX0) (T := TX0) (M := 7) (k := 3) (ci := 0) hc inX0_dip_X0 (by decide) rfl rfl 1 (by decide) (List.mem_of_getElem? (i := 1) rfl) rfl rfl dX0_dip_14 ?_
  refine g_icmp_ge (tgt := 59) hc dX0_dip_17 (by decide) ?_ ?_
  · refine g_iinc (j := 3) (w := x3 + 1) (L := fun v1 => [(3, .int v1), (0, .ref (a 3)), (1, .int x1), (2, .ref (a 1)), (4, .int x4)]) hc dX0_dip_59 rfl (by rfl) (by decide) (fun _ => rfl) (fun v1 => ?_)
    refine g_goto (tgt := 2) hc dX0_dip_62 (by decide) ?_
    refine g_lv [1, 2, 3, 0] rfl ?_
    exact hk2 x1 v1 S
  · refine g_aload_n (j := 0) hc dX0_dip_20 rfl rfl ?_
    refine g_iload_n (j := 3) hc dX0_dip_21 rfl rfl ?_
    refine g_iload (j := 4) hc dX0_dip_22 rfl ?_
    refine g_callVi (As := [.int x3, .int x4]) (rest := []) (k := 3) (ci := 0) (q0 := (RX0, TX0, 7)) hc hE trX rfl (fun _ h => mX0_isBound x3 x4 S _ h) (cwV 2 hc.1.2.2.2.2 gX0_dip_X0_isBound rfl rfl rfl (by decide +kernel) ⟨by decide, by decide⟩) (by decide) rfl rfl rfl rfl (Nat.le_of_ble_eq_true rfl) dX0_dip_24 ⟨by decide, by decide⟩ (fun v2 S3 => ?_)
    refine g_if_ne (tgt := 53) hc dX0_dip_27 (by decide) ?_ ?_
    · exact tX0_dip_53 hc hr hlk hE k2 hk2 k11 hk11 x1 x3 x4 S3
    · refine g_aload_n (j := 0) hc dX0_dip_30 rfl rfl ?_
      refine g_get (C0 := RX0) (T := TX0) (M := 7) (k := 3) (ci := 0) hc inX0_dip_X0 (by decide) rfl rfl 6 (by decide) (List.mem_of_getElem? (i := 2) rfl) rfl rfl dX0_dip_31 ?_
      refine g_iload_n (j := 3) hc dX0_dip_34 rfl rfl ?_
      refine g_aald (k := 16) (base := 31) (t0 := 2) hc (by decide) rfl rfl dX0_dip_35 ?_
      refine g_iload (j := 4) hc dX0_dip_36 rfl ?_
      refine g_aload_n (j := 2) hc dX0_dip_38 rfl rfl ?_
      refine g_aload_n (j := 0) hc dX0_dip_39 rfl rfl ?_
      refine g_get (C0 := RX0) (T := TX0) (M := 7) (k := 3) (ci := 0) hc inX0_dip_X0 (by decide) rfl rfl 6 (by decide) (List.mem_of_getElem? (i := 2) rfl) rfl rfl dX0_dip_40 ?_
      refine g_iload_n (j := 3) hc dX0_dip_43 rfl rfl ?_
      refine g_aald (k := 16) (base := 31) (t0 := 2) hc (by decide) rfl rfl dX0_dip_44 ?_
      refine g_iload (j := 4) hc dX0_dip_45 rfl ?_
      refine g_ialdr (base := 31) (cnt := 8) (t0 := 0) hc (by decide) (fun S r h => rowX_31 S h) rfl dX0_dip_47 ?_
      refine g_iload_n (j := 1) hc dX0_dip_48 rfl rfl ?_
      refine g_callVi (As := [.int (S3 (31 + x3.toNatClampNeg) x4.toNatClampNeg), .int x1]) (rest := [.int x4, .ref (a (31 + x3.toNatClampNeg))]) (k := 1) (ci := 2) (q0 := (RX2, TX2, 1)) hc hE trX rfl (fun _ h => mX2_comesOf (S3 (31 + x3.toNatClampNeg) x4.toNatClampNeg) x1 S3 _ h) (cwV 2 hc.1.2.2.2.2 gX0_dip_X2_comesOf rfl rfl rfl (by decide +kernel) ⟨by decide, by decide⟩) (by decide) rfl rfl rfl rfl (Nat.le_of_ble_eq_true rfl) dX0_dip_49 ⟨by decide, by decide⟩ (fun v4 S5 => ?_)
      refine g_iastr (base := 31) (cnt := 8) (t0 := 0) hc locX (by decide) (fun S r h => rowX_31 S h) rfl dX0_dip_52 (fun S6 => ?_)
      exact tX0_dip_53 hc hr hlk hE k2 hk2 k11 hk11 x1 x3 x4 S6
set_option maxHeartbeats 4000000 in
set_option maxRecDepth 100000 in
theorem TX0_dip_11 {p : Program} {e : Env} {s : State} {m : MethodId} {args : Array Value} {below : List Frame} {meth : Method} {c : Code} (hc : CT p s m args c cX0_dip 5 RX0 wsX0_dip D (tyW cI cZ cO)) (hr : meth.sig.returnType = none) (hlk : meth.locks = false) (hE : EvX tF (AA 72 a s.heap.size) s) (k2 : Int32 → Int32 → St → Option (Int32 × St)) (hk2 : ∀ (x1 : Int32) (x3 : Int32) (S : St), GF p l e rX0_dip s m args below meth c D 72 a (cX cI cZ cO a) (AA 72 a s.heap.size) 5 0 0 (fun res => MQ below (va_Qv (fun u => ((0 : Int32), u) = res) (Bw D (tyW cI cZ cO) 72 a (cX cI cZ cO a) (AA 72 a s.heap.size)) (AA 72 a s.heap.size)) args s 0 0 (AA 72 a s.heap.size)) (k2 x1 x3 S) 2 [(0, .ref (a 3)), (1, .int x1), (2, .ref (a 1)), (3, .int x3)] [] S) (n : Nat) (x1 : Int32) (x3 : Int32) (x4 : Int32) (S : St) : GF p l e rX0_dip s m args below meth c D 72 a (cX cI cZ cO a) (AA 72 a s.heap.size) 5 0 0 (fun res => MQ below (va_Qv (fun u => ((0 : Int32), u) = res) (Bw D (tyW cI cZ cO) 72 a (cX cI cZ cO a) (AA 72 a s.heap.size)) (AA 72 a s.heap.size)) args s 0 0 (AA 72 a s.heap.size)) (lX0_dip_11 k2 n x1 x3 x4 S) 11 [(0, .ref (a 3)), (1, .int x1), (2, .ref (a 1)), (3, .int x3), (4, .int x4)] [] S :=
  lp_ind (P := fun k : Int32 → Int32 → Int32 → St → Option (Int32 × St) => ∀ (x1 : Int32) (x3 : Int32) (x4 : Int32) (S : St), GF p l e rX0_dip s m args below meth c D 72 a (cX cI cZ cO a) (AA 72 a s.heap.size) 5 0 0 (fun res => MQ below (va_Qv (fun u => ((0 : Int32), u) = res) (Bw D (tyW cI cZ cO) 72 a (cX cI cZ cO a) (AA 72 a s.heap.size)) (AA 72 a s.heap.size)) args s 0 0 (AA 72 a s.heap.size)) (k x1 x3 x4 S) 11 [(0, .ref (a 3)), (1, .int x1), (2, .ref (a 1)), (3, .int x3), (4, .int x4)] [] S) (fun _ _ _ _ => g_none) (fun k11 hk11 => tX0_dip_11 hc hr hlk hE k2 hk2 k11 hk11) n x1 x3 x4 S
set_option maxHeartbeats 4000000 in
set_option maxRecDepth 100000 in
theorem tX0_dip_2 {p : Program} {e : Env} {s : State} {m : MethodId} {args : Array Value} {below : List Frame} {meth : Method} {c : Code} (hc : CT p s m args c cX0_dip 5 RX0 wsX0_dip D (tyW cI cZ cO)) (hr : meth.sig.returnType = none) (hlk : meth.locks = false) (hE : EvX tF (AA 72 a s.heap.size) s) (k2 : Int32 → Int32 → St → Option (Int32 × St)) (hk2 : ∀ (x1 : Int32) (x3 : Int32) (S : St), GF p l e rX0_dip s m args below meth c D 72 a (cX cI cZ cO a) (AA 72 a s.heap.size) 5 0 0 (fun res => MQ below (va_Qv (fun u => ((0 : Int32), u) = res) (Bw D (tyW cI cZ cO) 72 a (cX cI cZ cO a) (AA 72 a s.heap.size)) (AA 72 a s.heap.size)) args s 0 0 (AA 72 a s.heap.size)) (k2 x1 x3 S) 2 [(0, .ref (a 3)), (1, .int x1), (2, .ref (a 1)), (3, .int x3)] [] S) (x1 : Int32) (x3 : Int32) (S : St) : GF p l e rX0_dip s m args below meth c D 72 a (cX cI cZ cO a) (AA 72 a s.heap.size) 5 0 0 (fun res => MQ below (va_Qv (fun u => ((0 : Int32), u) = res) (Bw D (tyW cI cZ cO) 72 a (cX cI cZ cO a) (AA 72 a s.heap.size)) (AA 72 a s.heap.size)) args s 0 0 (AA 72 a s.heap.size)) (bX0_dip_2 k2 x1 x3 S) 2 [(0, .ref (a 3)), (1, .int x1), (2, .ref (a 1)), (3, .int x3)] [] S := by
  unfold bX0_dip_2
  refine g_iload_n (j := 3) hc dX0_dip_2 rfl rfl ?_
  refine g_bipush (v := 8) hc dX0_dip_3 (by decide) ?_
  refine g_icmp_ge (tgt := 65) hc dX0_dip_5 (by decide) ?_ ?_
  · exact g_vret hc hr hlk dX0_dip_65
  · refine g_iconst (v := 0) hc dX0_dip_8 (by decide) ?_
    refine g_istore (L := fun v1 => [(4, .int v1), (0, .ref (a 3)), (1, .int x1), (2, .ref (a 1)), (3, .int x3)]) hc dX0_dip_9 (by decide) (fun _ => rfl) (fun v1 => ?_)
    refine g_lv [1, 2, 3, 4, 0] rfl ?_
    exact TX0_dip_11 hc hr hlk hE k2 hk2 FU x1 x3 v1 S
set_option maxHeartbeats 4000000 in
set_option maxRecDepth 100000 in
theorem TX0_dip_2 {p : Program} {e : Env} {s : State} {m : MethodId} {args : Array Value} {below : List Frame} {meth : Method} {c : Code} (hc : CT p s m args c cX0_dip 5 RX0 wsX0_dip D (tyW cI cZ cO)) (hr : meth.sig.returnType = none) (hlk : meth.locks = false) (hE : EvX tF (AA 72 a s.heap.size) s) (n : Nat) (x1 : Int32) (x3 : Int32) (S : St) : GF p l e rX0_dip s m args below meth c D 72 a (cX cI cZ cO a) (AA 72 a s.heap.size) 5 0 0 (fun res => MQ below (va_Qv (fun u => ((0 : Int32), u) = res) (Bw D (tyW cI cZ cO) 72 a (cX cI cZ cO a) (AA 72 a s.heap.size)) (AA 72 a s.heap.size)) args s 0 0 (AA 72 a s.heap.size)) (lX0_dip_2 n x1 x3 S) 2 [(0, .ref (a 3)), (1, .int x1), (2, .ref (a 1)), (3, .int x3)] [] S :=
  lp_ind (P := fun k : Int32 → Int32 → St → Option (Int32 × St) => ∀ (x1 : Int32) (x3 : Int32) (S : St), GF p l e rX0_dip s m args below meth c D 72 a (cX cI cZ cO a) (AA 72 a s.heap.size) 5 0 0 (fun res => MQ below (va_Qv (fun u => ((0 : Int32), u) = res) (Bw D (tyW cI cZ cO) 72 a (cX cI cZ cO a) (AA 72 a s.heap.size)) (AA 72 a s.heap.size)) args s 0 0 (AA 72 a s.heap.size)) (k x1 x3 S) 2 [(0, .ref (a 3)), (1, .int x1), (2, .ref (a 1)), (3, .int x3)] [] S) (fun _ _ _ => g_none) (fun k2 hk2 => tX0_dip_2 hc hr hlk hE k2 hk2) n x1 x3 S
set_option maxHeartbeats 4000000 in
set_option maxRecDepth 100000 in
theorem mX0_dip (x1 : Int32) (S : St) : ∀ q, uX0_dip x1 S = some q → Kv l yX0_dip wsX0_dip rX0_dip D (tyW cI cZ cO) 72 a (cX cI cZ cO a) (EvX tF) [.ref (a 3), .int x1, .ref (a 1)] S q := by
  refine m_Kv (cc := cX0_dip) (nL := 5) (ret := none) (lv := [(0, .ref (a 3)), (1, .int x1), (2, .ref (a 1))]) (by decide) rfl (Nat.le_of_ble_eq_true rfl) rfl ?_
  intro p e s m args below meth c hc hr hlk hE
  unfold uX0_dip
  refine g_iconst (v := 0) hc dX0_dip_0 (by decide) ?_
  refine g_istore_n (L := fun v1 => [(3, .int v1), (0, .ref (a 3)), (1, .int x1), (2, .ref (a 1))]) hc dX0_dip_1 rfl (by decide) (fun _ => rfl) (fun v1 => ?_)
  refine g_lv [1, 2, 3, 0] rfl ?_
  exact TX0_dip_2 hc hr hlk hE FU x1 v1 S
set_option maxHeartbeats 4000000 in
set_option maxRecDepth 100000 in
theorem tX0_coloursWorn_48 {p : Program} {e : Env} {s : State} {m : MethodId} {args : Array Value} {below : List Frame} {meth : Method} {c : Code} (hc : CT p s m args c cX0_coloursWorn 4 RX0 wsX0_coloursWorn D (tyW cI cZ cO)) (hr : meth.sig.returnType = (some .int)) (hlk : meth.locks = false) (hE : EvX tF (AA 72 a s.heap.size) s) (k4 : Int32 → Int32 → St → Option (Int32 × St)) (hk4 : ∀ (x1 : Int32) (x2 : Int32) (S : St), GF p l e rX0_coloursWorn s m args below meth c D 72 a (cX cI cZ cO a) (AA 72 a s.heap.size) 4 0 0 (fun res => MQ below (va_Qi (fun r u => (r, u) = res) (Bw D (tyW cI cZ cO) 72 a (cX cI cZ cO a) (AA 72 a s.heap.size)) (AA 72 a s.heap.size)) args s 0 0 (AA 72 a s.heap.size)) (k4 x1 x2 S) 4 [(0, .ref (a 3)), (1, .int x1), (2, .int x2)] [] S) (x1 : Int32) (x2 : Int32) (S : St) : GF p l e rX0_coloursWorn s m args below meth c D 72 a (cX cI cZ cO a) (AA 72 a s.heap.size) 4 0 0 (fun res => MQ below (va_Qi (fun r u => (r, u) = res) (Bw D (tyW cI cZ cO) 72 a (cX cI cZ cO a) (AA 72 a s.heap.size)) (AA 72 a s.heap.size)) args s 0 0 (AA 72 a s.heap.size)) (bX0_coloursWorn_48 k4 x1 x2 S) 48 [(0, .ref (a 3)), (1, .int x1), (2, .int x2)] [] S := by
  unfold bX0_coloursWorn_48
  refine g_iinc (j := 2) (w := x2 + 1) (L := fun v1 => [(2, .int v1), (0, .ref (a 3)), (1, .int x1)]) hc dX0_coloursWorn_48 rfl (by rfl) (by decide) (fun _ => rfl) (fun v1 => ?_)
  refine g_goto (tgt := 4) hc dX0_coloursWorn_51 (by decide) ?_
  refine g_lv [1, 2, 0] rfl ?_
  exact hk4 x1 v1 S
set_option maxHeartbeats 4000000 in
set_option maxRecDepth 100000 in
theorem tX0_coloursWorn_12 {p : Program} {e : Env} {s : State} {m : MethodId} {args : Array Value} {below : List Frame} {meth : Method} {c : Code} (hc : CT p s m args c cX0_coloursWorn 4 RX0 wsX0_coloursWorn D (tyW cI cZ cO)) (hr : meth.sig.returnType = (some .int)) (hlk : meth.locks = false) (hE : EvX tF (AA 72 a s.heap.size) s) (k4 : Int32 → Int32 → St → Option (Int32 × St)) (hk4 : ∀ (x1 : Int32) (x2 : Int32) (S : St), GF p l e rX0_coloursWorn s m args below meth c D 72 a (cX cI cZ cO a) (AA 72 a s.heap.size) 4 0 0 (fun res => MQ below (va_Qi (fun r u => (r, u) = res) (Bw D (tyW cI cZ cO) 72 a (cX cI cZ cO a) (AA 72 a s.heap.size)) (AA 72 a s.heap.size)) args s 0 0 (AA 72 a s.heap.size)) (k4 x1 x2 S) 4 [(0, .ref (a 3)), (1, .int x1), (2, .int x2)] [] S) (k12 : Int32 → Int32 → Int32 → St → Option (Int32 × St)) (hk12 : ∀ (x1 : Int32) (x2 : Int32) (x3 : Int32) (S : St), GF p l e rX0_coloursWorn s m args below meth c D 72 a (cX cI cZ cO a) (AA 72 a s.heap.size) 4 0 0 (fun res => MQ below (va_Qi (fun r u => (r, u) = res) (Bw D (tyW cI cZ cO) 72 a (cX cI cZ cO a) (AA 72 a s.heap.size)) (AA 72 a s.heap.size)) args s 0 0 (AA 72 a s.heap.size)) (k12 x1 x2 x3 S) 12 [(0, .ref (a 3)), (1, .int x1), (2, .int x2), (3, .int x3)] [] S) (x1 : Int32) (x2 : Int32) (x3 : Int32) (S : St) : GF p l e rX0_coloursWorn s m args below meth c D 72 a (cX cI cZ cO a) (AA 72 a s.heap.size) 4 0 0 (fun res => MQ below (va_Qi (fun r u => (r, u) = res) (Bw D (tyW cI cZ cO) 72 a (cX cI cZ cO a) (AA 72 a s.heap.size)) (AA 72 a s.heap.size)) args s 0 0 (AA 72 a s.heap.size)) (bX0_coloursWorn_12 k4 k12 x1 x2 x3 S) 12 [(0, .ref (a 3)), (1, .int x1), (2, .int x2), (3, .int x3)] [] S := by
  unfold bX0_coloursWorn_12
  refine g_iload_n (j := 3) hc dX0_coloursWorn_12 rfl rfl ?_
  refine g_aload_n (j := 0) hc dX0_coloursWorn_13 rfl rfl ?_
  refine g_get (C0 := RX0) (T := TX0) (M := 7) (k := 3) (ci := 0) hc inX0_coloursWorn_X0 (by decide) rfl rfl 1 (by decide) (List.mem_of_getElem? (i := 1) rfl) rfl rfl dX0_coloursWorn_14 ?_
  refine g_icmp_ge (tgt := 48) hc dX0_coloursWorn_17 (by decide) ?_ ?_
  · refine g_lv [0, 1, 2] rfl ?_
    exact tX0_coloursWorn_48 hc hr hlk hE k4 hk4 x1 x2 S
  · refine g_aload_n (j := 0) hc dX0_coloursWorn_20 rfl rfl ?_
    refine g_get (C0 := RX0) (T := TX0) (M := 7) (k := 3) (ci := 0) hc inX0_coloursWorn_X0 (by decide) rfl rfl 3 (by decide) (List.mem_of_getElem? (i := 2) rfl) rfl rfl dX0_coloursWorn_21 ?_
    refine g_iload_n (j := 2) hc dX0_coloursWorn_24 rfl rfl ?_
    refine g_iald (k := 13) (t0 := 0) hc (by decide) rfl rfl dX0_coloursWorn_25 ?_
    refine g_if_le (tgt := 48) hc dX0_coloursWorn_26 (by decide) ?_ ?_
    · refine g_lv [0, 1, 2] rfl ?_
      exact tX0_coloursWorn_48 hc hr hlk hE k4 hk4 x1 x2 S
    · refine g_iload_n (j := 1) hc dX0_coloursWorn_29 rfl rfl ?_
      refine g_iconst (v := 1) hc dX0_coloursWorn_30 (by decide) ?_
      refine g_aload_n (j := 0) hc dX0_coloursWorn_31 rfl rfl ?_
      refine g_get (C0 := RX0) (T := TX0) (M := 7) (k := 3) (ci := 0) hc inX0_coloursWorn_X0 (by decide) rfl rfl 6 (by decide) (List.mem_of_getElem? (i := 3) rfl) rfl rfl dX0_coloursWorn_32 ?_
      refine g_iload_n (j := 2) hc dX0_coloursWorn_35 rfl rfl ?_
      refine g_aald (k := 16) (base := 31) (t0 := 2) hc (by decide) rfl rfl dX0_coloursWorn_36 ?_
      refine g_iload_n (j := 3) hc dX0_coloursWorn_37 rfl rfl ?_
      refine g_ialdr (base := 31) (cnt := 8) (t0 := 0) hc (by decide) (fun S r h => rowX_31 S h) rfl dX0_coloursWorn_38 ?_
      refine g_ishl hc dX0_coloursWorn_39 ?_
      refine g_ior hc dX0_coloursWorn_40 ?_
      refine g_istore_n (L := fun v1 => [(1, .int v1), (0, .ref (a 3)), (2, .int x2), (3, .int x3)]) hc dX0_coloursWorn_41 rfl (by decide) (fun _ => rfl) (fun v1 => ?_)
      refine g_iinc (j := 3) (w := x3 + 1) (L := fun v2 => [(3, .int v2), (1, .int v1), (0, .ref (a 3)), (2, .int x2)]) hc dX0_coloursWorn_42 rfl (by rfl) (by decide) (fun _ => rfl) (fun v2 => ?_)
      refine g_goto (tgt := 12) hc dX0_coloursWorn_45 (by decide) ?_
      refine g_lv [2, 1, 3, 0] rfl ?_
      exact hk12 v1 x2 v2 S
set_option maxHeartbeats 4000000 in
set_option maxRecDepth 100000 in
theorem TX0_coloursWorn_12 {p : Program} {e : Env} {s : State} {m : MethodId} {args : Array Value} {below : List Frame} {meth : Method} {c : Code} (hc : CT p s m args c cX0_coloursWorn 4 RX0 wsX0_coloursWorn D (tyW cI cZ cO)) (hr : meth.sig.returnType = (some .int)) (hlk : meth.locks = false) (hE : EvX tF (AA 72 a s.heap.size) s) (k4 : Int32 → Int32 → St → Option (Int32 × St)) (hk4 : ∀ (x1 : Int32) (x2 : Int32) (S : St), GF p l e rX0_coloursWorn s m args below meth c D 72 a (cX cI cZ cO a) (AA 72 a s.heap.size) 4 0 0 (fun res => MQ below (va_Qi (fun r u => (r, u) = res) (Bw D (tyW cI cZ cO) 72 a (cX cI cZ cO a) (AA 72 a s.heap.size)) (AA 72 a s.heap.size)) args s 0 0 (AA 72 a s.heap.size)) (k4 x1 x2 S) 4 [(0, .ref (a 3)), (1, .int x1), (2, .int x2)] [] S) (n : Nat) (x1 : Int32) (x2 : Int32) (x3 : Int32) (S : St) : GF p l e rX0_coloursWorn s m args below meth c D 72 a (cX cI cZ cO a) (AA 72 a s.heap.size) 4 0 0 (fun res => MQ below (va_Qi (fun r u => (r, u) = res) (Bw D (tyW cI cZ cO) 72 a (cX cI cZ cO a) (AA 72 a s.heap.size)) (AA 72 a s.heap.size)) args s 0 0 (AA 72 a s.heap.size)) (lX0_coloursWorn_12 k4 n x1 x2 x3 S) 12 [(0, .ref (a 3)), (1, .int x1), (2, .int x2), (3, .int x3)] [] S :=
  lp_ind (P := fun k : Int32 → Int32 → Int32 → St → Option (Int32 × St) => ∀ (x1 : Int32) (x2 : Int32) (x3 : Int32) (S : St), GF p l e rX0_coloursWorn s m args below meth c D 72 a (cX cI cZ cO a) (AA 72 a s.heap.size) 4 0 0 (fun res => MQ below (va_Qi (fun r u => (r, u) = res) (Bw D (tyW cI cZ cO) 72 a (cX cI cZ cO a) (AA 72 a s.heap.size)) (AA 72 a s.heap.size)) args s 0 0 (AA 72 a s.heap.size)) (k x1 x2 x3 S) 12 [(0, .ref (a 3)), (1, .int x1), (2, .int x2), (3, .int x3)] [] S) (fun _ _ _ _ => g_none) (fun k12 hk12 => tX0_coloursWorn_12 hc hr hlk hE k4 hk4 k12 hk12) n x1 x2 x3 S
set_option maxHeartbeats 4000000 in
set_option maxRecDepth 100000 in
theorem tX0_coloursWorn_4 {p : Program} {e : Env} {s : State} {m : MethodId} {args : Array Value} {below : List Frame} {meth : Method} {c : Code} (hc : CT p s m args c cX0_coloursWorn 4 RX0 wsX0_coloursWorn D (tyW cI cZ cO)) (hr : meth.sig.returnType = (some .int)) (hlk : meth.locks = false) (hE : EvX tF (AA 72 a s.heap.size) s) (k4 : Int32 → Int32 → St → Option (Int32 × St)) (hk4 : ∀ (x1 : Int32) (x2 : Int32) (S : St), GF p l e rX0_coloursWorn s m args below meth c D 72 a (cX cI cZ cO a) (AA 72 a s.heap.size) 4 0 0 (fun res => MQ below (va_Qi (fun r u => (r, u) = res) (Bw D (tyW cI cZ cO) 72 a (cX cI cZ cO a) (AA 72 a s.heap.size)) (AA 72 a s.heap.size)) args s 0 0 (AA 72 a s.heap.size)) (k4 x1 x2 S) 4 [(0, .ref (a 3)), (1, .int x1), (2, .int x2)] [] S) (x1 : Int32) (x2 : Int32) (S : St) : GF p l e rX0_coloursWorn s m args below meth c D 72 a (cX cI cZ cO a) (AA 72 a s.heap.size) 4 0 0 (fun res => MQ below (va_Qi (fun r u => (r, u) = res) (Bw D (tyW cI cZ cO) 72 a (cX cI cZ cO a) (AA 72 a s.heap.size)) (AA 72 a s.heap.size)) args s 0 0 (AA 72 a s.heap.size)) (bX0_coloursWorn_4 k4 x1 x2 S) 4 [(0, .ref (a 3)), (1, .int x1), (2, .int x2)] [] S := by
  unfold bX0_coloursWorn_4
  refine g_iload_n (j := 2) hc dX0_coloursWorn_4 rfl rfl ?_
  refine g_bipush (v := 8) hc dX0_coloursWorn_5 (by decide) ?_
  refine g_icmp_ge (tgt := 54) hc dX0_coloursWorn_7 (by decide) ?_ ?_
  · refine g_iload_n (j := 1) hc dX0_coloursWorn_54 rfl rfl ?_
    exact g_iret hc hr hlk dX0_coloursWorn_55
  · refine g_iconst (v := 0) hc dX0_coloursWorn_10 (by decide) ?_
    refine g_istore_n (L := fun v1 => [(3, .int v1), (0, .ref (a 3)), (1, .int x1), (2, .int x2)]) hc dX0_coloursWorn_11 rfl (by decide) (fun _ => rfl) (fun v1 => ?_)
    refine g_lv [1, 2, 3, 0] rfl ?_
    exact TX0_coloursWorn_12 hc hr hlk hE k4 hk4 FU x1 x2 v1 S
set_option maxHeartbeats 4000000 in
set_option maxRecDepth 100000 in
theorem TX0_coloursWorn_4 {p : Program} {e : Env} {s : State} {m : MethodId} {args : Array Value} {below : List Frame} {meth : Method} {c : Code} (hc : CT p s m args c cX0_coloursWorn 4 RX0 wsX0_coloursWorn D (tyW cI cZ cO)) (hr : meth.sig.returnType = (some .int)) (hlk : meth.locks = false) (hE : EvX tF (AA 72 a s.heap.size) s) (n : Nat) (x1 : Int32) (x2 : Int32) (S : St) : GF p l e rX0_coloursWorn s m args below meth c D 72 a (cX cI cZ cO a) (AA 72 a s.heap.size) 4 0 0 (fun res => MQ below (va_Qi (fun r u => (r, u) = res) (Bw D (tyW cI cZ cO) 72 a (cX cI cZ cO a) (AA 72 a s.heap.size)) (AA 72 a s.heap.size)) args s 0 0 (AA 72 a s.heap.size)) (lX0_coloursWorn_4 n x1 x2 S) 4 [(0, .ref (a 3)), (1, .int x1), (2, .int x2)] [] S :=
  lp_ind (P := fun k : Int32 → Int32 → St → Option (Int32 × St) => ∀ (x1 : Int32) (x2 : Int32) (S : St), GF p l e rX0_coloursWorn s m args below meth c D 72 a (cX cI cZ cO a) (AA 72 a s.heap.size) 4 0 0 (fun res => MQ below (va_Qi (fun r u => (r, u) = res) (Bw D (tyW cI cZ cO) 72 a (cX cI cZ cO a) (AA 72 a s.heap.size)) (AA 72 a s.heap.size)) args s 0 0 (AA 72 a s.heap.size)) (k x1 x2 S) 4 [(0, .ref (a 3)), (1, .int x1), (2, .int x2)] [] S) (fun _ _ _ => g_none) (fun k4 hk4 => tX0_coloursWorn_4 hc hr hlk hE k4 hk4) n x1 x2 S
set_option maxHeartbeats 4000000 in
set_option maxRecDepth 100000 in
theorem mX0_coloursWorn (S : St) : ∀ q, uX0_coloursWorn S = some q → Ki l yX0_coloursWorn wsX0_coloursWorn rX0_coloursWorn D (tyW cI cZ cO) 72 a (cX cI cZ cO a) (EvX tF) [.ref (a 3)] S q := by
  refine m_Ki (cc := cX0_coloursWorn) (nL := 4) (ret := (some .int)) (lv := [(0, .ref (a 3))]) (by decide) rfl (Nat.le_of_ble_eq_true rfl) rfl ?_
  intro p e s m args below meth c hc hr hlk hE
  unfold uX0_coloursWorn
  refine g_iconst (v := 0) hc dX0_coloursWorn_0 (by decide) ?_
  refine g_istore_n (L := fun v1 => [(1, .int v1), (0, .ref (a 3))]) hc dX0_coloursWorn_1 rfl (by decide) (fun _ => rfl) (fun v1 => ?_)
  refine g_iconst (v := 0) hc dX0_coloursWorn_2 (by decide) ?_
  refine g_istore_n (L := fun v2 => [(2, .int v2), (1, .int v1), (0, .ref (a 3))]) hc dX0_coloursWorn_3 rfl (by decide) (fun _ => rfl) (fun v2 => ?_)
  refine g_lv [2, 1, 0] rfl ?_
  exact TX0_coloursWorn_4 hc hr hlk hE FU v1 v2 S
end
