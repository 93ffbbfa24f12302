def cLaw_0 (xs : Nat → Int32) (L : Nat) (k : Int32 → St → Option Unit) (i : Int32) (Z : St) : Option Unit :=
  ck (i + 1) L (ck (i + 2) L (cg (uL_frame (xs (i + 1).toNatClampNeg) (xs (i + 2).toNatClampNeg) Z) (glW Z) (fun v2 Z1 => lt v2 (fun v3 => ck (i + 1) L (ck (i + 2) L (cg (uX9_frame (xs (i + 1).toNatClampNeg) (xs (i + 2).toNatClampNeg) (tM Z1)) (glM Z1) (fun _ Z4 => cg (uX9_thrown (tM Z4)) (glM Z4) (fun v7 Z6 => if v7 = v3 then k i Z6 else none))))))))
def cLaw_1 (xs : Nat → Int32) (L : Nat) (k : Int32 → St → Option Unit) (i : Int32) (Z : St) : Option Unit :=
  ck (i + 1) L (ck (i + 2) L (cg (uL_into (xs (i + 1).toNatClampNeg) (xs (i + 2).toNatClampNeg) Z) (glW Z) (fun v2 Z1 => lt v2 (fun v3 => ck (i + 1) L (ck (i + 2) L (cg (uX9_into (xs (i + 1).toNatClampNeg) (xs (i + 2).toNatClampNeg) (tM Z1)) (glM Z1) (fun v5 Z4 => lt v5 (fun v6 => cg (uX9_thrown (tM Z4)) (glM Z4) (fun v8 Z7 => if v8 = v3 then if v3 = 0 then if (lg_cmp ((Z7 72 0).toInt64) v6.toInt64) = 0 then k i Z7 else none else k i Z7 else none)))))))))
def cLaw_2 (xs : Nat → Int32) (L : Nat) (k : Int32 → St → Option Unit) (i : Int32) (Z : St) : Option Unit :=
  ck (i + 1) L (ck (i + 2) L (if (xs (i + 2).toNatClampNeg) = 0 then cg (uL_fold (xs (i + 1).toNatClampNeg) 0 Z) (glW Z) (fun v2 Z1 => lt v2 (fun v3 => ck (i + 1) L (ck (i + 2) L (if (xs (i + 2).toNatClampNeg) = 0 then cg (uX9_fold (xs (i + 1).toNatClampNeg) 0 (tM Z1)) (glM Z1) (fun v5 Z4 => lt v5 (fun v6 => cg (uX9_thrown (tM Z4)) (glM Z4) (fun v8 Z7 => if v8 = v3 then if v3 = 0 then if v6 = 0 then if (lg_cmp ((Z7 72 0).toInt64) ((0 : Int32).toInt64)) = 0 then k i Z7 else none else if (lg_cmp ((Z7 72 0).toInt64) ((1 : Int32).toInt64)) = 0 then k i Z7 else none else k i Z7 else none))) else cg (uX9_fold (xs (i + 1).toNatClampNeg) 1 (tM Z1)) (glM Z1) (fun v10 Z9 => lt v10 (fun v11 => cg (uX9_thrown (tM Z9)) (glM Z9) (fun v13 Z12 => if v13 = v3 then if v3 = 0 then if v11 = 0 then if (lg_cmp ((Z12 72 0).toInt64) ((0 : Int32).toInt64)) = 0 then k i Z12 else none else if (lg_cmp ((Z12 72 0).toInt64) ((1 : Int32).toInt64)) = 0 then k i Z12 else none else k i Z12 else none))))))) else cg (uL_fold (xs (i + 1).toNatClampNeg) 1 Z) (glW Z) (fun v15 Z14 => lt v15 (fun v16 => ck (i + 1) L (ck (i + 2) L (if (xs (i + 2).toNatClampNeg) = 0 then cg (uX9_fold (xs (i + 1).toNatClampNeg) 0 (tM Z14)) (glM Z14) (fun v18 Z17 => lt v18 (fun v19 => cg (uX9_thrown (tM Z17)) (glM Z17) (fun v21 Z20 => if v21 = v16 then if v16 = 0 then if v19 = 0 then if (lg_cmp ((Z20 72 0).toInt64) ((0 : Int32).toInt64)) = 0 then k i Z20 else none else if (lg_cmp ((Z20 72 0).toInt64) ((1 : Int32).toInt64)) = 0 then k i Z20 else none else k i Z20 else none))) else cg (uX9_fold (xs (i + 1).toNatClampNeg) 1 (tM Z14)) (glM Z14) (fun v23 Z22 => lt v23 (fun v24 => cg (uX9_thrown (tM Z22)) (glM Z22) (fun v26 Z25 => if v26 = v16 then if v16 = 0 then if v24 = 0 then if (lg_cmp ((Z25 72 0).toInt64) ((0 : Int32).toInt64)) = 0 then k i Z25 else none else if (lg_cmp ((Z25 72 0).toInt64) ((1 : Int32).toInt64)) = 0 then k i Z25 else none else k i Z25 else none)))))))))
def cLaw_3 (xs : Nat → Int32) (L : Nat) (k : Int32 → St → Option Unit) (i : Int32) (Z : St) : Option Unit :=
  ck (i + 1) L (ck (i + 2) L (ck (i + 3) L (cg (uL_table (xs (i + 1).toNatClampNeg) (xs (i + 2).toNatClampNeg) (xs (i + 3).toNatClampNeg) Z) (glW Z) (fun v2 Z1 => lt v2 (fun v3 => ck (i + 1) L (ck (i + 2) L (ck (i + 3) L (cg (uX9_table (xs (i + 1).toNatClampNeg) (xs (i + 2).toNatClampNeg) (xs (i + 3).toNatClampNeg) (tM Z1)) (glM Z1) (fun v5 Z4 => lt v5 (fun v6 => cg (uX9_thrown (tM Z4)) (glM Z4) (fun v8 Z7 => if v8 = v3 then if v3 = 0 then if (lg_cmp ((Z7 72 0).toInt64) v6.toInt64) = 0 then k i Z7 else none else k i Z7 else none)))))))))))
def cLaw_4 (xs : Nat → Int32) (L : Nat) (k : Int32 → St → Option Unit) (i : Int32) (Z : St) : Option Unit :=
  ck (i + 1) L (ck (i + 2) L (cg (uL_vat (xs (i + 1).toNatClampNeg) (xs (i + 2).toNatClampNeg) Z) (glW Z) (fun v2 Z1 => lt v2 (fun v3 => ck (i + 1) L (ck (i + 2) L (cg (uX9_vat (xs (i + 1).toNatClampNeg) (xs (i + 2).toNatClampNeg) (tM Z1)) (glM Z1) (fun v5 Z4 => lt v5 (fun v6 => cg (uX9_thrown (tM Z4)) (glM Z4) (fun v8 Z7 => if v8 = v3 then if v3 = 0 then if (lg_cmp ((Z7 72 0).toInt64) v6.toInt64) = 0 then k i Z7 else none else k i Z7 else none)))))))))
def cLaw_5 (xs : Nat → Int32) (L : Nat) (k : Int32 → St → Option Unit) (i : Int32) (Z : St) : Option Unit :=
  ck (i + 1) L (ck (i + 2) L (ck (i + 3) L (cg (uL_tie (xs (i + 1).toNatClampNeg) (xs (i + 2).toNatClampNeg) (xs (i + 3).toNatClampNeg) Z) (glW Z) (fun v2 Z1 => lt v2 (fun v3 => ck (i + 1) L (ck (i + 2) L (ck (i + 3) L (cg (uX9_tie (xs (i + 1).toNatClampNeg) (xs (i + 2).toNatClampNeg) (xs (i + 3).toNatClampNeg) (tM Z1)) (glM Z1) (fun v5 Z4 => lt v5 (fun v6 => cg (uX9_thrown (tM Z4)) (glM Z4) (fun v8 Z7 => if v8 = v3 then if v3 = 0 then if (lg_cmp ((Z7 72 0).toInt64) v6.toInt64) = 0 then k i Z7 else none else k i Z7 else none)))))))))))
def cLaw_6 (xs : Nat → Int32) (L : Nat) (k : Int32 → St → Option Unit) (i : Int32) (Z : St) : Option Unit :=
  ck (i + 1) L (ck (i + 2) L (ck (i + 3) L (cg (uL_untie (xs (i + 1).toNatClampNeg) (xs (i + 2).toNatClampNeg) (xs (i + 3).toNatClampNeg) Z) (glW Z) (fun v2 Z1 => lt v2 (fun v3 => ck (i + 1) L (ck (i + 2) L (ck (i + 3) L (cg (uX9_untie (xs (i + 1).toNatClampNeg) (xs (i + 2).toNatClampNeg) (xs (i + 3).toNatClampNeg) (tM Z1)) (glM Z1) (fun v5 Z4 => lt v5 (fun v6 => cg (uX9_thrown (tM Z4)) (glM Z4) (fun v8 Z7 => if v8 = v3 then if v3 = 0 then if (lg_cmp ((Z7 72 0).toInt64) v6.toInt64) = 0 then k i Z7 else none else k i Z7 else none)))))))))))
def cLaw_7 (xs : Nat → Int32) (L : Nat) (k : Int32 → St → Option Unit) (i : Int32) (Z : St) : Option Unit :=
  ck (i + 1) L (cg (uL_bath (xs (i + 1).toNatClampNeg) Z) (glW Z) (fun v2 Z1 => lt v2 (fun v3 => ck (i + 1) L (cg (uX9_bath (xs (i + 1).toNatClampNeg) (tM Z1)) (glM Z1) (fun v5 Z4 => lt v5 (fun v6 => cg (uX9_thrown (tM Z4)) (glM Z4) (fun v8 Z7 => if v8 = v3 then if v3 = 0 then if (lg_cmp ((Z7 72 0).toInt64) v6.toInt64) = 0 then k i Z7 else none else k i Z7 else none)))))))
def cLaw_8 (xs : Nat → Int32) (L : Nat) (k : Int32 → St → Option Unit) (i : Int32) (Z : St) : Option Unit :=
  ck (i + 1) L (ck (i + 2) L (cg (uL_colour (xs (i + 1).toNatClampNeg) (xs (i + 2).toNatClampNeg) Z) (glW Z) (fun v2 Z1 => lt v2 (fun v3 => ck (i + 1) L (ck (i + 2) L (cg (uX9_colour (xs (i + 1).toNatClampNeg) (xs (i + 2).toNatClampNeg) (tM Z1)) (glM Z1) (fun v5 Z4 => lt v5 (fun v6 => cg (uX9_thrown (tM Z4)) (glM Z4) (fun v8 Z7 => if v8 = v3 then if v3 = 0 then if (lg_cmp ((Z7 72 0).toInt64) v6.toInt64) = 0 then k i Z7 else none else k i Z7 else none)))))))))
def cLaw_9 (xs : Nat → Int32) (L : Nat) (k : Int32 → St → Option Unit) (i : Int32) (Z : St) : Option Unit :=
  ck (i + 1) L (ck (i + 2) L (cg (uL_bound (xs (i + 1).toNatClampNeg) (xs (i + 2).toNatClampNeg) Z) (glW Z) (fun v2 Z1 => lt v2 (fun v3 => ck (i + 1) L (ck (i + 2) L (cg (uX9_bound (xs (i + 1).toNatClampNeg) (xs (i + 2).toNatClampNeg) (tM Z1)) (glM Z1) (fun v5 Z4 => lt v5 (fun v6 => cg (uX9_thrown (tM Z4)) (glM Z4) (fun v8 Z7 => if v8 = v3 then if v3 = 0 then if v6 = 0 then if (lg_cmp ((Z7 72 0).toInt64) ((0 : Int32).toInt64)) = 0 then k i Z7 else none else if (lg_cmp ((Z7 72 0).toInt64) ((1 : Int32).toInt64)) = 0 then k i Z7 else none else k i Z7 else none)))))))))
def cLaw_10 (xs : Nat → Int32) (L : Nat) (k : Int32 → St → Option Unit) (i : Int32) (Z : St) : Option Unit :=
  ck (i + 1) L (ck (i + 2) L (ck (i + 3) L (cg (uL_want (xs (i + 1).toNatClampNeg) (xs (i + 2).toNatClampNeg) (xs (i + 3).toNatClampNeg) Z) (glW Z) (fun v2 Z1 => lt v2 (fun v3 => ck (i + 1) L (ck (i + 2) L (ck (i + 3) L (cg (uX9_want (xs (i + 1).toNatClampNeg) (xs (i + 2).toNatClampNeg) (xs (i + 3).toNatClampNeg) (tM Z1)) (glM Z1) (fun v5 Z4 => lt v5 (fun v6 => cg (uX9_thrown (tM Z4)) (glM Z4) (fun v8 Z7 => if v8 = v3 then if v3 = 0 then if (lg_cmp ((Z7 72 0).toInt64) v6.toInt64) = 0 then k i Z7 else none else k i Z7 else none)))))))))))
def cLaw_11 (xs : Nat → Int32) (L : Nat) (k : Int32 → St → Option Unit) (i : Int32) (Z : St) : Option Unit :=
  ck (i + 1) L (cg (uL_plan (xs (i + 1).toNatClampNeg) Z) (glW Z) (fun v2 Z1 => lt v2 (fun v3 => ck (i + 1) L (cg (uX9_plan (xs (i + 1).toNatClampNeg) (tM Z1)) (glM Z1) (fun v5 Z4 => lt v5 (fun v6 => cg (uX9_thrown (tM Z4)) (glM Z4) (fun v8 Z7 => if v8 = v3 then if v3 = 0 then if (lg_cmp ((Z7 72 0).toInt64) v6.toInt64) = 0 then k i Z7 else none else k i Z7 else none)))))))
def cLaw_12 (xs : Nat → Int32) (L : Nat) (k : Int32 → St → Option Unit) (i : Int32) (Z : St) : Option Unit :=
  ck (i + 1) L (cg (uL_best (xs (i + 1).toNatClampNeg) Z) (glW Z) (fun v2 Z1 => lt v2 (fun v3 => ck (i + 1) L (cg (uX9_best (xs (i + 1).toNatClampNeg) (tM Z1)) (glM Z1) (fun v5 Z4 => lt v5 (fun v6 => cg (uX9_thrown (tM Z4)) (glM Z4) (fun v8 Z7 => if v8 = v3 then if v3 = 0 then if (lg_cmp ((Z7 72 0).toInt64) v6.toInt64) = 0 then k i Z7 else none else k i Z7 else none)))))))
def cLaw_13 (xs : Nat → Int32) (L : Nat) (k : Int32 → St → Option Unit) (i : Int32) (Z : St) : Option Unit :=
  ck (i + 1) L (cg (uL_kept (xs (i + 1).toNatClampNeg) Z) (glW Z) (fun v2 Z1 => lt v2 (fun v3 => ck (i + 1) L (cg (uX9_kept (xs (i + 1).toNatClampNeg) (tM Z1)) (glM Z1) (fun v5 Z4 => lt v5 (fun v6 => cg (uX9_thrown (tM Z4)) (glM Z4) (fun v8 Z7 => if v8 = v3 then if v3 = 0 then if (lg_cmp ((Z7 72 0).toInt64) v6.toInt64) = 0 then k i Z7 else none else k i Z7 else none)))))))
def cLaw_14 (xs : Nat → Int32) (L : Nat) (k : Int32 → St → Option Unit) (i : Int32) (Z : St) : Option Unit :=
  ck (i + 1) L (ck (i + 2) L (cg (uL_bits (xs (i + 1).toNatClampNeg) (xs (i + 2).toNatClampNeg) Z) (glW Z) (fun v2 Z1 => lt v2 (fun v3 => ck (i + 1) L (ck (i + 2) L (cg (uX9_bits (xs (i + 1).toNatClampNeg) (xs (i + 2).toNatClampNeg) (tM Z1)) (glM Z1) (fun v5 Z4 => lt v5 (fun v6 => cg (uX9_thrown (tM Z4)) (glM Z4) (fun v8 Z7 => if v8 = v3 then if v3 = 0 then if (lg_cmp ((Z7 72 0).toInt64) v6.toInt64) = 0 then k i Z7 else none else k i Z7 else none)))))))))
def cLaw_15 (xs : Nat → Int32) (L : Nat) (k : Int32 → St → Option Unit) (i : Int32) (Z : St) : Option Unit :=
  cg (uX8_dye Z) (glX Z) (fun v2 Z1 => cg (uX9_dye (tM Z1)) (glM Z1) (fun v4 Z3 => if v2 = v4 then k i Z3 else none))
def cLaw_16 (xs : Nat → Int32) (L : Nat) (k : Int32 → St → Option Unit) (i : Int32) (Z : St) : Option Unit :=
  ck (i + 1) L (ck (i + 2) L (ck (i + 3) L (cg (uL_slip (xs (i + 1).toNatClampNeg) (xs (i + 2).toNatClampNeg) (xs (i + 3).toNatClampNeg) Z) (glW Z) (fun v2 Z1 => lt v2 (fun v3 => ck (i + 1) L (ck (i + 2) L (ck (i + 3) L (cg (uX9_slip (xs (i + 1).toNatClampNeg) (xs (i + 2).toNatClampNeg) (xs (i + 3).toNatClampNeg) (tM Z1)) (glM Z1) (fun _ Z4 => cg (uX9_thrown (tM Z4)) (glM Z4) (fun v7 Z6 => if v7 = v3 then k i Z6 else none))))))))))
def cLaw_17 (xs : Nat → Int32) (L : Nat) (k : Int32 → St → Option Unit) (i : Int32) (Z : St) : Option Unit :=
  ck (i + 1) L (ck (i + 2) L (cg (uL_seen (xs (i + 1).toNatClampNeg) (xs (i + 2).toNatClampNeg) Z) (glW Z) (fun v2 Z1 => lt v2 (fun v3 => ck (i + 1) L (ck (i + 2) L (cg (uX9_seen (xs (i + 1).toNatClampNeg) (xs (i + 2).toNatClampNeg) (tM Z1)) (glM Z1) (fun v5 Z4 => lt v5 (fun v6 => cg (uX9_thrown (tM Z4)) (glM Z4) (fun v8 Z7 => if v8 = v3 then if v3 = 0 then if (lg_cmp ((Z7 72 0).toInt64) v6.toInt64) = 0 then k i Z7 else none else k i Z7 else none)))))))))
def cLaw_18 (xs : Nat → Int32) (L : Nat) (k : Int32 → St → Option Unit) (i : Int32) (Z : St) : Option Unit :=
  cg (uX8_blurred Z) (glX Z) (fun v2 Z1 => cg (uX9_blurred (tM Z1)) (glM Z1) (fun v4 Z3 => if v2 = v4 then k i Z3 else none))
def cLaw_19 (xs : Nat → Int32) (L : Nat) (k : Int32 → St → Option Unit) (i : Int32) (Z : St) : Option Unit :=
  ck (i + 1) L (ck (i + 2) L (ck (i + 3) L (cg (uX8_law (xs (i + 1).toNatClampNeg) (xs (i + 2).toNatClampNeg) (xs (i + 3).toNatClampNeg) Z) (glX Z) (fun v2 Z1 => ck (i + 1) L (ck (i + 2) L (ck (i + 3) L (cg (uX9_law (xs (i + 1).toNatClampNeg) (xs (i + 2).toNatClampNeg) (xs (i + 3).toNatClampNeg) (tM Z1)) (glM Z1) (fun v4 Z3 => if v2 = v4 then k i Z3 else none))))))))
def cLaw_20 (xs : Nat → Int32) (L : Nat) (k : Int32 → St → Option Unit) (i : Int32) (Z : St) : Option Unit :=
  ck (i + 1) L (cg (uL_rank (xs (i + 1).toNatClampNeg) Z) (glW Z) (fun v2 Z1 => lt v2 (fun v3 => ck (i + 1) L (cg (uX9_rank (xs (i + 1).toNatClampNeg) (tM Z1)) (glM Z1) (fun v5 Z4 => lt v5 (fun v6 => cg (uX9_thrown (tM Z4)) (glM Z4) (fun v8 Z7 => if v8 = v3 then if v3 = 0 then if (lg_cmp ((Z7 72 0).toInt64) v6.toInt64) = 0 then k i Z7 else none else k i Z7 else none)))))))
def cLaw_21 (xs : Nat → Int32) (L : Nat) (k : Int32 → St → Option Unit) (i : Int32) (Z : St) : Option Unit :=
  ck (i + 1) L (cg (uL_count (xs (i + 1).toNatClampNeg) Z) (glW Z) (fun v2 Z1 => lt v2 (fun v3 => ck (i + 1) L (cg (uX9_count (xs (i + 1).toNatClampNeg) (tM Z1)) (glM Z1) (fun v5 Z4 => lt v5 (fun v6 => cg (uX9_thrown (tM Z4)) (glM Z4) (fun v8 Z7 => if v8 = v3 then if v3 = 0 then if (lg_cmp ((Z7 72 0).toInt64) v6.toInt64) = 0 then k i Z7 else none else k i Z7 else none)))))))
def hLaw (xs : Nat → Int32) (L : Nat) (k : Int32 → St → Option Unit) (i : Int32) (Z : St) : Option Unit :=
  if nI L - 4 < i then some () else ck i L (tsw (xs i.toNatClampNeg &&& 31) [cLaw_0 xs L k i Z, cLaw_1 xs L k i Z, cLaw_2 xs L k i Z, cLaw_3 xs L k i Z, cLaw_4 xs L k i Z, cLaw_5 xs L k i Z, cLaw_6 xs L k i Z, cLaw_7 xs L k i Z, cLaw_8 xs L k i Z, cLaw_9 xs L k i Z, cLaw_10 xs L k i Z, cLaw_11 xs L k i Z, cLaw_12 xs L k i Z, cLaw_13 xs L k i Z, cLaw_14 xs L k i Z, cLaw_15 xs L k i Z, cLaw_16 xs L k i Z, cLaw_17 xs L k i Z, cLaw_18 xs L k i Z, cLaw_19 xs L k i Z, cLaw_20 xs L k i Z, cLaw_21 xs L k i Z] (k i Z))
def uLaw (xs : Nat → Int32) (L : Nat) : Nat → Int32 → St → Option Unit
  | 0, _, _ => none
  | n + 1, i, Z => hLaw xs L (fun i Z => lt (i + 4) (fun v => uLaw xs L n v Z)) i Z
def tgL : Nat → Nat := fun i => ([140, 188, 256, 347, 427, 495, 575, 655, 711, 779, 854, 934, 990, 1046, 1102, 1170, 1183, 1243, 1311, 1324, 1373, 1429] : List Nat).getD i 0
section
variable {l : Launch} {D : va_G} {cI cZ cO cJ : ClassId} {a : Nat → Nat} {tF b L : Nat} {xs : Nat → Int32} {p : Program} {e : Env} {s : State} {m : MethodId} {below : List Frame} {meth : Method} {c : Code} {A : Nat → Prop}
set_option maxHeartbeats 4000000 in
set_option maxRecDepth 100000 in
theorem tLaw_0 (hst : l.stackTraces = false) (hc : CT p s m #[Value.ref b] c code 7 RL lw_tbl D (tyY cI cZ cO cJ)) (hE : EvY tF A s) (hA : A = AA 90 a s.heap.size) (hX : va_X b L xs s s.heap) (hbl : b < s.heap.size) (hbA : ¬ A b) {cs ss : Nat} (hcs : cs + 8 ≤ 601024) (hss : ss + 64 ≤ 7293034) (k : Int32 → St → Option Unit) (hk : ∀ (i : Int32) (Z : St), GF p l e room_1 s m #[Value.ref b] below meth c D 90 a (cL cI cZ cO cJ a) A 7 (cs + 8) (ss + 64) (fun _ : Unit => lw_Z below #[Value.ref b] s) (k i Z) 1485 [(0, .ref b), (1, .ref (a 0)), (2, .ref (aM a 0)), (3, .ref (a 72)), (4, .int i)] [] Z) (i : Int32) (Z : St) : GF p l e room_1 s m #[Value.ref b] below meth c D 90 a (cL cI cZ cO cJ a) A 7 cs ss (fun _ : Unit => lw_Z below #[Value.ref b] s) (cLaw_0 xs L k i Z) 140 [(0, .ref b), (1, .ref (a 0)), (2, .ref (aM a 0)), (3, .ref (a 72)), (4, .int i)] [] Z := by
  unfold cLaw_0
  refine g_aload_n (j := 1) hc dL_law_140 rfl rfl ?_
  refine g_aload_n (j := 0) hc dL_law_141 rfl rfl ?_
  refine g_iload (j := 4) hc dL_law_142 rfl ?_
  refine g_iconst (v := 1) hc dL_law_144 (by decide) ?_
  refine g_iadd hc dL_law_145 ?_
  refine g_sld hc hX hbl hbA dL_law_146 ?_
  refine g_aload_n (j := 0) hc dL_law_147 rfl rfl ?_
  refine g_iload (j := 4) hc dL_law_148 rfl ?_
  refine g_iconst (v := 2) hc dL_law_150 (by decide) ?_
  refine g_iadd hc dL_law_151 ?_
  refine g_sld hc hX hbl hbA dL_law_152 ?_
  refine g_lW (As := [.ref (a 0), .int (xs (i + 1).toNatClampNeg), .int (xs (i + 2).toNatClampNeg)]) (rest := []) (hh := [(0, 6, 9, 13)]) hc hE hA (fun _ h => mL_frame hst (xs (i + 1).toNatClampNeg) (xs (i + 2).toNatClampNeg) Z _ h) (vx_cwSW 3 hc.1.2.2.2.2 lts_L_frame rfl rfl rfl (by decide +kernel) ⟨by decide, by decide⟩) rfl rfl (Nat.le_of_ble_eq_true rfl) dL_law_153 ⟨Nat.le_trans (Nat.add_le_add_left (by decide) cs) hcs, Nat.le_trans (Nat.add_le_add_left (by decide) ss) hss⟩ (fun v2 Z1 => ?_)
  refine g_wid (k := cs + 8) (n := ss + 64) (Nat.add_le_add_left (by decide) cs) (Nat.add_le_add_left (by decide) ss) ?_
  refine g_istore (L := fun v3 => [(5, .int v3), (0, .ref b), (1, .ref (a 0)), (2, .ref (aM a 0)), (3, .ref (a 72)), (4, .int i)]) hc dL_law_156 (by decide) (fun _ => rfl) (fun v3 => ?_)
  refine g_aload_n (j := 3) hc dL_law_158 rfl rfl ?_
  refine g_aload_n (j := 1) hc dL_law_159 rfl rfl ?_
  refine g_iload (j := 5) hc dL_law_160 rfl ?_
  refine g_iconst (v := 1) hc dL_law_162 (by decide) ?_
  refine g_iadd hc dL_law_163 ?_
  refine g_sld hc hX hbl hbA dL_law_164 ?_
  refine g_aload_n (j := 1) hc dL_law_165 rfl rfl ?_
  refine g_iload (j := 5) hc dL_law_166 rfl ?_
  refine g_iconst (v := 2) hc dL_law_168 (by decide) ?_
  refine g_iadd hc dL_law_169 ?_
  refine g_sld hc hX hbl hbA dL_law_170 ?_
  refine g_lMv (As := [.int (xs (i + 1).toNatClampNeg), .int (xs (i + 2).toNatClampNeg)]) (rest := []) hc hE hA (fun _ h => mX9_frame (xs (i + 1).toNatClampNeg) (xs (i + 2).toNatClampNeg) (tM Z1) _ h) (cwV 2 hc.1.2.2.2.2 lts_X9_frame rfl rfl rfl (by decide +kernel) ⟨by decide, by decide⟩) rfl rfl (Nat.le_of_ble_eq_true rfl) dL_law_171 ⟨hcs, hss⟩ (fun Z4 => ?_)
  refine g_aload_n (j := 3) hc dL_law_174 rfl rfl ?_
  refine g_lMi (As := []) (rest := []) hc hE hA (fun _ h => mX9_thrown (tM Z4) _ h) (cwV 0 hc.1.2.2.2.2 lts_X9_thrown rfl rfl rfl (by decide +kernel) ⟨by decide, by decide⟩) rfl rfl (Nat.le_of_ble_eq_true rfl) dL_law_175 ⟨hcs, hss⟩ (fun v7 Z6 => ?_)
  refine g_iload (j := 0) hc dL_law_178 rfl ?_
  refine g_icmp_eq (tgt := 185) hc dL_law_180 (by decide) ?_ ?_
  · refine g_goto (tgt := 1485) hc dL_law_185 (by decide) ?_
    refine g_lv [1, 2, 3, 4, 5] rfl ?_
    exact hk i Z6
  · refine g_iconst (v := 0) hc dL_law_183 (by decide) ?_
    exact g_none
set_option maxHeartbeats 4000000 in
set_option maxRecDepth 100000 in
theorem tLaw_1 (hst : l.stackTraces = false) (hc : CT p s m #[Value.ref b] c code 7 RL lw_tbl D (tyY cI cZ cO cJ)) (hE : EvY tF A s) (hA : A = AA 90 a s.heap.size) (hX : va_X b L xs s s.heap) (hbl : b < s.heap.size) (hbA : ¬ A b) {cs ss : Nat} (hcs : cs + 8 ≤ 601024) (hss : ss + 64 ≤ 7293034) (k : Int32 → St → Option Unit) (hk : ∀ (i : Int32) (Z : St), GF p l e room_1 s m #[Value.ref b] below meth c D 90 a (cL cI cZ cO cJ a) A 7 (cs + 8) (ss + 64) (fun _ : Unit => lw_Z below #[Value.ref b] s) (k i Z) 1485 [(0, .ref b), (1, .ref (a 0)), (2, .ref (aM a 0)), (3, .ref (a 72)), (4, .int i)] [] Z) (i : Int32) (Z : St) : GF p l e room_1 s m #[Value.ref b] below meth c D 90 a (cL cI cZ cO cJ a) A 7 cs ss (fun _ : Unit => lw_Z below #[Value.ref b] s) (cLaw_1 xs L k i Z) 188 [(0, .ref b), (1, .ref (a 0)), (2, .ref (aM a 0)), (3, .ref (a 72)), (4, .int i)] [] Z := by
  unfold cLaw_1
  refine g_aload_n (j := 1) hc dL_law_188 rfl rfl ?_
  refine g_aload_n (j := 0) hc dL_law_189 rfl rfl ?_
  refine g_iload (j := 4) hc dL_law_190 rfl ?_
  refine g_iconst (v := 1) hc dL_law_192 (by decide) ?_
  refine g_iadd hc dL_law_193 ?_
  refine g_sld hc hX hbl hbA dL_law_194 ?_
  refine g_aload_n (j := 0) hc dL_law_195 rfl rfl ?_
  refine g_iload (j := 4) hc dL_law_196 rfl ?_
  refine g_iconst (v := 2) hc dL_law_198 (by decide) ?_
  refine g_iadd hc dL_law_199 ?_
  refine g_sld hc hX hbl hbA dL_law_200 ?_
  refine g_aload_n (j := 3) hc dL_law_201 rfl rfl ?_
  refine g_lW (As := [.ref (a 0), .int (xs (i + 1).toNatClampNeg), .int (xs (i + 2).toNatClampNeg), .ref (a 72)]) (rest := []) (hh := [(0, 10, 13, 19)]) hc hE hA (fun _ h => mL_into hst (xs (i + 1).toNatClampNeg) (xs (i + 2).toNatClampNeg) Z _ h) (vx_cwSW 4 hc.1.2.2.2.2 lts_L_into rfl rfl rfl (by decide +kernel) ⟨by decide, by decide⟩) rfl rfl (Nat.le_of_ble_eq_true rfl) dL_law_202 ⟨Nat.le_trans (Nat.add_le_add_left (by decide) cs) hcs, Nat.le_trans (Nat.add_le_add_left (by decide) ss) hss⟩ (fun v2 Z1 => ?_)
  refine g_wid (k := cs + 8) (n := ss + 64) (Nat.add_le_add_left (by decide) cs) (Nat.add_le_add_left (by decide) ss) ?_
  refine g_istore (L := fun v3 => [(5, .int v3), (0, .ref b), (1, .ref (a 0)), (2, .ref (aM a 0)), (3, .ref (a 72)), (4, .int i)]) hc dL_law_205 (by decide) (fun _ => rfl) (fun v3 => ?_)
  refine g_aload_n (j := 3) hc dL_law_207 rfl rfl ?_
  refine g_aload_n (j := 1) hc dL_law_208 rfl rfl ?_
  refine g_iload (j := 5) hc dL_law_209 rfl ?_
  refine g_iconst (v := 1) hc dL_law_211 (by decide) ?_
  refine g_iadd hc dL_law_212 ?_
  refine g_sld hc hX hbl hbA dL_law_213 ?_
  refine g_aload_n (j := 1) hc dL_law_214 rfl rfl ?_
  refine g_iload (j := 5) hc dL_law_215 rfl ?_
  refine g_iconst (v := 2) hc dL_law_217 (by decide) ?_
  refine g_iadd hc dL_law_218 ?_
  refine g_sld hc hX hbl hbA dL_law_219 ?_
  refine g_lMi (As := [.int (xs (i + 1).toNatClampNeg), .int (xs (i + 2).toNatClampNeg)]) (rest := []) hc hE hA (fun _ h => mX9_into (xs (i + 1).toNatClampNeg) (xs (i + 2).toNatClampNeg) (tM Z1) _ h) (cwV 2 hc.1.2.2.2.2 lts_X9_into rfl rfl rfl (by decide +kernel) ⟨by decide, by decide⟩) rfl rfl (Nat.le_of_ble_eq_true rfl) dL_law_220 ⟨hcs, hss⟩ (fun v5 Z4 => ?_)
  refine g_istore (L := fun v6 => [(6, .int v6), (5, .int v3), (0, .ref b), (1, .ref (a 0)), (2, .ref (aM a 0)), (3, .ref (a 72)), (4, .int i)]) hc dL_law_223 (by decide) (fun _ => rfl) (fun v6 => ?_)
  refine g_aload_n (j := 4) hc dL_law_225 rfl rfl ?_
  refine g_lMi (As := []) (rest := []) hc hE hA (fun _ h => mX9_thrown (tM Z4) _ h) (cwV 0 hc.1.2.2.2.2 lts_X9_thrown rfl rfl rfl (by decide +kernel) ⟨by decide, by decide⟩) rfl rfl (Nat.le_of_ble_eq_true rfl) dL_law_226 ⟨hcs, hss⟩ (fun v8 Z7 => ?_)
  refine g_iload (j := 1) hc dL_law_229 rfl ?_
  refine g_icmp_eq (tgt := 236) hc dL_law_231 (by decide) ?_ ?_
  · refine g_iload (j := 1) hc dL_law_236 rfl ?_
    refine g_if_ne (tgt := 253) hc dL_law_238 (by decide) ?_ ?_
    · refine g_goto (tgt := 1485) hc dL_law_253 (by decide) ?_
      refine g_lv [2, 3, 4, 5, 6] rfl ?_
      exact hk i Z7
    · refine g_aload_n (j := 5) hc dL_law_241 rfl rfl ?_
      refine g_iconst (v := 0) hc dL_law_242 (by decide) ?_
      refine g_laload (k := 72) (t0 := 3) hc (by decide) (fun _ => rfl) rfl dL_law_243 ?_
      refine g_iload (j := 0) hc dL_law_244 rfl ?_
      refine g_i2l hc dL_law_246 ?_
      refine g_lcmp hc dL_law_247 ?_
      refine g_if_eq (tgt := 253) hc dL_law_248 (by decide) ?_ ?_
      · refine g_goto (tgt := 1485) hc dL_law_253 (by decide) ?_
        refine g_lv [2, 3, 4, 5, 6] rfl ?_
        exact hk i Z7
      · refine g_iconst (v := 0) hc dL_law_251 (by decide) ?_
        exact g_none
  · refine g_iconst (v := 0) hc dL_law_234 (by decide) ?_
    exact g_none
set_option maxHeartbeats 4000000 in
set_option maxRecDepth 100000 in
theorem tLaw_2 (hst : l.stackTraces = false) (hc : CT p s m #[Value.ref b] c code 7 RL lw_tbl D (tyY cI cZ cO cJ)) (hE : EvY tF A s) (hA : A = AA 90 a s.heap.size) (hX : va_X b L xs s s.heap) (hbl : b < s.heap.size) (hbA : ¬ A b) {cs ss : Nat} (hcs : cs + 8 ≤ 601024) (hss : ss + 64 ≤ 7293034) (k : Int32 → St → Option Unit) (hk : ∀ (i : Int32) (Z : St), GF p l e room_1 s m #[Value.ref b] below meth c D 90 a (cL cI cZ cO cJ a) A 7 (cs + 8) (ss + 64) (fun _ : Unit => lw_Z below #[Value.ref b] s) (k i Z) 1485 [(0, .ref b), (1, .ref (a 0)), (2, .ref (aM a 0)), (3, .ref (a 72)), (4, .int i)] [] Z) (i : Int32) (Z : St) : GF p l e room_1 s m #[Value.ref b] below meth c D 90 a (cL cI cZ cO cJ a) A 7 cs ss (fun _ : Unit => lw_Z below #[Value.ref b] s) (cLaw_2 xs L k i Z) 256 [(0, .ref b), (1, .ref (a 0)), (2, .ref (aM a 0)), (3, .ref (a 72)), (4, .int i)] [] Z := by
  unfold cLaw_2
  refine g_aload_n (j := 1) hc dL_law_256 rfl rfl ?_
  refine g_aload_n (j := 0) hc dL_law_257 rfl rfl ?_
  refine g_iload (j := 4) hc dL_law_258 rfl ?_
  refine g_iconst (v := 1) hc dL_law_260 (by decide) ?_
  refine g_iadd hc dL_law_261 ?_
  refine g_sld hc hX hbl hbA dL_law_262 ?_
  refine g_aload_n (j := 0) hc dL_law_263 rfl rfl ?_
  refine g_iload (j := 4) hc dL_law_264 rfl ?_
  refine g_iconst (v := 2) hc dL_law_266 (by decide) ?_
  refine g_iadd hc dL_law_267 ?_
  refine g_sld hc hX hbl hbA dL_law_268 ?_
  refine g_if_eq (tgt := 276) hc dL_law_269 (by decide) ?_ ?_
  · refine g_iconst (v := 0) hc dL_law_276 (by decide) ?_
    refine g_aload_n (j := 3) hc dL_law_277 rfl rfl ?_
    refine g_lW (As := [.ref (a 0), .int (xs (i + 1).toNatClampNeg), .int 0, .ref (a 72)]) (rest := []) (hh := [(0, 17, 20, 19)]) hc hE hA (fun _ h => mL_fold hst (xs (i + 1).toNatClampNeg) 0 Z _ h) (vx_cwSW 4 hc.1.2.2.2.2 lts_L_fold rfl rfl rfl (by decide +kernel) ⟨by decide, by decide⟩) rfl rfl (Nat.le_of_ble_eq_true rfl) dL_law_278 ⟨Nat.le_trans (Nat.add_le_add_left (by decide) cs) hcs, Nat.le_trans (Nat.add_le_add_left (by decide) ss) hss⟩ (fun v2 Z1 => ?_)
    refine g_wid (k := cs + 8) (n := ss + 64) (Nat.add_le_add_left (by decide) cs) (Nat.add_le_add_left (by decide) ss) ?_
    refine g_istore (L := fun v3 => [(5, .int v3), (0, .ref b), (1, .ref (a 0)), (2, .ref (aM a 0)), (3, .ref (a 72)), (4, .int i)]) hc dL_law_281 (by decide) (fun _ => rfl) (fun v3 => ?_)
    refine g_aload_n (j := 3) hc dL_law_283 rfl rfl ?_
    refine g_aload_n (j := 1) hc dL_law_284 rfl rfl ?_
    refine g_iload (j := 5) hc dL_law_285 rfl ?_
    refine g_iconst (v := 1) hc dL_law_287 (by decide) ?_
    refine g_iadd hc dL_law_288 ?_
    refine g_sld hc hX hbl hbA dL_law_289 ?_
    refine g_aload_n (j := 1) hc dL_law_290 rfl rfl ?_
    refine g_iload (j := 5) hc dL_law_291 rfl ?_
    refine g_iconst (v := 2) hc dL_law_293 (by decide) ?_
    refine g_iadd hc dL_law_294 ?_
    refine g_sld hc hX hbl hbA dL_law_295 ?_
    refine g_if_eq (tgt := 303) hc dL_law_296 (by decide) ?_ ?_
    · refine g_iconst (v := 0) hc dL_law_303 (by decide) ?_
      refine g_lMi (As := [.int (xs (i + 1).toNatClampNeg), .int 0]) (rest := []) hc hE hA (fun _ h => mX9_fold (xs (i + 1).toNatClampNeg) 0 (tM Z1) _ h) (cwV 2 hc.1.2.2.2.2 lts_X9_fold rfl rfl rfl (by decide +kernel) ⟨by decide, by decide⟩) rfl rfl (Nat.le_of_ble_eq_true rfl) dL_law_304 ⟨hcs, hss⟩ (fun v5 Z4 => ?_)
      refine g_istore (L := fun v6 => [(6, .int v6), (5, .int v3), (0, .ref b), (1, .ref (a 0)), (2, .ref (aM a 0)), (3, .ref (a 72)), (4, .int i)]) hc dL_law_307 (by decide) (fun _ => rfl) (fun v6 => ?_)
      refine g_aload_n (j := 4) hc dL_law_309 rfl rfl ?_
      refine g_lMi (As := []) (rest := []) hc hE hA (fun _ h => mX9_thrown (tM Z4) _ h) (cwV 0 hc.1.2.2.2.2 lts_X9_thrown rfl rfl rfl (by decide +kernel) ⟨by decide, by decide⟩) rfl rfl (Nat.le_of_ble_eq_true rfl) dL_law_310 ⟨hcs, hss⟩ (fun v8 Z7 => ?_)
      refine g_iload (j := 1) hc dL_law_313 rfl ?_
      refine g_icmp_eq (tgt := 320) hc dL_law_315 (by decide) ?_ ?_
      · refine g_iload (j := 1) hc dL_law_320 rfl ?_
        refine g_if_ne (tgt := 344) hc dL_law_322 (by decide) ?_ ?_
        · refine g_goto (tgt := 1485) hc dL_law_344 (by decide) ?_
          refine g_lv [2, 3, 4, 5, 6] rfl ?_
          exact hk i Z7
        · refine g_aload_n (j := 5) hc dL_law_325 rfl rfl ?_
          refine g_iconst (v := 0) hc dL_law_326 (by decide) ?_
          refine g_laload (k := 72) (t0 := 3) hc (by decide) (fun _ => rfl) rfl dL_law_327 ?_
          refine g_iload (j := 0) hc dL_law_328 rfl ?_
          refine g_if_eq (tgt := 337) hc dL_law_330 (by decide) ?_ ?_
          · refine g_lconst (v := 0) hc dL_law_337 (by decide) ?_
            refine g_lcmp hc dL_law_338 ?_
            refine g_if_eq (tgt := 344) hc dL_law_339 (by decide) ?_ ?_
            · refine g_goto (tgt := 1485) hc dL_law_344 (by decide) ?_
              refine g_lv [2, 3, 4, 5, 6] rfl ?_
              exact hk i Z7
            · refine g_iconst (v := 0) hc dL_law_342 (by decide) ?_
              exact g_none
          · refine g_lconst (v := 1) hc dL_law_333 (by decide) ?_
            refine g_goto (tgt := 338) hc dL_law_334 (by decide) ?_
            refine g_lcmp hc dL_law_338 ?_
            refine g_if_eq (tgt := 344) hc dL_law_339 (by decide) ?_ ?_
            · refine g_goto (tgt := 1485) hc dL_law_344 (by decide) ?_
              refine g_lv [2, 3, 4, 5, 6] rfl ?_
              exact hk i Z7
            · refine g_iconst (v := 0) hc dL_law_342 (by decide) ?_
              exact g_none
      · refine g_iconst (v := 0) hc dL_law_318 (by decide) ?_
        exact g_none
    · refine g_iconst (v := 1) hc dL_law_299 (by decide) ?_
      refine g_goto (tgt := 304) hc dL_law_300 (by decide) ?_
      refine g_lMi (As := [.int (xs (i + 1).toNatClampNeg), .int 1]) (rest := []) hc hE hA (fun _ h => mX9_fold (xs (i + 1).toNatClampNeg) 1 (tM Z1) _ h) (cwV 2 hc.1.2.2.2.2 lts_X9_fold rfl rfl rfl (by decide +kernel) ⟨by decide, by decide⟩) rfl rfl (Nat.le_of_ble_eq_true rfl) dL_law_304 ⟨hcs, hss⟩ (fun v10 Z9 => ?_)
      refine g_istore (L := fun v11 => [(6, .int v11), (5, .int v3), (0, .ref b), (1, .ref (a 0)), (2, .ref (aM a 0)), (3, .ref (a 72)), (4, .int i)]) hc dL_law_307 (by decide) (fun _ => rfl) (fun v11 => ?_)
      refine g_aload_n (j := 4) hc dL_law_309 rfl rfl ?_
      refine g_lMi (As := []) (rest := []) hc hE hA (fun _ h => mX9_thrown (tM Z9) _ h) (cwV 0 hc.1.2.2.2.2 lts_X9_thrown rfl rfl rfl (by decide +kernel) ⟨by decide, by decide⟩) rfl rfl (Nat.le_of_ble_eq_true rfl) dL_law_310 ⟨hcs, hss⟩ (fun v13 Z12 => ?_)
      refine g_iload (j := 1) hc dL_law_313 rfl ?_
      refine g_icmp_eq (tgt := 320) hc dL_law_315 (by decide) ?_ ?_
      · refine g_iload (j := 1) hc dL_law_320 rfl ?_
        refine g_if_ne (tgt := 344) hc dL_law_322 (by decide) ?_ ?_
        · refine g_goto (tgt := 1485) hc dL_law_344 (by decide) ?_
          refine g_lv [2, 3, 4, 5, 6] rfl ?_
          exact hk i Z12
        · refine g_aload_n (j := 5) hc dL_law_325 rfl rfl ?_
          refine g_iconst (v := 0) hc dL_law_326 (by decide) ?_
          refine g_laload (k := 72) (t0 := 3) hc (by decide) (fun _ => rfl) rfl dL_law_327 ?_
          refine g_iload (j := 0) hc dL_law_328 rfl ?_
          refine g_if_eq (tgt := 337) hc dL_law_330 (by decide) ?_ ?_
          · refine g_lconst (v := 0) hc dL_law_337 (by decide) ?_
            refine g_lcmp hc dL_law_338 ?_
            refine g_if_eq (tgt := 344) hc dL_law_339 (by decide) ?_ ?_
            · refine g_goto (tgt := 1485) hc dL_law_344 (by decide) ?_
              refine g_lv [2, 3, 4, 5, 6] rfl ?_
              exact hk i Z12
            · refine g_iconst (v := 0) hc dL_law_342 (by decide) ?_
              exact g_none
          · refine g_lconst (v := 1) hc dL_law_333 (by decide) ?_
            refine g_goto (tgt := 338) hc dL_law_334 (by decide) ?_
            refine g_lcmp hc dL_law_338 ?_
            refine g_if_eq (tgt := 344) hc dL_law_339 (by decide) ?_ ?_
            · refine g_goto (tgt := 1485) hc dL_law_344 (by decide) ?_
              refine g_lv [2, 3, 4, 5, 6] rfl ?_
              exact hk i Z12
            · refine g_iconst (v := 0) hc dL_law_342 (by decide) ?_
              exact g_none
      · refine g_iconst (v := 0) hc dL_law_318 (by decide) ?_
        exact g_none
  · refine g_iconst (v := 1) hc dL_law_272 (by decide) ?_
    refine g_goto (tgt := 277) hc dL_law_273 (by decide) ?_
    refine g_aload_n (j := 3) hc dL_law_277 rfl rfl ?_
    refine g_lW (As := [.ref (a 0), .int (xs (i + 1).toNatClampNeg), .int 1, .ref (a 72)]) (rest := []) (hh := [(0, 17, 20, 19)]) hc hE hA (fun _ h => mL_fold hst (xs (i + 1).toNatClampNeg) 1 Z _ h) (vx_cwSW 4 hc.1.2.2.2.2 lts_L_fold rfl rfl rfl (by decide +kernel) ⟨by decide, by decide⟩) rfl rfl (Nat.le_of_ble_eq_true rfl) dL_law_278 ⟨Nat.le_trans (Nat.add_le_add_left (by decide) cs) hcs, Nat.le_trans (Nat.add_le_add_left (by decide) ss) hss⟩ (fun v15 Z14 => ?_)
    refine g_wid (k := cs + 8) (n := ss + 64) (Nat.add_le_add_left (by decide) cs) (Nat.add_le_add_left (by decide) ss) ?_
    refine g_istore (L := fun v16 => [(5, .int v16), (0, .ref b), (1, .ref (a 0)), (2, .ref (aM a 0)), (3, .ref (a 72)), (4, .int i)]) hc dL_law_281 (by decide) (fun _ => rfl) (fun v16 => ?_)
    refine g_aload_n (j := 3) hc dL_law_283 rfl rfl ?_
    refine g_aload_n (j := 1) hc dL_law_284 rfl rfl ?_
    refine g_iload (j := 5) hc dL_law_285 rfl ?_
    refine g_iconst (v := 1) hc dL_law_287 (by decide) ?_
    refine g_iadd hc dL_law_288 ?_
    refine g_sld hc hX hbl hbA dL_law_289 ?_
    refine g_aload_n (j := 1) hc dL_law_290 rfl rfl ?_
    refine g_iload (j := 5) hc dL_law_291 rfl ?_
    refine g_iconst (v := 2) hc dL_law_293 (by decide) ?_
    refine g_iadd hc dL_law_294 ?_
    refine g_sld hc hX hbl hbA dL_law_295 ?_
    refine g_if_eq (tgt := 303) hc dL_law_296 (by decide) ?_ ?_
    · refine g_iconst (v := 0) hc dL_law_303 (by decide) ?_
      refine g_lMi (As := [.int (xs (i + 1).toNatClampNeg), .int 0]) (rest := []) hc hE hA (fun _ h => mX9_fold (xs (i + 1).toNatClampNeg) 0 (tM Z14) _ h) (cwV 2 hc.1.2.2.2.2 lts_X9_fold rfl rfl rfl (by decide +kernel) ⟨by decide, by decide⟩) rfl rfl (Nat.le_of_ble_eq_true rfl) dL_law_304 ⟨hcs, hss⟩ (fun v18 Z17 => ?_)
      refine g_istore (L := fun v19 => [(6, .int v19), (5, .int v16), (0, .ref b), (1, .ref (a 0)), (2, .ref (aM a 0)), (3, .ref (a 72)), (4, .int i)]) hc dL_law_307 (by decide) (fun _ => rfl) (fun v19 => ?_)
      refine g_aload_n (j := 4) hc dL_law_309 rfl rfl ?_
      refine g_lMi (As := []) (rest := []) hc hE hA (fun _ h => mX9_thrown (tM Z17) _ h) (cwV 0 hc.1.2.2.2.2 lts_X9_thrown rfl rfl rfl (by decide +kernel) ⟨by decide, by decide⟩) rfl rfl (Nat.le_of_ble_eq_true rfl) dL_law_310 ⟨hcs, hss⟩ (fun v21 Z20 => ?_)
      refine g_iload (j := 1) hc dL_law_313 rfl ?_
      refine g_icmp_eq (tgt := 320) hc dL_law_315 (by decide) ?_ ?_
      · refine g_iload (j := 1) hc dL_law_320 rfl ?_
        refine g_if_ne (tgt := 344) hc dL_law_322 (by decide) ?_ ?_
        · refine g_goto (tgt := 1485) hc dL_law_344 (by decide) ?_
          refine g_lv [2, 3, 4, 5, 6] rfl ?_
          exact hk i Z20
        · refine g_aload_n (j := 5) hc dL_law_325 rfl rfl ?_
          refine g_iconst (v := 0) hc dL_law_326 (by decide) ?_
          refine g_laload (k := 72) (t0 := 3) hc (by decide) (fun _ => rfl) rfl dL_law_327 ?_
          refine g_iload (j := 0) hc dL_law_328 rfl ?_
          refine g_if_eq (tgt := 337) hc dL_law_330 (by decide) ?_ ?_
          · refine g_lconst (v := 0) hc dL_law_337 (by decide) ?_
            refine g_lcmp hc dL_law_338 ?_
            refine g_if_eq (tgt := 344) hc dL_law_339 (by decide) ?_ ?_
            · refine g_goto (tgt := 1485) hc dL_law_344 (by decide) ?_
              refine g_lv [2, 3, 4, 5, 6] rfl ?_
              exact hk i Z20
            · refine g_iconst (v := 0) hc dL_law_342 (by decide) ?_
              exact g_none
          · refine g_lconst (v := 1) hc dL_law_333 (by decide) ?_
            refine g_goto (tgt := 338) hc dL_law_334 (by decide) ?_
            refine g_lcmp hc dL_law_338 ?_
            refine g_if_eq (tgt := 344) hc dL_law_339 (by decide) ?_ ?_
            · refine g_goto (tgt := 1485) hc dL_law_344 (by decide) ?_
              refine g_lv [2, 3, 4, 5, 6] rfl ?_
              exact hk i Z20
            · refine g_iconst (v := 0) hc dL_law_342 (by decide) ?_
              exact g_none
      · refine g_iconst (v := 0) hc dL_law_318 (by decide) ?_
        exact g_none
    · refine g_iconst (v := 1) hc dL_law_299 (by decide) ?_
      refine g_goto (tgt := 304) hc dL_law_300 (by decide) ?_
      refine g_lMi (As := [.int (xs (i + 1).toNatClampNeg), .int 1]) (rest := []) hc hE hA (fun _ h => mX9_fold (xs (i + 1).toNatClampNeg) 1 (tM Z14) _ h) (cwV 2 hc.1.2.2.2.2 lts_X9_fold rfl rfl rfl (by decide +kernel) ⟨by decide, by decide⟩) rfl rfl (Nat.le_of_ble_eq_true rfl) dL_law_304 ⟨hcs, hss⟩ (fun v23 Z22 => ?_)
      refine g_istore (L := fun v24 => [(6, .int v24), (5, .int v16), (0, .ref b), (1, .ref (a 0)), (2, .ref (aM a 0)), (3, .ref (a 72)), (4, .int i)]) hc dL_law_307 (by decide) (fun _ => rfl) (fun v24 => ?_)
      refine g_aload_n (j := 4) hc dL_law_309 rfl rfl ?_
      refine g_lMi (As := []) (rest := []) hc hE hA (fun _ h => mX9_thrown (tM Z22) _ h) (cwV 0 hc.1.2.2.2.2 lts_X9_thrown rfl rfl rfl (by decide +kernel) ⟨by decide, by decide⟩) rfl rfl (Nat.le_of_ble_eq_true rfl) dL_law_310 ⟨hcs, hss⟩ (fun v26 Z25 => ?_)
      refine g_iload (j := 1) hc dL_law_313 rfl ?_
      refine g_icmp_eq (tgt := 320) hc dL_law_315 (by decide) ?_ ?_
      · refine g_iload (j := 1) hc dL_law_320 rfl ?_
        refine g_if_ne (tgt := 344) hc dL_law_322 (by decide) ?_ ?_
        · refine g_goto (tgt := 1485) hc dL_law_344 (by decide) ?_
          refine g_lv [2, 3, 4, 5, 6] rfl ?_
          exact hk i Z25
        · refine g_aload_n (j := 5) hc dL_law_325 rfl rfl ?_
          refine g_iconst (v := 0) hc dL_law_326 (by decide) ?_
          refine g_laload (k := 72) (t0 := 3) hc (by decide) (fun _ => rfl) rfl dL_law_327 ?_
          refine g_iload (j := 0) hc dL_law_328 rfl ?_
          refine g_if_eq (tgt := 337) hc dL_law_330 (by decide) ?_ ?_
          · refine g_lconst (v := 0) hc dL_law_337 (by decide) ?_
            refine g_lcmp hc dL_law_338 ?_
            refine g_if_eq (tgt := 344) hc dL_law_339 (by decide) ?_ ?_
            · refine g_goto (tgt := 1485) hc dL_law_344 (by decide) ?_
              refine g_lv [2, 3, 4, 5, 6] rfl ?_
              exact hk i Z25
            · refine g_iconst (v := 0) hc dL_law_342 (by decide) ?_
              exact g_none
          · refine g_lconst (v := 1) hc dL_law_333 (by decide) ?_
            refine g_goto (tgt := 338) hc dL_law_334 (by decide) ?_
            refine g_lcmp hc dL_law_338 ?_
            refine g_if_eq (tgt := 344) hc dL_law_339 (by decide) ?_ ?_
            · refine g_goto (tgt := 1485) hc dL_law_344 (by decide) ?_
              refine g_lv [2, 3, 4, 5, 6] rfl ?_
              exact hk i Z25
            · refine g_iconst (v := 0) hc dL_law_342 (by decide) ?_
              exact g_none
      · refine g_iconst (v := 0) hc dL_law_318 (by decide) ?_
        exact g_none
set_option maxHeartbeats 4000000 in
set_option maxRecDepth 100000 in
theorem tLaw_3 (hst : l.stackTraces = false) (hc : CT p s m #[Value.ref b] c code 7 RL lw_tbl D (tyY cI cZ cO cJ)) (hE : EvY tF A s) (hA : A = AA 90 a s.heap.size) (hX : va_X b L xs s s.heap) (hbl : b < s.heap.size) (hbA : ¬ A b) {cs ss : Nat} (hcs : cs + 8 ≤ 601024) (hss : ss + 64 ≤ 7293034) (k : Int32 → St → Option Unit) (hk : ∀ (i : Int32) (Z : St), GF p l e room_1 s m #[Value.ref b] below meth c D 90 a (cL cI cZ cO cJ a) A 7 (cs + 8) (ss + 64) (fun _ : Unit => lw_Z below #[Value.ref b] s) (k i Z) 1485 [(0, .ref b), (1, .ref (a 0)), (2, .ref (aM a 0)), (3, .ref (a 72)), (4, .int i)] [] Z) (i : Int32) (Z : St) : GF p l e room_1 s m #[Value.ref b] below meth c D 90 a (cL cI cZ cO cJ a) A 7 cs ss (fun _ : Unit => lw_Z below #[Value.ref b] s) (cLaw_3 xs L k i Z) 347 [(0, .ref b), (1, .ref (a 0)), (2, .ref (aM a 0)), (3, .ref (a 72)), (4, .int i)] [] Z := by
  unfold cLaw_3
  refine g_aload_n (j := 1) hc dL_law_347 rfl rfl ?_
  refine g_aload_n (j := 0) hc dL_law_348 rfl rfl ?_
  refine g_iload (j := 4) hc dL_law_349 rfl ?_
  refine g_iconst (v := 1) hc dL_law_351 (by decide) ?_
  refine g_iadd hc dL_law_352 ?_
  refine g_sld hc hX hbl hbA dL_law_353 ?_
  refine g_aload_n (j := 0) hc dL_law_354 rfl rfl ?_
  refine g_iload (j := 4) hc dL_law_355 rfl ?_
  refine g_iconst (v := 2) hc dL_law_357 (by decide) ?_
  refine g_iadd hc dL_law_358 ?_
  refine g_sld hc hX hbl hbA dL_law_359 ?_
  refine g_aload_n (j := 0) hc dL_law_360 rfl rfl ?_
  refine g_iload (j := 4) hc dL_law_361 rfl ?_
  refine g_iconst (v := 3) hc dL_law_363 (by decide) ?_
  refine g_iadd hc dL_law_364 ?_
  refine g_sld hc hX hbl hbA dL_law_365 ?_
  refine g_aload_n (j := 3) hc dL_law_366 rfl rfl ?_
  refine g_lW (As := [.ref (a 0), .int (xs (i + 1).toNatClampNeg), .int (xs (i + 2).toNatClampNeg), .int (xs (i + 3).toNatClampNeg), .ref (a 72)]) (rest := []) (hh := [(0, 12, 15, 19), (0, 12, 19, 13)]) hc hE hA (fun _ h => mL_table hst (xs (i + 1).toNatClampNeg) (xs (i + 2).toNatClampNeg) (xs (i + 3).toNatClampNeg) Z _ h) (vx_cwSW 5 hc.1.2.2.2.2 lts_L_table rfl rfl rfl (by decide +kernel) ⟨by decide, by decide⟩) rfl rfl (Nat.le_of_ble_eq_true rfl) dL_law_367 ⟨Nat.le_trans (Nat.add_le_add_left (by decide) cs) hcs, Nat.le_trans (Nat.add_le_add_left (by decide) ss) hss⟩ (fun v2 Z1 => ?_)
  refine g_wid (k := cs + 8) (n := ss + 64) (Nat.add_le_add_left (by decide) cs) (Nat.add_le_add_left (by decide) ss) ?_
  refine g_istore (L := fun v3 => [(5, .int v3), (0, .ref b), (1, .ref (a 0)), (2, .ref (aM a 0)), (3, .ref (a 72)), (4, .int i)]) hc dL_law_370 (by decide) (fun _ => rfl) (fun v3 => ?_)
  refine g_aload_n (j := 3) hc dL_law_372 rfl rfl ?_
  refine g_aload_n (j := 1) hc dL_law_373 rfl rfl ?_
  refine g_iload (j := 5) hc dL_law_374 rfl ?_
  refine g_iconst (v := 1) hc dL_law_376 (by decide) ?_
  refine g_iadd hc dL_law_377 ?_
  refine g_sld hc hX hbl hbA dL_law_378 ?_
  refine g_aload_n (j := 1) hc dL_law_379 rfl rfl ?_
  refine g_iload (j := 5) hc dL_law_380 rfl ?_
  refine g_iconst (v := 2) hc dL_law_382 (by decide) ?_
  refine g_iadd hc dL_law_383 ?_
  refine g_sld hc hX hbl hbA dL_law_384 ?_
  refine g_aload_n (j := 1) hc dL_law_385 rfl rfl ?_
  refine g_iload (j := 5) hc dL_law_386 rfl ?_
  refine g_iconst (v := 3) hc dL_law_388 (by decide) ?_
  refine g_iadd hc dL_law_389 ?_
  refine g_sld hc hX hbl hbA dL_law_390 ?_
  refine g_lMi (As := [.int (xs (i + 1).toNatClampNeg), .int (xs (i + 2).toNatClampNeg), .int (xs (i + 3).toNatClampNeg)]) (rest := []) hc hE hA (fun _ h => mX9_table (xs (i + 1).toNatClampNeg) (xs (i + 2).toNatClampNeg) (xs (i + 3).toNatClampNeg) (tM Z1) _ h) (cwV 3 hc.1.2.2.2.2 lts_X9_table rfl rfl rfl (by decide +kernel) ⟨by decide, by decide⟩) rfl rfl (Nat.le_of_ble_eq_true rfl) dL_law_391 ⟨hcs, hss⟩ (fun v5 Z4 => ?_)
  refine g_istore (L := fun v6 => [(6, .int v6), (5, .int v3), (0, .ref b), (1, .ref (a 0)), (2, .ref (aM a 0)), (3, .ref (a 72)), (4, .int i)]) hc dL_law_394 (by decide) (fun _ => rfl) (fun v6 => ?_)
  refine g_aload_n (j := 4) hc dL_law_396 rfl rfl ?_
  refine g_lMi (As := []) (rest := []) hc hE hA (fun _ h => mX9_thrown (tM Z4) _ h) (cwV 0 hc.1.2.2.2.2 lts_X9_thrown rfl rfl rfl (by decide +kernel) ⟨by decide, by decide⟩) rfl rfl (Nat.le_of_ble_eq_true rfl) dL_law_397 ⟨hcs, hss⟩ (fun v8 Z7 => ?_)
  refine g_iload (j := 1) hc dL_law_400 rfl ?_
  refine g_icmp_eq (tgt := 407) hc dL_law_402 (by decide) ?_ ?_
  · refine g_iload (j := 1) hc dL_law_407 rfl ?_
    refine g_if_ne (tgt := 424) hc dL_law_409 (by decide) ?_ ?_
    · refine g_goto (tgt := 1485) hc dL_law_424 (by decide) ?_
      refine g_lv [2, 3, 4, 5, 6] rfl ?_
      exact hk i Z7
    · refine g_aload_n (j := 5) hc dL_law_412 rfl rfl ?_
      refine g_iconst (v := 0) hc dL_law_413 (by decide) ?_
      refine g_laload (k := 72) (t0 := 3) hc (by decide) (fun _ => rfl) rfl dL_law_414 ?_
      refine g_iload (j := 0) hc dL_law_415 rfl ?_
      refine g_i2l hc dL_law_417 ?_
      refine g_lcmp hc dL_law_418 ?_
      refine g_if_eq (tgt := 424) hc dL_law_419 (by decide) ?_ ?_
      · refine g_goto (tgt := 1485) hc dL_law_424 (by decide) ?_
        refine g_lv [2, 3, 4, 5, 6] rfl ?_
        exact hk i Z7
      · refine g_iconst (v := 0) hc dL_law_422 (by decide) ?_
        exact g_none
  · refine g_iconst (v := 0) hc dL_law_405 (by decide) ?_
    exact g_none
set_option maxHeartbeats 4000000 in
set_option maxRecDepth 100000 in
theorem tLaw_4 (hst : l.stackTraces = false) (hc : CT p s m #[Value.ref b] c code 7 RL lw_tbl D (tyY cI cZ cO cJ)) (hE : EvY tF A s) (hA : A = AA 90 a s.heap.size) (hX : va_X b L xs s s.heap) (hbl : b < s.heap.size) (hbA : ¬ A b) {cs ss : Nat} (hcs : cs + 8 ≤ 601024) (hss : ss + 64 ≤ 7293034) (k : Int32 → St → Option Unit) (hk : ∀ (i : Int32) (Z : St), GF p l e room_1 s m #[Value.ref b] below meth c D 90 a (cL cI cZ cO cJ a) A 7 (cs + 8) (ss + 64) (fun _ : Unit => lw_Z below #[Value.ref b] s) (k i Z) 1485 [(0, .ref b), (1, .ref (a 0)), (2, .ref (aM a 0)), (3, .ref (a 72)), (4, .int i)] [] Z) (i : Int32) (Z : St) : GF p l e room_1 s m #[Value.ref b] below meth c D 90 a (cL cI cZ cO cJ a) A 7 cs ss (fun _ : Unit => lw_Z below #[Value.ref b] s) (cLaw_4 xs L k i Z) 427 [(0, .ref b), (1, .ref (a 0)), (2, .ref (aM a 0)), (3, .ref (a 72)), (4, .int i)] [] Z := by
  unfold cLaw_4
  refine g_aload_n (j := 1) hc dL_law_427 rfl rfl ?_
  refine g_aload_n (j := 0) hc dL_law_428 rfl rfl ?_
  refine g_iload (j := 4) hc dL_law_429 rfl ?_
  refine g_iconst (v := 1) hc dL_law_431 (by decide) ?_
  refine g_iadd hc dL_law_432 ?_
  refine g_sld hc hX hbl hbA dL_law_433 ?_
  refine g_aload_n (j := 0) hc dL_law_434 rfl rfl ?_
  refine g_iload (j := 4) hc dL_law_435 rfl ?_
  refine g_iconst (v := 2) hc dL_law_437 (by decide) ?_
  refine g_iadd hc dL_law_438 ?_
  refine g_sld hc hX hbl hbA dL_law_439 ?_
  refine g_aload_n (j := 3) hc dL_law_440 rfl rfl ?_
  refine g_lW (As := [.ref (a 0), .int (xs (i + 1).toNatClampNeg), .int (xs (i + 2).toNatClampNeg), .ref (a 72)]) (rest := []) (hh := [(0, 10, 13, 19)]) hc hE hA (fun _ h => mL_vat hst (xs (i + 1).toNatClampNeg) (xs (i + 2).toNatClampNeg) Z _ h) (vx_cwSW 4 hc.1.2.2.2.2 lts_L_vat rfl rfl rfl (by decide +kernel) ⟨by decide, by decide⟩) rfl rfl (Nat.le_of_ble_eq_true rfl) dL_law_441 ⟨Nat.le_trans (Nat.add_le_add_left (by decide) cs) hcs, Nat.le_trans (Nat.add_le_add_left (by decide) ss) hss⟩ (fun v2 Z1 => ?_)
  refine g_wid (k := cs + 8) (n := ss + 64) (Nat.add_le_add_left (by decide) cs) (Nat.add_le_add_left (by decide) ss) ?_
  refine g_istore (L := fun v3 => [(5, .int v3), (0, .ref b), (1, .ref (a 0)), (2, .ref (aM a 0)), (3, .ref (a 72)), (4, .int i)]) hc dL_law_444 (by decide) (fun _ => rfl) (fun v3 => ?_)
  refine g_aload_n (j := 3) hc dL_law_446 rfl rfl ?_
  refine g_aload_n (j := 1) hc dL_law_447 rfl rfl ?_
  refine g_iload (j := 5) hc dL_law_448 rfl ?_
  refine g_iconst (v := 1) hc dL_law_450 (by decide) ?_
  refine g_iadd hc dL_law_451 ?_
  refine g_sld hc hX hbl hbA dL_law_452 ?_
  refine g_aload_n (j := 1) hc dL_law_453 rfl rfl ?_
  refine g_iload (j := 5) hc dL_law_454 rfl ?_
  refine g_iconst (v := 2) hc dL_law_456 (by decide) ?_
  refine g_iadd hc dL_law_457 ?_
  refine g_sld hc hX hbl hbA dL_law_458 ?_
  refine g_lMi (As := [.int (xs (i + 1).toNatClampNeg), .int (xs (i + 2).toNatClampNeg)]) (rest := []) hc hE hA (fun _ h => mX9_vat (xs (i + 1).toNatClampNeg) (xs (i + 2).toNatClampNeg) (tM Z1) _ h) (cwV 2 hc.1.2.2.2.2 lts_X9_vat rfl rfl rfl (by decide +kernel) ⟨by decide, by decide⟩) rfl rfl (Nat.le_of_ble_eq_true rfl) dL_law_459 ⟨hcs, hss⟩ (fun v5 Z4 => ?_)
  refine g_istore (L := fun v6 => [(6, .int v6), (5, .int v3), (0, .ref b), (1, .ref (a 0)), (2, .ref (aM a 0)), (3, .ref (a 72)), (4, .int i)]) hc dL_law_462 (by decide) (fun _ => rfl) (fun v6 => ?_)
  refine g_aload_n (j := 4) hc dL_law_464 rfl rfl ?_
  refine g_lMi (As := []) (rest := []) hc hE hA (fun _ h => mX9_thrown (tM Z4) _ h) (cwV 0 hc.1.2.2.2.2 lts_X9_thrown rfl rfl rfl (by decide +kernel) ⟨by decide, by decide⟩) rfl rfl (Nat.le_of_ble_eq_true rfl) dL_law_465 ⟨hcs, hss⟩ (fun v8 Z7 => ?_)
  refine g_iload (j := 1) hc dL_law_468 rfl ?_
  refine g_icmp_eq (tgt := 475) hc dL_law_470 (by decide) ?_ ?_
  · refine g_iload (j := 1) hc dL_law_475 rfl ?_
    refine g_if_ne (tgt := 492) hc dL_law_477 (by decide) ?_ ?_
    · refine g_goto (tgt := 1485) hc dL_law_492 (by decide) ?_
      refine g_lv [2, 3, 4, 5, 6] rfl ?_
      exact hk i Z7
    · refine g_aload_n (j := 5) hc dL_law_480 rfl rfl ?_
      refine g_iconst (v := 0) hc dL_law_481 (by decide) ?_
      refine g_laload (k := 72) (t0 := 3) hc (by decide) (fun _ => rfl) rfl dL_law_482 ?_
      refine g_iload (j := 0) hc dL_law_483 rfl ?_
      refine g_i2l hc dL_law_485 ?_
      refine g_lcmp hc dL_law_486 ?_
      refine g_if_eq (tgt := 492) hc dL_law_487 (by decide) ?_ ?_
      · refine g_goto (tgt := 1485) hc dL_law_492 (by decide) ?_
        refine g_lv [2, 3, 4, 5, 6] rfl ?_
        exact hk i Z7
      · refine g_iconst (v := 0) hc dL_law_490 (by decide) ?_
        exact g_none
  · refine g_iconst (v := 0) hc dL_law_473 (by decide) ?_
    exact g_none
set_option maxHeartbeats 4000000 in
set_option maxRecDepth 100000 in
theorem tLaw_5 (hst : l.stackTraces = false) (hc : CT p s m #[Value.ref b] c code 7 RL lw_tbl D (tyY cI cZ cO cJ)) (hE : EvY tF A s) (hA : A = AA 90 a s.heap.size) (hX : va_X b L xs s s.heap) (hbl : b < s.heap.size) (hbA : ¬ A b) {cs ss : Nat} (hcs : cs + 8 ≤ 601024) (hss : ss + 64 ≤ 7293034) (k : Int32 → St → Option Unit) (hk : ∀ (i : Int32) (Z : St), GF p l e room_1 s m #[Value.ref b] below meth c D 90 a (cL cI cZ cO cJ a) A 7 (cs + 8) (ss + 64) (fun _ : Unit => lw_Z below #[Value.ref b] s) (k i Z) 1485 [(0, .ref b), (1, .ref (a 0)), (2, .ref (aM a 0)), (3, .ref (a 72)), (4, .int i)] [] Z) (i : Int32) (Z : St) : GF p l e room_1 s m #[Value.ref b] below meth c D 90 a (cL cI cZ cO cJ a) A 7 cs ss (fun _ : Unit => lw_Z below #[Value.ref b] s) (cLaw_5 xs L k i Z) 495 [(0, .ref b), (1, .ref (a 0)), (2, .ref (aM a 0)), (3, .ref (a 72)), (4, .int i)] [] Z := by
  unfold cLaw_5
  refine g_aload_n (j := 1) hc dL_law_495 rfl rfl ?_
  refine g_aload_n (j := 0) hc dL_law_496 rfl rfl ?_
  refine g_iload (j := 4) hc dL_law_497 rfl ?_
  refine g_iconst (v := 1) hc dL_law_499 (by decide) ?_
  refine g_iadd hc dL_law_500 ?_
  refine g_sld hc hX hbl hbA dL_law_501 ?_
  refine g_aload_n (j := 0) hc dL_law_502 rfl rfl ?_
  refine g_iload (j := 4) hc dL_law_503 rfl ?_
  refine g_iconst (v := 2) hc dL_law_505 (by decide) ?_
  refine g_iadd hc dL_law_506 ?_
  refine g_sld hc hX hbl hbA dL_law_507 ?_
  refine g_aload_n (j := 0) hc dL_law_508 rfl rfl ?_
  refine g_iload (j := 4) hc dL_law_509 rfl ?_
  refine g_iconst (v := 3) hc dL_law_511 (by decide) ?_
  refine g_iadd hc dL_law_512 ?_
  refine g_sld hc hX hbl hbA dL_law_513 ?_
  refine g_aload_n (j := 3) hc dL_law_514 rfl rfl ?_
  refine g_lW (As := [.ref (a 0), .int (xs (i + 1).toNatClampNeg), .int (xs (i + 2).toNatClampNeg), .int (xs (i + 3).toNatClampNeg), .ref (a 72)]) (rest := []) (hh := [(0, 12, 15, 19), (0, 12, 19, 13)]) hc hE hA (fun _ h => mL_tie hst (xs (i + 1).toNatClampNeg) (xs (i + 2).toNatClampNeg) (xs (i + 3).toNatClampNeg) Z _ h) (vx_cwSW 5 hc.1.2.2.2.2 lts_L_tie rfl rfl rfl (by decide +kernel) ⟨by decide, by decide⟩) rfl rfl (Nat.le_of_ble_eq_true rfl) dL_law_515 ⟨Nat.le_trans (Nat.add_le_add_left (by decide) cs) hcs, Nat.le_trans (Nat.add_le_add_left (by decide) ss) hss⟩ (fun v2 Z1 => ?_)
  refine g_wid (k := cs + 8) (n := ss + 64) (Nat.add_le_add_left (by decide) cs) (Nat.add_le_add_left (by decide) ss) ?_
  refine g_istore (L := fun v3 => [(5, .int v3), (0, .ref b), (1, .ref (a 0)), (2, .ref (aM a 0)), (3, .ref (a 72)), (4, .int i)]) hc dL_law_518 (by decide) (fun _ => rfl) (fun v3 => ?_)
  refine g_aload_n (j := 3) hc dL_law_520 rfl rfl ?_
  refine g_aload_n (j := 1) hc dL_law_521 rfl rfl ?_
  refine g_iload (j := 5) hc dL_law_522 rfl ?_
  refine g_iconst (v := 1) hc dL_law_524 (by decide) ?_
  refine g_iadd hc dL_law_525 ?_
  refine g_sld hc hX hbl hbA dL_law_526 ?_
  refine g_aload_n (j := 1) hc dL_law_527 rfl rfl ?_
  refine g_iload (j := 5) hc dL_law_528 rfl ?_
  refine g_iconst (v := 2) hc dL_law_530 (by decide) ?_
  refine g_iadd hc dL_law_531 ?_
  refine g_sld hc hX hbl hbA dL_law_532 ?_
  refine g_aload_n (j := 1) hc dL_law_533 rfl rfl ?_
  refine g_iload (j := 5) hc dL_law_534 rfl ?_
  refine g_iconst (v := 3) hc dL_law_536 (by decide) ?_
  refine g_iadd hc dL_law_537 ?_
  refine g_sld hc hX hbl hbA dL_law_538 ?_
  refine g_lMi (As := [.int (xs (i + 1).toNatClampNeg), .int (xs (i + 2).toNatClampNeg), .int (xs (i + 3).toNatClampNeg)]) (rest := []) hc hE hA (fun _ h => mX9_tie (xs (i + 1).toNatClampNeg) (xs (i + 2).toNatClampNeg) (xs (i + 3).toNatClampNeg) (tM Z1) _ h) (cwV 3 hc.1.2.2.2.2 lts_X9_tie rfl rfl rfl (by decide +kernel) ⟨by decide, by decide⟩) rfl rfl (Nat.le_of_ble_eq_true rfl) dL_law_539 ⟨hcs, hss⟩ (fun v5 Z4 => ?_)
  refine g_istore (L := fun v6 => [(6, .int v6), (5, .int v3), (0, .ref b), (1, .ref (a 0)), (2, .ref (aM a 0)), (3, .ref (a 72)), (4, .int i)]) hc dL_law_542 (by decide) (fun _ => rfl) (fun v6 => ?_)
  refine g_aload_n (j := 4) hc dL_law_544 rfl rfl ?_
  refine g_lMi (As := []) (rest := []) hc hE hA (fun _ h => mX9_thrown (tM Z4) _ h) (cwV 0 hc.1.2.2.2.2 lts_X9_thrown rfl rfl rfl (by decide +kernel) ⟨by decide, by decide⟩) rfl rfl (Nat.le_of_ble_eq_true rfl) dL_law_545 ⟨hcs, hss⟩ (fun v8 Z7 => ?_)
  refine g_iload (j := 1) hc dL_law_548 rfl ?_
  refine g_icmp_eq (tgt := 555) hc dL_law_550 (by decide) ?_ ?_
  · refine g_iload (j := 1) hc dL_law_555 rfl ?_
    refine g_if_ne (tgt := 572) hc dL_law_557 (by decide) ?_ ?_
    · refine g_goto (tgt := 1485) hc dL_law_572 (by decide) ?_
      refine g_lv [2, 3, 4, 5, 6] rfl ?_
      exact hk i Z7
    · refine g_aload_n (j := 5) hc dL_law_560 rfl rfl ?_
      refine g_iconst (v := 0) hc dL_law_561 (by decide) ?_
      refine g_laload (k := 72) (t0 := 3) hc (by decide) (fun _ => rfl) rfl dL_law_562 ?_
      refine g_iload (j := 0) hc dL_law_563 rfl ?_
      refine g_i2l hc dL_law_565 ?_
      refine g_lcmp hc dL_law_566 ?_
      refine g_if_eq (tgt := 572) hc dL_law_567 (by decide) ?_ ?_
      · refine g_goto (tgt := 1485) hc dL_law_572 (by decide) ?_
        refine g_lv [2, 3, 4, 5, 6] rfl ?_
        exact hk i Z7
      · refine g_iconst (v := 0) hc dL_law_570 (by decide) ?_
        exact g_none
  · refine g_iconst (v := 0) hc dL_law_553 (by decide) ?_
    exact g_none
set_option maxHeartbeats 4000000 in
set_option maxRecDepth 100000 in
theorem tLaw_6 (hst : l.stackTraces = false) (hc : CT p s m #[Value.ref b] c code 7 RL lw_tbl D (tyY cI cZ cO cJ)) (hE : EvY tF A s) (hA : A = AA 90 a s.heap.size) (hX : va_X b L xs s s.heap) (hbl : b < s.heap.size) (hbA : ¬ A b) {cs ss : Nat} (hcs : cs + 8 ≤ 601024) (hss : ss + 64 ≤ 7293034) (k : Int32 → St → Option Unit) (hk : ∀ (i : Int32) (Z : St), GF p l e room_1 s m #[Value.ref b] below meth c D 90 a (cL cI cZ cO cJ a) A 7 (cs + 8) (ss + 64) (fun _ : Unit => lw_Z below #[Value.ref b] s) (k i Z) 1485 [(0, .ref b), (1, .ref (a 0)), (2, .ref (aM a 0)), (3, .ref (a 72)), (4, .int i)] [] Z) (i : Int32) (Z : St) : GF p l e room_1 s m #[Value.ref b] below meth c D 90 a (cL cI cZ cO cJ a) A 7 cs ss (fun _ : Unit => lw_Z below #[Value.ref b] s) (cLaw_6 xs L k i Z) 575 [(0, .ref b), (1, .ref (a 0)), (2, .ref (aM a 0)), (3, .ref (a 72)), (4, .int i)] [] Z := by
  unfold cLaw_6
  refine g_aload_n (j := 1) hc dL_law_575 rfl rfl ?_
  refine g_aload_n (j := 0) hc dL_law_576 rfl rfl ?_
  refine g_iload (j := 4) hc dL_law_577 rfl ?_
  refine g_iconst (v := 1) hc dL_law_579 (by decide) ?_
  refine g_iadd hc dL_law_580 ?_
  refine g_sld hc hX hbl hbA dL_law_581 ?_
  refine g_aload_n (j := 0) hc dL_law_582 rfl rfl ?_
  refine g_iload (j := 4) hc dL_law_583 rfl ?_
  refine g_iconst (v := 2) hc dL_law_585 (by decide) ?_
  refine g_iadd hc dL_law_586 ?_
  refine g_sld hc hX hbl hbA dL_law_587 ?_
  refine g_aload_n (j := 0) hc dL_law_588 rfl rfl ?_
  refine g_iload (j := 4) hc dL_law_589 rfl ?_
  refine g_iconst (v := 3) hc dL_law_591 (by decide) ?_
  refine g_iadd hc dL_law_592 ?_
  refine g_sld hc hX hbl hbA dL_law_593 ?_
  refine g_aload_n (j := 3) hc dL_law_594 rfl rfl ?_
  refine g_lW (As := [.ref (a 0), .int (xs (i + 1).toNatClampNeg), .int (xs (i + 2).toNatClampNeg), .int (xs (i + 3).toNatClampNeg), .ref (a 72)]) (rest := []) (hh := [(0, 12, 15, 19), (0, 12, 19, 13)]) hc hE hA (fun _ h => mL_untie hst (xs (i + 1).toNatClampNeg) (xs (i + 2).toNatClampNeg) (xs (i + 3).toNatClampNeg) Z _ h) (vx_cwSW 5 hc.1.2.2.2.2 lts_L_untie rfl rfl rfl (by decide +kernel) ⟨by decide, by decide⟩) rfl rfl (Nat.le_of_ble_eq_true rfl) dL_law_595 ⟨Nat.le_trans (Nat.add_le_add_left (by decide) cs) hcs, Nat.le_trans (Nat.add_le_add_left (by decide) ss) hss⟩ (fun v2 Z1 => ?_)
  refine g_wid (k := cs + 8) (n := ss + 64) (Nat.add_le_add_left (by decide) cs) (Nat.add_le_add_left (by decide) ss) ?_
  refine g_istore (L := fun v3 => [(5, .int v3), (0, .ref b), (1, .ref (a 0)), (2, .ref (aM a 0)), (3, .ref (a 72)), (4, .int i)]) hc dL_law_598 (by decide) (fun _ => rfl) (fun v3 => ?_)
  refine g_aload_n (j := 3) hc dL_law_600 rfl rfl ?_
  refine g_aload_n (j := 1) hc dL_law_601 rfl rfl ?_
  refine g_iload (j := 5) hc dL_law_602 rfl ?_
  refine g_iconst (v := 1) hc dL_law_604 (by decide) ?_
  refine g_iadd hc dL_law_605 ?_
  refine g_sld hc hX hbl hbA dL_law_606 ?_
  refine g_aload_n (j := 1) hc dL_law_607 rfl rfl ?_
  refine g_iload (j := 5) hc dL_law_608 rfl ?_
  refine g_iconst (v := 2) hc dL_law_610 (by decide) ?_
  refine g_iadd hc dL_law_611 ?_
  refine g_sld hc hX hbl hbA dL_law_612 ?_
  refine g_aload_n (j := 1) hc dL_law_613 rfl rfl ?_
  refine g_iload (j := 5) hc dL_law_614 rfl ?_
  refine g_iconst (v := 3) hc dL_law_616 (by decide) ?_
  refine g_iadd hc dL_law_617 ?_
  refine g_sld hc hX hbl hbA dL_law_618 ?_
  refine g_lMi (As := [.int (xs (i + 1).toNatClampNeg), .int (xs (i + 2).toNatClampNeg), .int (xs (i + 3).toNatClampNeg)]) (rest := []) hc hE hA (fun _ h => mX9_untie (xs (i + 1).toNatClampNeg) (xs (i + 2).toNatClampNeg) (xs (i + 3).toNatClampNeg) (tM Z1) _ h) (cwV 3 hc.1.2.2.2.2 lts_X9_untie rfl rfl rfl (by decide +kernel) ⟨by decide, by decide⟩) rfl rfl (Nat.le_of_ble_eq_true rfl) dL_law_619 ⟨hcs, hss⟩ (fun v5 Z4 => ?_)
  refine g_istore (L := fun v6 => [(6, .int v6), (5, .int v3), (0, .ref b), (1, .ref (a 0)), (2, .ref (aM a 0)), (3, .ref (a 72)), (4, .int i)]) hc dL_law_622 (by decide) (fun _ => rfl) (fun v6 => ?_)
  refine g_aload_n (j := 4) hc dL_law_624 rfl rfl ?_
  refine g_lMi (As := []) (rest := []) hc hE hA (fun _ h => mX9_thrown (tM Z4) _ h) (cwV 0 hc.1.2.2.2.2 lts_X9_thrown rfl rfl rfl (by decide +kernel) ⟨by decide, by decide⟩) rfl rfl (Nat.le_of_ble_eq_true rfl) dL_law_625 ⟨hcs, hss⟩ (fun v8 Z7 => ?_)
  refine g_iload (j := 1) hc dL_law_628 rfl ?_
  refine g_icmp_eq (tgt := 635) hc dL_law_630 (by decide) ?_ ?_
  · refine g_iload (j := 1) hc dL_law_635 rfl ?_
    refine g_if_ne (tgt := 652) hc dL_law_637 (by decide) ?_ ?_
    · refine g_goto (tgt := 1485) hc dL_law_652 (by decide) ?_
      refine g_lv [2, 3, 4, 5, 6] rfl ?_
      exact hk i Z7
    · refine g_aload_n (j := 5) hc dL_law_640 rfl rfl ?_
      refine g_iconst (v := 0) hc dL_law_641 (by decide) ?_
      refine g_laload (k := 72) (t0 := 3) hc (by decide) (fun _ => rfl) rfl dL_law_642 ?_
      refine g_iload (j := 0) hc dL_law_643 rfl ?_
      refine g_i2l hc dL_law_645 ?_
      refine g_lcmp hc dL_law_646 ?_
      refine g_if_eq (tgt := 652) hc dL_law_647 (by decide) ?_ ?_
      · refine g_goto (tgt := 1485) hc dL_law_652 (by decide) ?_
        refine g_lv [2, 3, 4, 5, 6] rfl ?_
        exact hk i Z7
      · refine g_iconst (v := 0) hc dL_law_650 (by decide) ?_
        exact g_none
  · refine g_iconst (v := 0) hc dL_law_633 (by decide) ?_
    exact g_none
set_option maxHeartbeats 4000000 in
set_option maxRecDepth 100000 in
theorem tLaw_7 (hst : l.stackTraces = false) (hc : CT p s m #[Value.ref b] c code 7 RL lw_tbl D (tyY cI cZ cO cJ)) (hE : EvY tF A s) (hA : A = AA 90 a s.heap.size) (hX : va_X b L xs s s.heap) (hbl : b < s.heap.size) (hbA : ¬ A b) {cs ss : Nat} (hcs : cs + 8 ≤ 601024) (hss : ss + 64 ≤ 7293034) (k : Int32 → St → Option Unit) (hk : ∀ (i : Int32) (Z : St), GF p l e room_1 s m #[Value.ref b] below meth c D 90 a (cL cI cZ cO cJ a) A 7 (cs + 8) (ss + 64) (fun _ : Unit => lw_Z below #[Value.ref b] s) (k i Z) 1485 [(0, .ref b), (1, .ref (a 0)), (2, .ref (aM a 0)), (3, .ref (a 72)), (4, .int i)] [] Z) (i : Int32) (Z : St) : GF p l e room_1 s m #[Value.ref b] below meth c D 90 a (cL cI cZ cO cJ a) A 7 cs ss (fun _ : Unit => lw_Z below #[Value.ref b] s) (cLaw_7 xs L k i Z) 655 [(0, .ref b), (1, .ref (a 0)), (2, .ref (aM a 0)), (3, .ref (a 72)), (4, .int i)] [] Z := by
  unfold cLaw_7
  refine g_aload_n (j := 1) hc dL_law_655 rfl rfl ?_
  refine g_aload_n (j := 0) hc dL_law_656 rfl rfl ?_
  refine g_iload (j := 4) hc dL_law_657 rfl ?_
  refine g_iconst (v := 1) hc dL_law_659 (by decide) ?_
  refine g_iadd hc dL_law_660 ?_
  refine g_sld hc hX hbl hbA dL_law_661 ?_
  refine g_aload_n (j := 3) hc dL_law_662 rfl rfl ?_
  refine g_lW (As := [.ref (a 0), .int (xs (i + 1).toNatClampNeg), .ref (a 72)]) (rest := []) (hh := [(0, 9, 12, 19)]) hc hE hA (fun _ h => mL_bath hst (xs (i + 1).toNatClampNeg) Z _ h) (vx_cwSW 3 hc.1.2.2.2.2 lts_L_bath rfl rfl rfl (by decide +kernel) ⟨by decide, by decide⟩) rfl rfl (Nat.le_of_ble_eq_true rfl) dL_law_663 ⟨Nat.le_trans (Nat.add_le_add_left (by decide) cs) hcs, Nat.le_trans (Nat.add_le_add_left (by decide) ss) hss⟩ (fun v2 Z1 => ?_)
  refine g_wid (k := cs + 8) (n := ss + 64) (Nat.add_le_add_left (by decide) cs) (Nat.add_le_add_left (by decide) ss) ?_
  refine g_istore (L := fun v3 => [(5, .int v3), (0, .ref b), (1, .ref (a 0)), (2, .ref (aM a 0)), (3, .ref (a 72)), (4, .int i)]) hc dL_law_666 (by decide) (fun _ => rfl) (fun v3 => ?_)
  refine g_aload_n (j := 3) hc dL_law_668 rfl rfl ?_
  refine g_aload_n (j := 1) hc dL_law_669 rfl rfl ?_
  refine g_iload (j := 5) hc dL_law_670 rfl ?_
  refine g_iconst (v := 1) hc dL_law_672 (by decide) ?_
  refine g_iadd hc dL_law_673 ?_
  refine g_sld hc hX hbl hbA dL_law_674 ?_
  refine g_lMi (As := [.int (xs (i + 1).toNatClampNeg)]) (rest := []) hc hE hA (fun _ h => mX9_bath (xs (i + 1).toNatClampNeg) (tM Z1) _ h) (cwV 1 hc.1.2.2.2.2 lts_X9_bath rfl rfl rfl (by decide +kernel) ⟨by decide, by decide⟩) rfl rfl (Nat.le_of_ble_eq_true rfl) dL_law_675 ⟨hcs, hss⟩ (fun v5 Z4 => ?_)
  refine g_istore (L := fun v6 => [(6, .int v6), (5, .int v3), (0, .ref b), (1, .ref (a 0)), (2, .ref (aM a 0)), (3, .ref (a 72)), (4, .int i)]) hc dL_law_678 (by decide) (fun _ => rfl) (fun v6 => ?_)
  refine g_aload_n (j := 4) hc dL_law_680 rfl rfl ?_
  refine g_lMi (As := []) (rest := []) hc hE hA (fun _ h => mX9_thrown (tM Z4) _ h) (cwV 0 hc.1.2.2.2.2 lts_X9_thrown rfl rfl rfl (by decide +kernel) ⟨by decide, by decide⟩) rfl rfl (Nat.le_of_ble_eq_true rfl) dL_law_681 ⟨hcs, hss⟩ (fun v8 Z7 => ?_)
  refine g_iload (j := 1) hc dL_law_684 rfl ?_
  refine g_icmp_eq (tgt := 691) hc dL_law_686 (by decide) ?_ ?_
  · refine g_iload (j := 1) hc dL_law_691 rfl ?_
    refine g_if_ne (tgt := 708) hc dL_law_693 (by decide) ?_ ?_
    · refine g_goto (tgt := 1485) hc dL_law_708 (by decide) ?_
      refine g_lv [2, 3, 4, 5, 6] rfl ?_
      exact hk i Z7
    · refine g_aload_n (j := 5) hc dL_law_696 rfl rfl ?_
      refine g_iconst (v := 0) hc dL_law_697 (by decide) ?_
      refine g_laload (k := 72) (t0 := 3) hc (by decide) (fun _ => rfl) rfl dL_law_698 ?_
      refine g_iload (j := 0) hc dL_law_699 rfl ?_
      refine g_i2l hc dL_law_701 ?_
      refine g_lcmp hc dL_law_702 ?_
      refine g_if_eq (tgt := 708) hc dL_law_703 (by decide) ?_ ?_
      · refine g_goto (tgt := 1485) hc dL_law_708 (by decide) ?_
        refine g_lv [2, 3, 4, 5, 6] rfl ?_
        exact hk i Z7
      · refine g_iconst (v := 0) hc dL_law_706 (by decide) ?_
        exact g_none
  · refine g_iconst (v := 0) hc dL_law_689 (by decide) ?_
    exact g_none
set_option maxHeartbeats 4000000 in
set_option maxRecDepth 100000 in
theorem tLaw_8 (hst : l.stackTraces = false) (hc : CT p s m #[Value.ref b] c code 7 RL lw_tbl D (tyY cI cZ cO cJ)) (hE : EvY tF A s) (hA : A = AA 90 a s.heap.size) (hX : va_X b L xs s s.heap) (hbl : b < s.heap.size) (hbA : ¬ A b) {cs ss : Nat} (hcs : cs + 8 ≤ 601024) (hss : ss + 64 ≤ 7293034) (k : Int32 → St → Option Unit) (hk : ∀ (i : Int32) (Z : St), GF p l e room_1 s m #[Value.ref b] below meth c D 90 a (cL cI cZ cO cJ a) A 7 (cs + 8) (ss + 64) (fun _ : Unit => lw_Z below #[Value.ref b] s) (k i Z) 1485 [(0, .ref b), (1, .ref (a 0)), (2, .ref (aM a 0)), (3, .ref (a 72)), (4, .int i)] [] Z) (i : Int32) (Z : St) : GF p l e room_1 s m #[Value.ref b] below meth c D 90 a (cL cI cZ cO cJ a) A 7 cs ss (fun _ : Unit => lw_Z below #[Value.ref b] s) (cLaw_8 xs L k i Z) 711 [(0, .ref b), (1, .ref (a 0)), (2, .ref (aM a 0)), (3, .ref (a 72)), (4, .int i)] [] Z := by
  unfold cLaw_8
  refine g_aload_n (j := 1) hc dL_law_711 rfl rfl ?_
  refine g_aload_n (j := 0) hc dL_law_712 rfl rfl ?_
  refine g_iload (j := 4) hc dL_law_713 rfl ?_
  refine g_iconst (v := 1) hc dL_law_715 (by decide) ?_
  refine g_iadd hc dL_law_716 ?_
  refine g_sld hc hX hbl hbA dL_law_717 ?_
  refine g_aload_n (j := 0) hc dL_law_718 rfl rfl ?_
  refine g_iload (j := 4) hc dL_law_719 rfl ?_
  refine g_iconst (v := 2) hc dL_law_721 (by decide) ?_
  refine g_iadd hc dL_law_722 ?_
  refine g_sld hc hX hbl hbA dL_law_723 ?_
  refine g_aload_n (j := 3) hc dL_law_724 rfl rfl ?_
  refine g_lW (As := [.ref (a 0), .int (xs (i + 1).toNatClampNeg), .int (xs (i + 2).toNatClampNeg), .ref (a 72)]) (rest := []) (hh := [(0, 10, 13, 19)]) hc hE hA (fun _ h => mL_colour hst (xs (i + 1).toNatClampNeg) (xs (i + 2).toNatClampNeg) Z _ h) (vx_cwSW 4 hc.1.2.2.2.2 lts_L_colour rfl rfl rfl (by decide +kernel) ⟨by decide, by decide⟩) rfl rfl (Nat.le_of_ble_eq_true rfl) dL_law_725 ⟨Nat.le_trans (Nat.add_le_add_left (by decide) cs) hcs, Nat.le_trans (Nat.add_le_add_left (by decide) ss) hss⟩ (fun v2 Z1 => ?_)
  refine g_wid (k := cs + 8) (n := ss + 64) (Nat.add_le_add_left (by decide) cs) (Nat.add_le_add_left (by decide) ss) ?_
  refine g_istore (L := fun v3 => [(5, .int v3), (0, .ref b), (1, .ref (a 0)), (2, .ref (aM a 0)), (3, .ref (a 72)), (4, .int i)]) hc dL_law_728 (by decide) (fun _ => rfl) (fun v3 => ?_)
  refine g_aload_n (j := 3) hc dL_law_730 rfl rfl ?_
  refine g_aload_n (j := 1) hc dL_law_731 rfl rfl ?_
  refine g_iload (j := 5) hc dL_law_732 rfl ?_
  refine g_iconst (v := 1) hc dL_law_734 (by decide) ?_
  refine g_iadd hc dL_law_735 ?_
  refine g_sld hc hX hbl hbA dL_law_736 ?_
  refine g_aload_n (j := 1) hc dL_law_737 rfl rfl ?_
  refine g_iload (j := 5) hc dL_law_738 rfl ?_
  refine g_iconst (v := 2) hc dL_law_740 (by decide) ?_
  refine g_iadd hc dL_law_741 ?_
  refine g_sld hc hX hbl hbA dL_law_742 ?_
  refine g_lMi (As := [.int (xs (i + 1).toNatClampNeg), .int (xs (i + 2).toNatClampNeg)]) (rest := []) hc hE hA (fun _ h => mX9_colour (xs (i + 1).toNatClampNeg) (xs (i + 2).toNatClampNeg) (tM Z1) _ h) (cwV 2 hc.1.2.2.2.2 lts_X9_colour rfl rfl rfl (by decide +kernel) ⟨by decide, by decide⟩) rfl rfl (Nat.le_of_ble_eq_true rfl) dL_law_743 ⟨hcs, hss⟩ (fun v5 Z4 => ?_)
  refine g_istore (L := fun v6 => [(6, .int v6), (5, .int v3), (0, .ref b), (1, .ref (a 0)), (2, .ref (aM a 0)), (3, .ref (a 72)), (4, .int i)]) hc dL_law_746 (by decide) (fun _ => rfl) (fun v6 => ?_)
  refine g_aload_n (j := 4) hc dL_law_748 rfl rfl ?_
  refine g_lMi (As := []) (rest := []) hc hE hA (fun _ h => mX9_thrown (tM Z4) _ h) (cwV 0 hc.1.2.2.2.2 lts_X9_thrown rfl rfl rfl (by decide +kernel) ⟨by decide, by decide⟩) rfl rfl (Nat.le_of_ble_eq_true rfl) dL_law_749 ⟨hcs, hss⟩ (fun v8 Z7 => ?_)
  refine g_iload (j := 1) hc dL_law_752 rfl ?_
  refine g_icmp_eq (tgt := 759) hc dL_law_754 (by decide) ?_ ?_
  · refine g_iload (j := 1) hc dL_law_759 rfl ?_
    refine g_if_ne (tgt := 776) hc dL_law_761 (by decide) ?_ ?_
    · refine g_goto (tgt := 1485) hc dL_law_776 (by decide) ?_
      refine g_lv [2, 3, 4, 5, 6] rfl ?_
      exact hk i Z7
    · refine g_aload_n (j := 5) hc dL_law_764 rfl rfl ?_
      refine g_iconst (v := 0) hc dL_law_765 (by decide) ?_
      refine g_laload (k := 72) (t0 := 3) hc (by decide) (fun _ => rfl) rfl dL_law_766 ?_
      refine g_iload (j := 0) hc dL_law_767 rfl ?_
      refine g_i2l hc dL_law_769 ?_
      refine g_lcmp hc dL_law_770 ?_
      refine g_if_eq (tgt := 776) hc dL_law_771 (by decide) ?_ ?_
      · refine g_goto (tgt := 1485) hc dL_law_776 (by decide) ?_
        refine g_lv [2, 3, 4, 5, 6] rfl ?_
        exact hk i Z7
      · refine g_iconst (v := 0) hc dL_law_774 (by decide) ?_
        exact g_none
  · refine g_iconst (v := 0) hc dL_law_757 (by decide) ?_
    exact g_none
set_option maxHeartbeats 4000000 in
set_option maxRecDepth 100000 in
theorem tLaw_9 (hst : l.stackTraces = false) (hc : CT p s m #[Value.ref b] c code 7 RL lw_tbl D (tyY cI cZ cO cJ)) (hE : EvY tF A s) (hA : A = AA 90 a s.heap.size) (hX : va_X b L xs s s.heap) (hbl : b < s.heap.size) (hbA : ¬ A b) {cs ss : Nat} (hcs : cs + 8 ≤ 601024) (hss : ss + 64 ≤ 7293034) (k : Int32 → St → Option Unit) (hk : ∀ (i : Int32) (Z : St), GF p l e room_1 s m #[Value.ref b] below meth c D 90 a (cL cI cZ cO cJ a) A 7 (cs + 8) (ss + 64) (fun _ : Unit => lw_Z below #[Value.ref b] s) (k i Z) 1485 [(0, .ref b), (1, .ref (a 0)), (2, .ref (aM a 0)), (3, .ref (a 72)), (4, .int i)] [] Z) (i : Int32) (Z : St) : GF p l e room_1 s m #[Value.ref b] below meth c D 90 a (cL cI cZ cO cJ a) A 7 cs ss (fun _ : Unit => lw_Z below #[Value.ref b] s) (cLaw_9 xs L k i Z) 779 [(0, .ref b), (1, .ref (a 0)), (2, .ref (aM a 0)), (3, .ref (a 72)), (4, .int i)] [] Z := by
  unfold cLaw_9
  refine g_aload_n (j := 1) hc dL_law_779 rfl rfl ?_
  refine g_aload_n (j := 0) hc dL_law_780 rfl rfl ?_
  refine g_iload (j := 4) hc dL_law_781 rfl ?_
  refine g_iconst (v := 1) hc dL_law_783 (by decide) ?_
  refine g_iadd hc dL_law_784 ?_
  refine g_sld hc hX hbl hbA dL_law_785 ?_
  refine g_aload_n (j := 0) hc dL_law_786 rfl rfl ?_
  refine g_iload (j := 4) hc dL_law_787 rfl ?_
  refine g_iconst (v := 2) hc dL_law_789 (by decide) ?_
  refine g_iadd hc dL_law_790 ?_
  refine g_sld hc hX hbl hbA dL_law_791 ?_
  refine g_aload_n (j := 3) hc dL_law_792 rfl rfl ?_
  refine g_lW (As := [.ref (a 0), .int (xs (i + 1).toNatClampNeg), .int (xs (i + 2).toNatClampNeg), .ref (a 72)]) (rest := []) (hh := [(0, 17, 20, 19)]) hc hE hA (fun _ h => mL_bound hst (xs (i + 1).toNatClampNeg) (xs (i + 2).toNatClampNeg) Z _ h) (vx_cwSW 4 hc.1.2.2.2.2 lts_L_bound rfl rfl rfl (by decide +kernel) ⟨by decide, by decide⟩) rfl rfl (Nat.le_of_ble_eq_true rfl) dL_law_793 ⟨Nat.le_trans (Nat.add_le_add_left (by decide) cs) hcs, Nat.le_trans (Nat.add_le_add_left (by decide) ss) hss⟩ (fun v2 Z1 => ?_)
  refine g_wid (k := cs + 8) (n := ss + 64) (Nat.add_le_add_left (by decide) cs) (Nat.add_le_add_left (by decide) ss) ?_
  refine g_istore (L := fun v3 => [(5, .int v3), (0, .ref b), (1, .ref (a 0)), (2, .ref (aM a 0)), (3, .ref (a 72)), (4, .int i)]) hc dL_law_796 (by decide) (fun _ => rfl) (fun v3 => ?_)
  refine g_aload_n (j := 3) hc dL_law_798 rfl rfl ?_
  refine g_aload_n (j := 1) hc dL_law_799 rfl rfl ?_
  refine g_iload (j := 5) hc dL_law_800 rfl ?_
  refine g_iconst (v := 1) hc dL_law_802 (by decide) ?_
  refine g_iadd hc dL_law_803 ?_
  refine g_sld hc hX hbl hbA dL_law_804 ?_
  refine g_aload_n (j := 1) hc dL_law_805 rfl rfl ?_
  refine g_iload (j := 5) hc dL_law_806 rfl ?_
  refine g_iconst (v := 2) hc dL_law_808 (by decide) ?_
  refine g_iadd hc dL_law_809 ?_
  refine g_sld hc hX hbl hbA dL_law_810 ?_
  refine g_lMi (As := [.int (xs (i + 1).toNatClampNeg), .int (xs (i + 2).toNatClampNeg)]) (rest := []) hc hE hA (fun _ h => mX9_bound (xs (i + 1).toNatClampNeg) (xs (i + 2).toNatClampNeg) (tM Z1) _ h) (cwV 2 hc.1.2.2.2.2 lts_X9_bound rfl rfl rfl (by decide +kernel) ⟨by decide, by decide⟩) rfl rfl (Nat.le_of_ble_eq_true rfl) dL_law_811 ⟨hcs, hss⟩ (fun v5 Z4 => ?_)
  refine g_istore (L := fun v6 => [(6, .int v6), (5, .int v3), (0, .ref b), (1, .ref (a 0)), (2, .ref (aM a 0)), (3, .ref (a 72)), (4, .int i)]) hc dL_law_814 (by decide) (fun _ => rfl) (fun v6 => ?_)
  refine g_aload_n (j := 4) hc dL_law_816 rfl rfl ?_
  refine g_lMi (As := []) (rest := []) hc hE hA (fun _ h => mX9_thrown (tM Z4) _ h) (cwV 0 hc.1.2.2.2.2 lts_X9_thrown rfl rfl rfl (by decide +kernel) ⟨by decide, by decide⟩) rfl rfl (Nat.le_of_ble_eq_true rfl) dL_law_817 ⟨hcs, hss⟩ (fun v8 Z7 => ?_)
  refine g_iload (j := 1) hc dL_law_820 rfl ?_
  refine g_icmp_eq (tgt := 827) hc dL_law_822 (by decide) ?_ ?_
  · refine g_iload (j := 1) hc dL_law_827 rfl ?_
    refine g_if_ne (tgt := 851) hc dL_law_829 (by decide) ?_ ?_
    · refine g_goto (tgt := 1485) hc dL_law_851 (by decide) ?_
      refine g_lv [2, 3, 4, 5, 6] rfl ?_
      exact hk i Z7
    · refine g_aload_n (j := 5) hc dL_law_832 rfl rfl ?_
      refine g_iconst (v := 0) hc dL_law_833 (by decide) ?_
      refine g_laload (k := 72) (t0 := 3) hc (by decide) (fun _ => rfl) rfl dL_law_834 ?_
      refine g_iload (j := 0) hc dL_law_835 rfl ?_
      refine g_if_eq (tgt := 844) hc dL_law_837 (by decide) ?_ ?_
      · refine g_lconst (v := 0) hc dL_law_844 (by decide) ?_
        refine g_lcmp hc dL_law_845 ?_
        refine g_if_eq (tgt := 851) hc dL_law_846 (by decide) ?_ ?_
        · refine g_goto (tgt := 1485) hc dL_law_851 (by decide) ?_
          refine g_lv [2, 3, 4, 5, 6] rfl ?_
          exact hk i Z7
        · refine g_iconst (v := 0) hc dL_law_849 (by decide) ?_
          exact g_none
      · refine g_lconst (v := 1) hc dL_law_840 (by decide) ?_
        refine g_goto (tgt := 845) hc dL_law_841 (by decide) ?_
        refine g_lcmp hc dL_law_845 ?_
        refine g_if_eq (tgt := 851) hc dL_law_846 (by decide) ?_ ?_
        · refine g_goto (tgt := 1485) hc dL_law_851 (by decide) ?_
          refine g_lv [2, 3, 4, 5, 6] rfl ?_
          exact hk i Z7
        · refine g_iconst (v := 0) hc dL_law_849 (by decide) ?_
          exact g_none
  · refine g_iconst (v := 0) hc dL_law_825 (by decide) ?_
    exact g_none
set_option maxHeartbeats 4000000 in
set_option maxRecDepth 100000 in
theorem tLaw_10 (hst : l.stackTraces = false) (hc : CT p s m #[Value.ref b] c code 7 RL lw_tbl D (tyY cI cZ cO cJ)) (hE : EvY tF A s) (hA : A = AA 90 a s.heap.size) (hX : va_X b L xs s s.heap) (hbl : b < s.heap.size) (hbA : ¬ A b) {cs ss : Nat} (hcs : cs + 8 ≤ 601024) (hss : ss + 64 ≤ 7293034) (k : Int32 → St → Option Unit) (hk : ∀ (i : Int32) (Z : St), GF p l e room_1 s m #[Value.ref b] below meth c D 90 a (cL cI cZ cO cJ a) A 7 (cs + 8) (ss + 64) (fun _ : Unit => lw_Z below #[Value.ref b] s) (k i Z) 1485 [(0, .ref b), (1, .ref (a 0)), (2, .ref (aM a 0)), (3, .ref (a 72)), (4, .int i)] [] Z) (i : Int32) (Z : St) : GF p l e room_1 s m #[Value.ref b] below meth c D 90 a (cL cI cZ cO cJ a) A 7 cs ss (fun _ : Unit => lw_Z below #[Value.ref b] s) (cLaw_10 xs L k i Z) 854 [(0, .ref b), (1, .ref (a 0)), (2, .ref (aM a 0)), (3, .ref (a 72)), (4, .int i)] [] Z := by
  unfold cLaw_10
  refine g_aload_n (j := 1) hc dL_law_854 rfl rfl ?_
  refine g_aload_n (j := 0) hc dL_law_855 rfl rfl ?_
  refine g_iload (j := 4) hc dL_law_856 rfl ?_
  refine g_iconst (v := 1) hc dL_law_858 (by decide) ?_
  refine g_iadd hc dL_law_859 ?_
  refine g_sld hc hX hbl hbA dL_law_860 ?_
  refine g_aload_n (j := 0) hc dL_law_861 rfl rfl ?_
  refine g_iload (j := 4) hc dL_law_862 rfl ?_
  refine g_iconst (v := 2) hc dL_law_864 (by decide) ?_
  refine g_iadd hc dL_law_865 ?_
  refine g_sld hc hX hbl hbA dL_law_866 ?_
  refine g_aload_n (j := 0) hc dL_law_867 rfl rfl ?_
  refine g_iload (j := 4) hc dL_law_868 rfl ?_
  refine g_iconst (v := 3) hc dL_law_870 (by decide) ?_
  refine g_iadd hc dL_law_871 ?_
  refine g_sld hc hX hbl hbA dL_law_872 ?_
  refine g_aload_n (j := 3) hc dL_law_873 rfl rfl ?_
  refine g_lW (As := [.ref (a 0), .int (xs (i + 1).toNatClampNeg), .int (xs (i + 2).toNatClampNeg), .int (xs (i + 3).toNatClampNeg), .ref (a 72)]) (rest := []) (hh := [(0, 12, 15, 19), (0, 12, 19, 13)]) hc hE hA (fun _ h => mL_want hst (xs (i + 1).toNatClampNeg) (xs (i + 2).toNatClampNeg) (xs (i + 3).toNatClampNeg) Z _ h) (vx_cwSW 5 hc.1.2.2.2.2 lts_L_want rfl rfl rfl (by decide +kernel) ⟨by decide, by decide⟩) rfl rfl (Nat.le_of_ble_eq_true rfl) dL_law_874 ⟨Nat.le_trans (Nat.add_le_add_left (by decide) cs) hcs, Nat.le_trans (Nat.add_le_add_left (by decide) ss) hss⟩ (fun v2 Z1 => ?_)
  refine g_wid (k := cs + 8) (n := ss + 64) (Nat.add_le_add_left (by decide) cs) (Nat.add_le_add_left (by decide) ss) ?_
  refine g_istore (L := fun v3 => [(5, .int v3), (0, .ref b), (1, .ref (a 0)), (2, .ref (aM a 0)), (3, .ref (a 72)), (4, .int i)]) hc dL_law_877 (by decide) (fun _ => rfl) (fun v3 => ?_)
  refine g_aload_n (j := 3) hc dL_law_879 rfl rfl ?_
  refine g_aload_n (j := 1) hc dL_law_880 rfl rfl ?_
  refine g_iload (j := 5) hc dL_law_881 rfl ?_
  refine g_iconst (v := 1) hc dL_law_883 (by decide) ?_
  refine g_iadd hc dL_law_884 ?_
  refine g_sld hc hX hbl hbA dL_law_885 ?_
  refine g_aload_n (j := 1) hc dL_law_886 rfl rfl ?_
  refine g_iload (j := 5) hc dL_law_887 rfl ?_
  refine g_iconst (v := 2) hc dL_law_889 (by decide) ?_
  refine g_iadd hc dL_law_890 ?_
  refine g_sld hc hX hbl hbA dL_law_891 ?_
  refine g_aload_n (j := 1) hc dL_law_892 rfl rfl ?_
  refine g_iload (j := 5) hc dL_law_893 rfl ?_
  refine g_iconst (v := 3) hc dL_law_895 (by decide) ?_
  refine g_iadd hc dL_law_896 ?_
  refine g_sld hc hX hbl hbA dL_law_897 ?_
  refine g_lMi (As := [.int (xs (i + 1).toNatClampNeg), .int (xs (i + 2).toNatClampNeg), .int (xs (i + 3).toNatClampNeg)]) (rest := []) hc hE hA (fun _ h => mX9_want (xs (i + 1).toNatClampNeg) (xs (i + 2).toNatClampNeg) (xs (i + 3).toNatClampNeg) (tM Z1) _ h) (cwV 3 hc.1.2.2.2.2 lts_X9_want rfl rfl rfl (by decide +kernel) ⟨by decide, by decide⟩) rfl rfl (Nat.le_of_ble_eq_true rfl) dL_law_898 ⟨hcs, hss⟩ (fun v5 Z4 => ?_)
  refine g_istore (L := fun v6 => [(6, .int v6), (5, .int v3), (0, .ref b), (1, .ref (a 0)), (2, .ref (aM a 0)), (3, .ref (a 72)), (4, .int i)]) hc dL_law_901 (by decide) (fun _ => rfl) (fun v6 => ?_)
  refine g_aload_n (j := 4) hc dL_law_903 rfl rfl ?_
  refine g_lMi (As := []) (rest := []) hc hE hA (fun _ h => mX9_thrown (tM Z4) _ h) (cwV 0 hc.1.2.2.2.2 lts_X9_thrown rfl rfl rfl (by decide +kernel) ⟨by decide, by decide⟩) rfl rfl (Nat.le_of_ble_eq_true rfl) dL_law_904 ⟨hcs, hss⟩ (fun v8 Z7 => ?_)
  refine g_iload (j := 1) hc dL_law_907 rfl ?_
  refine g_icmp_eq (tgt := 914) hc dL_law_909 (by decide) ?_ ?_
  · refine g_iload (j := 1) hc dL_law_914 rfl ?_
    refine g_if_ne (tgt := 931) hc dL_law_916 (by decide) ?_ ?_
    · refine g_goto (tgt := 1485) hc dL_law_931 (by decide) ?_
      refine g_lv [2, 3, 4, 5, 6] rfl ?_
      exact hk i Z7
    · refine g_aload_n (j := 5) hc dL_law_919 rfl rfl ?_
      refine g_iconst (v := 0) hc dL_law_920 (by decide) ?_
      refine g_laload (k := 72) (t0 := 3) hc (by decide) (fun _ => rfl) rfl dL_law_921 ?_
      refine g_iload (j := 0) hc dL_law_922 rfl ?_
      refine g_i2l hc dL_law_924 ?_
      refine g_lcmp hc dL_law_925 ?_
      refine g_if_eq (tgt := 931) hc dL_law_926 (by decide) ?_ ?_
      · refine g_goto (tgt := 1485) hc dL_law_931 (by decide) ?_
        refine g_lv [2, 3, 4, 5, 6] rfl ?_
        exact hk i Z7
      · refine g_iconst (v := 0) hc dL_law_929 (by decide) ?_
        exact g_none
  · refine g_iconst (v := 0) hc dL_law_912 (by decide) ?_
    exact g_none
set_option maxHeartbeats 4000000 in
set_option maxRecDepth 100000 in
theorem tLaw_11 (hst : l.stackTraces = false) (hc : CT p s m #[Value.ref b] c code 7 RL lw_tbl D (tyY cI cZ cO cJ)) (hE : EvY tF A s) (hA : A = AA 90 a s.heap.size) (hX : va_X b L xs s s.heap) (hbl : b < s.heap.size) (hbA : ¬ A b) {cs ss : Nat} (hcs : cs + 8 ≤ 601024) (hss : ss + 64 ≤ 7293034) (k : Int32 → St → Option Unit) (hk : ∀ (i : Int32) (Z : St), GF p l e room_1 s m #[Value.ref b] below meth c D 90 a (cL cI cZ cO cJ a) A 7 (cs + 8) (ss + 64) (fun _ : Unit => lw_Z below #[Value.ref b] s) (k i Z) 1485 [(0, .ref b), (1, .ref (a 0)), (2, .ref (aM a 0)), (3, .ref (a 72)), (4, .int i)] [] Z) (i : Int32) (Z : St) : GF p l e room_1 s m #[Value.ref b] below meth c D 90 a (cL cI cZ cO cJ a) A 7 cs ss (fun _ : Unit => lw_Z below #[Value.ref b] s) (cLaw_11 xs L k i Z) 934 [(0, .ref b), (1, .ref (a 0)), (2, .ref (aM a 0)), (3, .ref (a 72)), (4, .int i)] [] Z := by
  unfold cLaw_11
  refine g_aload_n (j := 1) hc dL_law_934 rfl rfl ?_
  refine g_aload_n (j := 0) hc dL_law_935 rfl rfl ?_
  refine g_iload (j := 4) hc dL_law_936 rfl ?_
  refine g_iconst (v := 1) hc dL_law_938 (by decide) ?_
  refine g_iadd hc dL_law_939 ?_
  refine g_sld hc hX hbl hbA dL_law_940 ?_
  refine g_aload_n (j := 3) hc dL_law_941 rfl rfl ?_
  refine g_lW (As := [.ref (a 0), .int (xs (i + 1).toNatClampNeg), .ref (a 72)]) (rest := []) (hh := [(0, 9, 12, 13)]) hc hE hA (fun _ h => mL_plan hst (xs (i + 1).toNatClampNeg) Z _ h) (vx_cwSW 3 hc.1.2.2.2.2 lts_L_plan rfl rfl rfl (by decide +kernel) ⟨by decide, by decide⟩) rfl rfl (Nat.le_of_ble_eq_true rfl) dL_law_942 ⟨Nat.le_trans (Nat.add_le_add_left (by decide) cs) hcs, Nat.le_trans (Nat.add_le_add_left (by decide) ss) hss⟩ (fun v2 Z1 => ?_)
  refine g_wid (k := cs + 8) (n := ss + 64) (Nat.add_le_add_left (by decide) cs) (Nat.add_le_add_left (by decide) ss) ?_
  refine g_istore (L := fun v3 => [(5, .int v3), (0, .ref b), (1, .ref (a 0)), (2, .ref (aM a 0)), (3, .ref (a 72)), (4, .int i)]) hc dL_law_945 (by decide) (fun _ => rfl) (fun v3 => ?_)
  refine g_aload_n (j := 3) hc dL_law_947 rfl rfl ?_
  refine g_aload_n (j := 1) hc dL_law_948 rfl rfl ?_
  refine g_iload (j := 5) hc dL_law_949 rfl ?_
  refine g_iconst (v := 1) hc dL_law_951 (by decide) ?_
  refine g_iadd hc dL_law_952 ?_
  refine g_sld hc hX hbl hbA dL_law_953 ?_
  refine g_lMi (As := [.int (xs (i + 1).toNatClampNeg)]) (rest := []) hc hE hA (fun _ h => mX9_plan (xs (i + 1).toNatClampNeg) (tM Z1) _ h) (cwV 1 hc.1.2.2.2.2 lts_X9_plan rfl rfl rfl (by decide +kernel) ⟨by decide, by decide⟩) rfl rfl (Nat.le_of_ble_eq_true rfl) dL_law_954 ⟨hcs, hss⟩ (fun v5 Z4 => ?_)
  refine g_istore (L := fun v6 => [(6, .int v6), (5, .int v3), (0, .ref b), (1, .ref (a 0)), (2, .ref (aM a 0)), (3, .ref (a 72)), (4, .int i)]) hc dL_law_957 (by decide) (fun _ => rfl) (fun v6 => ?_)
  refine g_aload_n (j := 4) hc dL_law_959 rfl rfl ?_
  refine g_lMi (As := []) (rest := []) hc hE hA (fun _ h => mX9_thrown (tM Z4) _ h) (cwV 0 hc.1.2.2.2.2 lts_X9_thrown rfl rfl rfl (by decide +kernel) ⟨by decide, by decide⟩) rfl rfl (Nat.le_of_ble_eq_true rfl) dL_law_960 ⟨hcs, hss⟩ (fun v8 Z7 => ?_)
  refine g_iload (j := 1) hc dL_law_963 rfl ?_
  refine g_icmp_eq (tgt := 970) hc dL_law_965 (by decide) ?_ ?_
  · refine g_iload (j := 1) hc dL_law_970 rfl ?_
    refine g_if_ne (tgt := 987) hc dL_law_972 (by decide) ?_ ?_
    · refine g_goto (tgt := 1485) hc dL_law_987 (by decide) ?_
      refine g_lv [2, 3, 4, 5, 6] rfl ?_
      exact hk i Z7
    · refine g_aload_n (j := 5) hc dL_law_975 rfl rfl ?_
      refine g_iconst (v := 0) hc dL_law_976 (by decide) ?_
      refine g_laload (k := 72) (t0 := 3) hc (by decide) (fun _ => rfl) rfl dL_law_977 ?_
      refine g_iload (j := 0) hc dL_law_978 rfl ?_
      refine g_i2l hc dL_law_980 ?_
      refine g_lcmp hc dL_law_981 ?_
      refine g_if_eq (tgt := 987) hc dL_law_982 (by decide) ?_ ?_
      · refine g_goto (tgt := 1485) hc dL_law_987 (by decide) ?_
        refine g_lv [2, 3, 4, 5, 6] rfl ?_
        exact hk i Z7
      · refine g_iconst (v := 0) hc dL_law_985 (by decide) ?_
        exact g_none
  · refine g_iconst (v := 0) hc dL_law_968 (by decide) ?_
    exact g_none
set_option maxHeartbeats 4000000 in
set_option maxRecDepth 100000 in
theorem tLaw_12 (hst : l.stackTraces = false) (hc : CT p s m #[Value.ref b] c code 7 RL lw_tbl D (tyY cI cZ cO cJ)) (hE : EvY tF A s) (hA : A = AA 90 a s.heap.size) (hX : va_X b L xs s s.heap) (hbl : b < s.heap.size) (hbA : ¬ A b) {cs ss : Nat} (hcs : cs + 8 ≤ 601024) (hss : ss + 64 ≤ 7293034) (k : Int32 → St → Option Unit) (hk : ∀ (i : Int32) (Z : St), GF p l e room_1 s m #[Value.ref b] below meth c D 90 a (cL cI cZ cO cJ a) A 7 (cs + 8) (ss + 64) (fun _ : Unit => lw_Z below #[Value.ref b] s) (k i Z) 1485 [(0, .ref b), (1, .ref (a 0)), (2, .ref (aM a 0)), (3, .ref (a 72)), (4, .int i)] [] Z) (i : Int32) (Z : St) : GF p l e room_1 s m #[Value.ref b] below meth c D 90 a (cL cI cZ cO cJ a) A 7 cs ss (fun _ : Unit => lw_Z below #[Value.ref b] s) (cLaw_12 xs L k i Z) 990 [(0, .ref b), (1, .ref (a 0)), (2, .ref (aM a 0)), (3, .ref (a 72)), (4, .int i)] [] Z := by
  unfold cLaw_12
  refine g_aload_n (j := 1) hc dL_law_990 rfl rfl ?_
  refine g_aload_n (j := 0) hc dL_law_991 rfl rfl ?_
  refine g_iload (j := 4) hc dL_law_992 rfl ?_
  refine g_iconst (v := 1) hc dL_law_994 (by decide) ?_
  refine g_iadd hc dL_law_995 ?_
  refine g_sld hc hX hbl hbA dL_law_996 ?_
  refine g_aload_n (j := 3) hc dL_law_997 rfl rfl ?_
  refine g_lW (As := [.ref (a 0), .int (xs (i + 1).toNatClampNeg), .ref (a 72)]) (rest := []) (hh := [(0, 9, 12, 13)]) hc hE hA (fun _ h => mL_best hst (xs (i + 1).toNatClampNeg) Z _ h) (vx_cwSW 3 hc.1.2.2.2.2 lts_L_best rfl rfl rfl (by decide +kernel) ⟨by decide, by decide⟩) rfl rfl (Nat.le_of_ble_eq_true rfl) dL_law_998 ⟨Nat.le_trans (Nat.add_le_add_left (by decide) cs) hcs, Nat.le_trans (Nat.add_le_add_left (by decide) ss) hss⟩ (fun v2 Z1 => ?_)
  refine g_wid (k := cs + 8) (n := ss + 64) (Nat.add_le_add_left (by decide) cs) (Nat.add_le_add_left (by decide) ss) ?_
  refine g_istore (L := fun v3 => [(5, .int v3), (0, .ref b), (1, .ref (a 0)), (2, .ref (aM a 0)), (3, .ref (a 72)), (4, .int i)]) hc dL_law_1001 (by decide) (fun _ => rfl) (fun v3 => ?_)
  refine g_aload_n (j := 3) hc dL_law_1003 rfl rfl ?_
  refine g_aload_n (j := 1) hc dL_law_1004 rfl rfl ?_
  refine g_iload (j := 5) hc dL_law_1005 rfl ?_
  refine g_iconst (v := 1) hc dL_law_1007 (by decide) ?_
  refine g_iadd hc dL_law_1008 ?_
  refine g_sld hc hX hbl hbA dL_law_1009 ?_
  refine g_lMi (As := [.int (xs (i + 1).toNatClampNeg)]) (rest := []) hc hE hA (fun _ h => mX9_best (xs (i + 1).toNatClampNeg) (tM Z1) _ h) (cwV 1 hc.1.2.2.2.2 lts_X9_best rfl rfl rfl (by decide +kernel) ⟨by decide, by decide⟩) rfl rfl (Nat.le_of_ble_eq_true rfl) dL_law_1010 ⟨hcs, hss⟩ (fun v5 Z4 => ?_)
  refine g_istore (L := fun v6 => [(6, .int v6), (5, .int v3), (0, .ref b), (1, .ref (a 0)), (2, .ref (aM a 0)), (3, .ref (a 72)), (4, .int i)]) hc dL_law_1013 (by decide) (fun _ => rfl) (fun v6 => ?_)
  refine g_aload_n (j := 4) hc dL_law_1015 rfl rfl ?_
  refine g_lMi (As := []) (rest := []) hc hE hA (fun _ h => mX9_thrown (tM Z4) _ h) (cwV 0 hc.1.2.2.2.2 lts_X9_thrown rfl rfl rfl (by decide +kernel) ⟨by decide, by decide⟩) rfl rfl (Nat.le_of_ble_eq_true rfl) dL_law_1016 ⟨hcs, hss⟩ (fun v8 Z7 => ?_)
  refine g_iload (j := 1) hc dL_law_1019 rfl ?_
  refine g_icmp_eq (tgt := 1026) hc dL_law_1021 (by decide) ?_ ?_
  · refine g_iload (j := 1) hc dL_law_1026 rfl ?_
    refine g_if_ne (tgt := 1043) hc dL_law_1028 (by decide) ?_ ?_
    · refine g_goto (tgt := 1485) hc dL_law_1043 (by decide) ?_
      refine g_lv [2, 3, 4, 5, 6] rfl ?_
      exact hk i Z7
    · refine g_aload_n (j := 5) hc dL_law_1031 rfl rfl ?_
      refine g_iconst (v := 0) hc dL_law_1032 (by decide) ?_
      refine g_laload (k := 72) (t0 := 3) hc (by decide) (fun _ => rfl) rfl dL_law_1033 ?_
      refine g_iload (j := 0) hc dL_law_1034 rfl ?_
      refine g_i2l hc dL_law_1036 ?_
      refine g_lcmp hc dL_law_1037 ?_
      refine g_if_eq (tgt := 1043) hc dL_law_1038 (by decide) ?_ ?_
      · refine g_goto (tgt := 1485) hc dL_law_1043 (by decide) ?_
        refine g_lv [2, 3, 4, 5, 6] rfl ?_
        exact hk i Z7
      · refine g_iconst (v := 0) hc dL_law_1041 (by decide) ?_
        exact g_none
  · refine g_iconst (v := 0) hc dL_law_1024 (by decide) ?_
    exact g_none
set_option maxHeartbeats 4000000 in
set_option maxRecDepth 100000 in
theorem tLaw_13 (hst : l.stackTraces = false) (hc : CT p s m #[Value.ref b] c code 7 RL lw_tbl D (tyY cI cZ cO cJ)) (hE : EvY tF A s) (hA : A = AA 90 a s.heap.size) (hX : va_X b L xs s s.heap) (hbl : b < s.heap.size) (hbA : ¬ A b) {cs ss : Nat} (hcs : cs + 8 ≤ 601024) (hss : ss + 64 ≤ 7293034) (k : Int32 → St → Option Unit) (hk : ∀ (i : Int32) (Z : St), GF p l e room_1 s m #[Value.ref b] below meth c D 90 a (cL cI cZ cO cJ a) A 7 (cs + 8) (ss + 64) (fun _ : Unit => lw_Z below #[Value.ref b] s) (k i Z) 1485 [(0, .ref b), (1, .ref (a 0)), (2, .ref (aM a 0)), (3, .ref (a 72)), (4, .int i)] [] Z) (i : Int32) (Z : St) : GF p l e room_1 s m #[Value.ref b] below meth c D 90 a (cL cI cZ cO cJ a) A 7 cs ss (fun _ : Unit => lw_Z below #[Value.ref b] s) (cLaw_13 xs L k i Z) 1046 [(0, .ref b), (1, .ref (a 0)), (2, .ref (aM a 0)), (3, .ref (a 72)), (4, .int i)] [] Z := by
  unfold cLaw_13
  refine g_aload_n (j := 1) hc dL_law_1046 rfl rfl ?_
  refine g_aload_n (j := 0) hc dL_law_1047 rfl rfl ?_
  refine g_iload (j := 4) hc dL_law_1048 rfl ?_
  refine g_iconst (v := 1) hc dL_law_1050 (by decide) ?_
  refine g_iadd hc dL_law_1051 ?_
  refine g_sld hc hX hbl hbA dL_law_1052 ?_
  refine g_aload_n (j := 3) hc dL_law_1053 rfl rfl ?_
  refine g_lW (As := [.ref (a 0), .int (xs (i + 1).toNatClampNeg), .ref (a 72)]) (rest := []) (hh := [(0, 9, 12, 61)]) hc hE hA (fun _ h => mL_kept hst (xs (i + 1).toNatClampNeg) Z _ h) (vx_cwSW 3 hc.1.2.2.2.2 lts_L_kept rfl rfl rfl (by decide +kernel) ⟨by decide, by decide⟩) rfl rfl (Nat.le_of_ble_eq_true rfl) dL_law_1054 ⟨Nat.le_trans (Nat.add_le_add_left (by decide) cs) hcs, Nat.le_trans (Nat.add_le_add_left (by decide) ss) hss⟩ (fun v2 Z1 => ?_)
  refine g_wid (k := cs + 8) (n := ss + 64) (Nat.add_le_add_left (by decide) cs) (Nat.add_le_add_left (by decide) ss) ?_
  refine g_istore (L := fun v3 => [(5, .int v3), (0, .ref b), (1, .ref (a 0)), (2, .ref (aM a 0)), (3, .ref (a 72)), (4, .int i)]) hc dL_law_1057 (by decide) (fun _ => rfl) (fun v3 => ?_)
  refine g_aload_n (j := 3) hc dL_law_1059 rfl rfl ?_
  refine g_aload_n (j := 1) hc dL_law_1060 rfl rfl ?_
  refine g_iload (j := 5) hc dL_law_1061 rfl ?_
  refine g_iconst (v := 1) hc dL_law_1063 (by decide) ?_
  refine g_iadd hc dL_law_1064 ?_
  refine g_sld hc hX hbl hbA dL_law_1065 ?_
  refine g_lMi (As := [.int (xs (i + 1).toNatClampNeg)]) (rest := []) hc hE hA (fun _ h => mX9_kept (xs (i + 1).toNatClampNeg) (tM Z1) _ h) (cwV 1 hc.1.2.2.2.2 lts_X9_kept rfl rfl rfl (by decide +kernel) ⟨by decide, by decide⟩) rfl rfl (Nat.le_of_ble_eq_true rfl) dL_law_1066 ⟨hcs, hss⟩ (fun v5 Z4 => ?_)
  refine g_istore (L := fun v6 => [(6, .int v6), (5, .int v3), (0, .ref b), (1, .ref (a 0)), (2, .ref (aM a 0)), (3, .ref (a 72)), (4, .int i)]) hc dL_law_1069 (by decide) (fun _ => rfl) (fun v6 => ?_)
  refine g_aload_n (j := 4) hc dL_law_1071 rfl rfl ?_
  refine g_lMi (As := []) (rest := []) hc hE hA (fun _ h => mX9_thrown (tM Z4) _ h) (cwV 0 hc.1.2.2.2.2 lts_X9_thrown rfl rfl rfl (by decide +kernel) ⟨by decide, by decide⟩) rfl rfl (Nat.le_of_ble_eq_true rfl) dL_law_1072 ⟨hcs, hss⟩ (fun v8 Z7 => ?_)
  refine g_iload (j := 1) hc dL_law_1075 rfl ?_
  refine g_icmp_eq (tgt := 1082) hc dL_law_1077 (by decide) ?_ ?_
  · refine g_iload (j := 1) hc dL_law_1082 rfl ?_
    refine g_if_ne (tgt := 1099) hc dL_law_1084 (by decide) ?_ ?_
    · refine g_goto (tgt := 1485) hc dL_law_1099 (by decide) ?_
      refine g_lv [2, 3, 4, 5, 6] rfl ?_
      exact hk i Z7
    · refine g_aload_n (j := 5) hc dL_law_1087 rfl rfl ?_
      refine g_iconst (v := 0) hc dL_law_1088 (by decide) ?_
      refine g_laload (k := 72) (t0 := 3) hc (by decide) (fun _ => rfl) rfl dL_law_1089 ?_
      refine g_iload (j := 0) hc dL_law_1090 rfl ?_
      refine g_i2l hc dL_law_1092 ?_
      refine g_lcmp hc dL_law_1093 ?_
      refine g_if_eq (tgt := 1099) hc dL_law_1094 (by decide) ?_ ?_
      · refine g_goto (tgt := 1485) hc dL_law_1099 (by decide) ?_
        refine g_lv [2, 3, 4, 5, 6] rfl ?_
        exact hk i Z7
      · refine g_iconst (v := 0) hc dL_law_1097 (by decide) ?_
        exact g_none
  · refine g_iconst (v := 0) hc dL_law_1080 (by decide) ?_
    exact g_none
set_option maxHeartbeats 4000000 in
set_option maxRecDepth 100000 in
theorem tLaw_14 (hst : l.stackTraces = false) (hc : CT p s m #[Value.ref b] c code 7 RL lw_tbl D (tyY cI cZ cO cJ)) (hE : EvY tF A s) (hA : A = AA 90 a s.heap.size) (hX : va_X b L xs s s.heap) (hbl : b < s.heap.size) (hbA : ¬ A b) {cs ss : Nat} (hcs : cs + 8 ≤ 601024) (hss : ss + 64 ≤ 7293034) (k : Int32 → St → Option Unit) (hk : ∀ (i : Int32) (Z : St), GF p l e room_1 s m #[Value.ref b] below meth c D 90 a (cL cI cZ cO cJ a) A 7 (cs + 8) (ss + 64) (fun _ : Unit => lw_Z below #[Value.ref b] s) (k i Z) 1485 [(0, .ref b), (1, .ref (a 0)), (2, .ref (aM a 0)), (3, .ref (a 72)), (4, .int i)] [] Z) (i : Int32) (Z : St) : GF p l e room_1 s m #[Value.ref b] below meth c D 90 a (cL cI cZ cO cJ a) A 7 cs ss (fun _ : Unit => lw_Z below #[Value.ref b] s) (cLaw_14 xs L k i Z) 1102 [(0, .ref b), (1, .ref (a 0)), (2, .ref (aM a 0)), (3, .ref (a 72)), (4, .int i)] [] Z := by
  unfold cLaw_14
  refine g_aload_n (j := 1) hc dL_law_1102 rfl rfl ?_
  refine g_aload_n (j := 0) hc dL_law_1103 rfl rfl ?_
  refine g_iload (j := 4) hc dL_law_1104 rfl ?_
  refine g_iconst (v := 1) hc dL_law_1106 (by decide) ?_
  refine g_iadd hc dL_law_1107 ?_
  refine g_sld hc hX hbl hbA dL_law_1108 ?_
  refine g_aload_n (j := 0) hc dL_law_1109 rfl rfl ?_
  refine g_iload (j := 4) hc dL_law_1110 rfl ?_
  refine g_iconst (v := 2) hc dL_law_1112 (by decide) ?_
  refine g_iadd hc dL_law_1113 ?_
  refine g_sld hc hX hbl hbA dL_law_1114 ?_
  refine g_aload_n (j := 3) hc dL_law_1115 rfl rfl ?_
  refine g_lW (As := [.ref (a 0), .int (xs (i + 1).toNatClampNeg), .int (xs (i + 2).toNatClampNeg), .ref (a 72)]) (rest := []) (hh := [(0, 10, 13, 19)]) hc hE hA (fun _ h => mL_bits hst (xs (i + 1).toNatClampNeg) (xs (i + 2).toNatClampNeg) Z _ h) (vx_cwSW 4 hc.1.2.2.2.2 lts_L_bits rfl rfl rfl (by decide +kernel) ⟨by decide, by decide⟩) rfl rfl (Nat.le_of_ble_eq_true rfl) dL_law_1116 ⟨Nat.le_trans (Nat.add_le_add_left (by decide) cs) hcs, Nat.le_trans (Nat.add_le_add_left (by decide) ss) hss⟩ (fun v2 Z1 => ?_)
  refine g_wid (k := cs + 8) (n := ss + 64) (Nat.add_le_add_left (by decide) cs) (Nat.add_le_add_left (by decide) ss) ?_
  refine g_istore (L := fun v3 => [(5, .int v3), (0, .ref b), (1, .ref (a 0)), (2, .ref (aM a 0)), (3, .ref (a 72)), (4, .int i)]) hc dL_law_1119 (by decide) (fun _ => rfl) (fun v3 => ?_)
  refine g_aload_n (j := 3) hc dL_law_1121 rfl rfl ?_
  refine g_aload_n (j := 1) hc dL_law_1122 rfl rfl ?_
  refine g_iload (j := 5) hc dL_law_1123 rfl ?_
  refine g_iconst (v := 1) hc dL_law_1125 (by decide) ?_
  refine g_iadd hc dL_law_1126 ?_
  refine g_sld hc hX hbl hbA dL_law_1127 ?_
  refine g_aload_n (j := 1) hc dL_law_1128 rfl rfl ?_
  refine g_iload (j := 5) hc dL_law_1129 rfl ?_
  refine g_iconst (v := 2) hc dL_law_1131 (by decide) ?_
  refine g_iadd hc dL_law_1132 ?_
  refine g_sld hc hX hbl hbA dL_law_1133 ?_
  refine g_lMi (As := [.int (xs (i + 1).toNatClampNeg), .int (xs (i + 2).toNatClampNeg)]) (rest := []) hc hE hA (fun _ h => mX9_bits (xs (i + 1).toNatClampNeg) (xs (i + 2).toNatClampNeg) (tM Z1) _ h) (cwV 2 hc.1.2.2.2.2 lts_X9_bits rfl rfl rfl (by decide +kernel) ⟨by decide, by decide⟩) rfl rfl (Nat.le_of_ble_eq_true rfl) dL_law_1134 ⟨hcs, hss⟩ (fun v5 Z4 => ?_)
  refine g_istore (L := fun v6 => [(6, .int v6), (5, .int v3), (0, .ref b), (1, .ref (a 0)), (2, .ref (aM a 0)), (3, .ref (a 72)), (4, .int i)]) hc dL_law_1137 (by decide) (fun _ => rfl) (fun v6 => ?_)
  refine g_aload_n (j := 4) hc dL_law_1139 rfl rfl ?_
  refine g_lMi (As := []) (rest := []) hc hE hA (fun _ h => mX9_thrown (tM Z4) _ h) (cwV 0 hc.1.2.2.2.2 lts_X9_thrown rfl rfl rfl (by decide +kernel) ⟨by decide, by decide⟩) rfl rfl (Nat.le_of_ble_eq_true rfl) dL_law_1140 ⟨hcs, hss⟩ (fun v8 Z7 => ?_)
  refine g_iload (j := 1) hc dL_law_1143 rfl ?_
  refine g_icmp_eq (tgt := 1150) hc dL_law_1145 (by decide) ?_ ?_
  · refine g_iload (j := 1) hc dL_law_1150 rfl ?_
    refine g_if_ne (tgt := 1167) hc dL_law_1152 (by decide) ?_ ?_
    · refine g_goto (tgt := 1485) hc dL_law_1167 (by decide) ?_
      refine g_lv [2, 3, 4, 5, 6] rfl ?_
      exact hk i Z7
    · refine g_aload_n (j := 5) hc dL_law_1155 rfl rfl ?_
      refine g_iconst (v := 0) hc dL_law_1156 (by decide) ?_
      refine g_laload (k := 72) (t0 := 3) hc (by decide) (fun _ => rfl) rfl dL_law_1157 ?_
      refine g_iload (j := 0) hc dL_law_1158 rfl ?_
      refine g_i2l hc dL_law_1160 ?_
      refine g_lcmp hc dL_law_1161 ?_
      refine g_if_eq (tgt := 1167) hc dL_law_1162 (by decide) ?_ ?_
      · refine g_goto (tgt := 1485) hc dL_law_1167 (by decide) ?_
        refine g_lv [2, 3, 4, 5, 6] rfl ?_
        exact hk i Z7
      · refine g_iconst (v := 0) hc dL_law_1165 (by decide) ?_
        exact g_none
  · refine g_iconst (v := 0) hc dL_law_1148 (by decide) ?_
    exact g_none
set_option maxHeartbeats 4000000 in
set_option maxRecDepth 100000 in
theorem tLaw_15 (hst : l.stackTraces = false) (hc : CT p s m #[Value.ref b] c code 7 RL lw_tbl D (tyY cI cZ cO cJ)) (hE : EvY tF A s) (hA : A = AA 90 a s.heap.size) (hX : va_X b L xs s s.heap) (hbl : b < s.heap.size) (hbA : ¬ A b) {cs ss : Nat} (hcs : cs + 8 ≤ 601024) (hss : ss + 64 ≤ 7293034) (k : Int32 → St → Option Unit) (hk : ∀ (i : Int32) (Z : St), GF p l e room_1 s m #[Value.ref b] below meth c D 90 a (cL cI cZ cO cJ a) A 7 (cs + 8) (ss + 64) (fun _ : Unit => lw_Z below #[Value.ref b] s) (k i Z) 1485 [(0, .ref b), (1, .ref (a 0)), (2, .ref (aM a 0)), (3, .ref (a 72)), (4, .int i)] [] Z) (i : Int32) (Z : St) : GF p l e room_1 s m #[Value.ref b] below meth c D 90 a (cL cI cZ cO cJ a) A 7 cs ss (fun _ : Unit => lw_Z below #[Value.ref b] s) (cLaw_15 xs L k i Z) 1170 [(0, .ref b), (1, .ref (a 0)), (2, .ref (aM a 0)), (3, .ref (a 72)), (4, .int i)] [] Z := by
  unfold cLaw_15
  refine g_aload_n (j := 1) hc dL_law_1170 rfl rfl ?_
  refine g_lX (As := []) (rest := []) hc hE hA (fun _ h => mX8_dye Z _ h) (cwV 0 hc.1.2.2.2.2 lts_X8_dye rfl rfl rfl (by decide +kernel) ⟨by decide, by decide⟩) rfl rfl (Nat.le_of_ble_eq_true rfl) dL_law_1171 ⟨Nat.le_trans (Nat.le_add_right cs 8) hcs, Nat.le_trans (Nat.le_add_right ss 64) hss⟩ (fun v2 Z1 => ?_)
  refine g_aload_n (j := 2) hc dL_law_1174 rfl rfl ?_
  refine g_lMi (As := []) (rest := [.int v2]) hc hE hA (fun _ h => mX9_dye (tM Z1) _ h) (cwV 0 hc.1.2.2.2.2 lts_X9_dye rfl rfl rfl (by decide +kernel) ⟨by decide, by decide⟩) rfl rfl (Nat.le_of_ble_eq_true rfl) dL_law_1175 ⟨Nat.le_trans (Nat.le_add_right cs 8) hcs, Nat.le_trans (Nat.le_add_right ss 64) hss⟩ (fun v4 Z3 => ?_)
  refine g_icmp_eq (tgt := 1485) hc dL_law_1178 (by decide) ?_ ?_
  · refine g_wid (k := cs + 8) (n := ss + 64) (Nat.le_add_right _ _) (Nat.le_add_right _ _) ?_
    exact hk i Z3
  · refine g_iconst (v := 0) hc dL_law_1181 (by decide) ?_
    exact g_none
set_option maxHeartbeats 4000000 in
set_option maxRecDepth 100000 in
theorem tLaw_16 (hst : l.stackTraces = false) (hc : CT p s m #[Value.ref b] c code 7 RL lw_tbl D (tyY cI cZ cO cJ)) (hE : EvY tF A s) (hA : A = AA 90 a s.heap.size) (hX : va_X b L xs s s.heap) (hbl : b < s.heap.size) (hbA : ¬ A b) {cs ss : Nat} (hcs : cs + 8 ≤ 601024) (hss : ss + 64 ≤ 7293034) (k : Int32 → St → Option Unit) (hk : ∀ (i : Int32) (Z : St), GF p l e room_1 s m #[Value.ref b] below meth c D 90 a (cL cI cZ cO cJ a) A 7 (cs + 8) (ss + 64) (fun _ : Unit => lw_Z below #[Value.ref b] s) (k i Z) 1485 [(0, .ref b), (1, .ref (a 0)), (2, .ref (aM a 0)), (3, .ref (a 72)), (4, .int i)] [] Z) (i : Int32) (Z : St) : GF p l e room_1 s m #[Value.ref b] below meth c D 90 a (cL cI cZ cO cJ a) A 7 cs ss (fun _ : Unit => lw_Z below #[Value.ref b] s) (cLaw_16 xs L k i Z) 1183 [(0, .ref b), (1, .ref (a 0)), (2, .ref (aM a 0)), (3, .ref (a 72)), (4, .int i)] [] Z := by
  unfold cLaw_16
  refine g_aload_n (j := 1) hc dL_law_1183 rfl rfl ?_
  refine g_aload_n (j := 0) hc dL_law_1184 rfl rfl ?_
  refine g_iload (j := 4) hc dL_law_1185 rfl ?_
  refine g_iconst (v := 1) hc dL_law_1187 (by decide) ?_
  refine g_iadd hc dL_law_1188 ?_
  refine g_sld hc hX hbl hbA dL_law_1189 ?_
  refine g_aload_n (j := 0) hc dL_law_1190 rfl rfl ?_
  refine g_iload (j := 4) hc dL_law_1191 rfl ?_
  refine g_iconst (v := 2) hc dL_law_1193 (by decide) ?_
  refine g_iadd hc dL_law_1194 ?_
  refine g_sld hc hX hbl hbA dL_law_1195 ?_
  refine g_aload_n (j := 0) hc dL_law_1196 rfl rfl ?_
  refine g_iload (j := 4) hc dL_law_1197 rfl ?_
  refine g_iconst (v := 3) hc dL_law_1199 (by decide) ?_
  refine g_iadd hc dL_law_1200 ?_
  refine g_sld hc hX hbl hbA dL_law_1201 ?_
  refine g_lW (As := [.ref (a 0), .int (xs (i + 1).toNatClampNeg), .int (xs (i + 2).toNatClampNeg), .int (xs (i + 3).toNatClampNeg)]) (rest := []) (hh := [(0, 7, 10, 19), (0, 7, 14, 13)]) hc hE hA (fun _ h => mL_slip hst (xs (i + 1).toNatClampNeg) (xs (i + 2).toNatClampNeg) (xs (i + 3).toNatClampNeg) Z _ h) (vx_cwSW 4 hc.1.2.2.2.2 lts_L_slip rfl rfl rfl (by decide +kernel) ⟨by decide, by decide⟩) rfl rfl (Nat.le_of_ble_eq_true rfl) dL_law_1202 ⟨Nat.le_trans (Nat.add_le_add_left (by decide) cs) hcs, Nat.le_trans (Nat.add_le_add_left (by decide) ss) hss⟩ (fun v2 Z1 => ?_)
  refine g_wid (k := cs + 8) (n := ss + 64) (Nat.add_le_add_left (by decide) cs) (Nat.add_le_add_left (by decide) ss) ?_
  refine g_istore (L := fun v3 => [(5, .int v3), (0, .ref b), (1, .ref (a 0)), (2, .ref (aM a 0)), (3, .ref (a 72)), (4, .int i)]) hc dL_law_1205 (by decide) (fun _ => rfl) (fun v3 => ?_)
  refine g_aload_n (j := 3) hc dL_law_1207 rfl rfl ?_
  refine g_aload_n (j := 1) hc dL_law_1208 rfl rfl ?_
  refine g_iload (j := 5) hc dL_law_1209 rfl ?_
  refine g_iconst (v := 1) hc dL_law_1211 (by decide) ?_
  refine g_iadd hc dL_law_1212 ?_
  refine g_sld hc hX hbl hbA dL_law_1213 ?_
  refine g_aload_n (j := 1) hc dL_law_1214 rfl rfl ?_
  refine g_iload (j := 5) hc dL_law_1215 rfl ?_
  refine g_iconst (v := 2) hc dL_law_1217 (by decide) ?_
  refine g_iadd hc dL_law_1218 ?_
  refine g_sld hc hX hbl hbA dL_law_1219 ?_
  refine g_aload_n (j := 1) hc dL_law_1220 rfl rfl ?_
  refine g_iload (j := 5) hc dL_law_1221 rfl ?_
  refine g_iconst (v := 3) hc dL_law_1223 (by decide) ?_
  refine g_iadd hc dL_law_1224 ?_
  refine g_sld hc hX hbl hbA dL_law_1225 ?_
  refine g_lMv (As := [.int (xs (i + 1).toNatClampNeg), .int (xs (i + 2).toNatClampNeg), .int (xs (i + 3).toNatClampNeg)]) (rest := []) hc hE hA (fun _ h => mX9_slip (xs (i + 1).toNatClampNeg) (xs (i + 2).toNatClampNeg) (xs (i + 3).toNatClampNeg) (tM Z1) _ h) (cwV 3 hc.1.2.2.2.2 lts_X9_slip rfl rfl rfl (by decide +kernel) ⟨by decide, by decide⟩) rfl rfl (Nat.le_of_ble_eq_true rfl) dL_law_1226 ⟨hcs, hss⟩ (fun Z4 => ?_)
  refine g_aload_n (j := 3) hc dL_law_1229 rfl rfl ?_
  refine g_lMi (As := []) (rest := []) hc hE hA (fun _ h => mX9_thrown (tM Z4) _ h) (cwV 0 hc.1.2.2.2.2 lts_X9_thrown rfl rfl rfl (by decide +kernel) ⟨by decide, by decide⟩) rfl rfl (Nat.le_of_ble_eq_true rfl) dL_law_1230 ⟨hcs, hss⟩ (fun v7 Z6 => ?_)
  refine g_iload (j := 0) hc dL_law_1233 rfl ?_
  refine g_icmp_eq (tgt := 1240) hc dL_law_1235 (by decide) ?_ ?_
  · refine g_goto (tgt := 1485) hc dL_law_1240 (by decide) ?_
    refine g_lv [1, 2, 3, 4, 5] rfl ?_
    exact hk i Z6
  · refine g_iconst (v := 0) hc dL_law_1238 (by decide) ?_
    exact g_none
set_option maxHeartbeats 4000000 in
set_option maxRecDepth 100000 in
theorem tLaw_17 (hst : l.stackTraces = false) (hc : CT p s m #[Value.ref b] c code 7 RL lw_tbl D (tyY cI cZ cO cJ)) (hE : EvY tF A s) (hA : A = AA 90 a s.heap.size) (hX : va_X b L xs s s.heap) (hbl : b < s.heap.size) (hbA : ¬ A b) {cs ss : Nat} (hcs : cs + 8 ≤ 601024) (hss : ss + 64 ≤ 7293034) (k : Int32 → St → Option Unit) (hk : ∀ (i : Int32) (Z : St), GF p l e room_1 s m #[Value.ref b] below meth c D 90 a (cL cI cZ cO cJ a) A 7 (cs + 8) (ss + 64) (fun _ : Unit => lw_Z below #[Value.ref b] s) (k i Z) 1485 [(0, .ref b), (1, .ref (a 0)), (2, .ref (aM a 0)), (3, .ref (a 72)), (4, .int i)] [] Z) (i : Int32) (Z : St) : GF p l e room_1 s m #[Value.ref b] below meth c D 90 a (cL cI cZ cO cJ a) A 7 cs ss (fun _ : Unit => lw_Z below #[Value.ref b] s) (cLaw_17 xs L k i Z) 1243 [(0, .ref b), (1, .ref (a 0)), (2, .ref (aM a 0)), (3, .ref (a 72)), (4, .int i)] [] Z := by
  unfold cLaw_17
  refine g_aload_n (j := 1) hc dL_law_1243 rfl rfl ?_
  refine g_aload_n (j := 0) hc dL_law_1244 rfl rfl ?_
  refine g_iload (j := 4) hc dL_law_1245 rfl ?_
  refine g_iconst (v := 1) hc dL_law_1247 (by decide) ?_
  refine g_iadd hc dL_law_1248 ?_
  refine g_sld hc hX hbl hbA dL_law_1249 ?_
  refine g_aload_n (j := 0) hc dL_law_1250 rfl rfl ?_
  refine g_iload (j := 4) hc dL_law_1251 rfl ?_
  refine g_iconst (v := 2) hc dL_law_1253 (by decide) ?_
  refine g_iadd hc dL_law_1254 ?_
  refine g_sld hc hX hbl hbA dL_law_1255 ?_
  refine g_aload_n (j := 3) hc dL_law_1256 rfl rfl ?_
  refine g_lW (As := [.ref (a 0), .int (xs (i + 1).toNatClampNeg), .int (xs (i + 2).toNatClampNeg), .ref (a 72)]) (rest := []) (hh := [(0, 10, 13, 19)]) hc hE hA (fun _ h => mL_seen hst (xs (i + 1).toNatClampNeg) (xs (i + 2).toNatClampNeg) Z _ h) (vx_cwSW 4 hc.1.2.2.2.2 lts_L_seen rfl rfl rfl (by decide +kernel) ⟨by decide, by decide⟩) rfl rfl (Nat.le_of_ble_eq_true rfl) dL_law_1257 ⟨Nat.le_trans (Nat.add_le_add_left (by decide) cs) hcs, Nat.le_trans (Nat.add_le_add_left (by decide) ss) hss⟩ (fun v2 Z1 => ?_)
  refine g_wid (k := cs + 8) (n := ss + 64) (Nat.add_le_add_left (by decide) cs) (Nat.add_le_add_left (by decide) ss) ?_
  refine g_istore (L := fun v3 => [(5, .int v3), (0, .ref b), (1, .ref (a 0)), (2, .ref (aM a 0)), (3, .ref (a 72)), (4, .int i)]) hc dL_law_1260 (by decide) (fun _ => rfl) (fun v3 => ?_)
  refine g_aload_n (j := 3) hc dL_law_1262 rfl rfl ?_
  refine g_aload_n (j := 1) hc dL_law_1263 rfl rfl ?_
  refine g_iload (j := 5) hc dL_law_1264 rfl ?_
  refine g_iconst (v := 1) hc dL_law_1266 (by decide) ?_
  refine g_iadd hc dL_law_1267 ?_
  refine g_sld hc hX hbl hbA dL_law_1268 ?_
  refine g_aload_n (j := 1) hc dL_law_1269 rfl rfl ?_
  refine g_iload (j := 5) hc dL_law_1270 rfl ?_
  refine g_iconst (v := 2) hc dL_law_1272 (by decide) ?_
  refine g_iadd hc dL_law_1273 ?_
  refine g_sld hc hX hbl hbA dL_law_1274 ?_
  refine g_lMi (As := [.int (xs (i + 1).toNatClampNeg), .int (xs (i + 2).toNatClampNeg)]) (rest := []) hc hE hA (fun _ h => mX9_seen (xs (i + 1).toNatClampNeg) (xs (i + 2).toNatClampNeg) (tM Z1) _ h) (cwV 2 hc.1.2.2.2.2 lts_X9_seen rfl rfl rfl (by decide +kernel) ⟨by decide, by decide⟩) rfl rfl (Nat.le_of_ble_eq_true rfl) dL_law_1275 ⟨hcs, hss⟩ (fun v5 Z4 => ?_)
  refine g_istore (L := fun v6 => [(6, .int v6), (5, .int v3), (0, .ref b), (1, .ref (a 0)), (2, .ref (aM a 0)), (3, .ref (a 72)), (4, .int i)]) hc dL_law_1278 (by decide) (fun _ => rfl) (fun v6 => ?_)
  refine g_aload_n (j := 4) hc dL_law_1280 rfl rfl ?_
  refine g_lMi (As := []) (rest := []) hc hE hA (fun _ h => mX9_thrown (tM Z4) _ h) (cwV 0 hc.1.2.2.2.2 lts_X9_thrown rfl rfl rfl (by decide +kernel) ⟨by decide, by decide⟩) rfl rfl (Nat.le_of_ble_eq_true rfl) dL_law_1281 ⟨hcs, hss⟩ (fun v8 Z7 => ?_)
  refine g_iload (j := 1) hc dL_law_1284 rfl ?_
  refine g_icmp_eq (tgt := 1291) hc dL_law_1286 (by decide) ?_ ?_
  · refine g_iload (j := 1) hc dL_law_1291 rfl ?_
    refine g_if_ne (tgt := 1308) hc dL_law_1293 (by decide) ?_ ?_
    · refine g_goto (tgt := 1485) hc dL_law_1308 (by decide) ?_
      refine g_lv [2, 3, 4, 5, 6] rfl ?_
      exact hk i Z7
    · refine g_aload_n (j := 5) hc dL_law_1296 rfl rfl ?_
      refine g_iconst (v := 0) hc dL_law_1297 (by decide) ?_
      refine g_laload (k := 72) (t0 := 3) hc (by decide) (fun _ => rfl) rfl dL_law_1298 ?_
      refine g_iload (j := 0) hc dL_law_1299 rfl ?_
      refine g_i2l hc dL_law_1301 ?_
      refine g_lcmp hc dL_law_1302 ?_
      refine g_if_eq (tgt := 1308) hc dL_law_1303 (by decide) ?_ ?_
      · refine g_goto (tgt := 1485) hc dL_law_1308 (by decide) ?_
        refine g_lv [2, 3, 4, 5, 6] rfl ?_
        exact hk i Z7
      · refine g_iconst (v := 0) hc dL_law_1306 (by decide) ?_
        exact g_none
  · refine g_iconst (v := 0) hc dL_law_1289 (by decide) ?_
    exact g_none
set_option maxHeartbeats 4000000 in
set_option maxRecDepth 100000 in
theorem tLaw_18 (hst : l.stackTraces = false) (hc : CT p s m #[Value.ref b] c code 7 RL lw_tbl D (tyY cI cZ cO cJ)) (hE : EvY tF A s) (hA : A = AA 90 a s.heap.size) (hX : va_X b L xs s s.heap) (hbl : b < s.heap.size) (hbA : ¬ A b) {cs ss : Nat} (hcs : cs + 8 ≤ 601024) (hss : ss + 64 ≤ 7293034) (k : Int32 → St → Option Unit) (hk : ∀ (i : Int32) (Z : St), GF p l e room_1 s m #[Value.ref b] below meth c D 90 a (cL cI cZ cO cJ a) A 7 (cs + 8) (ss + 64) (fun _ : Unit => lw_Z below #[Value.ref b] s) (k i Z) 1485 [(0, .ref b), (1, .ref (a 0)), (2, .ref (aM a 0)), (3, .ref (a 72)), (4, .int i)] [] Z) (i : Int32) (Z : St) : GF p l e room_1 s m #[Value.ref b] below meth c D 90 a (cL cI cZ cO cJ a) A 7 cs ss (fun _ : Unit => lw_Z below #[Value.ref b] s) (cLaw_18 xs L k i Z) 1311 [(0, .ref b), (1, .ref (a 0)), (2, .ref (aM a 0)), (3, .ref (a 72)), (4, .int i)] [] Z := by
  unfold cLaw_18
  refine g_aload_n (j := 1) hc dL_law_1311 rfl rfl ?_
  refine g_lX (As := []) (rest := []) hc hE hA (fun _ h => mX8_blurred Z _ h) (cwV 0 hc.1.2.2.2.2 lts_X8_blurred rfl rfl rfl (by decide +kernel) ⟨by decide, by decide⟩) rfl rfl (Nat.le_of_ble_eq_true rfl) dL_law_1312 ⟨Nat.le_trans (Nat.le_add_right cs 8) hcs, Nat.le_trans (Nat.le_add_right ss 64) hss⟩ (fun v2 Z1 => ?_)
  refine g_aload_n (j := 2) hc dL_law_1315 rfl rfl ?_
  refine g_lMi (As := []) (rest := [.int v2]) hc hE hA (fun _ h => mX9_blurred (tM Z1) _ h) (cwV 0 hc.1.2.2.2.2 lts_X9_blurred rfl rfl rfl (by decide +kernel) ⟨by decide, by decide⟩) rfl rfl (Nat.le_of_ble_eq_true rfl) dL_law_1316 ⟨Nat.le_trans (Nat.le_add_right cs 8) hcs, Nat.le_trans (Nat.le_add_right ss 64) hss⟩ (fun v4 Z3 => ?_)
  refine g_icmp_eq (tgt := 1485) hc dL_law_1319 (by decide) ?_ ?_
  · refine g_wid (k := cs + 8) (n := ss + 64) (Nat.le_add_right _ _) (Nat.le_add_right _ _) ?_
    exact hk i Z3
  · refine g_iconst (v := 0) hc dL_law_1322 (by decide) ?_
    exact g_none
set_option maxHeartbeats 4000000 in
set_option maxRecDepth 100000 in
theorem tLaw_19 (hst : l.stackTraces = false) (hc : CT p s m #[Value.ref b] c code 7 RL lw_tbl D (tyY cI cZ cO cJ)) (hE : EvY tF A s) (hA : A = AA 90 a s.heap.size) (hX : va_X b L xs s s.heap) (hbl : b < s.heap.size) (hbA : ¬ A b) {cs ss : Nat} (hcs : cs + 8 ≤ 601024) (hss : ss + 64 ≤ 7293034) (k : Int32 → St → Option Unit) (hk : ∀ (i : Int32) (Z : St), GF p l e room_1 s m #[Value.ref b] below meth c D 90 a (cL cI cZ cO cJ a) A 7 (cs + 8) (ss + 64) (fun _ : Unit => lw_Z below #[Value.ref b] s) (k i Z) 1485 [(0, .ref b), (1, .ref (a 0)), (2, .ref (aM a 0)), (3, .ref (a 72)), (4, .int i)] [] Z) (i : Int32) (Z : St) : GF p l e room_1 s m #[Value.ref b] below meth c D 90 a (cL cI cZ cO cJ a) A 7 cs ss (fun _ : Unit => lw_Z below #[Value.ref b] s) (cLaw_19 xs L k i Z) 1324 [(0, .ref b), (1, .ref (a 0)), (2, .ref (aM a 0)), (3, .ref (a 72)), (4, .int i)] [] Z := by
  unfold cLaw_19
  refine g_aload_n (j := 1) hc dL_law_1324 rfl rfl ?_
  refine g_aload_n (j := 0) hc dL_law_1325 rfl rfl ?_
  refine g_iload (j := 4) hc dL_law_1326 rfl ?_
  refine g_iconst (v := 1) hc dL_law_1328 (by decide) ?_
  refine g_iadd hc dL_law_1329 ?_
  refine g_sld hc hX hbl hbA dL_law_1330 ?_
  refine g_aload_n (j := 0) hc dL_law_1331 rfl rfl ?_
  refine g_iload (j := 4) hc dL_law_1332 rfl ?_
  refine g_iconst (v := 2) hc dL_law_1334 (by decide) ?_
  refine g_iadd hc dL_law_1335 ?_
  refine g_sld hc hX hbl hbA dL_law_1336 ?_
  refine g_aload_n (j := 0) hc dL_law_1337 rfl rfl ?_
  refine g_iload (j := 4) hc dL_law_1338 rfl ?_
  refine g_iconst (v := 3) hc dL_law_1340 (by decide) ?_
  refine g_iadd hc dL_law_1341 ?_
  refine g_sld hc hX hbl hbA dL_law_1342 ?_
  refine g_lX (As := [.int (xs (i + 1).toNatClampNeg), .int (xs (i + 2).toNatClampNeg), .int (xs (i + 3).toNatClampNeg)]) (rest := []) hc hE hA (fun _ h => mX8_law (xs (i + 1).toNatClampNeg) (xs (i + 2).toNatClampNeg) (xs (i + 3).toNatClampNeg) Z _ h) (cwV 3 hc.1.2.2.2.2 lts_X8_law rfl rfl rfl (by decide +kernel) ⟨by decide, by decide⟩) rfl rfl (Nat.le_of_ble_eq_true rfl) dL_law_1343 ⟨Nat.le_trans (Nat.le_add_right cs 8) hcs, Nat.le_trans (Nat.le_add_right ss 64) hss⟩ (fun v2 Z1 => ?_)
  refine g_aload_n (j := 2) hc dL_law_1346 rfl rfl ?_
  refine g_aload_n (j := 0) hc dL_law_1347 rfl rfl ?_
  refine g_iload (j := 4) hc dL_law_1348 rfl ?_
  refine g_iconst (v := 1) hc dL_law_1350 (by decide) ?_
  refine g_iadd hc dL_law_1351 ?_
  refine g_sld hc hX hbl hbA dL_law_1352 ?_
  refine g_aload_n (j := 0) hc dL_law_1353 rfl rfl ?_
  refine g_iload (j := 4) hc dL_law_1354 rfl ?_
  refine g_iconst (v := 2) hc dL_law_1356 (by decide) ?_
  refine g_iadd hc dL_law_1357 ?_
  refine g_sld hc hX hbl hbA dL_law_1358 ?_
  refine g_aload_n (j := 0) hc dL_law_1359 rfl rfl ?_
  refine g_iload (j := 4) hc dL_law_1360 rfl ?_
  refine g_iconst (v := 3) hc dL_law_1362 (by decide) ?_
  refine g_iadd hc dL_law_1363 ?_
  refine g_sld hc hX hbl hbA dL_law_1364 ?_
  refine g_lMi (As := [.int (xs (i + 1).toNatClampNeg), .int (xs (i + 2).toNatClampNeg), .int (xs (i + 3).toNatClampNeg)]) (rest := [.int v2]) hc hE hA (fun _ h => mX9_law (xs (i + 1).toNatClampNeg) (xs (i + 2).toNatClampNeg) (xs (i + 3).toNatClampNeg) (tM Z1) _ h) (cwV 3 hc.1.2.2.2.2 lts_X9_law rfl rfl rfl (by decide +kernel) ⟨by decide, by decide⟩) rfl rfl (Nat.le_of_ble_eq_true rfl) dL_law_1365 ⟨Nat.le_trans (Nat.le_add_right cs 8) hcs, Nat.le_trans (Nat.le_add_right ss 64) hss⟩ (fun v4 Z3 => ?_)
  refine g_icmp_eq (tgt := 1485) hc dL_law_1368 (by decide) ?_ ?_
  · refine g_wid (k := cs + 8) (n := ss + 64) (Nat.le_add_right _ _) (Nat.le_add_right _ _) ?_
    exact hk i Z3
  · refine g_iconst (v := 0) hc dL_law_1371 (by decide) ?_
    exact g_none
set_option maxHeartbeats 4000000 in
set_option maxRecDepth 100000 in
theorem tLaw_20 (hst : l.stackTraces = false) (hc : CT p s m #[Value.ref b] c code 7 RL lw_tbl D (tyY cI cZ cO cJ)) (hE : EvY tF A s) (hA : A = AA 90 a s.heap.size) (hX : va_X b L xs s s.heap) (hbl : b < s.heap.size) (hbA : ¬ A b) {cs ss : Nat} (hcs : cs + 8 ≤ 601024) (hss : ss + 64 ≤ 7293034) (k : Int32 → St → Option Unit) (hk : ∀ (i : Int32) (Z : St), GF p l e room_1 s m #[Value.ref b] below meth c D 90 a (cL cI cZ cO cJ a) A 7 (cs + 8) (ss + 64) (fun _ : Unit => lw_Z below #[Value.ref b] s) (k i Z) 1485 [(0, .ref b), (1, .ref (a 0)), (2, .ref (aM a 0)), (3, .ref (a 72)), (4, .int i)] [] Z) (i : Int32) (Z : St) : GF p l e room_1 s m #[Value.ref b] below meth c D 90 a (cL cI cZ cO cJ a) A 7 cs ss (fun _ : Unit => lw_Z below #[Value.ref b] s) (cLaw_20 xs L k i Z) 1373 [(0, .ref b), (1, .ref (a 0)), (2, .ref (aM a 0)), (3, .ref (a 72)), (4, .int i)] [] Z := by
  unfold cLaw_20
  refine g_aload_n (j := 1) hc dL_law_1373 rfl rfl ?_
  refine g_aload_n (j := 0) hc dL_law_1374 rfl rfl ?_
  refine g_iload (j := 4) hc dL_law_1375 rfl ?_
  refine g_iconst (v := 1) hc dL_law_1377 (by decide) ?_
  refine g_iadd hc dL_law_1378 ?_
  refine g_sld hc hX hbl hbA dL_law_1379 ?_
  refine g_aload_n (j := 3) hc dL_law_1380 rfl rfl ?_
  refine g_lW (As := [.ref (a 0), .int (xs (i + 1).toNatClampNeg), .ref (a 72)]) (rest := []) (hh := [(0, 9, 12, 13)]) hc hE hA (fun _ h => mL_rank hst (xs (i + 1).toNatClampNeg) Z _ h) (vx_cwSW 3 hc.1.2.2.2.2 lts_L_rank rfl rfl rfl (by decide +kernel) ⟨by decide, by decide⟩) rfl rfl (Nat.le_of_ble_eq_true rfl) dL_law_1381 ⟨Nat.le_trans (Nat.add_le_add_left (by decide) cs) hcs, Nat.le_trans (Nat.add_le_add_left (by decide) ss) hss⟩ (fun v2 Z1 => ?_)
  refine g_wid (k := cs + 8) (n := ss + 64) (Nat.add_le_add_left (by decide) cs) (Nat.add_le_add_left (by decide) ss) ?_
  refine g_istore (L := fun v3 => [(5, .int v3), (0, .ref b), (1, .ref (a 0)), (2, .ref (aM a 0)), (3, .ref (a 72)), (4, .int i)]) hc dL_law_1384 (by decide) (fun _ => rfl) (fun v3 => ?_)
  refine g_aload_n (j := 3) hc dL_law_1386 rfl rfl ?_
  refine g_aload_n (j := 1) hc dL_law_1387 rfl rfl ?_
  refine g_iload (j := 5) hc dL_law_1388 rfl ?_
  refine g_iconst (v := 1) hc dL_law_1390 (by decide) ?_
  refine g_iadd hc dL_law_1391 ?_
  refine g_sld hc hX hbl hbA dL_law_1392 ?_
  refine g_lMi (As := [.int (xs (i + 1).toNatClampNeg)]) (rest := []) hc hE hA (fun _ h => mX9_rank (xs (i + 1).toNatClampNeg) (tM Z1) _ h) (cwV 1 hc.1.2.2.2.2 lts_X9_rank rfl rfl rfl (by decide +kernel) ⟨by decide, by decide⟩) rfl rfl (Nat.le_of_ble_eq_true rfl) dL_law_1393 ⟨hcs, hss⟩ (fun v5 Z4 => ?_)
  refine g_istore (L := fun v6 => [(6, .int v6), (5, .int v3), (0, .ref b), (1, .ref (a 0)), (2, .ref (aM a 0)), (3, .ref (a 72)), (4, .int i)]) hc dL_law_1396 (by decide) (fun _ => rfl) (fun v6 => ?_)
  refine g_aload_n (j := 4) hc dL_law_1398 rfl rfl ?_
  refine g_lMi (As := []) (rest := []) hc hE hA (fun _ h => mX9_thrown (tM Z4) _ h) (cwV 0 hc.1.2.2.2.2 lts_X9_thrown rfl rfl rfl (by decide +kernel) ⟨by decide, by decide⟩) rfl rfl (Nat.le_of_ble_eq_true rfl) dL_law_1399 ⟨hcs, hss⟩ (fun v8 Z7 => ?_)
  refine g_iload (j := 1) hc dL_law_1402 rfl ?_
  refine g_icmp_eq (tgt := 1409) hc dL_law_1404 (by decide) ?_ ?_
  · refine g_iload (j := 1) hc dL_law_1409 rfl ?_
    refine g_if_ne (tgt := 1426) hc dL_law_1411 (by decide) ?_ ?_
    · refine g_goto (tgt := 1485) hc dL_law_1426 (by decide) ?_
      refine g_lv [2, 3, 4, 5, 6] rfl ?_
      exact hk i Z7
    · refine g_aload_n (j := 5) hc dL_law_1414 rfl rfl ?_
      refine g_iconst (v := 0) hc dL_law_1415 (by decide) ?_
      refine g_laload (k := 72) (t0 := 3) hc (by decide) (fun _ => rfl) rfl dL_law_1416 ?_
      refine g_iload (j := 0) hc dL_law_1417 rfl ?_
      refine g_i2l hc dL_law_1419 ?_
      refine g_lcmp hc dL_law_1420 ?_
      refine g_if_eq (tgt := 1426) hc dL_law_1421 (by decide) ?_ ?_
      · refine g_goto (tgt := 1485) hc dL_law_1426 (by decide) ?_
        refine g_lv [2, 3, 4, 5, 6] rfl ?_
        exact hk i Z7
      · refine g_iconst (v := 0) hc dL_law_1424 (by decide) ?_
        exact g_none
  · refine g_iconst (v := 0) hc dL_law_1407 (by decide) ?_
    exact g_none
set_option maxHeartbeats 4000000 in
set_option maxRecDepth 100000 in
theorem tLaw_21 (hst : l.stackTraces = false) (hc : CT p s m #[Value.ref b] c code 7 RL lw_tbl D (tyY cI cZ cO cJ)) (hE : EvY tF A s) (hA : A = AA 90 a s.heap.size) (hX : va_X b L xs s s.heap) (hbl : b < s.heap.size) (hbA : ¬ A b) {cs ss : Nat} (hcs : cs + 8 ≤ 601024) (hss : ss + 64 ≤ 7293034) (k : Int32 → St → Option Unit) (hk : ∀ (i : Int32) (Z : St), GF p l e room_1 s m #[Value.ref b] below meth c D 90 a (cL cI cZ cO cJ a) A 7 (cs + 8) (ss + 64) (fun _ : Unit => lw_Z below #[Value.ref b] s) (k i Z) 1485 [(0, .ref b), (1, .ref (a 0)), (2, .ref (aM a 0)), (3, .ref (a 72)), (4, .int i)] [] Z) (i : Int32) (Z : St) : GF p l e room_1 s m #[Value.ref b] below meth c D 90 a (cL cI cZ cO cJ a) A 7 cs ss (fun _ : Unit => lw_Z below #[Value.ref b] s) (cLaw_21 xs L k i Z) 1429 [(0, .ref b), (1, .ref (a 0)), (2, .ref (aM a 0)), (3, .ref (a 72)), (4, .int i)] [] Z := by
  unfold cLaw_21
  refine g_aload_n (j := 1) hc dL_law_1429 rfl rfl ?_
  refine g_aload_n (j := 0) hc dL_law_1430 rfl rfl ?_
  refine g_iload (j := 4) hc dL_law_1431 rfl ?_
  refine g_iconst (v := 1) hc dL_law_1433 (by decide) ?_
  refine g_iadd hc dL_law_1434 ?_
  refine g_sld hc hX hbl hbA dL_law_1435 ?_
  refine g_aload_n (j := 3) hc dL_law_1436 rfl rfl ?_
  refine g_lW (As := [.ref (a 0), .int (xs (i + 1).toNatClampNeg), .ref (a 72)]) (rest := []) (hh := [(0, 9, 12, 61)]) hc hE hA (fun _ h => mL_count hst (xs (i + 1).toNatClampNeg) Z _ h) (vx_cwSW 3 hc.1.2.2.2.2 lts_L_count rfl rfl rfl (by decide +kernel) ⟨by decide, by decide⟩) rfl rfl (Nat.le_of_ble_eq_true rfl) dL_law_1437 ⟨Nat.le_trans (Nat.add_le_add_left (by decide) cs) hcs, Nat.le_trans (Nat.add_le_add_left (by decide) ss) hss⟩ (fun v2 Z1 => ?_)
  refine g_wid (k := cs + 8) (n := ss + 64) (Nat.add_le_add_left (by decide) cs) (Nat.add_le_add_left (by decide) ss) ?_
  refine g_istore (L := fun v3 => [(5, .int v3), (0, .ref b), (1, .ref (a 0)), (2, .ref (aM a 0)), (3, .ref (a 72)), (4, .int i)]) hc dL_law_1440 (by decide) (fun _ => rfl) (fun v3 => ?_)
  refine g_aload_n (j := 3) hc dL_law_1442 rfl rfl ?_
  refine g_aload_n (j := 1) hc dL_law_1443 rfl rfl ?_
  refine g_iload (j := 5) hc dL_law_1444 rfl ?_
  refine g_iconst (v := 1) hc dL_law_1446 (by decide) ?_
  refine g_iadd hc dL_law_1447 ?_
  refine g_sld hc hX hbl hbA dL_law_1448 ?_
  refine g_lMi (As := [.int (xs (i + 1).toNatClampNeg)]) (rest := []) hc hE hA (fun _ h => mX9_count (xs (i + 1).toNatClampNeg) (tM Z1) _ h) (cwV 1 hc.1.2.2.2.2 lts_X9_count rfl rfl rfl (by decide +kernel) ⟨by decide, by decide⟩) rfl rfl (Nat.le_of_ble_eq_true rfl) dL_law_1449 ⟨hcs, hss⟩ (fun v5 Z4 => ?_)
  refine g_istore (L := fun v6 => [(6, .int v6), (5, .int v3), (0, .ref b), (1, .ref (a 0)), (2, .ref (aM a 0)), (3, .ref (a 72)), (4, .int i)]) hc dL_law_1452 (by decide) (fun _ => rfl) (fun v6 => ?_)
  refine g_aload_n (j := 4) hc dL_law_1454 rfl rfl ?_
  refine g_lMi (As := []) (rest := []) hc hE hA (fun _ h => mX9_thrown (tM Z4) _ h) (cwV 0 hc.1.2.2.2.2 lts_X9_thrown rfl rfl rfl (by decide +kernel) ⟨by decide, by decide⟩) rfl rfl (Nat.le_of_ble_eq_true rfl) dL_law_1455 ⟨hcs, hss⟩ (fun v8 Z7 => ?_)
  refine g_iload (j := 1) hc dL_law_1458 rfl ?_
  refine g_icmp_eq (tgt := 1465) hc dL_law_1460 (by decide) ?_ ?_
  · refine g_iload (j := 1) hc dL_law_1465 rfl ?_
    refine g_if_ne (tgt := 1482) hc dL_law_1467 (by decide) ?_ ?_
    · refine g_goto (tgt := 1485) hc dL_law_1482 (by decide) ?_
      refine g_lv [2, 3, 4, 5, 6] rfl ?_
      exact hk i Z7
    · refine g_aload_n (j := 5) hc dL_law_1470 rfl rfl ?_
      refine g_iconst (v := 0) hc dL_law_1471 (by decide) ?_
      refine g_laload (k := 72) (t0 := 3) hc (by decide) (fun _ => rfl) rfl dL_law_1472 ?_
      refine g_iload (j := 0) hc dL_law_1473 rfl ?_
      refine g_i2l hc dL_law_1475 ?_
      refine g_lcmp hc dL_law_1476 ?_
      refine g_if_eq (tgt := 1482) hc dL_law_1477 (by decide) ?_ ?_
      · refine g_goto (tgt := 1485) hc dL_law_1482 (by decide) ?_
        refine g_lv [2, 3, 4, 5, 6] rfl ?_
        exact hk i Z7
      · refine g_iconst (v := 0) hc dL_law_1480 (by decide) ?_
        exact g_none
  · refine g_iconst (v := 0) hc dL_law_1463 (by decide) ?_
    exact g_none
theorem g_lret (hc : CT p s m #[Value.ref b] c code 7 RL lw_tbl D (tyY cI cZ cO cJ)) (hr : meth.sig.returnType = ret) (hlk : meth.locks = false) (hAn : ∀ q, A q → s.heap.size ≤ q) {cs ss pc : Nat} (hcs : cs ≤ 601024) (hss : ss ≤ 7293034) {lv : List (Nat × Value)} {Z : St} (hdg : decode code pc = .ok (.ireturn, 1)) : GF p l e room_1 s m #[Value.ref b] below meth c D 90 a (cL cI cZ cO cJ a) A 7 cs ss (fun _ : Unit => lw_Z below #[Value.ref b] s) (some ()) pc lv [.int 1] Z :=
  fun res h H locs hP hD hS ls hl => va_forget (fun q hq => hAn _ (hS.2.2 q hq)) (W.widen hcs hss (lw_ret hc.1.1 hc.1.2.1 hr hlk hdg))
set_option maxHeartbeats 4000000 in
set_option maxRecDepth 100000 in
theorem tLaw_head (hst : l.stackTraces = false) (hc : CT p s m #[Value.ref b] c code 7 RL lw_tbl D (tyY cI cZ cO cJ)) (hE : EvY tF A s) (hA : A = AA 90 a s.heap.size) (hX : va_X b L xs s s.heap) (hbl : b < s.heap.size) (hbA : ¬ A b) (hr : meth.sig.returnType = ret) (hlk : meth.locks = false) (hAn : ∀ q, A q → s.heap.size ≤ q) {cs ss : Nat} (hcs : cs + 8 ≤ 601024) (hss : ss + 64 ≤ 7293034) (k : Int32 → St → Option Unit) (hk : ∀ (i : Int32) (Z : St), GF p l e room_1 s m #[Value.ref b] below meth c D 90 a (cL cI cZ cO cJ a) A 7 (cs + 8) (ss + 64) (fun _ : Unit => lw_Z below #[Value.ref b] s) (k i Z) 1485 [(0, .ref b), (1, .ref (a 0)), (2, .ref (aM a 0)), (3, .ref (a 72)), (4, .int i)] [] Z) (i : Int32) (Z : St) : GF p l e room_1 s m #[Value.ref b] below meth c D 90 a (cL cI cZ cO cJ a) A 7 cs ss (fun _ : Unit => lw_Z below #[Value.ref b] s) (hLaw xs L k i Z) 23 [(0, .ref b), (1, .ref (a 0)), (2, .ref (aM a 0)), (3, .ref (a 72)), (4, .int i)] [] Z := by
  unfold hLaw
  refine g_iload (j := 4) hc dL_law_23 rfl ?_
  refine g_aload_n (j := 0) hc dL_law_25 rfl rfl ?_
  refine g_slen hc hX hbl hbA dL_law_26 ?_
  refine g_iconst (v := 4) hc dL_law_27 (by decide) ?_
  refine g_isub hc dL_law_28 ?_
  refine g_icmp_gt (tgt := 1491) hc dL_law_29 (by decide) ?_ ?_
  · refine g_iconst (v := 1) hc dL_law_1491 (by decide) ?_
    exact g_lret hc hr hlk hAn (Nat.le_trans (Nat.le_add_right cs 8) hcs) (Nat.le_trans (Nat.le_add_right ss 64) hss) dL_law_1492
  · refine g_aload_n (j := 0) hc dL_law_32 rfl rfl ?_
    refine g_iload (j := 4) hc dL_law_33 rfl ?_
    refine g_sld hc hX hbl hbA dL_law_35 ?_
    refine g_bipush (v := 31) hc dL_law_36 (by decide) ?_
    refine g_iand hc dL_law_38 ?_
    refine g_tsw (tg := tgL) (td := 1485) (n := 0) hc dL_law_39 rfl (by
      have h : ∀ i : Fin 22, ∃ o ∈ ([101, 149, 217, 308, 388, 456, 536, 616, 672, 740, 815, 895, 951, 1007, 1063, 1131, 1144, 1204, 1272, 1285, 1334, 1390] : List Int), (#[101, 149, 217, 308, 388, 456, 536, 616, 672, 740, 815, 895, 951, 1007, 1063, 1131, 1144, 1204, 1272, 1285, 1334, 1390] : Array Int)[i.val]? = some o ∧ (39 : Int) + o = (tgL i.val : Int) := by decide +kernel
      intro i hi
      obtain ⟨o, -, h1, h2⟩ := h ⟨i, hi⟩
      exact ⟨o, h1, h2⟩) (by decide) ?_ ?_
    · intro j hj
      match j, hj with
      | 0, _ => exact tLaw_0 hst hc hE hA hX hbl hbA hcs hss k hk i Z
      | 1, _ => exact tLaw_1 hst hc hE hA hX hbl hbA hcs hss k hk i Z
      | 2, _ => exact tLaw_2 hst hc hE hA hX hbl hbA hcs hss k hk i Z
      | 3, _ => exact tLaw_3 hst hc hE hA hX hbl hbA hcs hss k hk i Z
      | 4, _ => exact tLaw_4 hst hc hE hA hX hbl hbA hcs hss k hk i Z
      | 5, _ => exact tLaw_5 hst hc hE hA hX hbl hbA hcs hss k hk i Z
      | 6, _ => exact tLaw_6 hst hc hE hA hX hbl hbA hcs hss k hk i Z
      | 7, _ => exact tLaw_7 hst hc hE hA hX hbl hbA hcs hss k hk i Z
      | 8, _ => exact tLaw_8 hst hc hE hA hX hbl hbA hcs hss k hk i Z
      | 9, _ => exact tLaw_9 hst hc hE hA hX hbl hbA hcs hss k hk i Z
      | 10, _ => exact tLaw_10 hst hc hE hA hX hbl hbA hcs hss k hk i Z
      | 11, _ => exact tLaw_11 hst hc hE hA hX hbl hbA hcs hss k hk i Z
      | 12, _ => exact tLaw_12 hst hc hE hA hX hbl hbA hcs hss k hk i Z
      | 13, _ => exact tLaw_13 hst hc hE hA hX hbl hbA hcs hss k hk i Z
      | 14, _ => exact tLaw_14 hst hc hE hA hX hbl hbA hcs hss k hk i Z
      | 15, _ => exact tLaw_15 hst hc hE hA hX hbl hbA hcs hss k hk i Z
      | 16, _ => exact tLaw_16 hst hc hE hA hX hbl hbA hcs hss k hk i Z
      | 17, _ => exact tLaw_17 hst hc hE hA hX hbl hbA hcs hss k hk i Z
      | 18, _ => exact tLaw_18 hst hc hE hA hX hbl hbA hcs hss k hk i Z
      | 19, _ => exact tLaw_19 hst hc hE hA hX hbl hbA hcs hss k hk i Z
      | 20, _ => exact tLaw_20 hst hc hE hA hX hbl hbA hcs hss k hk i Z
      | 21, _ => exact tLaw_21 hst hc hE hA hX hbl hbA hcs hss k hk i Z
      | n + 22, hj => exact absurd hj (by omega)
    · refine g_wid (k := cs + 8) (n := ss + 64) (Nat.le_add_right _ _) (Nat.le_add_right _ _) ?_
      exact hk i Z
set_option maxHeartbeats 4000000 in
set_option maxRecDepth 100000 in
theorem tLaw_loop (hst : l.stackTraces = false) (hc : CT p s m #[Value.ref b] c code 7 RL lw_tbl D (tyY cI cZ cO cJ)) (hE : EvY tF A s) (hA : A = AA 90 a s.heap.size) (hX : va_X b L xs s s.heap) (hbl : b < s.heap.size) (hbA : ¬ A b) (hr : meth.sig.returnType = ret) (hlk : meth.locks = false) (hAn : ∀ q, A q → s.heap.size ≤ q) : ∀ (n : Nat) (cs ss : Nat), cs + 8 * n ≤ 601024 → ss + 64 * n ≤ 7293034 → ∀ (i : Int32) (Z : St), GF p l e room_1 s m #[Value.ref b] below meth c D 90 a (cL cI cZ cO cJ a) A 7 cs ss (fun _ : Unit => lw_Z below #[Value.ref b] s) (uLaw xs L n i Z) 23 [(0, .ref b), (1, .ref (a 0)), (2, .ref (aM a 0)), (3, .ref (a 72)), (4, .int i)] [] Z := by
  intro n
  induction n with
  | zero => intro cs ss _ _ i Z; exact g_none
  | succ n ih =>
    intro cs ss hcs hss i Z
    refine tLaw_head hst hc hE hA hX hbl hbA hr hlk hAn (by omega) (by omega) (fun i Z => lt (i + 4) (fun v => uLaw xs L n v Z)) (fun i Z => ?_) i Z
    refine g_iinc (j := 4) (w := i + 4) (L := fun v => [(4, .int v), (0, .ref b), (1, .ref (a 0)), (2, .ref (aM a 0)), (3, .ref (a 72))]) hc dL_law_1485 rfl (by rfl) (by decide) (fun _ => rfl) (fun v => ?_)
    refine g_goto (tgt := 23) hc dL_law_1488 (by decide) ?_
    refine g_lv [1, 2, 3, 4, 0] rfl ?_
    exact ih (cs + 8) (ss + 64) (by omega) (by omega) v Z
end
