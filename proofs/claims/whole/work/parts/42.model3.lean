-- X9_slip
def rX9_slip : Room := { frames := 2, cells := 0, slots := 0, locals := 43 }
theorem inX9_slip_X9 : ∀ w ∈ u_ws RX9 TX9 24, w ∈ wsX9_slip := by decide +kernel
def bX9_slip_42 (S : St) : Option (Int32 × St) :=
  some (0, S)
def bX9_slip_35 (x1 : Int32) (x2 : Int32) (x3 : Int32) (y1 : Int32) (S : St) : Option (Int32 × St) :=
  cl (uX9_right y1 2 S) (fun v1 S2 => if v1 = 0 then bX9_slip_42 S2 else ck x1 16 (lz (s2 S2 6 x1.toNatClampNeg x2) (fun S3 => ck x1 16 (lz (s2 S3 7 x1.toNatClampNeg x3) (fun S4 => some (0, S4))))))
def bX9_slip_34 (x1 : Int32) (x2 : Int32) (x3 : Int32) (S : St) : Option (Int32 × St) :=
  bX9_slip_35 x1 x2 x3 0 S
def uX9_slip (x1 : Int32) (x2 : Int32) (x3 : Int32) (S : St) : Option (Int32 × St) :=
  lz (s2 S 0 0 0) (fun S1 => cl (uX9_isThread x1 S1) (fun v2 S3 => if v2 = 0 then bX9_slip_42 S3 else if x2 < ((-3)) then bX9_slip_34 x1 x2 x3 S3 else if x3 < x2 then bX9_slip_34 x1 x2 x3 S3 else if 3 < x3 then bX9_slip_34 x1 x2 x3 S3 else bX9_slip_35 x1 x2 x3 1 S3))
-- X9_seenOf
def rX9_seenOf : Room := { frames := 1, cells := 0, slots := 0, locals := 22 }
theorem inX9_seenOf_X9 : ∀ w ∈ u_ws RX9 TX9 24, w ∈ wsX9_seenOf := by decide +kernel
def bX9_seenOf_53 (k10 : Int32 → Int32 → Int32 → Int32 → St → Option (Int32 × St)) (x1 : Int32) (x2 : Int32) (x3 : Int32) (x4 : Int32) (S : St) : Option (Int32 × St) :=
  lt (x4 + 1) (fun v1 => k10 x1 x2 x3 v1 S)
def bX9_seenOf_10 (k10 : Int32 → Int32 → Int32 → Int32 → St → Option (Int32 × St)) (x1 : Int32) (x2 : Int32) (x3 : Int32) (x4 : Int32) (S : St) : Option (Int32 × St) :=
  ck x1 16 (if (S 7 x1.toNatClampNeg) < x4 then some (x3, S) else if (x2 - x4) < 0 then bX9_seenOf_53 k10 x1 x2 x3 x4 S else if (S 0 2) ≤ (x2 - x4) then bX9_seenOf_53 k10 x1 x2 x3 x4 S else cl (uX9_colourOf x1 (x2 - x4) S) (fun v1 S2 => lt (x3 ||| (1 <<< (v1 &&& 31))) (fun v3 => bX9_seenOf_53 k10 x1 x2 v3 x4 S2)))
def lX9_seenOf_10 (n : Nat) : Int32 → Int32 → Int32 → Int32 → St → Option (Int32 × St) :=
  lp (fun k10 => bX9_seenOf_10 k10) (fun _ _ _ _ _ => none) n
def uX9_seenOf (x1 : Int32) (x2 : Int32) (S : St) : Option (Int32 × St) :=
  lt 0 (fun v1 => ck x1 16 (lt (S 6 x1.toNatClampNeg) (fun v2 => lX9_seenOf_10 FU x1 x2 v1 v2 S)))
-- X9_seen
def rX9_seen : Room := { frames := 2, cells := 0, slots := 0, locals := 46 }
theorem inX9_seen_X9 : ∀ w ∈ u_ws RX9 TX9 24, w ∈ wsX9_seen := by decide +kernel
def bX9_seen_31 (y0 : Int32) (S : St) : Option (Int32 × St) :=
  some (y0, S)
def bX9_seen_30 (S : St) : Option (Int32 × St) :=
  bX9_seen_31 0 S
def uX9_seen (x1 : Int32) (x2 : Int32) (S : St) : Option (Int32 × St) :=
  lz (s2 S 0 0 0) (fun S1 => cl (uX9_isThread x1 S1) (fun v2 S3 => if v2 = 0 then bX9_seen_30 S3 else cl (uX9_isPlace x2 S3) (fun v4 S5 => if v4 = 0 then bX9_seen_30 S5 else cl (uX9_seenOf x1 x2 S5) (fun v6 S7 => bX9_seen_31 v6 S7))))
-- X9_blurred
def rX9_blurred : Room := { frames := 2, cells := 0, slots := 0, locals := 46 }
theorem inX9_blurred_X9 : ∀ w ∈ u_ws RX9 TX9 24, w ∈ wsX9_blurred := by decide +kernel
def bX9_blurred_52 (k9 : Int32 → Int32 → St → Option (Int32 × St)) (k19 : Int32 → Int32 → Int32 → St → Option (Int32 × St)) (x1 : Int32) (x2 : Int32) (x3 : Int32) (S : St) : Option (Int32 × St) :=
  lt (x3 + 1) (fun v1 => k19 x1 x2 v1 S)
def bX9_blurred_19 (k9 : Int32 → Int32 → St → Option (Int32 × St)) (k19 : Int32 → Int32 → Int32 → St → Option (Int32 × St)) (x1 : Int32) (x2 : Int32) (x3 : Int32) (S : St) : Option (Int32 × St) :=
  if (S 0 2) ≤ x3 then lt (x2 + 1) (fun v1 => k9 x1 v1 S) else cl (uX9_seenOf x2 x3 S) (fun v2 S3 => ck ((24 * x2) + x3) 384 (if v2 = (1 <<< ((S3 5 ((24 * x2) + x3).toNatClampNeg) &&& 31)) then bX9_blurred_52 k9 k19 x1 x2 x3 S3 else lt (x1 + 1) (fun v4 => bX9_blurred_52 k9 k19 v4 x2 x3 S3)))
def lX9_blurred_19 (k9 : Int32 → Int32 → St → Option (Int32 × St)) (n : Nat) : Int32 → Int32 → Int32 → St → Option (Int32 × St) :=
  lp (fun k19 => bX9_blurred_19 k9 k19) (fun _ _ _ _ => none) n
def bX9_blurred_9 (k9 : Int32 → Int32 → St → Option (Int32 × St)) (x1 : Int32) (x2 : Int32) (S : St) : Option (Int32 × St) :=
  if (S 0 1) ≤ x2 then some (x1, S) else lt 0 (fun v1 => lX9_blurred_19 k9 FU x1 x2 v1 S)
def lX9_blurred_9 (n : Nat) : Int32 → Int32 → St → Option (Int32 × St) :=
  lp (fun k9 => bX9_blurred_9 k9) (fun _ _ _ => none) n
def uX9_blurred (S : St) : Option (Int32 × St) :=
  lz (s2 S 0 0 0) (fun S1 => lt 0 (fun v2 => lt 0 (fun v3 => lX9_blurred_9 FU v2 v3 S1)))
-- X9_law
def rX9_law : Room := { frames := 0, cells := 0, slots := 0, locals := 0 }
theorem inX9_law_X9 : ∀ w ∈ u_ws RX9 TX9 24, w ∈ wsX9_law := by decide +kernel
def bX9_law_45 (S : St) : Option (Int32 × St) :=
  some ((-1), S)
def uX9_law (x1 : Int32) (x2 : Int32) (x3 : Int32) (S : St) : Option (Int32 × St) :=
  lz (s2 S 0 0 0) (fun S1 => if (S1 0 4) = 60 then bX9_law_45 S1 else if x1 < 0 then bX9_law_45 S1 else if 9999 < x1 then bX9_law_45 S1 else if x2 < 0 then bX9_law_45 S1 else if 15 < x2 then bX9_law_45 S1 else if x3 < 0 then bX9_law_45 S1 else if x3 ≤ 9 then ck (S1 0 4) 60 (lz (s2 S1 10 (S1 0 4).toNatClampNeg x1) (fun S2 => ck (S2 0 4) 60 (lz (s2 S2 11 (S2 0 4).toNatClampNeg x2) (fun S3 => ck (S3 0 4) 60 (lz (s2 S3 12 (S3 0 4).toNatClampNeg x3) (fun S4 => lz (s2 S4 0 4 ((S4 0 4) + 1)) (fun S5 => some (S5 0 4, S5)))))))) else bX9_law_45 S1)
-- X9_rankOf
def rX9_rankOf : Room := { frames := 0, cells := 0, slots := 0, locals := 0 }
theorem inX9_rankOf_X9 : ∀ w ∈ u_ws RX9 TX9 24, w ∈ wsX9_rankOf := by decide +kernel
def bX9_rankOf_81 (y0 : Int32) (S : St) : Option (Int32 × St) :=
  some (y0, S)
def bX9_rankOf_60 (k5 : Int32 → Int32 → Int32 → Int32 → St → Option (Int32 × St)) (x1 : Int32) (x2 : Int32) (x3 : Int32) (x4 : Int32) (S : St) : Option (Int32 × St) :=
  lt (x4 + 1) (fun v1 => k5 x1 x2 x3 v1 S)
def bX9_rankOf_57 (k5 : Int32 → Int32 → Int32 → Int32 → St → Option (Int32 × St)) (x1 : Int32) (x2 : Int32) (x4 : Int32) (S : St) : Option (Int32 × St) :=
  lt x4 (fun v1 => bX9_rankOf_60 k5 x1 x2 v1 x4 S)
def bX9_rankOf_5 (k5 : Int32 → Int32 → Int32 → Int32 → St → Option (Int32 × St)) (x1 : Int32) (x2 : Int32) (x3 : Int32) (x4 : Int32) (S : St) : Option (Int32 × St) :=
  if (S 0 4) ≤ x4 then if x3 = ((-1)) then bX9_rankOf_81 0 S else ck x3 60 (bX9_rankOf_81 (S 12 x3.toNatClampNeg) S) else ck x4 60 (if (S 11 x4.toNatClampNeg) = x1 then ck x4 60 (if x2 < (S 10 x4.toNatClampNeg) then bX9_rankOf_60 k5 x1 x2 x3 x4 S else if x3 = ((-1)) then bX9_rankOf_57 k5 x1 x2 x4 S else ck x4 60 (ck x3 60 (if (S 10 x4.toNatClampNeg) < (S 10 x3.toNatClampNeg) then bX9_rankOf_60 k5 x1 x2 x3 x4 S else bX9_rankOf_57 k5 x1 x2 x4 S))) else bX9_rankOf_60 k5 x1 x2 x3 x4 S)
def lX9_rankOf_5 (n : Nat) : Int32 → Int32 → Int32 → Int32 → St → Option (Int32 × St) :=
  lp (fun k5 => bX9_rankOf_5 k5) (fun _ _ _ _ _ => none) n
def uX9_rankOf (x1 : Int32) (x2 : Int32) (S : St) : Option (Int32 × St) :=
  lt ((-1)) (fun v1 => lt 0 (fun v2 => lX9_rankOf_5 FU x1 x2 v1 v2 S))
-- X9_rank
def rX9_rank : Room := { frames := 1, cells := 0, slots := 0, locals := 24 }
theorem inX9_rank_X9 : ∀ w ∈ u_ws RX9 TX9 24, w ∈ wsX9_rank := by decide +kernel
def bX9_rank_81 (k35 : Int32 → Int32 → Int32 → St → Option (Int32 × St)) (k46 : Int32 → Int32 → Int32 → Int32 → St → Option (Int32 × St)) (x1 : Int32) (x3 : Int32) (x4 : Int32) (y0 : Int32) (S : St) : Option (Int32 × St) :=
  lt y0 (fun v1 => lt (x4 + 1) (fun v2 => k46 x1 v1 x3 v2 S))
def bX9_rank_46 (k35 : Int32 → Int32 → Int32 → St → Option (Int32 × St)) (k46 : Int32 → Int32 → Int32 → Int32 → St → Option (Int32 × St)) (x1 : Int32) (x2 : Int32) (x3 : Int32) (x4 : Int32) (S : St) : Option (Int32 × St) :=
  if (S 0 2) ≤ x4 then lt (x3 + 1) (fun v1 => k35 x1 x2 v1 S) else cl (uX9_colourOf x3 x4 S) (fun v2 S3 => cl (uX9_rankOf v2 x1 S3) (fun v4 S5 => lt v4 (fun v6 => if v6 ≤ x2 then bX9_rank_81 k35 k46 x1 x3 x4 x2 S5 else bX9_rank_81 k35 k46 x1 x3 x4 v6 S5)))
def lX9_rank_46 (k35 : Int32 → Int32 → Int32 → St → Option (Int32 × St)) (n : Nat) : Int32 → Int32 → Int32 → Int32 → St → Option (Int32 × St) :=
  lp (fun k46 => bX9_rank_46 k35 k46) (fun _ _ _ _ _ => none) n
def bX9_rank_35 (k35 : Int32 → Int32 → Int32 → St → Option (Int32 × St)) (x1 : Int32) (x2 : Int32) (x3 : Int32) (S : St) : Option (Int32 × St) :=
  if (S 0 1) ≤ x3 then some (x2, S) else lt 0 (fun v1 => lX9_rank_46 k35 FU x1 x2 x3 v1 S)
def lX9_rank_35 (n : Nat) : Int32 → Int32 → Int32 → St → Option (Int32 × St) :=
  lp (fun k35 => bX9_rank_35 k35) (fun _ _ _ _ => none) n
def bX9_rank_22 (x1 : Int32) (y1 : Int32) (S : St) : Option (Int32 × St) :=
  cl (uX9_right y1 1 S) (fun v1 S2 => if v1 = 0 then some (0, S2) else lt 0 (fun v3 => lt 0 (fun v4 => lX9_rank_35 FU x1 v3 v4 S2)))
def bX9_rank_21 (x1 : Int32) (S : St) : Option (Int32 × St) :=
  bX9_rank_22 x1 0 S
def uX9_rank (x1 : Int32) (S : St) : Option (Int32 × St) :=
  lz (s2 S 0 0 0) (fun S1 => if x1 < 0 then bX9_rank_21 x1 S1 else if 9999 < x1 then bX9_rank_21 x1 S1 else bX9_rank_22 x1 1 S1)
-- X9_strengthOf
def rX9_strengthOf : Room := { frames := 0, cells := 0, slots := 0, locals := 0 }
theorem inX9_strengthOf_X9 : ∀ w ∈ u_ws RX9 TX9 24, w ∈ wsX9_strengthOf := by decide +kernel
def uX9_strengthOf (x1 : Int32) (S : St) : Option (Int32 × St) :=
  ck (x1 - 4) 4 (some (S 4 (x1 - 4).toNatClampNeg, S))
-- X9_count
def rX9_count : Room := { frames := 1, cells := 0, slots := 0, locals := 23 }
theorem inX9_count_X9 : ∀ w ∈ u_ws RX9 TX9 24, w ∈ wsX9_count := by decide +kernel
def bX9_count_95 (y0 : Int32) (S : St) : Option (Int32 × St) :=
  some (y0, S)
def bX9_count_21 (x1 : Int32) (y1 : Int32) (S : St) : Option (Int32 × St) :=
  cl (uX9_right y1 1 S) (fun v1 S2 => if v1 = 0 then some (0, S2) else if x1 < 8 then if x1 < 4 then if x1 = 0 then bX9_count_95 (S2 0 1) S2 else if x1 = 1 then bX9_count_95 (S2 0 2) S2 else if x1 = 2 then bX9_count_95 (S2 0 3) S2 else bX9_count_95 (S2 0 4) S2 else cl (uX9_strengthOf x1 S2) (fun v3 S4 => some (v3, S4)) else cl (uX9_many (x1 - 8) S2) (fun v5 S6 => some (v5, S6)))
def bX9_count_20 (x1 : Int32) (S : St) : Option (Int32 × St) :=
  bX9_count_21 x1 0 S
def uX9_count (x1 : Int32) (S : St) : Option (Int32 × St) :=
  lz (s2 S 0 0 0) (fun S1 => if x1 < 0 then bX9_count_20 x1 S1 else if 15 < x1 then bX9_count_20 x1 S1 else bX9_count_21 x1 1 S1)
section
variable {N : Nat} {C : St → Nat → va_E} {Ev : (Nat → Prop) → State → Prop} {tys : List (ClassId × FieldType)} {l : Launch} {D : va_G} {cI cZ cO cJ : ClassId} {a : Nat → Nat} {tF : Nat}
set_option maxHeartbeats 4000000 in
set_option maxRecDepth 100000 in
theorem tX9_slip_42 {p : Program} {e : Env} {s : State} {m : MethodId} {args : Array Value} {below : List Frame} {meth : Method} {c : Code} (hc : CT p s m args c cX9_slip 4 RX9 wsX9_slip D (tyW cI cZ cO)) (hr : meth.sig.returnType = none) (hlk : meth.locks = false) (hE : EvM (AA 17 a s.heap.size) s) (S : St) : GF p l e rX9_slip s m args below meth c D 17 a (cM cI cZ a) (AA 17 a s.heap.size) 4 0 0 (fun res => MQ below (va_Qv (fun u => ((0 : Int32), u) = res) (Bw D (tyW cI cZ cO) 17 a (cM cI cZ a) (AA 17 a s.heap.size)) (AA 17 a s.heap.size)) args s 0 0 (AA 17 a s.heap.size)) (bX9_slip_42 S) 42 [] [] S := by
  unfold bX9_slip_42
  exact g_vret hc hr hlk dX9_slip_42
set_option maxHeartbeats 4000000 in
set_option maxRecDepth 100000 in
theorem tX9_slip_35 {p : Program} {e : Env} {s : State} {m : MethodId} {args : Array Value} {below : List Frame} {meth : Method} {c : Code} (hc : CT p s m args c cX9_slip 4 RX9 wsX9_slip D (tyW cI cZ cO)) (hr : meth.sig.returnType = none) (hlk : meth.locks = false) (hE : EvM (AA 17 a s.heap.size) s) (x1 : Int32) (x2 : Int32) (x3 : Int32) (y1 : Int32) (S : St) : GF p l e rX9_slip s m args below meth c D 17 a (cM cI cZ a) (AA 17 a s.heap.size) 4 0 0 (fun res => MQ below (va_Qv (fun u => ((0 : Int32), u) = res) (Bw D (tyW cI cZ cO) 17 a (cM cI cZ a) (AA 17 a s.heap.size)) (AA 17 a s.heap.size)) args s 0 0 (AA 17 a s.heap.size)) (bX9_slip_35 x1 x2 x3 y1 S) 35 [(0, .ref (a 0)), (1, .int x1), (2, .int x2), (3, .int x3)] [.int y1, .ref (a 0)] S := by
  unfold bX9_slip_35
  refine g_iconst (v := 2) hc dX9_slip_35 (by decide) ?_
  refine g_callVi (As := [.int y1, .int 2]) (rest := []) (k := 0) (ci := 9) (q0 := (RX9, TX9, 24)) hc hE trM rfl (fun _ h => mX9_right y1 2 S _ h) (cwV 2 hc.1.2.2.2.2 gX9_slip_X9_right rfl rfl rfl (by decide +kernel) ⟨by decide, by decide⟩) (by decide) rfl rfl rfl rfl (Nat.le_of_ble_eq_true rfl) dX9_slip_36 ⟨by decide, by decide⟩ (fun v1 S2 => ?_)
  refine g_if_ne (tgt := 43) hc dX9_slip_39 (by decide) ?_ ?_
  · refine g_aload_n (j := 0) hc dX9_slip_43 rfl rfl ?_
    refine g_get (C0 := RX9) (T := TX9) (M := 24) (k := 0) (ci := 9) hc inX9_slip_X9 (by decide) rfl rfl 10 (by decide) (List.mem_of_getElem? (i := 2) rfl) rfl rfl dX9_slip_44 ?_
    refine g_iload_n (j := 1) hc dX9_slip_47 rfl rfl ?_
    refine g_iload_n (j := 2) hc dX9_slip_48 rfl rfl ?_
    refine g_iast (k := 6) (t0 := 0) hc locM (by decide) rfl rfl rfl dX9_slip_49 (fun S3 => ?_)
    refine g_aload_n (j := 0) hc dX9_slip_50 rfl rfl ?_
    refine g_get (C0 := RX9) (T := TX9) (M := 24) (k := 0) (ci := 9) hc inX9_slip_X9 (by decide) rfl rfl 11 (by decide) (List.mem_of_getElem? (i := 3) rfl) rfl rfl dX9_slip_51 ?_
    refine g_iload_n (j := 1) hc dX9_slip_54 rfl rfl ?_
    refine g_iload_n (j := 3) hc dX9_slip_55 rfl rfl ?_
    refine g_iast (k := 7) (t0 := 0) hc locM (by decide) rfl rfl rfl dX9_slip_56 (fun S4 => ?_)
    exact g_vret hc hr hlk dX9_slip_57
  · refine g_lv [] rfl ?_
    exact tX9_slip_42 hc hr hlk hE S2
set_option maxHeartbeats 4000000 in
set_option maxRecDepth 100000 in
theorem tX9_slip_34 {p : Program} {e : Env} {s : State} {m : MethodId} {args : Array Value} {below : List Frame} {meth : Method} {c : Code} (hc : CT p s m args c cX9_slip 4 RX9 wsX9_slip D (tyW cI cZ cO)) (hr : meth.sig.returnType = none) (hlk : meth.locks = false) (hE : EvM (AA 17 a s.heap.size) s) (x1 : Int32) (x2 : Int32) (x3 : Int32) (S : St) : GF p l e rX9_slip s m args below meth c D 17 a (cM cI cZ a) (AA 17 a s.heap.size) 4 0 0 (fun res => MQ below (va_Qv (fun u => ((0 : Int32), u) = res) (Bw D (tyW cI cZ cO) 17 a (cM cI cZ a) (AA 17 a s.heap.size)) (AA 17 a s.heap.size)) args s 0 0 (AA 17 a s.heap.size)) (bX9_slip_34 x1 x2 x3 S) 34 [(0, .ref (a 0)), (1, .int x1), (2, .int x2), (3, .int x3)] [.ref (a 0)] S := by
  unfold bX9_slip_34
  refine g_iconst (v := 0) hc dX9_slip_34 (by decide) ?_
  exact tX9_slip_35 hc hr hlk hE x1 x2 x3 0 S
set_option maxHeartbeats 4000000 in
set_option maxRecDepth 100000 in
theorem mX9_slip (x1 : Int32) (x2 : Int32) (x3 : Int32) (S : St) : ∀ q, uX9_slip x1 x2 x3 S = some q → Kv l yX9_slip wsX9_slip rX9_slip D (tyW cI cZ cO) 17 a (cM cI cZ a) (EvM) [.ref (a 0), .int x1, .int x2, .int x3] S q := by
  refine m_Kv (cc := cX9_slip) (nL := 4) (ret := none) (lv := [(0, .ref (a 0)), (1, .int x1), (2, .int x2), (3, .int x3)]) (by decide) rfl (Nat.le_of_ble_eq_true rfl) rfl ?_
  intro p e s m args below meth c hc hr hlk hE
  unfold uX9_slip
  refine g_aload_n (j := 0) hc dX9_slip_0 rfl rfl ?_
  refine g_iconst (v := 0) hc dX9_slip_1 (by decide) ?_
  refine g_put (ty := .int) (C0 := RX9) (T := TX9) (M := 24) (k := 0) (ci := 9) hc locM tyX9 tyX9_ok nmX9 inX9_slip_X9 (by decide) rfl rfl 0 (by decide) (List.mem_of_getElem? (i := 1) rfl) rfl rfl (by decide +kernel) rfl rfl (Nat.le_of_ble_eq_true rfl) rfl rfl dX9_slip_2 (fun S1 => ?_)
  refine g_aload_n (j := 0) hc dX9_slip_5 rfl rfl ?_
  refine g_iload_n (j := 1) hc dX9_slip_6 rfl rfl ?_
  refine g_callVi (As := [.int x1]) (rest := []) (k := 0) (ci := 9) (q0 := (RX9, TX9, 24)) hc hE trM rfl (fun _ h => mX9_isThread x1 S1 _ h) (cwV 1 hc.1.2.2.2.2 gX9_slip_X9_isThread rfl rfl rfl (by decide +kernel) ⟨by decide, by decide⟩) (by decide) rfl rfl rfl rfl (Nat.le_of_ble_eq_true rfl) dX9_slip_7 ⟨by decide, by decide⟩ (fun v2 S3 => ?_)
  refine g_if_eq (tgt := 42) hc dX9_slip_10 (by decide) ?_ ?_
  · refine g_lv [] rfl ?_
    exact tX9_slip_42 hc hr hlk hE S3
  · refine g_aload_n (j := 0) hc dX9_slip_13 rfl rfl ?_
    refine g_iload_n (j := 2) hc dX9_slip_14 rfl rfl ?_
    refine g_bipush (v := -3) hc dX9_slip_15 (by decide) ?_
    refine g_icmp_lt (tgt := 34) hc dX9_slip_17 (by decide) ?_ ?_
    · exact tX9_slip_34 hc hr hlk hE x1 x2 x3 S3
    · refine g_iload_n (j := 2) hc dX9_slip_20 rfl rfl ?_
      refine g_iload_n (j := 3) hc dX9_slip_21 rfl rfl ?_
      refine g_icmp_gt (tgt := 34) hc dX9_slip_22 (by decide) ?_ ?_
      · exact tX9_slip_34 hc hr hlk hE x1 x2 x3 S3
      · refine g_iload_n (j := 3) hc dX9_slip_25 rfl rfl ?_
        refine g_iconst (v := 3) hc dX9_slip_26 (by decide) ?_
        refine g_icmp_gt (tgt := 34) hc dX9_slip_27 (by decide) ?_ ?_
        · exact tX9_slip_34 hc hr hlk hE x1 x2 x3 S3
        · refine g_iconst (v := 1) hc dX9_slip_30 (by decide) ?_
          refine g_goto (tgt := 35) hc dX9_slip_31 (by decide) ?_
          exact tX9_slip_35 hc hr hlk hE x1 x2 x3 1 S3
set_option maxHeartbeats 4000000 in
set_option maxRecDepth 100000 in
theorem tX9_seenOf_53 {p : Program} {e : Env} {s : State} {m : MethodId} {args : Array Value} {below : List Frame} {meth : Method} {c : Code} (hc : CT p s m args c cX9_seenOf 5 RX9 wsX9_seenOf D (tyW cI cZ cO)) (hr : meth.sig.returnType = (some .int)) (hlk : meth.locks = false) (hE : EvM (AA 17 a s.heap.size) s) (k10 : Int32 → Int32 → Int32 → Int32 → St → Option (Int32 × St)) (hk10 : ∀ (x1 : Int32) (x2 : Int32) (x3 : Int32) (x4 : Int32) (S : St), GF p l e rX9_seenOf s m args below meth c D 17 a (cM cI cZ a) (AA 17 a s.heap.size) 5 0 0 (fun res => MQ below (va_Qi (fun r u => (r, u) = res) (Bw D (tyW cI cZ cO) 17 a (cM cI cZ a) (AA 17 a s.heap.size)) (AA 17 a s.heap.size)) args s 0 0 (AA 17 a s.heap.size)) (k10 x1 x2 x3 x4 S) 10 [(0, .ref (a 0)), (1, .int x1), (2, .int x2), (3, .int x3), (4, .int x4)] [] S) (x1 : Int32) (x2 : Int32) (x3 : Int32) (x4 : Int32) (S : St) : GF p l e rX9_seenOf s m args below meth c D 17 a (cM cI cZ a) (AA 17 a s.heap.size) 5 0 0 (fun res => MQ below (va_Qi (fun r u => (r, u) = res) (Bw D (tyW cI cZ cO) 17 a (cM cI cZ a) (AA 17 a s.heap.size)) (AA 17 a s.heap.size)) args s 0 0 (AA 17 a s.heap.size)) (bX9_seenOf_53 k10 x1 x2 x3 x4 S) 53 [(0, .ref (a 0)), (1, .int x1), (2, .int x2), (3, .int x3), (4, .int x4)] [] S := by
  unfold bX9_seenOf_53
  refine g_iinc (j := 4) (w := x4 + 1) (L := fun v1 => [(4, .int v1), (0, .ref (a 0)), (1, .int x1), (2, .int x2), (3, .int x3)]) hc dX9_seenOf_53 rfl (by rfl) (by decide) (fun _ => rfl) (fun v1 => ?_)
  refine g_goto (tgt := 10) hc dX9_seenOf_56 (by decide) ?_
  refine g_lv [1, 2, 3, 4, 0] rfl ?_
  exact hk10 x1 x2 x3 v1 S
set_option maxHeartbeats 4000000 in
set_option maxRecDepth 100000 in
theorem tX9_seenOf_10 {p : Program} {e : Env} {s : State} {m : MethodId} {args : Array Value} {below : List Frame} {meth : Method} {c : Code} (hc : CT p s m args c cX9_seenOf 5 RX9 wsX9_seenOf D (tyW cI cZ cO)) (hr : meth.sig.returnType = (some .int)) (hlk : meth.locks = false) (hE : EvM (AA 17 a s.heap.size) s) (k10 : Int32 → Int32 → Int32 → Int32 → St → Option (Int32 × St)) (hk10 : ∀ (x1 : Int32) (x2 : Int32) (x3 : Int32) (x4 : Int32) (S : St), GF p l e rX9_seenOf s m args below meth c D 17 a (cM cI cZ a) (AA 17 a s.heap.size) 5 0 0 (fun res => MQ below (va_Qi (fun r u => (r, u) = res) (Bw D (tyW cI cZ cO) 17 a (cM cI cZ a) (AA 17 a s.heap.size)) (AA 17 a s.heap.size)) args s 0 0 (AA 17 a s.heap.size)) (k10 x1 x2 x3 x4 S) 10 [(0, .ref (a 0)), (1, .int x1), (2, .int x2), (3, .int x3), (4, .int x4)] [] S) (x1 : Int32) (x2 : Int32) (x3 : Int32) (x4 : Int32) (S : St) : GF p l e rX9_seenOf s m args below meth c D 17 a (cM cI cZ a) (AA 17 a s.heap.size) 5 0 0 (fun res => MQ below (va_Qi (fun r u => (r, u) = res) (Bw D (tyW cI cZ cO) 17 a (cM cI cZ a) (AA 17 a s.heap.size)) (AA 17 a s.heap.size)) args s 0 0 (AA 17 a s.heap.size)) (bX9_seenOf_10 k10 x1 x2 x3 x4 S) 10 [(0, .ref (a 0)), (1, .int x1), (2, .int x2), (3, .int x3), (4, .int x4)] [] S := by
  unfold bX9_seenOf_10
  refine g_iload (j := 4) hc dX9_seenOf_10 rfl ?_
  refine g_aload_n (j := 0) hc dX9_seenOf_12 rfl rfl ?_
  refine g_get (C0 := RX9) (T := TX9) (M := 24) (k := 0) (ci := 9) hc inX9_seenOf_X9 (by decide) rfl rfl 11 (by decide) (List.mem_of_getElem? (i := 2) rfl) rfl rfl dX9_seenOf_13 ?_
  refine g_iload_n (j := 1) hc dX9_seenOf_16 rfl rfl ?_
  refine g_iald (k := 7) (t0 := 0) hc (by decide) rfl rfl dX9_seenOf_17 ?_
  refine g_icmp_gt (tgt := 59) hc dX9_seenOf_18 (by decide) ?_ ?_
  · refine g_iload_n (j := 3) hc dX9_seenOf_59 rfl rfl ?_
    exact g_iret hc hr hlk dX9_seenOf_60
  · refine g_iload_n (j := 2) hc dX9_seenOf_21 rfl rfl ?_
    refine g_iload (j := 4) hc dX9_seenOf_22 rfl ?_
    refine g_isub hc dX9_seenOf_24 ?_
    refine g_if_lt (tgt := 53) hc dX9_seenOf_25 (by decide) ?_ ?_
    · exact tX9_seenOf_53 hc hr hlk hE k10 hk10 x1 x2 x3 x4 S
    · refine g_iload_n (j := 2) hc dX9_seenOf_28 rfl rfl ?_
      refine g_iload (j := 4) hc dX9_seenOf_29 rfl ?_
      refine g_isub hc dX9_seenOf_31 ?_
      refine g_aload_n (j := 0) hc dX9_seenOf_32 rfl rfl ?_
      refine g_get (C0 := RX9) (T := TX9) (M := 24) (k := 0) (ci := 9) hc inX9_seenOf_X9 (by decide) rfl rfl 2 (by decide) (List.mem_of_getElem? (i := 3) rfl) rfl rfl dX9_seenOf_33 ?_
      refine g_icmp_ge (tgt := 53) hc dX9_seenOf_36 (by decide) ?_ ?_
      · exact tX9_seenOf_53 hc hr hlk hE k10 hk10 x1 x2 x3 x4 S
      · refine g_iload_n (j := 3) hc dX9_seenOf_39 rfl rfl ?_
        refine g_iconst (v := 1) hc dX9_seenOf_40 (by decide) ?_
        refine g_aload_n (j := 0) hc dX9_seenOf_41 rfl rfl ?_
        refine g_iload_n (j := 1) hc dX9_seenOf_42 rfl rfl ?_
        refine g_iload_n (j := 2) hc dX9_seenOf_43 rfl rfl ?_
        refine g_iload (j := 4) hc dX9_seenOf_44 rfl ?_
        refine g_isub hc dX9_seenOf_46 ?_
        refine g_callVi (As := [.int x1, .int (x2 - x4)]) (rest := [.int 1, .int x3]) (k := 0) (ci := 9) (q0 := (RX9, TX9, 24)) hc hE trM rfl (fun _ h => mX9_colourOf x1 (x2 - x4) S _ h) (cwV 2 hc.1.2.2.2.2 gX9_seenOf_X9_colourOf rfl rfl rfl (by decide +kernel) ⟨by decide, by decide⟩) (by decide) rfl rfl rfl rfl (Nat.le_of_ble_eq_true rfl) dX9_seenOf_47 ⟨by decide, by decide⟩ (fun v1 S2 => ?_)
        refine g_ishl hc dX9_seenOf_50 ?_
        refine g_ior hc dX9_seenOf_51 ?_
        refine g_istore_n (L := fun v3 => [(3, .int v3), (0, .ref (a 0)), (1, .int x1), (2, .int x2), (4, .int x4)]) hc dX9_seenOf_52 rfl (by decide) (fun _ => rfl) (fun v3 => ?_)
        refine g_lv [1, 2, 3, 0, 4] rfl ?_
        exact tX9_seenOf_53 hc hr hlk hE k10 hk10 x1 x2 v3 x4 S2
set_option maxHeartbeats 4000000 in
set_option maxRecDepth 100000 in
theorem TX9_seenOf_10 {p : Program} {e : Env} {s : State} {m : MethodId} {args : Array Value} {below : List Frame} {meth : Method} {c : Code} (hc : CT p s m args c cX9_seenOf 5 RX9 wsX9_seenOf D (tyW cI cZ cO)) (hr : meth.sig.returnType = (some .int)) (hlk : meth.locks = false) (hE : EvM (AA 17 a s.heap.size) s) (n : Nat) (x1 : Int32) (x2 : Int32) (x3 : Int32) (x4 : Int32) (S : St) : GF p l e rX9_seenOf s m args below meth c D 17 a (cM cI cZ a) (AA 17 a s.heap.size) 5 0 0 (fun res => MQ below (va_Qi (fun r u => (r, u) = res) (Bw D (tyW cI cZ cO) 17 a (cM cI cZ a) (AA 17 a s.heap.size)) (AA 17 a s.heap.size)) args s 0 0 (AA 17 a s.heap.size)) (lX9_seenOf_10 n x1 x2 x3 x4 S) 10 [(0, .ref (a 0)), (1, .int x1), (2, .int x2), (3, .int x3), (4, .int x4)] [] S :=
  lp_ind (P := fun k : Int32 → Int32 → Int32 → Int32 → St → Option (Int32 × St) => ∀ (x1 : Int32) (x2 : Int32) (x3 : Int32) (x4 : Int32) (S : St), GF p l e rX9_seenOf s m args below meth c D 17 a (cM cI cZ a) (AA 17 a s.heap.size) 5 0 0 (fun res => MQ below (va_Qi (fun r u => (r, u) = res) (Bw D (tyW cI cZ cO) 17 a (cM cI cZ a) (AA 17 a s.heap.size)) (AA 17 a s.heap.size)) args s 0 0 (AA 17 a s.heap.size)) (k x1 x2 x3 x4 S) 10 [(0, .ref (a 0)), (1, .int x1), (2, .int x2), (3, .int x3), (4, .int x4)] [] S) (fun _ _ _ _ _ => g_none) (fun k10 hk10 => tX9_seenOf_10 hc hr hlk hE k10 hk10) n x1 x2 x3 x4 S
set_option maxHeartbeats 4000000 in
set_option maxRecDepth 100000 in
theorem mX9_seenOf (x1 : Int32) (x2 : Int32) (S : St) : ∀ q, uX9_seenOf x1 x2 S = some q → Ki l yX9_seenOf wsX9_seenOf rX9_seenOf D (tyW cI cZ cO) 17 a (cM cI cZ a) (EvM) [.ref (a 0), .int x1, .int x2] S q := by
  refine m_Ki (cc := cX9_seenOf) (nL := 5) (ret := (some .int)) (lv := [(0, .ref (a 0)), (1, .int x1), (2, .int x2)]) (by decide) rfl (Nat.le_of_ble_eq_true rfl) rfl ?_
  intro p e s m args below meth c hc hr hlk hE
  unfold uX9_seenOf
  refine g_iconst (v := 0) hc dX9_seenOf_0 (by decide) ?_
  refine g_istore_n (L := fun v1 => [(3, .int v1), (0, .ref (a 0)), (1, .int x1), (2, .int x2)]) hc dX9_seenOf_1 rfl (by decide) (fun _ => rfl) (fun v1 => ?_)
  refine g_aload_n (j := 1) hc dX9_seenOf_2 rfl rfl ?_
  refine g_get (C0 := RX9) (T := TX9) (M := 24) (k := 0) (ci := 9) hc inX9_seenOf_X9 (by decide) rfl rfl 10 (by decide) (List.mem_of_getElem? (i := 1) rfl) rfl rfl dX9_seenOf_3 ?_
  refine g_iload_n (j := 2) hc dX9_seenOf_6 rfl rfl ?_
  refine g_iald (k := 6) (t0 := 0) hc (by decide) rfl rfl dX9_seenOf_7 ?_
  refine g_istore (L := fun v2 => [(4, .int v2), (3, .int v1), (0, .ref (a 0)), (1, .int x1), (2, .int x2)]) hc dX9_seenOf_8 (by decide) (fun _ => rfl) (fun v2 => ?_)
  refine g_lv [2, 3, 4, 1, 0] rfl ?_
  exact TX9_seenOf_10 hc hr hlk hE FU x1 x2 v1 v2 S
set_option maxHeartbeats 4000000 in
set_option maxRecDepth 100000 in
theorem tX9_seen_31 {p : Program} {e : Env} {s : State} {m : MethodId} {args : Array Value} {below : List Frame} {meth : Method} {c : Code} (hc : CT p s m args c cX9_seen 3 RX9 wsX9_seen D (tyW cI cZ cO)) (hr : meth.sig.returnType = (some .int)) (hlk : meth.locks = false) (hE : EvM (AA 17 a s.heap.size) s) (y0 : Int32) (S : St) : GF p l e rX9_seen s m args below meth c D 17 a (cM cI cZ a) (AA 17 a s.heap.size) 3 0 0 (fun res => MQ below (va_Qi (fun r u => (r, u) = res) (Bw D (tyW cI cZ cO) 17 a (cM cI cZ a) (AA 17 a s.heap.size)) (AA 17 a s.heap.size)) args s 0 0 (AA 17 a s.heap.size)) (bX9_seen_31 y0 S) 31 [] [.int y0] S := by
  unfold bX9_seen_31
  exact g_iret hc hr hlk dX9_seen_31
set_option maxHeartbeats 4000000 in
set_option maxRecDepth 100000 in
theorem tX9_seen_30 {p : Program} {e : Env} {s : State} {m : MethodId} {args : Array Value} {below : List Frame} {meth : Method} {c : Code} (hc : CT p s m args c cX9_seen 3 RX9 wsX9_seen D (tyW cI cZ cO)) (hr : meth.sig.returnType = (some .int)) (hlk : meth.locks = false) (hE : EvM (AA 17 a s.heap.size) s) (S : St) : GF p l e rX9_seen s m args below meth c D 17 a (cM cI cZ a) (AA 17 a s.heap.size) 3 0 0 (fun res => MQ below (va_Qi (fun r u => (r, u) = res) (Bw D (tyW cI cZ cO) 17 a (cM cI cZ a) (AA 17 a s.heap.size)) (AA 17 a s.heap.size)) args s 0 0 (AA 17 a s.heap.size)) (bX9_seen_30 S) 30 [] [] S := by
  unfold bX9_seen_30
  refine g_iconst (v := 0) hc dX9_seen_30 (by decide) ?_
  exact tX9_seen_31 hc hr hlk hE 0 S
set_option maxHeartbeats 4000000 in
set_option maxRecDepth 100000 in
theorem mX9_seen (x1 : Int32) (x2 : Int32) (S : St) : ∀ q, uX9_seen x1 x2 S = some q → Ki l yX9_seen wsX9_seen rX9_seen D (tyW cI cZ cO) 17 a (cM cI cZ a) (EvM) [.ref (a 0), .int x1, .int x2] S q := by
  refine m_Ki (cc := cX9_seen) (nL := 3) (ret := (some .int)) (lv := [(0, .ref (a 0)), (1, .int x1), (2, .int x2)]) (by decide) rfl (Nat.le_of_ble_eq_true rfl) rfl ?_
  intro p e s m args below meth c hc hr hlk hE
  unfold uX9_seen
  refine g_aload_n (j := 0) hc dX9_seen_0 rfl rfl ?_
  refine g_iconst (v := 0) hc dX9_seen_1 (by decide) ?_
  refine g_put (ty := .int) (C0 := RX9) (T := TX9) (M := 24) (k := 0) (ci := 9) hc locM tyX9 tyX9_ok nmX9 inX9_seen_X9 (by decide) rfl rfl 0 (by decide) (List.mem_of_getElem? (i := 1) rfl) rfl rfl (by decide +kernel) rfl rfl (Nat.le_of_ble_eq_true rfl) rfl rfl dX9_seen_2 (fun S1 => ?_)
  refine g_aload_n (j := 0) hc dX9_seen_5 rfl rfl ?_
  refine g_iload_n (j := 1) hc dX9_seen_6 rfl rfl ?_
  refine g_callVi (As := [.int x1]) (rest := []) (k := 0) (ci := 9) (q0 := (RX9, TX9, 24)) hc hE trM rfl (fun _ h => mX9_isThread x1 S1 _ h) (cwV 1 hc.1.2.2.2.2 gX9_seen_X9_isThread rfl rfl rfl (by decide +kernel) ⟨by decide, by decide⟩) (by decide) rfl rfl rfl rfl (Nat.le_of_ble_eq_true rfl) dX9_seen_7 ⟨by decide, by decide⟩ (fun v2 S3 => ?_)
  refine g_if_eq (tgt := 30) hc dX9_seen_10 (by decide) ?_ ?_
  · refine g_lv [] rfl ?_
    exact tX9_seen_30 hc hr hlk hE S3
  · refine g_aload_n (j := 0) hc dX9_seen_13 rfl rfl ?_
    refine g_iload_n (j := 2) hc dX9_seen_14 rfl rfl ?_
    refine g_callVi (As := [.int x2]) (rest := []) (k := 0) (ci := 9) (q0 := (RX9, TX9, 24)) hc hE trM rfl (fun _ h => mX9_isPlace x2 S3 _ h) (cwV 1 hc.1.2.2.2.2 gX9_seen_X9_isPlace rfl rfl rfl (by decide +kernel) ⟨by decide, by decide⟩) (by decide) rfl rfl rfl rfl (Nat.le_of_ble_eq_true rfl) dX9_seen_15 ⟨by decide, by decide⟩ (fun v4 S5 => ?_)
    refine g_if_eq (tgt := 30) hc dX9_seen_18 (by decide) ?_ ?_
    · refine g_lv [] rfl ?_
      exact tX9_seen_30 hc hr hlk hE S5
    · refine g_aload_n (j := 0) hc dX9_seen_21 rfl rfl ?_
      refine g_iload_n (j := 1) hc dX9_seen_22 rfl rfl ?_
      refine g_iload_n (j := 2) hc dX9_seen_23 rfl rfl ?_
      refine g_callVi (As := [.int x1, .int x2]) (rest := []) (k := 0) (ci := 9) (q0 := (RX9, TX9, 24)) hc hE trM rfl (fun _ h => mX9_seenOf x1 x2 S5 _ h) (cwV 2 hc.1.2.2.2.2 gX9_seen_X9_seenOf rfl rfl rfl (by decide +kernel) ⟨by decide, by decide⟩) (by decide) rfl rfl rfl rfl (Nat.le_of_ble_eq_true rfl) dX9_seen_24 ⟨by decide, by decide⟩ (fun v6 S7 => ?_)
      refine g_goto (tgt := 31) hc dX9_seen_27 (by decide) ?_
      refine g_lv [] rfl ?_
      exact tX9_seen_31 hc hr hlk hE v6 S7
set_option maxHeartbeats 4000000 in
set_option maxRecDepth 100000 in
theorem tX9_blurred_52 {p : Program} {e : Env} {s : State} {m : MethodId} {args : Array Value} {below : List Frame} {meth : Method} {c : Code} (hc : CT p s m args c cX9_blurred 4 RX9 wsX9_blurred D (tyW cI cZ cO)) (hr : meth.sig.returnType = (some .int)) (hlk : meth.locks = false) (hE : EvM (AA 17 a s.heap.size) s) (k9 : Int32 → Int32 → St → Option (Int32 × St)) (hk9 : ∀ (x1 : Int32) (x2 : Int32) (S : St), GF p l e rX9_blurred s m args below meth c D 17 a (cM cI cZ a) (AA 17 a s.heap.size) 4 0 0 (fun res => MQ below (va_Qi (fun r u => (r, u) = res) (Bw D (tyW cI cZ cO) 17 a (cM cI cZ a) (AA 17 a s.heap.size)) (AA 17 a s.heap.size)) args s 0 0 (AA 17 a s.heap.size)) (k9 x1 x2 S) 9 [(0, .ref (a 0)), (1, .int x1), (2, .int x2)] [] S) (k19 : Int32 → Int32 → Int32 → St → Option (Int32 × St)) (hk19 : ∀ (x1 : Int32) (x2 : Int32) (x3 : Int32) (S : St), GF p l e rX9_blurred s m args below meth c D 17 a (cM cI cZ a) (AA 17 a s.heap.size) 4 0 0 (fun res => MQ below (va_Qi (fun r u => (r, u) = res) (Bw D (tyW cI cZ cO) 17 a (cM cI cZ a) (AA 17 a s.heap.size)) (AA 17 a s.heap.size)) args s 0 0 (AA 17 a s.heap.size)) (k19 x1 x2 x3 S) 19 [(0, .ref (a 0)), (1, .int x1), (2, .int x2), (3, .int x3)] [] S) (x1 : Int32) (x2 : Int32) (x3 : Int32) (S : St) : GF p l e rX9_blurred s m args below meth c D 17 a (cM cI cZ a) (AA 17 a s.heap.size) 4 0 0 (fun res => MQ below (va_Qi (fun r u => (r, u) = res) (Bw D (tyW cI cZ cO) 17 a (cM cI cZ a) (AA 17 a s.heap.size)) (AA 17 a s.heap.size)) args s 0 0 (AA 17 a s.heap.size)) (bX9_blurred_52 k9 k19 x1 x2 x3 S) 52 [(0, .ref (a 0)), (1, .int x1), (2, .int x2), (3, .int x3)] [] S := by
  unfold bX9_blurred_52
  refine g_iinc (j := 3) (w := x3 + 1) (L := fun v1 => [(3, .int v1), (0, .ref (a 0)), (1, .int x1), (2, .int x2)]) hc dX9_blurred_52 rfl (by rfl) (by decide) (fun _ => rfl) (fun v1 => ?_)
  refine g_goto (tgt := 19) hc dX9_blurred_55 (by decide) ?_
  refine g_lv [1, 2, 3, 0] rfl ?_
  exact hk19 x1 x2 v1 S
set_option maxHeartbeats 4000000 in
set_option maxRecDepth 100000 in
theorem tX9_blurred_19 {p : Program} {e : Env} {s : State} {m : MethodId} {args : Array Value} {below : List Frame} {meth : Method} {c : Code} (hc : CT p s m args c cX9_blurred 4 RX9 wsX9_blurred D (tyW cI cZ cO)) (hr : meth.sig.returnType = (some .int)) (hlk : meth.locks = false) (hE : EvM (AA 17 a s.heap.size) s) (k9 : Int32 → Int32 → St → Option (Int32 × St)) (hk9 : ∀ (x1 : Int32) (x2 : Int32) (S : St), GF p l e rX9_blurred s m args below meth c D 17 a (cM cI cZ a) (AA 17 a s.heap.size) 4 0 0 (fun res => MQ below (va_Qi (fun r u => (r, u) = res) (Bw D (tyW cI cZ cO) 17 a (cM cI cZ a) (AA 17 a s.heap.size)) (AA 17 a s.heap.size)) args s 0 0 (AA 17 a s.heap.size)) (k9 x1 x2 S) 9 [(0, .ref (a 0)), (1, .int x1), (2, .int x2)] [] S) (k19 : Int32 → Int32 → Int32 → St → Option (Int32 × St)) (hk19 : ∀ (x1 : Int32) (x2 : Int32) (x3 : Int32) (S : St), GF p l e rX9_blurred s m args below meth c D 17 a (cM cI cZ a) (AA 17 a s.heap.size) 4 0 0 (fun res => MQ below (va_Qi (fun r u => (r, u) = res) (Bw D (tyW cI cZ cO) 17 a (cM cI cZ a) (AA 17 a s.heap.size)) (AA 17 a s.heap.size)) args s 0 0 (AA 17 a s.heap.size)) (k19 x1 x2 x3 S) 19 [(0, .ref (a 0)), (1, .int x1), (2, .int x2), (3, .int x3)] [] S) (x1 : Int32) (x2 : Int32) (x3 : Int32) (S : St) : GF p l e rX9_blurred s m args below meth c D 17 a (cM cI cZ a) (AA 17 a s.heap.size) 4 0 0 (fun res => MQ below (va_Qi (fun r u => (r, u) = res) (Bw D (tyW cI cZ cO) 17 a (cM cI cZ a) (AA 17 a s.heap.size)) (AA 17 a s.heap.size)) args s 0 0 (AA 17 a s.heap.size)) (bX9_blurred_19 k9 k19 x1 x2 x3 S) 19 [(0, .ref (a 0)), (1, .int x1), (2, .int x2), (3, .int x3)] [] S := by
  unfold bX9_blurred_19
  refine g_iload_n (j := 3) hc dX9_blurred_19 rfl rfl ?_
  refine g_aload_n (j := 0) hc dX9_blurred_20 rfl rfl ?_
  refine g_get (C0 := RX9) (T := TX9) (M := 24) (k := 0) (ci := 9) hc inX9_blurred_X9 (by decide) rfl rfl 2 (by decide) (List.mem_of_getElem? (i := 3) rfl) rfl rfl dX9_blurred_21 ?_
  refine g_icmp_ge (tgt := 58) hc dX9_blurred_24 (by decide) ?_ ?_
  · refine g_iinc (j := 2) (w := x2 + 1) (L := fun v1 => [(2, .int v1), (0, .ref (a 0)), (1, .int x1), (3, .int x3)]) hc dX9_blurred_58 rfl (by rfl) (by decide) (fun _ => rfl) (fun v1 => ?_)
    refine g_goto (tgt := 9) hc dX9_blurred_61 (by decide) ?_
    refine g_lv [1, 2, 0] rfl ?_
    exact hk9 x1 v1 S
  · refine g_aload_n (j := 0) hc dX9_blurred_27 rfl rfl ?_
    refine g_iload_n (j := 2) hc dX9_blurred_28 rfl rfl ?_
    refine g_iload_n (j := 3) hc dX9_blurred_29 rfl rfl ?_
    refine g_callVi (As := [.int x2, .int x3]) (rest := []) (k := 0) (ci := 9) (q0 := (RX9, TX9, 24)) hc hE trM rfl (fun _ h => mX9_seenOf x2 x3 S _ h) (cwV 2 hc.1.2.2.2.2 gX9_blurred_X9_seenOf rfl rfl rfl (by decide +kernel) ⟨by decide, by decide⟩) (by decide) rfl rfl rfl rfl (Nat.le_of_ble_eq_true rfl) dX9_blurred_30 ⟨by decide, by decide⟩ (fun v2 S3 => ?_)
    refine g_iconst (v := 1) hc dX9_blurred_33 (by decide) ?_
    refine g_aload_n (j := 0) hc dX9_blurred_34 rfl rfl ?_
    refine g_get (C0 := RX9) (T := TX9) (M := 24) (k := 0) (ci := 9) hc inX9_blurred_X9 (by decide) rfl rfl 9 (by decide) (List.mem_of_getElem? (i := 4) rfl) rfl rfl dX9_blurred_35 ?_
    refine g_bipush (v := 24) hc dX9_blurred_38 (by decide) ?_
    refine g_iload_n (j := 2) hc dX9_blurred_40 rfl rfl ?_
    refine g_imul hc dX9_blurred_41 ?_
    refine g_iload_n (j := 3) hc dX9_blurred_42 rfl rfl ?_
    refine g_iadd hc dX9_blurred_43 ?_
    refine g_iald (k := 5) (t0 := 0) hc (by decide) rfl rfl dX9_blurred_44 ?_
    refine g_ishl hc dX9_blurred_45 ?_
    refine g_icmp_eq (tgt := 52) hc dX9_blurred_46 (by decide) ?_ ?_
    · exact tX9_blurred_52 hc hr hlk hE k9 hk9 k19 hk19 x1 x2 x3 S3
    · refine g_iinc (j := 1) (w := x1 + 1) (L := fun v4 => [(1, .int v4), (0, .ref (a 0)), (2, .int x2), (3, .int x3)]) hc dX9_blurred_49 rfl (by rfl) (by decide) (fun _ => rfl) (fun v4 => ?_)
      refine g_lv [1, 0, 2, 3] rfl ?_
      exact tX9_blurred_52 hc hr hlk hE k9 hk9 k19 hk19 v4 x2 x3 S3
set_option maxHeartbeats 4000000 in
set_option maxRecDepth 100000 in
theorem TX9_blurred_19 {p : Program} {e : Env} {s : State} {m : MethodId} {args : Array Value} {below : List Frame} {meth : Method} {c : Code} (hc : CT p s m args c cX9_blurred 4 RX9 wsX9_blurred D (tyW cI cZ cO)) (hr : meth.sig.returnType = (some .int)) (hlk : meth.locks = false) (hE : EvM (AA 17 a s.heap.size) s) (k9 : Int32 → Int32 → St → Option (Int32 × St)) (hk9 : ∀ (x1 : Int32) (x2 : Int32) (S : St), GF p l e rX9_blurred s m args below meth c D 17 a (cM cI cZ a) (AA 17 a s.heap.size) 4 0 0 (fun res => MQ below (va_Qi (fun r u => (r, u) = res) (Bw D (tyW cI cZ cO) 17 a (cM cI cZ a) (AA 17 a s.heap.size)) (AA 17 a s.heap.size)) args s 0 0 (AA 17 a s.heap.size)) (k9 x1 x2 S) 9 [(0, .ref (a 0)), (1, .int x1), (2, .int x2)] [] S) (n : Nat) (x1 : Int32) (x2 : Int32) (x3 : Int32) (S : St) : GF p l e rX9_blurred s m args below meth c D 17 a (cM cI cZ a) (AA 17 a s.heap.size) 4 0 0 (fun res => MQ below (va_Qi (fun r u => (r, u) = res) (Bw D (tyW cI cZ cO) 17 a (cM cI cZ a) (AA 17 a s.heap.size)) (AA 17 a s.heap.size)) args s 0 0 (AA 17 a s.heap.size)) (lX9_blurred_19 k9 n x1 x2 x3 S) 19 [(0, .ref (a 0)), (1, .int x1), (2, .int x2), (3, .int x3)] [] S :=
  lp_ind (P := fun k : Int32 → Int32 → Int32 → St → Option (Int32 × St) => ∀ (x1 : Int32) (x2 : Int32) (x3 : Int32) (S : St), GF p l e rX9_blurred s m args below meth c D 17 a (cM cI cZ a) (AA 17 a s.heap.size) 4 0 0 (fun res => MQ below (va_Qi (fun r u => (r, u) = res) (Bw D (tyW cI cZ cO) 17 a (cM cI cZ a) (AA 17 a s.heap.size)) (AA 17 a s.heap.size)) args s 0 0 (AA 17 a s.heap.size)) (k x1 x2 x3 S) 19 [(0, .ref (a 0)), (1, .int x1), (2, .int x2), (3, .int x3)] [] S) (fun _ _ _ _ => g_none) (fun k19 hk19 => tX9_blurred_19 hc hr hlk hE k9 hk9 k19 hk19) n x1 x2 x3 S
set_option maxHeartbeats 4000000 in
set_option maxRecDepth 100000 in
theorem tX9_blurred_9 {p : Program} {e : Env} {s : State} {m : MethodId} {args : Array Value} {below : List Frame} {meth : Method} {c : Code} (hc : CT p s m args c cX9_blurred 4 RX9 wsX9_blurred D (tyW cI cZ cO)) (hr : meth.sig.returnType = (some .int)) (hlk : meth.locks = false) (hE : EvM (AA 17 a s.heap.size) s) (k9 : Int32 → Int32 → St → Option (Int32 × St)) (hk9 : ∀ (x1 : Int32) (x2 : Int32) (S : St), GF p l e rX9_blurred s m args below meth c D 17 a (cM cI cZ a) (AA 17 a s.heap.size) 4 0 0 (fun res => MQ below (va_Qi (fun r u => (r, u) = res) (Bw D (tyW cI cZ cO) 17 a (cM cI cZ a) (AA 17 a s.heap.size)) (AA 17 a s.heap.size)) args s 0 0 (AA 17 a s.heap.size)) (k9 x1 x2 S) 9 [(0, .ref (a 0)), (1, .int x1), (2, .int x2)] [] S) (x1 : Int32) (x2 : Int32) (S : St) : GF p l e rX9_blurred s m args below meth c D 17 a (cM cI cZ a) (AA 17 a s.heap.size) 4 0 0 (fun res => MQ below (va_Qi (fun r u => (r, u) = res) (Bw D (tyW cI cZ cO) 17 a (cM cI cZ a) (AA 17 a s.heap.size)) (AA 17 a s.heap.size)) args s 0 0 (AA 17 a s.heap.size)) (bX9_blurred_9 k9 x1 x2 S) 9 [(0, .ref (a 0)), (1, .int x1), (2, .int x2)] [] S := by
  unfold bX9_blurred_9
  refine g_iload_n (j := 2) hc dX9_blurred_9 rfl rfl ?_
  refine g_aload_n (j := 0) hc dX9_blurred_10 rfl rfl ?_
  refine g_get (C0 := RX9) (T := TX9) (M := 24) (k := 0) (ci := 9) hc inX9_blurred_X9 (by decide) rfl rfl 1 (by decide) (List.mem_of_getElem? (i := 2) rfl) rfl rfl dX9_blurred_11 ?_
  refine g_icmp_ge (tgt := 64) hc dX9_blurred_14 (by decide) ?_ ?_
  · refine g_iload_n (j := 1) hc dX9_blurred_64 rfl rfl ?_
    exact g_iret hc hr hlk dX9_blurred_65
  · refine g_iconst (v := 0) hc dX9_blurred_17 (by decide) ?_
    refine g_istore_n (L := fun v1 => [(3, .int v1), (0, .ref (a 0)), (1, .int x1), (2, .int x2)]) hc dX9_blurred_18 rfl (by decide) (fun _ => rfl) (fun v1 => ?_)
    refine g_lv [1, 2, 3, 0] rfl ?_
    exact TX9_blurred_19 hc hr hlk hE k9 hk9 FU x1 x2 v1 S
set_option maxHeartbeats 4000000 in
set_option maxRecDepth 100000 in
theorem TX9_blurred_9 {p : Program} {e : Env} {s : State} {m : MethodId} {args : Array Value} {below : List Frame} {meth : Method} {c : Code} (hc : CT p s m args c cX9_blurred 4 RX9 wsX9_blurred D (tyW cI cZ cO)) (hr : meth.sig.returnType = (some .int)) (hlk : meth.locks = false) (hE : EvM (AA 17 a s.heap.size) s) (n : Nat) (x1 : Int32) (x2 : Int32) (S : St) : GF p l e rX9_blurred s m args below meth c D 17 a (cM cI cZ a) (AA 17 a s.heap.size) 4 0 0 (fun res => MQ below (va_Qi (fun r u => (r, u) = res) (Bw D (tyW cI cZ cO) 17 a (cM cI cZ a) (AA 17 a s.heap.size)) (AA 17 a s.heap.size)) args s 0 0 (AA 17 a s.heap.size)) (lX9_blurred_9 n x1 x2 S) 9 [(0, .ref (a 0)), (1, .int x1), (2, .int x2)] [] S :=
  lp_ind (P := fun k : Int32 → Int32 → St → Option (Int32 × St) => ∀ (x1 : Int32) (x2 : Int32) (S : St), GF p l e rX9_blurred s m args below meth c D 17 a (cM cI cZ a) (AA 17 a s.heap.size) 4 0 0 (fun res => MQ below (va_Qi (fun r u => (r, u) = res) (Bw D (tyW cI cZ cO) 17 a (cM cI cZ a) (AA 17 a s.heap.size)) (AA 17 a s.heap.size)) args s 0 0 (AA 17 a s.heap.size)) (k x1 x2 S) 9 [(0, .ref (a 0)), (1, .int x1), (2, .int x2)] [] S) (fun _ _ _ => g_none) (fun k9 hk9 => tX9_blurred_9 hc hr hlk hE k9 hk9) n x1 x2 S
set_option maxHeartbeats 4000000 in
set_option maxRecDepth 100000 in
theorem mX9_blurred (S : St) : ∀ q, uX9_blurred S = some q → Ki l yX9_blurred wsX9_blurred rX9_blurred D (tyW cI cZ cO) 17 a (cM cI cZ a) (EvM) [.ref (a 0)] S q := by
  refine m_Ki (cc := cX9_blurred) (nL := 4) (ret := (some .int)) (lv := [(0, .ref (a 0))]) (by decide) rfl (Nat.le_of_ble_eq_true rfl) rfl ?_
  intro p e s m args below meth c hc hr hlk hE
  unfold uX9_blurred
  refine g_aload_n (j := 0) hc dX9_blurred_0 rfl rfl ?_
  refine g_iconst (v := 0) hc dX9_blurred_1 (by decide) ?_
  refine g_put (ty := .int) (C0 := RX9) (T := TX9) (M := 24) (k := 0) (ci := 9) hc locM tyX9 tyX9_ok nmX9 inX9_blurred_X9 (by decide) rfl rfl 0 (by decide) (List.mem_of_getElem? (i := 1) rfl) rfl rfl (by decide +kernel) rfl rfl (Nat.le_of_ble_eq_true rfl) rfl rfl dX9_blurred_2 (fun S1 => ?_)
  refine g_iconst (v := 0) hc dX9_blurred_5 (by decide) ?_
  refine g_istore_n (L := fun v2 => [(1, .int v2), (0, .ref (a 0))]) hc dX9_blurred_6 rfl (by decide) (fun _ => rfl) (fun v2 => ?_)
  refine g_iconst (v := 0) hc dX9_blurred_7 (by decide) ?_
  refine g_istore_n (L := fun v3 => [(2, .int v3), (1, .int v2), (0, .ref (a 0))]) hc dX9_blurred_8 rfl (by decide) (fun _ => rfl) (fun v3 => ?_)
  refine g_lv [2, 1, 0] rfl ?_
  exact TX9_blurred_9 hc hr hlk hE FU v2 v3 S1
set_option maxHeartbeats 4000000 in
set_option maxRecDepth 100000 in
theorem tX9_law_45 {p : Program} {e : Env} {s : State} {m : MethodId} {args : Array Value} {below : List Frame} {meth : Method} {c : Code} (hc : CT p s m args c cX9_law 4 RX9 wsX9_law D (tyW cI cZ cO)) (hr : meth.sig.returnType = (some .int)) (hlk : meth.locks = false) (hE : EvM (AA 17 a s.heap.size) s) (S : St) : GF p l e rX9_law s m args below meth c D 17 a (cM cI cZ a) (AA 17 a s.heap.size) 4 0 0 (fun res => MQ below (va_Qi (fun r u => (r, u) = res) (Bw D (tyW cI cZ cO) 17 a (cM cI cZ a) (AA 17 a s.heap.size)) (AA 17 a s.heap.size)) args s 0 0 (AA 17 a s.heap.size)) (bX9_law_45 S) 45 [] [] S := by
  unfold bX9_law_45
  refine g_iconst (v := -1) hc dX9_law_45 (by decide) ?_
  exact g_iret hc hr hlk dX9_law_46
set_option maxHeartbeats 4000000 in
set_option maxRecDepth 100000 in
theorem mX9_law (x1 : Int32) (x2 : Int32) (x3 : Int32) (S : St) : ∀ q, uX9_law x1 x2 x3 S = some q → Ki l yX9_law wsX9_law rX9_law D (tyW cI cZ cO) 17 a (cM cI cZ a) (EvM) [.ref (a 0), .int x1, .int x2, .int x3] S q := by
  refine m_Ki (cc := cX9_law) (nL := 4) (ret := (some .int)) (lv := [(0, .ref (a 0)), (1, .int x1), (2, .int x2), (3, .int x3)]) (by decide) rfl (Nat.le_of_ble_eq_true rfl) rfl ?_
  intro p e s m args below meth c hc hr hlk hE
  unfold uX9_law
  refine g_aload_n (j := 0) hc dX9_law_0 rfl rfl ?_
  refine g_iconst (v := 0) hc dX9_law_1 (by decide) ?_
  refine g_put (ty := .int) (C0 := RX9) (T := TX9) (M := 24) (k := 0) (ci := 9) hc locM tyX9 tyX9_ok nmX9 inX9_law_X9 (by decide) rfl rfl 0 (by decide) (List.mem_of_getElem? (i := 1) rfl) rfl rfl (by decide +kernel) rfl rfl (Nat.le_of_ble_eq_true rfl) rfl rfl dX9_law_2 (fun S1 => ?_)
  refine g_aload_n (j := 0) hc dX9_law_5 rfl rfl ?_
  refine g_get (C0 := RX9) (T := TX9) (M := 24) (k := 0) (ci := 9) hc inX9_law_X9 (by decide) rfl rfl 4 (by decide) (List.mem_of_getElem? (i := 2) rfl) rfl rfl dX9_law_6 ?_
  refine g_bipush (v := 60) hc dX9_law_9 (by decide) ?_
  refine g_icmp_eq (tgt := 45) hc dX9_law_11 (by decide) ?_ ?_
  · refine g_lv [] rfl ?_
    exact tX9_law_45 hc hr hlk hE S1
  · refine g_iload_n (j := 1) hc dX9_law_14 rfl rfl ?_
    refine g_if_lt (tgt := 45) hc dX9_law_15 (by decide) ?_ ?_
    · refine g_lv [] rfl ?_
      exact tX9_law_45 hc hr hlk hE S1
    · refine g_iload_n (j := 1) hc dX9_law_18 rfl rfl ?_
      refine g_sipush (v := 9999) hc dX9_law_19 (by decide) ?_
      refine g_icmp_gt (tgt := 45) hc dX9_law_22 (by decide) ?_ ?_
      · refine g_lv [] rfl ?_
        exact tX9_law_45 hc hr hlk hE S1
      · refine g_iload_n (j := 2) hc dX9_law_25 rfl rfl ?_
        refine g_if_lt (tgt := 45) hc dX9_law_26 (by decide) ?_ ?_
        · refine g_lv [] rfl ?_
          exact tX9_law_45 hc hr hlk hE S1
        · refine g_iload_n (j := 2) hc dX9_law_29 rfl rfl ?_
          refine g_bipush (v := 15) hc dX9_law_30 (by decide) ?_
          refine g_icmp_gt (tgt := 45) hc dX9_law_32 (by decide) ?_ ?_
          · refine g_lv [] rfl ?_
            exact tX9_law_45 hc hr hlk hE S1
          · refine g_iload_n (j := 3) hc dX9_law_35 rfl rfl ?_
            refine g_if_lt (tgt := 45) hc dX9_law_36 (by decide) ?_ ?_
            · refine g_lv [] rfl ?_
              exact tX9_law_45 hc hr hlk hE S1
            · refine g_iload_n (j := 3) hc dX9_law_39 rfl rfl ?_
              refine g_bipush (v := 9) hc dX9_law_40 (by decide) ?_
              refine g_icmp_le (tgt := 47) hc dX9_law_42 (by decide) ?_ ?_
              · refine g_aload_n (j := 0) hc dX9_law_47 rfl rfl ?_
                refine g_get (C0 := RX9) (T := TX9) (M := 24) (k := 0) (ci := 9) hc inX9_law_X9 (by decide) rfl rfl 14 (by decide) (List.mem_of_getElem? (i := 3) rfl) rfl rfl dX9_law_48 ?_
                refine g_aload_n (j := 0) hc dX9_law_51 rfl rfl ?_
                refine g_get (C0 := RX9) (T := TX9) (M := 24) (k := 0) (ci := 9) hc inX9_law_X9 (by decide) rfl rfl 4 (by decide) (List.mem_of_getElem? (i := 2) rfl) rfl rfl dX9_law_52 ?_
                refine g_iload_n (j := 1) hc dX9_law_55 rfl rfl ?_
                refine g_iast (k := 10) (t0 := 0) hc locM (by decide) rfl rfl rfl dX9_law_56 (fun S2 => ?_)
                refine g_aload_n (j := 0) hc dX9_law_57 rfl rfl ?_
                refine g_get (C0 := RX9) (T := TX9) (M := 24) (k := 0) (ci := 9) hc inX9_law_X9 (by decide) rfl rfl 15 (by decide) (List.mem_of_getElem? (i := 4) rfl) rfl rfl dX9_law_58 ?_
                refine g_aload_n (j := 0) hc dX9_law_61 rfl rfl ?_
                refine g_get (C0 := RX9) (T := TX9) (M := 24) (k := 0) (ci := 9) hc inX9_law_X9 (by decide) rfl rfl 4 (by decide) (List.mem_of_getElem? (i := 2) rfl) rfl rfl dX9_law_62 ?_
                refine g_iload_n (j := 2) hc dX9_law_65 rfl rfl ?_
                refine g_iast (k := 11) (t0 := 0) hc locM (by decide) rfl rfl rfl dX9_law_66 (fun S3 => ?_)
                refine g_aload_n (j := 0) hc dX9_law_67 rfl rfl ?_
                refine g_get (C0 := RX9) (T := TX9) (M := 24) (k := 0) (ci := 9) hc inX9_law_X9 (by decide) rfl rfl 16 (by decide) (List.mem_of_getElem? (i := 5) rfl) rfl rfl dX9_law_68 ?_
                refine g_aload_n (j := 0) hc dX9_law_71 rfl rfl ?_
                refine g_get (C0 := RX9) (T := TX9) (M := 24) (k := 0) (ci := 9) hc inX9_law_X9 (by decide) rfl rfl 4 (by decide) (List.mem_of_getElem? (i := 2) rfl) rfl rfl dX9_law_72 ?_
                refine g_iload_n (j := 3) hc dX9_law_75 rfl rfl ?_
                refine g_iast (k := 12) (t0 := 0) hc locM (by decide) rfl rfl rfl dX9_law_76 (fun S4 => ?_)
                refine g_aload_n (j := 0) hc dX9_law_77 rfl rfl ?_
                refine g_dup hc dX9_law_78 rfl ?_
                refine g_get (C0 := RX9) (T := TX9) (M := 24) (k := 0) (ci := 9) hc inX9_law_X9 (by decide) rfl rfl 4 (by decide) (List.mem_of_getElem? (i := 2) rfl) rfl rfl dX9_law_79 ?_
                refine g_iconst (v := 1) hc dX9_law_82 (by decide) ?_
                refine g_iadd hc dX9_law_83 ?_
                refine g_put (ty := .int) (C0 := RX9) (T := TX9) (M := 24) (k := 0) (ci := 9) hc locM tyX9 tyX9_ok nmX9 inX9_law_X9 (by decide) rfl rfl 4 (by decide) (List.mem_of_getElem? (i := 2) rfl) rfl rfl (by decide +kernel) rfl rfl (Nat.le_of_ble_eq_true rfl) rfl rfl dX9_law_84 (fun S5 => ?_)
                refine g_aload_n (j := 0) hc dX9_law_87 rfl rfl ?_
                refine g_get (C0 := RX9) (T := TX9) (M := 24) (k := 0) (ci := 9) hc inX9_law_X9 (by decide) rfl rfl 4 (by decide) (List.mem_of_getElem? (i := 2) rfl) rfl rfl dX9_law_88 ?_
                exact g_iret hc hr hlk dX9_law_91
              · refine g_lv [] rfl ?_
                exact tX9_law_45 hc hr hlk hE S1
set_option maxHeartbeats 4000000 in
set_option maxRecDepth 100000 in
theorem tX9_rankOf_81 {p : Program} {e : Env} {s : State} {m : MethodId} {args : Array Value} {below : List Frame} {meth : Method} {c : Code} (hc : CT p s m args c cX9_rankOf 5 RX9 wsX9_rankOf D (tyW cI cZ cO)) (hr : meth.sig.returnType = (some .int)) (hlk : meth.locks = false) (hE : EvM (AA 17 a s.heap.size) s) (y0 : Int32) (S : St) : GF p l e rX9_rankOf s m args below meth c D 17 a (cM cI cZ a) (AA 17 a s.heap.size) 5 0 0 (fun res => MQ below (va_Qi (fun r u => (r, u) = res) (Bw D (tyW cI cZ cO) 17 a (cM cI cZ a) (AA 17 a s.heap.size)) (AA 17 a s.heap.size)) args s 0 0 (AA 17 a s.heap.size)) (bX9_rankOf_81 y0 S) 81 [] [.int y0] S := by
  unfold bX9_rankOf_81
  exact g_iret hc hr hlk dX9_rankOf_81
set_option maxHeartbeats 4000000 in
set_option maxRecDepth 100000 in
theorem tX9_rankOf_60 {p : Program} {e : Env} {s : State} {m : MethodId} {args : Array Value} {below : List Frame} {meth : Method} {c : Code} (hc : CT p s m args c cX9_rankOf 5 RX9 wsX9_rankOf D (tyW cI cZ cO)) (hr : meth.sig.returnType = (some .int)) (hlk : meth.locks = false) (hE : EvM (AA 17 a s.heap.size) s) (k5 : Int32 → Int32 → Int32 → Int32 → St → Option (Int32 × St)) (hk5 : ∀ (x1 : Int32) (x2 : Int32) (x3 : Int32) (x4 : Int32) (S : St), GF p l e rX9_rankOf s m args below meth c D 17 a (cM cI cZ a) (AA 17 a s.heap.size) 5 0 0 (fun res => MQ below (va_Qi (fun r u => (r, u) = res) (Bw D (tyW cI cZ cO) 17 a (cM cI cZ a) (AA 17 a s.heap.size)) (AA 17 a s.heap.size)) args s 0 0 (AA 17 a s.heap.size)) (k5 x1 x2 x3 x4 S) 5 [(0, .ref (a 0)), (1, .int x1), (2, .int x2), (3, .int x3), (4, .int x4)] [] S) (x1 : Int32) (x2 : Int32) (x3 : Int32) (x4 : Int32) (S : St) : GF p l e rX9_rankOf s m args below meth c D 17 a (cM cI cZ a) (AA 17 a s.heap.size) 5 0 0 (fun res => MQ below (va_Qi (fun r u => (r, u) = res) (Bw D (tyW cI cZ cO) 17 a (cM cI cZ a) (AA 17 a s.heap.size)) (AA 17 a s.heap.size)) args s 0 0 (AA 17 a s.heap.size)) (bX9_rankOf_60 k5 x1 x2 x3 x4 S) 60 [(0, .ref (a 0)), (1, .int x1), (2, .int x2), (3, .int x3), (4, .int x4)] [] S := by
  unfold bX9_rankOf_60
  refine g_iinc (j := 4) (w := x4 + 1) (L := fun v1 => [(4, .int v1), (0, .ref (a 0)), (1, .int x1), (2, .int x2), (3, .int x3)]) hc dX9_rankOf_60 rfl (by rfl) (by decide) (fun _ => rfl) (fun v1 => ?_)
  refine g_goto (tgt := 5) hc dX9_rankOf_63 (by decide) ?_
  refine g_lv [1, 2, 3, 4, 0] rfl ?_
  exact hk5 x1 x2 x3 v1 S
set_option maxHeartbeats 4000000 in
set_option maxRecDepth 100000 in
theorem tX9_rankOf_57 {p : Program} {e : Env} {s : State} {m : MethodId} {args : Array Value} {below : List Frame} {meth : Method} {c : Code} (hc : CT p s m args c cX9_rankOf 5 RX9 wsX9_rankOf D (tyW cI cZ cO)) (hr : meth.sig.returnType = (some .int)) (hlk : meth.locks = false) (hE : EvM (AA 17 a s.heap.size) s) (k5 : Int32 → Int32 → Int32 → Int32 → St → Option (Int32 × St)) (hk5 : ∀ (x1 : Int32) (x2 : Int32) (x3 : Int32) (x4 : Int32) (S : St), GF p l e rX9_rankOf s m args below meth c D 17 a (cM cI cZ a) (AA 17 a s.heap.size) 5 0 0 (fun res => MQ below (va_Qi (fun r u => (r, u) = res) (Bw D (tyW cI cZ cO) 17 a (cM cI cZ a) (AA 17 a s.heap.size)) (AA 17 a s.heap.size)) args s 0 0 (AA 17 a s.heap.size)) (k5 x1 x2 x3 x4 S) 5 [(0, .ref (a 0)), (1, .int x1), (2, .int x2), (3, .int x3), (4, .int x4)] [] S) (x1 : Int32) (x2 : Int32) (x4 : Int32) (S : St) : GF p l e rX9_rankOf s m args below meth c D 17 a (cM cI cZ a) (AA 17 a s.heap.size) 5 0 0 (fun res => MQ below (va_Qi (fun r u => (r, u) = res) (Bw D (tyW cI cZ cO) 17 a (cM cI cZ a) (AA 17 a s.heap.size)) (AA 17 a s.heap.size)) args s 0 0 (AA 17 a s.heap.size)) (bX9_rankOf_57 k5 x1 x2 x4 S) 57 [(0, .ref (a 0)), (1, .int x1), (2, .int x2), (4, .int x4)] [] S := by
  unfold bX9_rankOf_57
  refine g_iload (j := 3) hc dX9_rankOf_57 rfl ?_
  refine g_istore_n (L := fun v1 => [(3, .int v1), (0, .ref (a 0)), (1, .int x1), (2, .int x2), (4, .int x4)]) hc dX9_rankOf_59 rfl (by decide) (fun _ => rfl) (fun v1 => ?_)
  refine g_lv [1, 2, 3, 0, 4] rfl ?_
  exact tX9_rankOf_60 hc hr hlk hE k5 hk5 x1 x2 v1 x4 S
set_option maxHeartbeats 4000000 in
set_option maxRecDepth 100000 in
theorem tX9_rankOf_5 {p : Program} {e : Env} {s : State} {m : MethodId} {args : Array Value} {below : List Frame} {meth : Method} {c : Code} (hc : CT p s m args c cX9_rankOf 5 RX9 wsX9_rankOf D (tyW cI cZ cO)) (hr : meth.sig.returnType = (some .int)) (hlk : meth.locks = false) (hE : EvM (AA 17 a s.heap.size) s) (k5 : Int32 → Int32 → Int32 → Int32 → St → Option (Int32 × St)) (hk5 : ∀ (x1 : Int32) (x2 : Int32) (x3 : Int32) (x4 : Int32) (S : St), GF p l e rX9_rankOf s m args below meth c D 17 a (cM cI cZ a) (AA 17 a s.heap.size) 5 0 0 (fun res => MQ below (va_Qi (fun r u => (r, u) = res) (Bw D (tyW cI cZ cO) 17 a (cM cI cZ a) (AA 17 a s.heap.size)) (AA 17 a s.heap.size)) args s 0 0 (AA 17 a s.heap.size)) (k5 x1 x2 x3 x4 S) 5 [(0, .ref (a 0)), (1, .int x1), (2, .int x2), (3, .int x3), (4, .int x4)] [] S) (x1 : Int32) (x2 : Int32) (x3 : Int32) (x4 : Int32) (S : St) : GF p l e rX9_rankOf s m args below meth c D 17 a (cM cI cZ a) (AA 17 a s.heap.size) 5 0 0 (fun res => MQ below (va_Qi (fun r u => (r, u) = res) (Bw D (tyW cI cZ cO) 17 a (cM cI cZ a) (AA 17 a s.heap.size)) (AA 17 a s.heap.size)) args s 0 0 (AA 17 a s.heap.size)) (bX9_rankOf_5 k5 x1 x2 x3 x4 S) 5 [(0, .ref (a 0)), (1, .int x1), (2, .int x2), (3, .int x3), (4, .int x4)] [] S := by
  unfold bX9_rankOf_5
  refine g_iload (j := 4) hc dX9_rankOf_5 rfl ?_
  refine g_aload_n (j := 0) hc dX9_rankOf_7 rfl rfl ?_
  refine g_get (C0 := RX9) (T := TX9) (M := 24) (k := 0) (ci := 9) hc inX9_rankOf_X9 (by decide) rfl rfl 4 (by decide) (List.mem_of_getElem? (i := 1) rfl) rfl rfl dX9_rankOf_8 ?_
  refine g_icmp_ge (tgt := 66) hc dX9_rankOf_11 (by decide) ?_ ?_
  · refine g_iload_n (j := 3) hc dX9_rankOf_66 rfl rfl ?_
    refine g_iconst (v := -1) hc dX9_rankOf_67 (by decide) ?_
    refine g_icmp_ne (tgt := 75) hc dX9_rankOf_68 (by decide) ?_ ?_
    · refine g_aload_n (j := 0) hc dX9_rankOf_75 rfl rfl ?_
      refine g_get (C0 := RX9) (T := TX9) (M := 24) (k := 0) (ci := 9) hc inX9_rankOf_X9 (by decide) rfl rfl 16 (by decide) (List.mem_of_getElem? (i := 4) rfl) rfl rfl dX9_rankOf_76 ?_
      refine g_iload_n (j := 3) hc dX9_rankOf_79 rfl rfl ?_
      refine g_iald (k := 12) (t0 := 0) hc (by decide) rfl rfl dX9_rankOf_80 ?_
      refine g_lv [] rfl ?_
      exact tX9_rankOf_81 hc hr hlk hE (S 12 x3.toNatClampNeg) S
    · refine g_iconst (v := 0) hc dX9_rankOf_71 (by decide) ?_
      refine g_goto (tgt := 81) hc dX9_rankOf_72 (by decide) ?_
      refine g_lv [] rfl ?_
      exact tX9_rankOf_81 hc hr hlk hE 0 S
  · refine g_aload_n (j := 0) hc dX9_rankOf_14 rfl rfl ?_
    refine g_get (C0 := RX9) (T := TX9) (M := 24) (k := 0) (ci := 9) hc inX9_rankOf_X9 (by decide) rfl rfl 15 (by decide) (List.mem_of_getElem? (i := 2) rfl) rfl rfl dX9_rankOf_15 ?_
    refine g_iload (j := 4) hc dX9_rankOf_18 rfl ?_
    refine g_iald (k := 11) (t0 := 0) hc (by decide) rfl rfl dX9_rankOf_20 ?_
    refine g_iload_n (j := 1) hc dX9_rankOf_21 rfl rfl ?_
    refine g_icmp_ne (tgt := 60) hc dX9_rankOf_22 (by decide) ?_ ?_
    · exact tX9_rankOf_60 hc hr hlk hE k5 hk5 x1 x2 x3 x4 S
    · refine g_aload_n (j := 0) hc dX9_rankOf_25 rfl rfl ?_
      refine g_get (C0 := RX9) (T := TX9) (M := 24) (k := 0) (ci := 9) hc inX9_rankOf_X9 (by decide) rfl rfl 14 (by decide) (List.mem_of_getElem? (i := 3) rfl) rfl rfl dX9_rankOf_26 ?_
      refine g_iload (j := 4) hc dX9_rankOf_29 rfl ?_
      refine g_iald (k := 10) (t0 := 0) hc (by decide) rfl rfl dX9_rankOf_31 ?_
      refine g_iload_n (j := 2) hc dX9_rankOf_32 rfl rfl ?_
      refine g_icmp_gt (tgt := 60) hc dX9_rankOf_33 (by decide) ?_ ?_
      · exact tX9_rankOf_60 hc hr hlk hE k5 hk5 x1 x2 x3 x4 S
      · refine g_iload_n (j := 3) hc dX9_rankOf_36 rfl rfl ?_
        refine g_iconst (v := -1) hc dX9_rankOf_37 (by decide) ?_
        refine g_icmp_eq (tgt := 57) hc dX9_rankOf_38 (by decide) ?_ ?_
        · refine g_lv [0, 1, 2, 4] rfl ?_
          exact tX9_rankOf_57 hc hr hlk hE k5 hk5 x1 x2 x4 S
        · refine g_aload_n (j := 0) hc dX9_rankOf_41 rfl rfl ?_
          refine g_get (C0 := RX9) (T := TX9) (M := 24) (k := 0) (ci := 9) hc inX9_rankOf_X9 (by decide) rfl rfl 14 (by decide) (List.mem_of_getElem? (i := 3) rfl) rfl rfl dX9_rankOf_42 ?_
          refine g_iload (j := 4) hc dX9_rankOf_45 rfl ?_
          refine g_iald (k := 10) (t0 := 0) hc (by decide) rfl rfl dX9_rankOf_47 ?_
          refine g_aload_n (j := 0) hc dX9_rankOf_48 rfl rfl ?_
          refine g_get (C0 := RX9) (T := TX9) (M := 24) (k := 0) (ci := 9) hc inX9_rankOf_X9 (by decide) rfl rfl 14 (by decide) (List.mem_of_getElem? (i := 3) rfl) rfl rfl dX9_rankOf_49 ?_
          refine g_iload_n (j := 3) hc dX9_rankOf_52 rfl rfl ?_
          refine g_iald (k := 10) (t0 := 0) hc (by decide) rfl rfl dX9_rankOf_53 ?_
          refine g_icmp_lt (tgt := 60) hc dX9_rankOf_54 (by decide) ?_ ?_
          · exact tX9_rankOf_60 hc hr hlk hE k5 hk5 x1 x2 x3 x4 S
          · refine g_lv [0, 1, 2, 4] rfl ?_
            exact tX9_rankOf_57 hc hr hlk hE k5 hk5 x1 x2 x4 S
set_option maxHeartbeats 4000000 in
set_option maxRecDepth 100000 in
theorem TX9_rankOf_5 {p : Program} {e : Env} {s : State} {m : MethodId} {args : Array Value} {below : List Frame} {meth : Method} {c : Code} (hc : CT p s m args c cX9_rankOf 5 RX9 wsX9_rankOf D (tyW cI cZ cO)) (hr : meth.sig.returnType = (some .int)) (hlk : meth.locks = false) (hE : EvM (AA 17 a s.heap.size) s) (n : Nat) (x1 : Int32) (x2 : Int32) (x3 : Int32) (x4 : Int32) (S : St) : GF p l e rX9_rankOf s m args below meth c D 17 a (cM cI cZ a) (AA 17 a s.heap.size) 5 0 0 (fun res => MQ below (va_Qi (fun r u => (r, u) = res) (Bw D (tyW cI cZ cO) 17 a (cM cI cZ a) (AA 17 a s.heap.size)) (AA 17 a s.heap.size)) args s 0 0 (AA 17 a s.heap.size)) (lX9_rankOf_5 n x1 x2 x3 x4 S) 5 [(0, .ref (a 0)), (1, .int x1), (2, .int x2), (3, .int x3), (4, .int x4)] [] S :=
  lp_ind (P := fun k : Int32 → Int32 → Int32 → Int32 → St → Option (Int32 × St) => ∀ (x1 : Int32) (x2 : Int32) (x3 : Int32) (x4 : Int32) (S : St), GF p l e rX9_rankOf s m args below meth c D 17 a (cM cI cZ a) (AA 17 a s.heap.size) 5 0 0 (fun res => MQ below (va_Qi (fun r u => (r, u) = res) (Bw D (tyW cI cZ cO) 17 a (cM cI cZ a) (AA 17 a s.heap.size)) (AA 17 a s.heap.size)) args s 0 0 (AA 17 a s.heap.size)) (k x1 x2 x3 x4 S) 5 [(0, .ref (a 0)), (1, .int x1), (2, .int x2), (3, .int x3), (4, .int x4)] [] S) (fun _ _ _ _ _ => g_none) (fun k5 hk5 => tX9_rankOf_5 hc hr hlk hE k5 hk5) n x1 x2 x3 x4 S
set_option maxHeartbeats 4000000 in
set_option maxRecDepth 100000 in
theorem mX9_rankOf (x1 : Int32) (x2 : Int32) (S : St) : ∀ q, uX9_rankOf x1 x2 S = some q → Ki l yX9_rankOf wsX9_rankOf rX9_rankOf D (tyW cI cZ cO) 17 a (cM cI cZ a) (EvM) [.ref (a 0), .int x1, .int x2] S q := by
  refine m_Ki (cc := cX9_rankOf) (nL := 5) (ret := (some .int)) (lv := [(0, .ref (a 0)), (1, .int x1), (2, .int x2)]) (by decide) rfl (Nat.le_of_ble_eq_true rfl) rfl ?_
  intro p e s m args below meth c hc hr hlk hE
  unfold uX9_rankOf
  refine g_iconst (v := -1) hc dX9_rankOf_0 (by decide) ?_
  refine g_istore_n (L := fun v1 => [(3, .int v1), (0, .ref (a 0)), (1, .int x1), (2, .int x2)]) hc dX9_rankOf_1 rfl (by decide) (fun _ => rfl) (fun v1 => ?_)
  refine g_iconst (v := 0) hc dX9_rankOf_2 (by decide) ?_
  refine g_istore (L := fun v2 => [(4, .int v2), (3, .int v1), (0, .ref (a 0)), (1, .int x1), (2, .int x2)]) hc dX9_rankOf_3 (by decide) (fun _ => rfl) (fun v2 => ?_)
  refine g_lv [2, 3, 4, 1, 0] rfl ?_
  exact TX9_rankOf_5 hc hr hlk hE FU x1 x2 v1 v2 S
set_option maxHeartbeats 4000000 in
set_option maxRecDepth 100000 in
theorem tX9_rank_81 {p : Program} {e : Env} {s : State} {m : MethodId} {args : Array Value} {below : List Frame} {meth : Method} {c : Code} (hc : CT p s m args c cX9_rank 6 RX9 wsX9_rank D (tyW cI cZ cO)) (hr : meth.sig.returnType = (some .int)) (hlk : meth.locks = false) (hE : EvM (AA 17 a s.heap.size) s) (k35 : Int32 → Int32 → Int32 → St → Option (Int32 × St)) (hk35 : ∀ (x1 : Int32) (x2 : Int32) (x3 : Int32) (S : St), GF p l e rX9_rank s m args below meth c D 17 a (cM cI cZ a) (AA 17 a s.heap.size) 6 0 0 (fun res => MQ below (va_Qi (fun r u => (r, u) = res) (Bw D (tyW cI cZ cO) 17 a (cM cI cZ a) (AA 17 a s.heap.size)) (AA 17 a s.heap.size)) args s 0 0 (AA 17 a s.heap.size)) (k35 x1 x2 x3 S) 35 [(0, .ref (a 0)), (1, .int x1), (2, .int x2), (3, .int x3)] [] S) (k46 : Int32 → Int32 → Int32 → Int32 → St → Option (Int32 × St)) (hk46 : ∀ (x1 : Int32) (x2 : Int32) (x3 : Int32) (x4 : Int32) (S : St), GF p l e rX9_rank s m args below meth c D 17 a (cM cI cZ a) (AA 17 a s.heap.size) 6 0 0 (fun res => MQ below (va_Qi (fun r u => (r, u) = res) (Bw D (tyW cI cZ cO) 17 a (cM cI cZ a) (AA 17 a s.heap.size)) (AA 17 a s.heap.size)) args s 0 0 (AA 17 a s.heap.size)) (k46 x1 x2 x3 x4 S) 46 [(0, .ref (a 0)), (1, .int x1), (2, .int x2), (3, .int x3), (4, .int x4)] [] S) (x1 : Int32) (x3 : Int32) (x4 : Int32) (y0 : Int32) (S : St) : GF p l e rX9_rank s m args below meth c D 17 a (cM cI cZ a) (AA 17 a s.heap.size) 6 0 0 (fun res => MQ below (va_Qi (fun r u => (r, u) = res) (Bw D (tyW cI cZ cO) 17 a (cM cI cZ a) (AA 17 a s.heap.size)) (AA 17 a s.heap.size)) args s 0 0 (AA 17 a s.heap.size)) (bX9_rank_81 k35 k46 x1 x3 x4 y0 S) 81 [(0, .ref (a 0)), (1, .int x1), (3, .int x3), (4, .int x4)] [.int y0] S := by
  unfold bX9_rank_81
  refine g_istore_n (L := fun v1 => [(2, .int v1), (0, .ref (a 0)), (1, .int x1), (3, .int x3), (4, .int x4)]) hc dX9_rank_81 rfl (by decide) (fun _ => rfl) (fun v1 => ?_)
  refine g_iinc (j := 4) (w := x4 + 1) (L := fun v2 => [(4, .int v2), (2, .int v1), (0, .ref (a 0)), (1, .int x1), (3, .int x3)]) hc dX9_rank_82 rfl (by rfl) (by decide) (fun _ => rfl) (fun v2 => ?_)
  refine g_goto (tgt := 46) hc dX9_rank_85 (by decide) ?_
  refine g_lv [2, 3, 1, 4, 0] rfl ?_
  exact hk46 x1 v1 x3 v2 S
set_option maxHeartbeats 4000000 in
set_option maxRecDepth 100000 in
theorem tX9_rank_46 {p : Program} {e : Env} {s : State} {m : MethodId} {args : Array Value} {below : List Frame} {meth : Method} {c : Code} (hc : CT p s m args c cX9_rank 6 RX9 wsX9_rank D (tyW cI cZ cO)) (hr : meth.sig.returnType = (some .int)) (hlk : meth.locks = false) (hE : EvM (AA 17 a s.heap.size) s) (k35 : Int32 → Int32 → Int32 → St → Option (Int32 × St)) (hk35 : ∀ (x1 : Int32) (x2 : Int32) (x3 : Int32) (S : St), GF p l e rX9_rank s m args below meth c D 17 a (cM cI cZ a) (AA 17 a s.heap.size) 6 0 0 (fun res => MQ below (va_Qi (fun r u => (r, u) = res) (Bw D (tyW cI cZ cO) 17 a (cM cI cZ a) (AA 17 a s.heap.size)) (AA 17 a s.heap.size)) args s 0 0 (AA 17 a s.heap.size)) (k35 x1 x2 x3 S) 35 [(0, .ref (a 0)), (1, .int x1), (2, .int x2), (3, .int x3)] [] S) (k46 : Int32 → Int32 → Int32 → Int32 → St → Option (Int32 × St)) (hk46 : ∀ (x1 : Int32) (x2 : Int32) (x3 : Int32) (x4 : Int32) (S : St), GF p l e rX9_rank s m args below meth c D 17 a (cM cI cZ a) (AA 17 a s.heap.size) 6 0 0 (fun res => MQ below (va_Qi (fun r u => (r, u) = res) (Bw D (tyW cI cZ cO) 17 a (cM cI cZ a) (AA 17 a s.heap.size)) (AA 17 a s.heap.size)) args s 0 0 (AA 17 a s.heap.size)) (k46 x1 x2 x3 x4 S) 46 [(0, .ref (a 0)), (1, .int x1), (2, .int x2), (3, .int x3), (4, .int x4)] [] S) (x1 : Int32) (x2 : Int32) (x3 : Int32) (x4 : Int32) (S : St) : GF p l e rX9_rank s m args below meth c D 17 a (cM cI cZ a) (AA 17 a s.heap.size) 6 0 0 (fun res => MQ below (va_Qi (fun r u => (r, u) = res) (Bw D (tyW cI cZ cO) 17 a (cM cI cZ a) (AA 17 a s.heap.size)) (AA 17 a s.heap.size)) args s 0 0 (AA 17 a s.heap.size)) (bX9_rank_46 k35 k46 x1 x2 x3 x4 S) 46 [(0, .ref (a 0)), (1, .int x1), (2, .int x2), (3, .int x3), (4, .int x4)] [] S := by
  unfold bX9_rank_46
  refine g_iload (j := 4) hc dX9_rank_46 rfl ?_
  refine g_aload_n (j := 0) hc dX9_rank_48 rfl rfl ?_
  refine g_get (C0 := RX9) (T := TX9) (M := 24) (k := 0) (ci := 9) hc inX9_rank_X9 (by decide) rfl rfl 2 (by decide) (List.mem_of_getElem? (i := 3) rfl) rfl rfl dX9_rank_49 ?_
  refine g_icmp_ge (tgt := 88) hc dX9_rank_52 (by decide) ?_ ?_
  · refine g_iinc (j := 3) (w := x3 + 1) (L := fun v1 => [(3, .int v1), (0, .ref (a 0)), (1, .int x1), (2, .int x2), (4, .int x4)]) hc dX9_rank_88 rfl (by rfl) (by decide) (fun _ => rfl) (fun v1 => ?_)
    refine g_goto (tgt := 35) hc dX9_rank_91 (by decide) ?_
    refine g_lv [1, 2, 3, 0] rfl ?_
    exact hk35 x1 x2 v1 S
  · refine g_aload_n (j := 0) hc dX9_rank_55 rfl rfl ?_
    refine g_aload_n (j := 0) hc dX9_rank_56 rfl rfl ?_
    refine g_iload_n (j := 3) hc dX9_rank_57 rfl rfl ?_
    refine g_iload (j := 4) hc dX9_rank_58 rfl ?_
    refine g_callVi (As := [.int x3, .int x4]) (rest := [.ref (a 0)]) (k := 0) (ci := 9) (q0 := (RX9, TX9, 24)) hc hE trM rfl (fun _ h => mX9_colourOf x3 x4 S _ h) (cwV 2 hc.1.2.2.2.2 gX9_rank_X9_colourOf rfl rfl rfl (by decide +kernel) ⟨by decide, by decide⟩) (by decide) rfl rfl rfl rfl (Nat.le_of_ble_eq_true rfl) dX9_rank_60 ⟨by decide, by decide⟩ (fun v2 S3 => ?_)
    refine g_iload_n (j := 1) hc dX9_rank_63 rfl rfl ?_
    refine g_callVi (As := [.int v2, .int x1]) (rest := []) (k := 0) (ci := 9) (q0 := (RX9, TX9, 24)) hc hE trM rfl (fun _ h => mX9_rankOf v2 x1 S3 _ h) (cwV 2 hc.1.2.2.2.2 gX9_rank_X9_rankOf rfl rfl rfl (by decide +kernel) ⟨by decide, by decide⟩) (by decide) rfl rfl rfl rfl (Nat.le_of_ble_eq_true rfl) dX9_rank_64 ⟨by decide, by decide⟩ (fun v4 S5 => ?_)
    refine g_istore (L := fun v6 => [(5, .int v6), (0, .ref (a 0)), (1, .int x1), (2, .int x2), (3, .int x3), (4, .int x4)]) hc dX9_rank_67 (by decide) (fun _ => rfl) (fun v6 => ?_)
    refine g_iload (j := 0) hc dX9_rank_69 rfl ?_
    refine g_iload_n (j := 3) hc dX9_rank_71 rfl rfl ?_
    refine g_icmp_le (tgt := 80) hc dX9_rank_72 (by decide) ?_ ?_
    · refine g_iload_n (j := 3) hc dX9_rank_80 rfl rfl ?_
      refine g_lv [1, 2, 4, 5] rfl ?_
      exact tX9_rank_81 hc hr hlk hE k35 hk35 k46 hk46 x1 x3 x4 x2 S5
    · refine g_iload (j := 0) hc dX9_rank_75 rfl ?_
      refine g_goto (tgt := 81) hc dX9_rank_77 (by decide) ?_
      refine g_lv [1, 2, 4, 5] rfl ?_
      exact tX9_rank_81 hc hr hlk hE k35 hk35 k46 hk46 x1 x3 x4 v6 S5
set_option maxHeartbeats 4000000 in
set_option maxRecDepth 100000 in
theorem TX9_rank_46 {p : Program} {e : Env} {s : State} {m : MethodId} {args : Array Value} {below : List Frame} {meth : Method} {c : Code} (hc : CT p s m args c cX9_rank 6 RX9 wsX9_rank D (tyW cI cZ cO)) (hr : meth.sig.returnType = (some .int)) (hlk : meth.locks = false) (hE : EvM (AA 17 a s.heap.size) s) (k35 : Int32 → Int32 → Int32 → St → Option (Int32 × St)) (hk35 : ∀ (x1 : Int32) (x2 : Int32) (x3 : Int32) (S : St), GF p l e rX9_rank s m args below meth c D 17 a (cM cI cZ a) (AA 17 a s.heap.size) 6 0 0 (fun res => MQ below (va_Qi (fun r u => (r, u) = res) (Bw D (tyW cI cZ cO) 17 a (cM cI cZ a) (AA 17 a s.heap.size)) (AA 17 a s.heap.size)) args s 0 0 (AA 17 a s.heap.size)) (k35 x1 x2 x3 S) 35 [(0, .ref (a 0)), (1, .int x1), (2, .int x2), (3, .int x3)] [] S) (n : Nat) (x1 : Int32) (x2 : Int32) (x3 : Int32) (x4 : Int32) (S : St) : GF p l e rX9_rank s m args below meth c D 17 a (cM cI cZ a) (AA 17 a s.heap.size) 6 0 0 (fun res => MQ below (va_Qi (fun r u => (r, u) = res) (Bw D (tyW cI cZ cO) 17 a (cM cI cZ a) (AA 17 a s.heap.size)) (AA 17 a s.heap.size)) args s 0 0 (AA 17 a s.heap.size)) (lX9_rank_46 k35 n x1 x2 x3 x4 S) 46 [(0, .ref (a 0)), (1, .int x1), (2, .int x2), (3, .int x3), (4, .int x4)] [] S :=
  lp_ind (P := fun k : Int32 → Int32 → Int32 → Int32 → St → Option (Int32 × St) => ∀ (x1 : Int32) (x2 : Int32) (x3 : Int32) (x4 : Int32) (S : St), GF p l e rX9_rank s m args below meth c D 17 a (cM cI cZ a) (AA 17 a s.heap.size) 6 0 0 (fun res => MQ below (va_Qi (fun r u => (r, u) = res) (Bw D (tyW cI cZ cO) 17 a (cM cI cZ a) (AA 17 a s.heap.size)) (AA 17 a s.heap.size)) args s 0 0 (AA 17 a s.heap.size)) (k x1 x2 x3 x4 S) 46 [(0, .ref (a 0)), (1, .int x1), (2, .int x2), (3, .int x3), (4, .int x4)] [] S) (fun _ _ _ _ _ => g_none) (fun k46 hk46 => tX9_rank_46 hc hr hlk hE k35 hk35 k46 hk46) n x1 x2 x3 x4 S
set_option maxHeartbeats 4000000 in
set_option maxRecDepth 100000 in
theorem tX9_rank_35 {p : Program} {e : Env} {s : State} {m : MethodId} {args : Array Value} {below : List Frame} {meth : Method} {c : Code} (hc : CT p s m args c cX9_rank 6 RX9 wsX9_rank D (tyW cI cZ cO)) (hr : meth.sig.returnType = (some .int)) (hlk : meth.locks = false) (hE : EvM (AA 17 a s.heap.size) s) (k35 : Int32 → Int32 → Int32 → St → Option (Int32 × St)) (hk35 : ∀ (x1 : Int32) (x2 : Int32) (x3 : Int32) (S : St), GF p l e rX9_rank s m args below meth c D 17 a (cM cI cZ a) (AA 17 a s.heap.size) 6 0 0 (fun res => MQ below (va_Qi (fun r u => (r, u) = res) (Bw D (tyW cI cZ cO) 17 a (cM cI cZ a) (AA 17 a s.heap.size)) (AA 17 a s.heap.size)) args s 0 0 (AA 17 a s.heap.size)) (k35 x1 x2 x3 S) 35 [(0, .ref (a 0)), (1, .int x1), (2, .int x2), (3, .int x3)] [] S) (x1 : Int32) (x2 : Int32) (x3 : Int32) (S : St) : GF p l e rX9_rank s m args below meth c D 17 a (cM cI cZ a) (AA 17 a s.heap.size) 6 0 0 (fun res => MQ below (va_Qi (fun r u => (r, u) = res) (Bw D (tyW cI cZ cO) 17 a (cM cI cZ a) (AA 17 a s.heap.size)) (AA 17 a s.heap.size)) args s 0 0 (AA 17 a s.heap.size)) (bX9_rank_35 k35 x1 x2 x3 S) 35 [(0, .ref (a 0)), (1, .int x1), (2, .int x2), (3, .int x3)] [] S := by
  unfold bX9_rank_35
  refine g_iload_n (j := 3) hc dX9_rank_35 rfl rfl ?_
  refine g_aload_n (j := 0) hc dX9_rank_36 rfl rfl ?_
  refine g_get (C0 := RX9) (T := TX9) (M := 24) (k := 0) (ci := 9) hc inX9_rank_X9 (by decide) rfl rfl 1 (by decide) (List.mem_of_getElem? (i := 2) rfl) rfl rfl dX9_rank_37 ?_
  refine g_icmp_ge (tgt := 94) hc dX9_rank_40 (by decide) ?_ ?_
  · refine g_iload_n (j := 2) hc dX9_rank_94 rfl rfl ?_
    exact g_iret hc hr hlk dX9_rank_95
  · refine g_iconst (v := 0) hc dX9_rank_43 (by decide) ?_
    refine g_istore (L := fun v1 => [(4, .int v1), (0, .ref (a 0)), (1, .int x1), (2, .int x2), (3, .int x3)]) hc dX9_rank_44 (by decide) (fun _ => rfl) (fun v1 => ?_)
    refine g_lv [1, 2, 3, 4, 0] rfl ?_
    exact TX9_rank_46 hc hr hlk hE k35 hk35 FU x1 x2 x3 v1 S
set_option maxHeartbeats 4000000 in
set_option maxRecDepth 100000 in
theorem TX9_rank_35 {p : Program} {e : Env} {s : State} {m : MethodId} {args : Array Value} {below : List Frame} {meth : Method} {c : Code} (hc : CT p s m args c cX9_rank 6 RX9 wsX9_rank D (tyW cI cZ cO)) (hr : meth.sig.returnType = (some .int)) (hlk : meth.locks = false) (hE : EvM (AA 17 a s.heap.size) s) (n : Nat) (x1 : Int32) (x2 : Int32) (x3 : Int32) (S : St) : GF p l e rX9_rank s m args below meth c D 17 a (cM cI cZ a) (AA 17 a s.heap.size) 6 0 0 (fun res => MQ below (va_Qi (fun r u => (r, u) = res) (Bw D (tyW cI cZ cO) 17 a (cM cI cZ a) (AA 17 a s.heap.size)) (AA 17 a s.heap.size)) args s 0 0 (AA 17 a s.heap.size)) (lX9_rank_35 n x1 x2 x3 S) 35 [(0, .ref (a 0)), (1, .int x1), (2, .int x2), (3, .int x3)] [] S :=
  lp_ind (P := fun k : Int32 → Int32 → Int32 → St → Option (Int32 × St) => ∀ (x1 : Int32) (x2 : Int32) (x3 : Int32) (S : St), GF p l e rX9_rank s m args below meth c D 17 a (cM cI cZ a) (AA 17 a s.heap.size) 6 0 0 (fun res => MQ below (va_Qi (fun r u => (r, u) = res) (Bw D (tyW cI cZ cO) 17 a (cM cI cZ a) (AA 17 a s.heap.size)) (AA 17 a s.heap.size)) args s 0 0 (AA 17 a s.heap.size)) (k x1 x2 x3 S) 35 [(0, .ref (a 0)), (1, .int x1), (2, .int x2), (3, .int x3)] [] S) (fun _ _ _ _ => g_none) (fun k35 hk35 => tX9_rank_35 hc hr hlk hE k35 hk35) n x1 x2 x3 S
set_option maxHeartbeats 4000000 in
set_option maxRecDepth 100000 in
theorem tX9_rank_22 {p : Program} {e : Env} {s : State} {m : MethodId} {args : Array Value} {below : List Frame} {meth : Method} {c : Code} (hc : CT p s m args c cX9_rank 6 RX9 wsX9_rank D (tyW cI cZ cO)) (hr : meth.sig.returnType = (some .int)) (hlk : meth.locks = false) (hE : EvM (AA 17 a s.heap.size) s) (x1 : Int32) (y1 : Int32) (S : St) : GF p l e rX9_rank s m args below meth c D 17 a (cM cI cZ a) (AA 17 a s.heap.size) 6 0 0 (fun res => MQ below (va_Qi (fun r u => (r, u) = res) (Bw D (tyW cI cZ cO) 17 a (cM cI cZ a) (AA 17 a s.heap.size)) (AA 17 a s.heap.size)) args s 0 0 (AA 17 a s.heap.size)) (bX9_rank_22 x1 y1 S) 22 [(0, .ref (a 0)), (1, .int x1)] [.int y1, .ref (a 0)] S := by
  unfold bX9_rank_22
  refine g_iconst (v := 1) hc dX9_rank_22 (by decide) ?_
  refine g_callVi (As := [.int y1, .int 1]) (rest := []) (k := 0) (ci := 9) (q0 := (RX9, TX9, 24)) hc hE trM rfl (fun _ h => mX9_right y1 1 S _ h) (cwV 2 hc.1.2.2.2.2 gX9_rank_X9_right rfl rfl rfl (by decide +kernel) ⟨by decide, by decide⟩) (by decide) rfl rfl rfl rfl (Nat.le_of_ble_eq_true rfl) dX9_rank_23 ⟨by decide, by decide⟩ (fun v1 S2 => ?_)
  refine g_if_ne (tgt := 31) hc dX9_rank_26 (by decide) ?_ ?_
  · refine g_iconst (v := 0) hc dX9_rank_31 (by decide) ?_
    refine g_istore_n (L := fun v3 => [(2, .int v3), (0, .ref (a 0)), (1, .int x1)]) hc dX9_rank_32 rfl (by decide) (fun _ => rfl) (fun v3 => ?_)
    refine g_iconst (v := 0) hc dX9_rank_33 (by decide) ?_
    refine g_istore_n (L := fun v4 => [(3, .int v4), (2, .int v3), (0, .ref (a 0)), (1, .int x1)]) hc dX9_rank_34 rfl (by decide) (fun _ => rfl) (fun v4 => ?_)
    refine g_lv [2, 3, 1, 0] rfl ?_
    exact TX9_rank_35 hc hr hlk hE FU x1 v3 v4 S2
  · refine g_iconst (v := 0) hc dX9_rank_29 (by decide) ?_
    exact g_iret hc hr hlk dX9_rank_30
set_option maxHeartbeats 4000000 in
set_option maxRecDepth 100000 in
theorem tX9_rank_21 {p : Program} {e : Env} {s : State} {m : MethodId} {args : Array Value} {below : List Frame} {meth : Method} {c : Code} (hc : CT p s m args c cX9_rank 6 RX9 wsX9_rank D (tyW cI cZ cO)) (hr : meth.sig.returnType = (some .int)) (hlk : meth.locks = false) (hE : EvM (AA 17 a s.heap.size) s) (x1 : Int32) (S : St) : GF p l e rX9_rank s m args below meth c D 17 a (cM cI cZ a) (AA 17 a s.heap.size) 6 0 0 (fun res => MQ below (va_Qi (fun r u => (r, u) = res) (Bw D (tyW cI cZ cO) 17 a (cM cI cZ a) (AA 17 a s.heap.size)) (AA 17 a s.heap.size)) args s 0 0 (AA 17 a s.heap.size)) (bX9_rank_21 x1 S) 21 [(0, .ref (a 0)), (1, .int x1)] [.ref (a 0)] S := by
  unfold bX9_rank_21
  refine g_iconst (v := 0) hc dX9_rank_21 (by decide) ?_
  exact tX9_rank_22 hc hr hlk hE x1 0 S
set_option maxHeartbeats 4000000 in
set_option maxRecDepth 100000 in
theorem mX9_rank (x1 : Int32) (S : St) : ∀ q, uX9_rank x1 S = some q → Ki l yX9_rank wsX9_rank rX9_rank D (tyW cI cZ cO) 17 a (cM cI cZ a) (EvM) [.ref (a 0), .int x1] S q := by
  refine m_Ki (cc := cX9_rank) (nL := 6) (ret := (some .int)) (lv := [(0, .ref (a 0)), (1, .int x1)]) (by decide) rfl (Nat.le_of_ble_eq_true rfl) rfl ?_
  intro p e s m args below meth c hc hr hlk hE
  unfold uX9_rank
  refine g_aload_n (j := 0) hc dX9_rank_0 rfl rfl ?_
  refine g_iconst (v := 0) hc dX9_rank_1 (by decide) ?_
  refine g_put (ty := .int) (C0 := RX9) (T := TX9) (M := 24) (k := 0) (ci := 9) hc locM tyX9 tyX9_ok nmX9 inX9_rank_X9 (by decide) rfl rfl 0 (by decide) (List.mem_of_getElem? (i := 1) rfl) rfl rfl (by decide +kernel) rfl rfl (Nat.le_of_ble_eq_true rfl) rfl rfl dX9_rank_2 (fun S1 => ?_)
  refine g_aload_n (j := 0) hc dX9_rank_5 rfl rfl ?_
  refine g_iload_n (j := 1) hc dX9_rank_6 rfl rfl ?_
  refine g_if_lt (tgt := 21) hc dX9_rank_7 (by decide) ?_ ?_
  · exact tX9_rank_21 hc hr hlk hE x1 S1
  · refine g_iload_n (j := 1) hc dX9_rank_10 rfl rfl ?_
    refine g_sipush (v := 9999) hc dX9_rank_11 (by decide) ?_
    refine g_icmp_gt (tgt := 21) hc dX9_rank_14 (by decide) ?_ ?_
    · exact tX9_rank_21 hc hr hlk hE x1 S1
    · refine g_iconst (v := 1) hc dX9_rank_17 (by decide) ?_
      refine g_goto (tgt := 22) hc dX9_rank_18 (by decide) ?_
      exact tX9_rank_22 hc hr hlk hE x1 1 S1
set_option maxHeartbeats 4000000 in
set_option maxRecDepth 100000 in
theorem mX9_strengthOf (x1 : Int32) (S : St) : ∀ q, uX9_strengthOf x1 S = some q → Ki l yX9_strengthOf wsX9_strengthOf rX9_strengthOf D (tyW cI cZ cO) 17 a (cM cI cZ a) (EvM) [.ref (a 0), .int x1] S q := by
  refine m_Ki (cc := cX9_strengthOf) (nL := 2) (ret := (some .int)) (lv := [(0, .ref (a 0)), (1, .int x1)]) (by decide) rfl (Nat.le_of_ble_eq_true rfl) rfl ?_
  intro p e s m args below meth c hc hr hlk hE
  unfold uX9_strengthOf
  refine g_aload_n (j := 0) hc dX9_strengthOf_0 rfl rfl ?_
  refine g_get (C0 := RX9) (T := TX9) (M := 24) (k := 0) (ci := 9) hc inX9_strengthOf_X9 (by decide) rfl rfl 8 (by decide) (List.mem_of_getElem? (i := 1) rfl) rfl rfl dX9_strengthOf_1 ?_
  refine g_iload_n (j := 1) hc dX9_strengthOf_4 rfl rfl ?_
  refine g_iconst (v := 4) hc dX9_strengthOf_5 (by decide) ?_
  refine g_isub hc dX9_strengthOf_6 ?_
  refine g_iald (k := 4) (t0 := 0) hc (by decide) rfl rfl dX9_strengthOf_7 ?_
  exact g_iret hc hr hlk dX9_strengthOf_8
set_option maxHeartbeats 4000000 in
set_option maxRecDepth 100000 in
theorem tX9_count_95 {p : Program} {e : Env} {s : State} {m : MethodId} {args : Array Value} {below : List Frame} {meth : Method} {c : Code} (hc : CT p s m args c cX9_count 2 RX9 wsX9_count D (tyW cI cZ cO)) (hr : meth.sig.returnType = (some .int)) (hlk : meth.locks = false) (hE : EvM (AA 17 a s.heap.size) s) (y0 : Int32) (S : St) : GF p l e rX9_count s m args below meth c D 17 a (cM cI cZ a) (AA 17 a s.heap.size) 2 0 0 (fun res => MQ below (va_Qi (fun r u => (r, u) = res) (Bw D (tyW cI cZ cO) 17 a (cM cI cZ a) (AA 17 a s.heap.size)) (AA 17 a s.heap.size)) args s 0 0 (AA 17 a s.heap.size)) (bX9_count_95 y0 S) 95 [] [.int y0] S := by
  unfold bX9_count_95
  exact g_iret hc hr hlk dX9_count_95
set_option maxHeartbeats 4000000 in
set_option maxRecDepth 100000 in
theorem tX9_count_21 {p : Program} {e : Env} {s : State} {m : MethodId} {args : Array Value} {below : List Frame} {meth : Method} {c : Code} (hc : CT p s m args c cX9_count 2 RX9 wsX9_count D (tyW cI cZ cO)) (hr : meth.sig.returnType = (some .int)) (hlk : meth.locks = false) (hE : EvM (AA 17 a s.heap.size) s) (x1 : Int32) (y1 : Int32) (S : St) : GF p l e rX9_count s m args below meth c D 17 a (cM cI cZ a) (AA 17 a s.heap.size) 2 0 0 (fun res => MQ below (va_Qi (fun r u => (r, u) = res) (Bw D (tyW cI cZ cO) 17 a (cM cI cZ a) (AA 17 a s.heap.size)) (AA 17 a s.heap.size)) args s 0 0 (AA 17 a s.heap.size)) (bX9_count_21 x1 y1 S) 21 [(0, .ref (a 0)), (1, .int x1)] [.int y1, .ref (a 0)] S := by
  unfold bX9_count_21
  refine g_iconst (v := 1) hc dX9_count_21 (by decide) ?_
  refine g_callVi (As := [.int y1, .int 1]) (rest := []) (k := 0) (ci := 9) (q0 := (RX9, TX9, 24)) hc hE trM rfl (fun _ h => mX9_right y1 1 S _ h) (cwV 2 hc.1.2.2.2.2 gX9_count_X9_right rfl rfl rfl (by decide +kernel) ⟨by decide, by decide⟩) (by decide) rfl rfl rfl rfl (Nat.le_of_ble_eq_true rfl) dX9_count_22 ⟨by decide, by decide⟩ (fun v1 S2 => ?_)
  refine g_if_ne (tgt := 30) hc dX9_count_25 (by decide) ?_ ?_
  · refine g_iload_n (j := 1) hc dX9_count_30 rfl rfl ?_
    refine g_bipush (v := 8) hc dX9_count_31 (by decide) ?_
    refine g_icmp_lt (tgt := 45) hc dX9_count_33 (by decide) ?_ ?_
    · refine g_iload_n (j := 1) hc dX9_count_45 rfl rfl ?_
      refine g_iconst (v := 4) hc dX9_count_46 (by decide) ?_
      refine g_icmp_lt (tgt := 56) hc dX9_count_47 (by decide) ?_ ?_
      · refine g_iload_n (j := 1) hc dX9_count_56 rfl rfl ?_
        refine g_if_ne (tgt := 67) hc dX9_count_57 (by decide) ?_ ?_
        · refine g_iload_n (j := 1) hc dX9_count_67 rfl rfl ?_
          refine g_iconst (v := 1) hc dX9_count_68 (by decide) ?_
          refine g_icmp_ne (tgt := 79) hc dX9_count_69 (by decide) ?_ ?_
          · refine g_iload_n (j := 1) hc dX9_count_79 rfl rfl ?_
            refine g_iconst (v := 2) hc dX9_count_80 (by decide) ?_
            refine g_icmp_ne (tgt := 91) hc dX9_count_81 (by decide) ?_ ?_
            · refine g_aload_n (j := 0) hc dX9_count_91 rfl rfl ?_
              refine g_get (C0 := RX9) (T := TX9) (M := 24) (k := 0) (ci := 9) hc inX9_count_X9 (by decide) rfl rfl 4 (by decide) (List.mem_of_getElem? (i := 5) rfl) rfl rfl dX9_count_92 ?_
              refine g_lv [] rfl ?_
              exact tX9_count_95 hc hr hlk hE (S2 0 4) S2
            · refine g_aload_n (j := 0) hc dX9_count_84 rfl rfl ?_
              refine g_get (C0 := RX9) (T := TX9) (M := 24) (k := 0) (ci := 9) hc inX9_count_X9 (by decide) rfl rfl 3 (by decide) (List.mem_of_getElem? (i := 4) rfl) rfl rfl dX9_count_85 ?_
              refine g_goto (tgt := 95) hc dX9_count_88 (by decide) ?_
              refine g_lv [] rfl ?_
              exact tX9_count_95 hc hr hlk hE (S2 0 3) S2
          · refine g_aload_n (j := 0) hc dX9_count_72 rfl rfl ?_
            refine g_get (C0 := RX9) (T := TX9) (M := 24) (k := 0) (ci := 9) hc inX9_count_X9 (by decide) rfl rfl 2 (by decide) (List.mem_of_getElem? (i := 3) rfl) rfl rfl dX9_count_73 ?_
            refine g_goto (tgt := 95) hc dX9_count_76 (by decide) ?_
            refine g_lv [] rfl ?_
            exact tX9_count_95 hc hr hlk hE (S2 0 2) S2
        · refine g_aload_n (j := 0) hc dX9_count_60 rfl rfl ?_
          refine g_get (C0 := RX9) (T := TX9) (M := 24) (k := 0) (ci := 9) hc inX9_count_X9 (by decide) rfl rfl 1 (by decide) (List.mem_of_getElem? (i := 2) rfl) rfl rfl dX9_count_61 ?_
          refine g_goto (tgt := 95) hc dX9_count_64 (by decide) ?_
          refine g_lv [] rfl ?_
          exact tX9_count_95 hc hr hlk hE (S2 0 1) S2
      · refine g_aload_n (j := 0) hc dX9_count_50 rfl rfl ?_
        refine g_iload_n (j := 1) hc dX9_count_51 rfl rfl ?_
        refine g_callVi (As := [.int x1]) (rest := []) (k := 0) (ci := 9) (q0 := (RX9, TX9, 24)) hc hE trM rfl (fun _ h => mX9_strengthOf x1 S2 _ h) (cwV 1 hc.1.2.2.2.2 gX9_count_X9_strengthOf rfl rfl rfl (by decide +kernel) ⟨by decide, by decide⟩) (by decide) rfl rfl rfl rfl (Nat.le_of_ble_eq_true rfl) dX9_count_52 ⟨by decide, by decide⟩ (fun v3 S4 => ?_)
        exact g_iret hc hr hlk dX9_count_55
    · refine g_aload_n (j := 0) hc dX9_count_36 rfl rfl ?_
      refine g_iload_n (j := 1) hc dX9_count_37 rfl rfl ?_
      refine g_bipush (v := 8) hc dX9_count_38 (by decide) ?_
      refine g_isub hc dX9_count_40 ?_
      refine g_callVi (As := [.int (x1 - 8)]) (rest := []) (k := 0) (ci := 9) (q0 := (RX9, TX9, 24)) hc hE trM rfl (fun _ h => mX9_many (x1 - 8) S2 _ h) (cwV 1 hc.1.2.2.2.2 gX9_count_X9_many rfl rfl rfl (by decide +kernel) ⟨by decide, by decide⟩) (by decide) rfl rfl rfl rfl (Nat.le_of_ble_eq_true rfl) dX9_count_41 ⟨by decide, by decide⟩ (fun v5 S6 => ?_)
      exact g_iret hc hr hlk dX9_count_44
  · refine g_iconst (v := 0) hc dX9_count_28 (by decide) ?_
    exact g_iret hc hr hlk dX9_count_29
set_option maxHeartbeats 4000000 in
set_option maxRecDepth 100000 in
theorem tX9_count_20 {p : Program} {e : Env} {s : State} {m : MethodId} {args : Array Value} {below : List Frame} {meth : Method} {c : Code} (hc : CT p s m args c cX9_count 2 RX9 wsX9_count D (tyW cI cZ cO)) (hr : meth.sig.returnType = (some .int)) (hlk : meth.locks = false) (hE : EvM (AA 17 a s.heap.size) s) (x1 : Int32) (S : St) : GF p l e rX9_count s m args below meth c D 17 a (cM cI cZ a) (AA 17 a s.heap.size) 2 0 0 (fun res => MQ below (va_Qi (fun r u => (r, u) = res) (Bw D (tyW cI cZ cO) 17 a (cM cI cZ a) (AA 17 a s.heap.size)) (AA 17 a s.heap.size)) args s 0 0 (AA 17 a s.heap.size)) (bX9_count_20 x1 S) 20 [(0, .ref (a 0)), (1, .int x1)] [.ref (a 0)] S := by
  unfold bX9_count_20
  refine g_iconst (v := 0) hc dX9_count_20 (by decide) ?_
  exact tX9_count_21 hc hr hlk hE x1 0 S
set_option maxHeartbeats 4000000 in
set_option maxRecDepth 100000 in
theorem mX9_count (x1 : Int32) (S : St) : ∀ q, uX9_count x1 S = some q → Ki l yX9_count wsX9_count rX9_count D (tyW cI cZ cO) 17 a (cM cI cZ a) (EvM) [.ref (a 0), .int x1] S q := by
  refine m_Ki (cc := cX9_count) (nL := 2) (ret := (some .int)) (lv := [(0, .ref (a 0)), (1, .int x1)]) (by decide) rfl (Nat.le_of_ble_eq_true rfl) rfl ?_
  intro p e s m args below meth c hc hr hlk hE
  unfold uX9_count
  refine g_aload_n (j := 0) hc dX9_count_0 rfl rfl ?_
  refine g_iconst (v := 0) hc dX9_count_1 (by decide) ?_
  refine g_put (ty := .int) (C0 := RX9) (T := TX9) (M := 24) (k := 0) (ci := 9) hc locM tyX9 tyX9_ok nmX9 inX9_count_X9 (by decide) rfl rfl 0 (by decide) (List.mem_of_getElem? (i := 1) rfl) rfl rfl (by decide +kernel) rfl rfl (Nat.le_of_ble_eq_true rfl) rfl rfl dX9_count_2 (fun S1 => ?_)
  refine g_aload_n (j := 0) hc dX9_count_5 rfl rfl ?_
  refine g_iload_n (j := 1) hc dX9_count_6 rfl rfl ?_
  refine g_if_lt (tgt := 20) hc dX9_count_7 (by decide) ?_ ?_
  · exact tX9_count_20 hc hr hlk hE x1 S1
  · refine g_iload_n (j := 1) hc dX9_count_10 rfl rfl ?_
    refine g_bipush (v := 15) hc dX9_count_11 (by decide) ?_
    refine g_icmp_gt (tgt := 20) hc dX9_count_13 (by decide) ?_ ?_
    · exact tX9_count_20 hc hr hlk hE x1 S1
    · refine g_iconst (v := 1) hc dX9_count_16 (by decide) ?_
      refine g_goto (tgt := 21) hc dX9_count_17 (by decide) ?_
      exact tX9_count_21 hc hr hlk hE x1 1 S1
end
