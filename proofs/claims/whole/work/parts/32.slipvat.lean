-- X6_let
def rX6_let : Room := { frames := 0, cells := 0, slots := 0, locals := 0 }
theorem inX6_let_X6 : ∀ w ∈ u_ws RX6 TX6 2, w ∈ wsX6_let := by decide +kernel
def uX6_let (x1 : Int32) (x2 : Int32) (x3 : Int32) (S : St) : Option (Int32 × St) :=
  ck x1 16 (lz (s2 S 26 x1.toNatClampNeg x2) (fun S1 => ck x1 16 (lz (s2 S1 27 x1.toNatClampNeg x3) (fun S2 => some (0, S2)))))
-- X6_clear
def rX6_clear : Room := { frames := 1, cells := 0, slots := 0, locals := 23 }
def bX6_clear_2 (k2 : Int32 → St → Option (Int32 × St)) (x1 : Int32) (S : St) : Option (Int32 × St) :=
  if 16 ≤ x1 then some (0, S) else cl (uX6_let x1 0 0 S) (fun _ S2 => lt (x1 + 1) (fun v3 => k2 v3 S2))
def lX6_clear_2 (n : Nat) : Int32 → St → Option (Int32 × St) :=
  lp (fun k2 => bX6_clear_2 k2) (fun _ _ => none) n
def uX6_clear (S : St) : Option (Int32 × St) :=
  lt 0 (fun v1 => lX6_clear_2 FU v1 S)
-- X6_showsAt
def rX6_showsAt : Room := { frames := 1, cells := 0, slots := 0, locals := 22 }
theorem inX6_showsAt_X6 : ∀ w ∈ u_ws RX6 TX6 2, w ∈ wsX6_showsAt := by decide +kernel
def bX6_showsAt_56 (k11 : Int32 → Int32 → Int32 → Int32 → St → Option (Int32 × St)) (x1 : Int32) (x2 : Int32) (x4 : Int32) (x5 : Int32) (S : St) : Option (Int32 × St) :=
  lt (x5 + 1) (fun v1 => k11 x1 x2 x4 v1 S)
def bX6_showsAt_11 (k11 : Int32 → Int32 → Int32 → Int32 → St → Option (Int32 × St)) (x1 : Int32) (x2 : Int32) (x4 : Int32) (x5 : Int32) (S : St) : Option (Int32 × St) :=
  ck x1 16 (if (S 27 x1.toNatClampNeg) < x5 then some (x4, S) else lt (x2 - x5) (fun v1 => if v1 < 0 then bX6_showsAt_56 k11 x1 x2 x4 x5 S else cl (uX0_places S) (fun v2 S3 => if v2 ≤ v1 then bX6_showsAt_56 k11 x1 x2 x4 x5 S3 else cl (uX0_colourAt x1 v1 S3) (fun v4 S5 => lt (x4 ||| (1 <<< (v4 &&& 31))) (fun v6 => bX6_showsAt_56 k11 x1 x2 v6 x5 S5)))))
def lX6_showsAt_11 (n : Nat) : Int32 → Int32 → Int32 → Int32 → St → Option (Int32 × St) :=
  lp (fun k11 => bX6_showsAt_11 k11) (fun _ _ _ _ _ => none) n
def uX6_showsAt (x1 : Int32) (x2 : Int32) (S : St) : Option (Int32 × St) :=
  lt 0 (fun v1 => ck x1 16 (lt (S 26 x1.toNatClampNeg) (fun v2 => lX6_showsAt_11 FU x1 x2 v1 v2 S)))
-- X7_strengthOf
def rX7_strengthOf : Room := { frames := 0, cells := 0, slots := 0, locals := 0 }
theorem inX7_strengthOf_X7 : ∀ w ∈ u_ws RX7 TX7 2, w ∈ wsX7_strengthOf := by decide +kernel
def uX7_strengthOf (x1 : Int32) (S : St) : Option (Int32 × St) :=
  ck x1 4 (some (S 10 x1.toNatClampNeg, S))
-- X7_fill
def rX7_fill : Room := { frames := 0, cells := 0, slots := 0, locals := 0 }
theorem inX7_fill_X7 : ∀ w ∈ u_ws RX7 TX7 2, w ∈ wsX7_fill := by decide +kernel
def uX7_fill (x1 : Int32) (x2 : Int32) (S : St) : Option (Int32 × St) :=
  ck x1 4 (ck x1 4 (lz (s2 S 10 x1.toNatClampNeg ((S 10 x1.toNatClampNeg) + x2)) (fun S1 => some (0, S1))))
-- X7_lose
def rX7_lose : Room := { frames := 0, cells := 0, slots := 0, locals := 0 }
theorem inX7_lose_X7 : ∀ w ∈ u_ws RX7 TX7 2, w ∈ wsX7_lose := by decide +kernel
def uX7_lose (x1 : Int32) (x2 : Int32) (S : St) : Option (Int32 × St) :=
  ck x1 4 (ck x1 4 (lz (s2 S 10 x1.toNatClampNeg ((S 10 x1.toNatClampNeg) - x2)) (fun S1 => some (0, S1))))
-- X7_sufficeFor
def rX7_sufficeFor : Room := { frames := 3, cells := 0, slots := 0, locals := 71 }
theorem inX7_sufficeFor_X7 : ∀ w ∈ u_ws RX7 TX7 2, w ∈ wsX7_sufficeFor := by decide +kernel
def bX7_sufficeFor_70 (k70 : Int32 → St → Option (Int32 × St)) (x4 : Int32) (S : St) : Option (Int32 × St) :=
  if 4 ≤ x4 then rz 1 (some (1, S)) else ck x4 4 (ck x4 4 (if (S 11 x4.toNatClampNeg) ≤ (S 10 x4.toNatClampNeg) then lt (x4 + 1) (fun v1 => k70 v1 S) else rz 0 (some (0, S))))
def lX7_sufficeFor_70 (n : Nat) : Int32 → St → Option (Int32 × St) :=
  lp (fun k70 => bX7_sufficeFor_70 k70) (fun _ _ => none) n
def bX7_sufficeFor_31 (k31 : Int32 → Int32 → St → Option (Int32 × St)) (x3 : Int32) (x4 : Int32) (S : St) : Option (Int32 × St) :=
  if x3 ≤ x4 then lt 0 (fun v1 => lX7_sufficeFor_70 FU v1 S) else cl (uX4_row S) (fun v2 S3 => cl (uX8_dyeOf v2 x4 S3) (fun v4 S5 => ck v4 4 (cl (uX0_wouldTakeUp x4 S5) (fun v6 S7 => ck v4 4 (lz (s2 S7 11 v4.toNatClampNeg ((S5 11 v4.toNatClampNeg) + v6)) (fun S8 => lt (x4 + 1) (fun v9 => k31 x3 v9 S8)))))))
def lX7_sufficeFor_31 (n : Nat) : Int32 → Int32 → St → Option (Int32 × St) :=
  lp (fun k31 => bX7_sufficeFor_31 k31) (fun _ _ _ => none) n
def bX7_sufficeFor_2 (k2 : Int32 → St → Option (Int32 × St)) (x3 : Int32) (S : St) : Option (Int32 × St) :=
  if 4 ≤ x3 then cl (uX4_row S) (fun v1 S2 => cl (uX8_bathsOf v1 S2) (fun v3 S4 => lt v3 (fun v5 => lt 0 (fun v6 => lX7_sufficeFor_31 FU v5 v6 S4)))) else ck x3 4 (lz (s2 S 11 x3.toNatClampNeg 0) (fun S7 => lt (x3 + 1) (fun v8 => k2 v8 S7)))
def lX7_sufficeFor_2 (n : Nat) : Int32 → St → Option (Int32 × St) :=
  lp (fun k2 => bX7_sufficeFor_2 k2) (fun _ _ => none) n
def uX7_sufficeFor (S : St) : Option (Int32 × St) :=
  lt 0 (fun v1 => lX7_sufficeFor_2 FU v1 S)
section
variable {N : Nat} {C : St → Nat → va_E} {Ev : (Nat → Prop) → State → Prop} {tys : List (ClassId × FieldType)} {l : Launch} {D : va_G} {cI cZ cO cJ : ClassId} {a : Nat → Nat} {tF : Nat}
set_option maxHeartbeats 4000000 in
set_option maxRecDepth 100000 in
theorem mX6_let (x1 : Int32) (x2 : Int32) (x3 : Int32) (S : St) : ∀ q, uX6_let x1 x2 x3 S = some q → Kv l yX6_let wsX6_let rX6_let D (tyW cI cZ cO) 72 a (cX cI cZ cO a) (EvX tF) [.ref (a 7), .int x1, .int x2, .int x3] S q := by
  refine m_Kv (cc := cX6_let) (nL := 4) (ret := none) (lv := [(0, .ref (a 7)), (1, .int x1), (2, .int x2), (3, .int x3)]) (by decide) rfl (Nat.le_of_ble_eq_true rfl) rfl ?_
  intro p e s m args below meth c hc hr hlk hE
  unfold uX6_let
  refine g_aload_n (j := 0) hc dX6_let_0 rfl rfl ?_
  refine g_get (C0 := RX6) (T := TX6) (M := 2) (k := 7) (ci := 6) hc inX6_let_X6 (by decide) rfl rfl 0 (by decide) (List.mem_of_getElem? (i := 1) rfl) rfl rfl dX6_let_1 ?_
  refine g_iload_n (j := 1) hc dX6_let_4 rfl rfl ?_
  refine g_iload_n (j := 2) hc dX6_let_5 rfl rfl ?_
  refine g_iast (k := 26) (t0 := 0) hc locX (by decide) rfl rfl rfl dX6_let_6 (fun S1 => ?_)
  refine g_aload_n (j := 0) hc dX6_let_7 rfl rfl ?_
  refine g_get (C0 := RX6) (T := TX6) (M := 2) (k := 7) (ci := 6) hc inX6_let_X6 (by decide) rfl rfl 1 (by decide) (List.mem_of_getElem? (i := 2) rfl) rfl rfl dX6_let_8 ?_
  refine g_iload_n (j := 1) hc dX6_let_11 rfl rfl ?_
  refine g_iload_n (j := 3) hc dX6_let_12 rfl rfl ?_
  refine g_iast (k := 27) (t0 := 0) hc locX (by decide) rfl rfl rfl dX6_let_13 (fun S2 => ?_)
  exact g_vret hc hr hlk dX6_let_14
set_option maxHeartbeats 4000000 in
set_option maxRecDepth 100000 in
theorem tX6_clear_2 {p : Program} {e : Env} {s : State} {m : MethodId} {args : Array Value} {below : List Frame} {meth : Method} {c : Code} (hc : CT p s m args c cX6_clear 2 RX6 wsX6_clear D (tyW cI cZ cO)) (hr : meth.sig.returnType = none) (hlk : meth.locks = false) (hE : EvX tF (AA 72 a s.heap.size) s) (k2 : Int32 → St → Option (Int32 × St)) (hk2 : ∀ (x1 : Int32) (S : St), GF p l e rX6_clear s m args below meth c D 72 a (cX cI cZ cO a) (AA 72 a s.heap.size) 2 0 0 (fun res => MQ below (va_Qv (fun u => ((0 : Int32), u) = res) (Bw D (tyW cI cZ cO) 72 a (cX cI cZ cO a) (AA 72 a s.heap.size)) (AA 72 a s.heap.size)) args s 0 0 (AA 72 a s.heap.size)) (k2 x1 S) 2 [(0, .ref (a 7)), (1, .int x1)] [] S) (x1 : Int32) (S : St) : GF p l e rX6_clear s m args below meth c D 72 a (cX cI cZ cO a) (AA 72 a s.heap.size) 2 0 0 (fun res => MQ below (va_Qv (fun u => ((0 : Int32), u) = res) (Bw D (tyW cI cZ cO) 72 a (cX cI cZ cO a) (AA 72 a s.heap.size)) (AA 72 a s.heap.size)) args s 0 0 (AA 72 a s.heap.size)) (bX6_clear_2 k2 x1 S) 2 [(0, .ref (a 7)), (1, .int x1)] [] S := by
  unfold bX6_clear_2
  refine g_iload_n (j := 1) hc dX6_clear_2 rfl rfl ?_
  refine g_bipush (v := 16) hc dX6_clear_3 (by decide) ?_
  refine g_icmp_ge (tgt := 21) hc dX6_clear_5 (by decide) ?_ ?_
  · exact g_vret hc hr hlk dX6_clear_21
  · refine g_aload_n (j := 0) hc dX6_clear_8 rfl rfl ?_
    refine g_iload_n (j := 1) hc dX6_clear_9 rfl rfl ?_
    refine g_iconst (v := 0) hc dX6_clear_10 (by decide) ?_
    refine g_iconst (v := 0) hc dX6_clear_11 (by decide) ?_
    refine g_callVv (As := [.int x1, .int 0, .int 0]) (rest := []) (k := 7) (ci := 6) (q0 := (RX6, TX6, 2)) hc hE trX rfl (fun _ h => mX6_let x1 0 0 S _ h) (cwV 3 hc.1.2.2.2.2 gX6_clear_X6_let rfl rfl rfl (by decide +kernel) ⟨by decide, by decide⟩) (by decide) rfl rfl rfl rfl (Nat.le_of_ble_eq_true rfl) dX6_clear_12 ⟨by decide, by decide⟩ (fun S2 => ?_)
    refine g_iinc (j := 1) (w := x1 + 1) (L := fun v3 => [(1, .int v3), (0, .ref (a 7))]) hc dX6_clear_15 rfl (by rfl) (by decide) (fun _ => rfl) (fun v3 => ?_)
    refine g_goto (tgt := 2) hc dX6_clear_18 (by decide) ?_
    refine g_lv [1, 0] rfl ?_
    exact hk2 v3 S2
set_option maxHeartbeats 4000000 in
set_option maxRecDepth 100000 in
theorem TX6_clear_2 {p : Program} {e : Env} {s : State} {m : MethodId} {args : Array Value} {below : List Frame} {meth : Method} {c : Code} (hc : CT p s m args c cX6_clear 2 RX6 wsX6_clear D (tyW cI cZ cO)) (hr : meth.sig.returnType = none) (hlk : meth.locks = false) (hE : EvX tF (AA 72 a s.heap.size) s) (n : Nat) (x1 : Int32) (S : St) : GF p l e rX6_clear s m args below meth c D 72 a (cX cI cZ cO a) (AA 72 a s.heap.size) 2 0 0 (fun res => MQ below (va_Qv (fun u => ((0 : Int32), u) = res) (Bw D (tyW cI cZ cO) 72 a (cX cI cZ cO a) (AA 72 a s.heap.size)) (AA 72 a s.heap.size)) args s 0 0 (AA 72 a s.heap.size)) (lX6_clear_2 n x1 S) 2 [(0, .ref (a 7)), (1, .int x1)] [] S :=
  lp_ind (P := fun k : Int32 → St → Option (Int32 × St) => ∀ (x1 : Int32) (S : St), GF p l e rX6_clear s m args below meth c D 72 a (cX cI cZ cO a) (AA 72 a s.heap.size) 2 0 0 (fun res => MQ below (va_Qv (fun u => ((0 : Int32), u) = res) (Bw D (tyW cI cZ cO) 72 a (cX cI cZ cO a) (AA 72 a s.heap.size)) (AA 72 a s.heap.size)) args s 0 0 (AA 72 a s.heap.size)) (k x1 S) 2 [(0, .ref (a 7)), (1, .int x1)] [] S) (fun _ _ => g_none) (fun k2 hk2 => tX6_clear_2 hc hr hlk hE k2 hk2) n x1 S
set_option maxHeartbeats 4000000 in
set_option maxRecDepth 100000 in
theorem mX6_clear (S : St) : ∀ q, uX6_clear S = some q → Kv l yX6_clear wsX6_clear rX6_clear D (tyW cI cZ cO) 72 a (cX cI cZ cO a) (EvX tF) [.ref (a 7)] S q := by
  refine m_Kv (cc := cX6_clear) (nL := 2) (ret := none) (lv := [(0, .ref (a 7))]) (by decide) rfl (Nat.le_of_ble_eq_true rfl) rfl ?_
  intro p e s m args below meth c hc hr hlk hE
  unfold uX6_clear
  refine g_iconst (v := 0) hc dX6_clear_0 (by decide) ?_
  refine g_istore_n (L := fun v1 => [(1, .int v1), (0, .ref (a 7))]) hc dX6_clear_1 rfl (by decide) (fun _ => rfl) (fun v1 => ?_)
  refine g_lv [1, 0] rfl ?_
  exact TX6_clear_2 hc hr hlk hE FU v1 S
set_option maxHeartbeats 4000000 in
set_option maxRecDepth 100000 in
theorem tX6_showsAt_56 {p : Program} {e : Env} {s : State} {m : MethodId} {args : Array Value} {below : List Frame} {meth : Method} {c : Code} (hc : CT p s m args c cX6_showsAt 7 RX6 wsX6_showsAt D (tyW cI cZ cO)) (hr : meth.sig.returnType = (some .int)) (hlk : meth.locks = false) (hE : EvX tF (AA 72 a s.heap.size) s) (k11 : Int32 → Int32 → Int32 → Int32 → St → Option (Int32 × St)) (hk11 : ∀ (x1 : Int32) (x2 : Int32) (x4 : Int32) (x5 : Int32) (S : St), GF p l e rX6_showsAt s m args below meth c D 72 a (cX cI cZ cO a) (AA 72 a s.heap.size) 7 0 0 (fun res => MQ below (va_Qi (fun r u => (r, u) = res) (Bw D (tyW cI cZ cO) 72 a (cX cI cZ cO a) (AA 72 a s.heap.size)) (AA 72 a s.heap.size)) args s 0 0 (AA 72 a s.heap.size)) (k11 x1 x2 x4 x5 S) 11 [(0, .ref (a 7)), (1, .int x1), (2, .int x2), (3, .ref (a 3)), (4, .int x4), (5, .int x5)] [] S) (x1 : Int32) (x2 : Int32) (x4 : Int32) (x5 : Int32) (S : St) : GF p l e rX6_showsAt s m args below meth c D 72 a (cX cI cZ cO a) (AA 72 a s.heap.size) 7 0 0 (fun res => MQ below (va_Qi (fun r u => (r, u) = res) (Bw D (tyW cI cZ cO) 72 a (cX cI cZ cO a) (AA 72 a s.heap.size)) (AA 72 a s.heap.size)) args s 0 0 (AA 72 a s.heap.size)) (bX6_showsAt_56 k11 x1 x2 x4 x5 S) 56 [(0, .ref (a 7)), (1, .int x1), (2, .int x2), (3, .ref (a 3)), (4, .int x4), (5, .int x5)] [] S := by
  unfold bX6_showsAt_56
  refine g_iinc (j := 5) (w := x5 + 1) (L := fun v1 => [(5, .int v1), (0, .ref (a 7)), (1, .int x1), (2, .int x2), (3, .ref (a 3)), (4, .int x4)]) hc dX6_showsAt_56 rfl (by rfl) (by decide) (fun _ => rfl) (fun v1 => ?_)
  refine g_goto (tgt := 11) hc dX6_showsAt_59 (by decide) ?_
  refine g_lv [1, 2, 3, 4, 5, 0] rfl ?_
  exact hk11 x1 x2 x4 v1 S
set_option maxHeartbeats 4000000 in
set_option maxRecDepth 100000 in
theorem tX6_showsAt_11 {p : Program} {e : Env} {s : State} {m : MethodId} {args : Array Value} {below : List Frame} {meth : Method} {c : Code} (hc : CT p s m args c cX6_showsAt 7 RX6 wsX6_showsAt D (tyW cI cZ cO)) (hr : meth.sig.returnType = (some .int)) (hlk : meth.locks = false) (hE : EvX tF (AA 72 a s.heap.size) s) (k11 : Int32 → Int32 → Int32 → Int32 → St → Option (Int32 × St)) (hk11 : ∀ (x1 : Int32) (x2 : Int32) (x4 : Int32) (x5 : Int32) (S : St), GF p l e rX6_showsAt s m args below meth c D 72 a (cX cI cZ cO a) (AA 72 a s.heap.size) 7 0 0 (fun res => MQ below (va_Qi (fun r u => (r, u) = res) (Bw D (tyW cI cZ cO) 72 a (cX cI cZ cO a) (AA 72 a s.heap.size)) (AA 72 a s.heap.size)) args s 0 0 (AA 72 a s.heap.size)) (k11 x1 x2 x4 x5 S) 11 [(0, .ref (a 7)), (1, .int x1), (2, .int x2), (3, .ref (a 3)), (4, .int x4), (5, .int x5)] [] S) (x1 : Int32) (x2 : Int32) (x4 : Int32) (x5 : Int32) (S : St) : GF p l e rX6_showsAt s m args below meth c D 72 a (cX cI cZ cO a) (AA 72 a s.heap.size) 7 0 0 (fun res => MQ below (va_Qi (fun r u => (r, u) = res) (Bw D (tyW cI cZ cO) 72 a (cX cI cZ cO a) (AA 72 a s.heap.size)) (AA 72 a s.heap.size)) args s 0 0 (AA 72 a s.heap.size)) (bX6_showsAt_11 k11 x1 x2 x4 x5 S) 11 [(0, .ref (a 7)), (1, .int x1), (2, .int x2), (3, .ref (a 3)), (4, .int x4), (5, .int x5)] [] S := by
  unfold bX6_showsAt_11
  refine g_iload (j := 5) hc dX6_showsAt_11 rfl ?_
  refine g_aload_n (j := 0) hc dX6_showsAt_13 rfl rfl ?_
  refine g_get (C0 := RX6) (T := TX6) (M := 2) (k := 7) (ci := 6) hc inX6_showsAt_X6 (by decide) rfl rfl 1 (by decide) (List.mem_of_getElem? (i := 2) rfl) rfl rfl dX6_showsAt_14 ?_
  refine g_iload_n (j := 1) hc dX6_showsAt_17 rfl rfl ?_
  refine g_iald (k := 27) (t0 := 0) hc (by decide) rfl rfl dX6_showsAt_18 ?_
  refine g_icmp_gt (tgt := 62) hc dX6_showsAt_19 (by decide) ?_ ?_
  · refine g_iload (j := 4) hc dX6_showsAt_62 rfl ?_
    exact g_iret hc hr hlk dX6_showsAt_64
  · refine g_iload_n (j := 2) hc dX6_showsAt_22 rfl rfl ?_
    refine g_iload (j := 5) hc dX6_showsAt_23 rfl ?_
    refine g_isub hc dX6_showsAt_25 ?_
    refine g_istore (L := fun v1 => [(6, .int v1), (0, .ref (a 7)), (1, .int x1), (2, .int x2), (3, .ref (a 3)), (4, .int x4), (5, .int x5)]) hc dX6_showsAt_26 (by decide) (fun _ => rfl) (fun v1 => ?_)
    refine g_iload (j := 0) hc dX6_showsAt_28 rfl ?_
    refine g_if_lt (tgt := 56) hc dX6_showsAt_30 (by decide) ?_ ?_
    · refine g_lv [1, 2, 3, 4, 5, 6] rfl ?_
      exact tX6_showsAt_56 hc hr hlk hE k11 hk11 x1 x2 x4 x5 S
    · refine g_iload (j := 0) hc dX6_showsAt_33 rfl ?_
      refine g_aload_n (j := 4) hc dX6_showsAt_35 rfl rfl ?_
      refine g_callVi (As := []) (rest := [.int v1]) (k := 3) (ci := 0) (q0 := (RX0, TX0, 7)) hc hE trX rfl (fun _ h => mX0_places S _ h) (cwV 0 hc.1.2.2.2.2 gX6_showsAt_X0_places rfl rfl rfl (by decide +kernel) ⟨by decide, by decide⟩) (by decide) rfl rfl rfl rfl (Nat.le_of_ble_eq_true rfl) dX6_showsAt_36 ⟨by decide, by decide⟩ (fun v2 S3 => ?_)
      refine g_icmp_ge (tgt := 56) hc dX6_showsAt_39 (by decide) ?_ ?_
      · refine g_lv [1, 2, 3, 4, 5, 6] rfl ?_
        exact tX6_showsAt_56 hc hr hlk hE k11 hk11 x1 x2 x4 x5 S3
      · refine g_iload (j := 5) hc dX6_showsAt_42 rfl ?_
        refine g_iconst (v := 1) hc dX6_showsAt_44 (by decide) ?_
        refine g_aload_n (j := 4) hc dX6_showsAt_45 rfl rfl ?_
        refine g_iload_n (j := 2) hc dX6_showsAt_46 rfl rfl ?_
        refine g_iload (j := 0) hc dX6_showsAt_47 rfl ?_
        refine g_callVi (As := [.int x1, .int v1]) (rest := [.int 1, .int x4]) (k := 3) (ci := 0) (q0 := (RX0, TX0, 7)) hc hE trX rfl (fun _ h => mX0_colourAt x1 v1 S3 _ h) (cwV 2 hc.1.2.2.2.2 gX6_showsAt_X0_colourAt rfl rfl rfl (by decide +kernel) ⟨by decide, by decide⟩) (by decide) rfl rfl rfl rfl (Nat.le_of_ble_eq_true rfl) dX6_showsAt_49 ⟨by decide, by decide⟩ (fun v4 S5 => ?_)
        refine g_ishl hc dX6_showsAt_52 ?_
        refine g_ior hc dX6_showsAt_53 ?_
        refine g_istore (L := fun v6 => [(4, .int v6), (6, .int v1), (0, .ref (a 7)), (1, .int x1), (2, .int x2), (3, .ref (a 3)), (5, .int x5)]) hc dX6_showsAt_54 (by decide) (fun _ => rfl) (fun v6 => ?_)
        refine g_lv [2, 3, 4, 5, 0, 6] rfl ?_
        exact tX6_showsAt_56 hc hr hlk hE k11 hk11 x1 x2 v6 x5 S5
set_option maxHeartbeats 4000000 in
set_option maxRecDepth 100000 in
theorem TX6_showsAt_11 {p : Program} {e : Env} {s : State} {m : MethodId} {args : Array Value} {below : List Frame} {meth : Method} {c : Code} (hc : CT p s m args c cX6_showsAt 7 RX6 wsX6_showsAt D (tyW cI cZ cO)) (hr : meth.sig.returnType = (some .int)) (hlk : meth.locks = false) (hE : EvX tF (AA 72 a s.heap.size) s) (n : Nat) (x1 : Int32) (x2 : Int32) (x4 : Int32) (x5 : Int32) (S : St) : GF p l e rX6_showsAt s m args below meth c D 72 a (cX cI cZ cO a) (AA 72 a s.heap.size) 7 0 0 (fun res => MQ below (va_Qi (fun r u => (r, u) = res) (Bw D (tyW cI cZ cO) 72 a (cX cI cZ cO a) (AA 72 a s.heap.size)) (AA 72 a s.heap.size)) args s 0 0 (AA 72 a s.heap.size)) (lX6_showsAt_11 n x1 x2 x4 x5 S) 11 [(0, .ref (a 7)), (1, .int x1), (2, .int x2), (3, .ref (a 3)), (4, .int x4), (5, .int x5)] [] S :=
  lp_ind (P := fun k : Int32 → Int32 → Int32 → Int32 → St → Option (Int32 × St) => ∀ (x1 : Int32) (x2 : Int32) (x4 : Int32) (x5 : Int32) (S : St), GF p l e rX6_showsAt s m args below meth c D 72 a (cX cI cZ cO a) (AA 72 a s.heap.size) 7 0 0 (fun res => MQ below (va_Qi (fun r u => (r, u) = res) (Bw D (tyW cI cZ cO) 72 a (cX cI cZ cO a) (AA 72 a s.heap.size)) (AA 72 a s.heap.size)) args s 0 0 (AA 72 a s.heap.size)) (k x1 x2 x4 x5 S) 11 [(0, .ref (a 7)), (1, .int x1), (2, .int x2), (3, .ref (a 3)), (4, .int x4), (5, .int x5)] [] S) (fun _ _ _ _ _ => g_none) (fun k11 hk11 => tX6_showsAt_11 hc hr hlk hE k11 hk11) n x1 x2 x4 x5 S
set_option maxHeartbeats 4000000 in
set_option maxRecDepth 100000 in
theorem mX6_showsAt (x1 : Int32) (x2 : Int32) (S : St) : ∀ q, uX6_showsAt x1 x2 S = some q → Ki l yX6_showsAt wsX6_showsAt rX6_showsAt D (tyW cI cZ cO) 72 a (cX cI cZ cO a) (EvX tF) [.ref (a 7), .int x1, .int x2, .ref (a 3)] S q := by
  refine m_Ki (cc := cX6_showsAt) (nL := 7) (ret := (some .int)) (lv := [(0, .ref (a 7)), (1, .int x1), (2, .int x2), (3, .ref (a 3))]) (by decide) rfl (Nat.le_of_ble_eq_true rfl) rfl ?_
  intro p e s m args below meth c hc hr hlk hE
  unfold uX6_showsAt
  refine g_iconst (v := 0) hc dX6_showsAt_0 (by decide) ?_
  refine g_istore (L := fun v1 => [(4, .int v1), (0, .ref (a 7)), (1, .int x1), (2, .int x2), (3, .ref (a 3))]) hc dX6_showsAt_1 (by decide) (fun _ => rfl) (fun v1 => ?_)
  refine g_aload_n (j := 1) hc dX6_showsAt_3 rfl rfl ?_
  refine g_get (C0 := RX6) (T := TX6) (M := 2) (k := 7) (ci := 6) hc inX6_showsAt_X6 (by decide) rfl rfl 0 (by decide) (List.mem_of_getElem? (i := 1) rfl) rfl rfl dX6_showsAt_4 ?_
  refine g_iload_n (j := 2) hc dX6_showsAt_7 rfl rfl ?_
  refine g_iald (k := 26) (t0 := 0) hc (by decide) rfl rfl dX6_showsAt_8 ?_
  refine g_istore (L := fun v2 => [(5, .int v2), (4, .int v1), (0, .ref (a 7)), (1, .int x1), (2, .int x2), (3, .ref (a 3))]) hc dX6_showsAt_9 (by decide) (fun _ => rfl) (fun v2 => ?_)
  refine g_lv [2, 3, 4, 5, 1, 0] rfl ?_
  exact TX6_showsAt_11 hc hr hlk hE FU x1 x2 v1 v2 S
set_option maxHeartbeats 4000000 in
set_option maxRecDepth 100000 in
theorem mX7_strengthOf (x1 : Int32) (S : St) : ∀ q, uX7_strengthOf x1 S = some q → Ki l yX7_strengthOf wsX7_strengthOf rX7_strengthOf D (tyW cI cZ cO) 72 a (cX cI cZ cO a) (EvX tF) [.ref (a 2), .int x1] S q := by
  refine m_Ki (cc := cX7_strengthOf) (nL := 2) (ret := (some .int)) (lv := [(0, .ref (a 2)), (1, .int x1)]) (by decide) rfl (Nat.le_of_ble_eq_true rfl) rfl ?_
  intro p e s m args below meth c hc hr hlk hE
  unfold uX7_strengthOf
  refine g_aload_n (j := 0) hc dX7_strengthOf_0 rfl rfl ?_
  refine g_get (C0 := RX7) (T := TX7) (M := 2) (k := 2) (ci := 7) hc inX7_strengthOf_X7 (by decide) rfl rfl 0 (by decide) (List.mem_of_getElem? (i := 1) rfl) rfl rfl dX7_strengthOf_1 ?_
  refine g_iload_n (j := 1) hc dX7_strengthOf_4 rfl rfl ?_
  refine g_iald (k := 10) (t0 := 0) hc (by decide) rfl rfl dX7_strengthOf_5 ?_
  exact g_iret hc hr hlk dX7_strengthOf_6
set_option maxHeartbeats 4000000 in
set_option maxRecDepth 100000 in
theorem mX7_fill (x1 : Int32) (x2 : Int32) (S : St) : ∀ q, uX7_fill x1 x2 S = some q → Kv l yX7_fill wsX7_fill rX7_fill D (tyW cI cZ cO) 72 a (cX cI cZ cO a) (EvX tF) [.ref (a 2), .int x1, .int x2] S q := by
  refine m_Kv (cc := cX7_fill) (nL := 3) (ret := none) (lv := [(0, .ref (a 2)), (1, .int x1), (2, .int x2)]) (by decide) rfl (Nat.le_of_ble_eq_true rfl) rfl ?_
  intro p e s m args below meth c hc hr hlk hE
  unfold uX7_fill
  refine g_aload_n (j := 0) hc dX7_fill_0 rfl rfl ?_
  refine g_get (C0 := RX7) (T := TX7) (M := 2) (k := 2) (ci := 7) hc inX7_fill_X7 (by decide) rfl rfl 0 (by decide) (List.mem_of_getElem? (i := 1) rfl) rfl rfl dX7_fill_1 ?_
  refine g_iload_n (j := 1) hc dX7_fill_4 rfl rfl ?_
  refine g_dup2 hc dX7_fill_5 rfl rfl ?_
  refine g_iald (k := 10) (t0 := 0) hc (by decide) rfl rfl dX7_fill_6 ?_
  refine g_iload_n (j := 2) hc dX7_fill_7 rfl rfl ?_
  refine g_iadd hc dX7_fill_8 ?_
  refine g_iast (k := 10) (t0 := 0) hc locX (by decide) rfl rfl rfl dX7_fill_9 (fun S1 => ?_)
  exact g_vret hc hr hlk dX7_fill_10
set_option maxHeartbeats 4000000 in
set_option maxRecDepth 100000 in
theorem mX7_lose (x1 : Int32) (x2 : Int32) (S : St) : ∀ q, uX7_lose x1 x2 S = some q → Kv l yX7_lose wsX7_lose rX7_lose D (tyW cI cZ cO) 72 a (cX cI cZ cO a) (EvX tF) [.ref (a 2), .int x1, .int x2] S q := by
  refine m_Kv (cc := cX7_lose) (nL := 3) (ret := none) (lv := [(0, .ref (a 2)), (1, .int x1), (2, .int x2)]) (by decide) rfl (Nat.le_of_ble_eq_true rfl) rfl ?_
  intro p e s m args below meth c hc hr hlk hE
  unfold uX7_lose
  refine g_aload_n (j := 0) hc dX7_lose_0 rfl rfl ?_
  refine g_get (C0 := RX7) (T := TX7) (M := 2) (k := 2) (ci := 7) hc inX7_lose_X7 (by decide) rfl rfl 0 (by decide) (List.mem_of_getElem? (i := 1) rfl) rfl rfl dX7_lose_1 ?_
  refine g_iload_n (j := 1) hc dX7_lose_4 rfl rfl ?_
  refine g_dup2 hc dX7_lose_5 rfl rfl ?_
  refine g_iald (k := 10) (t0 := 0) hc (by decide) rfl rfl dX7_lose_6 ?_
  refine g_iload_n (j := 2) hc dX7_lose_7 rfl rfl ?_
  refine g_isub hc dX7_lose_8 ?_
  refine g_iast (k := 10) (t0 := 0) hc locX (by decide) rfl rfl rfl dX7_lose_9 (fun S1 => ?_)
  exact g_vret hc hr hlk dX7_lose_10
set_option maxHeartbeats 4000000 in
set_option maxRecDepth 100000 in
theorem tX7_sufficeFor_70 {p : Program} {e : Env} {s : State} {m : MethodId} {args : Array Value} {below : List Frame} {meth : Method} {c : Code} (hc : CT p s m args c cX7_sufficeFor 5 RX7 wsX7_sufficeFor D (tyW cI cZ cO)) (hr : meth.sig.returnType = (some .boolean)) (hlk : meth.locks = false) (hE : EvX tF (AA 72 a s.heap.size) s) (k70 : Int32 → St → Option (Int32 × St)) (hk70 : ∀ (x4 : Int32) (S : St), GF p l e rX7_sufficeFor s m args below meth c D 72 a (cX cI cZ cO a) (AA 72 a s.heap.size) 5 0 0 (fun res => MQ below (va_Qi (fun r u => (r, u) = res) (Bw D (tyW cI cZ cO) 72 a (cX cI cZ cO a) (AA 72 a s.heap.size)) (AA 72 a s.heap.size)) args s 0 0 (AA 72 a s.heap.size)) (k70 x4 S) 70 [(0, .ref (a 2)), (4, .int x4)] [] S) (x4 : Int32) (S : St) : GF p l e rX7_sufficeFor s m args below meth c D 72 a (cX cI cZ cO a) (AA 72 a s.heap.size) 5 0 0 (fun res => MQ below (va_Qi (fun r u => (r, u) = res) (Bw D (tyW cI cZ cO) 72 a (cX cI cZ cO a) (AA 72 a s.heap.size)) (AA 72 a s.heap.size)) args s 0 0 (AA 72 a s.heap.size)) (bX7_sufficeFor_70 k70 x4 S) 70 [(0, .ref (a 2)), (4, .int x4)] [] S := by
  unfold bX7_sufficeFor_70
  refine g_iload (j := 1) hc dX7_sufficeFor_70 rfl ?_
  refine g_iconst (v := 4) hc dX7_sufficeFor_72 (by decide) ?_
  refine g_icmp_ge (tgt := 101) hc dX7_sufficeFor_73 (by decide) ?_ ?_
  · refine g_iconst (v := 1) hc dX7_sufficeFor_101 (by decide) ?_
    exact g_zret hc hr hlk dX7_sufficeFor_102
  · refine g_aload_n (j := 0) hc dX7_sufficeFor_76 rfl rfl ?_
    refine g_get (C0 := RX7) (T := TX7) (M := 2) (k := 2) (ci := 7) hc inX7_sufficeFor_X7 (by decide) rfl rfl 1 (by decide) (List.mem_of_getElem? (i := 1) rfl) rfl rfl dX7_sufficeFor_77 ?_
    refine g_iload (j := 1) hc dX7_sufficeFor_80 rfl ?_
    refine g_iald (k := 11) (t0 := 0) hc (by decide) rfl rfl dX7_sufficeFor_82 ?_
    refine g_aload_n (j := 0) hc dX7_sufficeFor_83 rfl rfl ?_
    refine g_get (C0 := RX7) (T := TX7) (M := 2) (k := 2) (ci := 7) hc inX7_sufficeFor_X7 (by decide) rfl rfl 0 (by decide) (List.mem_of_getElem? (i := 2) rfl) rfl rfl dX7_sufficeFor_84 ?_
    refine g_iload (j := 1) hc dX7_sufficeFor_87 rfl ?_
    refine g_iald (k := 10) (t0 := 0) hc (by decide) rfl rfl dX7_sufficeFor_89 ?_
    refine g_icmp_le (tgt := 95) hc dX7_sufficeFor_90 (by decide) ?_ ?_
    · refine g_iinc (j := 1) (w := x4 + 1) (L := fun v1 => [(4, .int v1), (0, .ref (a 2))]) hc dX7_sufficeFor_95 rfl (by rfl) (by decide) (fun _ => rfl) (fun v1 => ?_)
      refine g_goto (tgt := 70) hc dX7_sufficeFor_98 (by decide) ?_
      refine g_lv [1, 0] rfl ?_
      exact hk70 v1 S
    · refine g_iconst (v := 0) hc dX7_sufficeFor_93 (by decide) ?_
      exact g_zret hc hr hlk dX7_sufficeFor_94
set_option maxHeartbeats 4000000 in
set_option maxRecDepth 100000 in
theorem TX7_sufficeFor_70 {p : Program} {e : Env} {s : State} {m : MethodId} {args : Array Value} {below : List Frame} {meth : Method} {c : Code} (hc : CT p s m args c cX7_sufficeFor 5 RX7 wsX7_sufficeFor D (tyW cI cZ cO)) (hr : meth.sig.returnType = (some .boolean)) (hlk : meth.locks = false) (hE : EvX tF (AA 72 a s.heap.size) s) (n : Nat) (x4 : Int32) (S : St) : GF p l e rX7_sufficeFor s m args below meth c D 72 a (cX cI cZ cO a) (AA 72 a s.heap.size) 5 0 0 (fun res => MQ below (va_Qi (fun r u => (r, u) = res) (Bw D (tyW cI cZ cO) 72 a (cX cI cZ cO a) (AA 72 a s.heap.size)) (AA 72 a s.heap.size)) args s 0 0 (AA 72 a s.heap.size)) (lX7_sufficeFor_70 n x4 S) 70 [(0, .ref (a 2)), (4, .int x4)] [] S :=
  lp_ind (P := fun k : Int32 → St → Option (Int32 × St) => ∀ (x4 : Int32) (S : St), GF p l e rX7_sufficeFor s m args below meth c D 72 a (cX cI cZ cO a) (AA 72 a s.heap.size) 5 0 0 (fun res => MQ below (va_Qi (fun r u => (r, u) = res) (Bw D (tyW cI cZ cO) 72 a (cX cI cZ cO a) (AA 72 a s.heap.size)) (AA 72 a s.heap.size)) args s 0 0 (AA 72 a s.heap.size)) (k x4 S) 70 [(0, .ref (a 2)), (4, .int x4)] [] S) (fun _ _ => g_none) (fun k70 hk70 => tX7_sufficeFor_70 hc hr hlk hE k70 hk70) n x4 S
set_option maxHeartbeats 4000000 in
set_option maxRecDepth 100000 in
theorem tX7_sufficeFor_31 {p : Program} {e : Env} {s : State} {m : MethodId} {args : Array Value} {below : List Frame} {meth : Method} {c : Code} (hc : CT p s m args c cX7_sufficeFor 5 RX7 wsX7_sufficeFor D (tyW cI cZ cO)) (hr : meth.sig.returnType = (some .boolean)) (hlk : meth.locks = false) (hE : EvX tF (AA 72 a s.heap.size) s) (k31 : Int32 → Int32 → St → Option (Int32 × St)) (hk31 : ∀ (x3 : Int32) (x4 : Int32) (S : St), GF p l e rX7_sufficeFor s m args below meth c D 72 a (cX cI cZ cO a) (AA 72 a s.heap.size) 5 0 0 (fun res => MQ below (va_Qi (fun r u => (r, u) = res) (Bw D (tyW cI cZ cO) 72 a (cX cI cZ cO a) (AA 72 a s.heap.size)) (AA 72 a s.heap.size)) args s 0 0 (AA 72 a s.heap.size)) (k31 x3 x4 S) 31 [(0, .ref (a 2)), (1, .ref (a 6)), (2, .ref (a 3)), (3, .int x3), (4, .int x4)] [] S) (x3 : Int32) (x4 : Int32) (S : St) : GF p l e rX7_sufficeFor s m args below meth c D 72 a (cX cI cZ cO a) (AA 72 a s.heap.size) 5 0 0 (fun res => MQ below (va_Qi (fun r u => (r, u) = res) (Bw D (tyW cI cZ cO) 72 a (cX cI cZ cO a) (AA 72 a s.heap.size)) (AA 72 a s.heap.size)) args s 0 0 (AA 72 a s.heap.size)) (bX7_sufficeFor_31 k31 x3 x4 S) 31 [(0, .ref (a 2)), (1, .ref (a 6)), (2, .ref (a 3)), (3, .int x3), (4, .int x4)] [] S := by
  unfold bX7_sufficeFor_31
  refine g_iload (j := 4) hc dX7_sufficeFor_31 rfl ?_
  refine g_iload_n (j := 3) hc dX7_sufficeFor_33 rfl rfl ?_
  refine g_icmp_ge (tgt := 67) hc dX7_sufficeFor_34 (by decide) ?_ ?_
  · refine g_iconst (v := 0) hc dX7_sufficeFor_67 (by decide) ?_
    refine g_istore (L := fun v1 => [(4, .int v1), (0, .ref (a 2)), (1, .ref (a 6)), (2, .ref (a 3)), (3, .int x3)]) hc dX7_sufficeFor_68 (by decide) (fun _ => rfl) (fun v1 => ?_)
    refine g_lv [1, 0] rfl ?_
    exact TX7_sufficeFor_70 hc hr hlk hE FU v1 S
  · refine g_aload_n (j := 0) hc dX7_sufficeFor_37 rfl rfl ?_
    refine g_get (C0 := RX7) (T := TX7) (M := 2) (k := 2) (ci := 7) hc inX7_sufficeFor_X7 (by decide) rfl rfl 1 (by decide) (List.mem_of_getElem? (i := 1) rfl) rfl rfl dX7_sufficeFor_38 ?_
    refine g_aload_n (j := 1) hc dX7_sufficeFor_41 rfl rfl ?_
    refine g_callVi (As := []) (rest := [.ref (a 11)]) (k := 6) (ci := 4) (q0 := (RX4, TX4, 4)) hc hE trX rfl (fun _ h => mX4_row S _ h) (cwV 0 hc.1.2.2.2.2 gX7_sufficeFor_X4_row rfl rfl rfl (by decide +kernel) ⟨by decide, by decide⟩) (by decide) rfl rfl rfl rfl (Nat.le_of_ble_eq_true rfl) dX7_sufficeFor_42 ⟨by decide, by decide⟩ (fun v2 S3 => ?_)
    refine g_iload (j := 4) hc dX7_sufficeFor_45 rfl ?_
    refine g_callNi (As := [.int v2, .int x4]) (rest := [.ref (a 11)]) hc hE trX rfl (fun _ h => mX8_dyeOf v2 x4 S3 _ h) ⟨va_cnB 2 hc.1.2.2.2.2 gX7_sufficeFor_X8_dyeOf_n28 rfl rfl rfl hE.2.2.1.2.1 (hc.1.2.2.2.2 _ (List.mem_of_getElem? (i := 10) rfl)) (by decide +kernel) ⟨by decide, by decide⟩, hc.1.2.2.2.2 _ (List.mem_of_getElem? (i := 13) rfl), trivial⟩ rfl rfl (Nat.le_of_ble_eq_true rfl) dX7_sufficeFor_47 ⟨by decide, by decide⟩ (fun v4 S5 => ?_)
    refine g_dup2 hc dX7_sufficeFor_50 rfl rfl ?_
    refine g_iald (k := 11) (t0 := 0) hc (by decide) rfl rfl dX7_sufficeFor_51 ?_
    refine g_aload_n (j := 2) hc dX7_sufficeFor_52 rfl rfl ?_
    refine g_aload_n (j := 1) hc dX7_sufficeFor_53 rfl rfl ?_
    refine g_iload (j := 4) hc dX7_sufficeFor_54 rfl ?_
    refine g_callVi (As := [.ref (a 6), .int x4]) (rest := [.int (S5 11 v4.toNatClampNeg), .int v4, .ref (a 11)]) (k := 3) (ci := 0) (q0 := (RX0, TX0, 7)) hc hE trX rfl (fun _ h => mX0_wouldTakeUp x4 S5 _ h) (cwV 2 hc.1.2.2.2.2 gX7_sufficeFor_X0_wouldTakeUp rfl rfl rfl (by decide +kernel) ⟨by decide, by decide⟩) (by decide) rfl rfl rfl rfl (Nat.le_of_ble_eq_true rfl) dX7_sufficeFor_56 ⟨by decide, by decide⟩ (fun v6 S7 => ?_)
    refine g_iadd hc dX7_sufficeFor_59 ?_
    refine g_iast (k := 11) (t0 := 0) hc locX (by decide) rfl rfl rfl dX7_sufficeFor_60 (fun S8 => ?_)
    refine g_iinc (j := 4) (w := x4 + 1) (L := fun v9 => [(4, .int v9), (0, .ref (a 2)), (1, .ref (a 6)), (2, .ref (a 3)), (3, .int x3)]) hc dX7_sufficeFor_61 rfl (by rfl) (by decide) (fun _ => rfl) (fun v9 => ?_)
    refine g_goto (tgt := 31) hc dX7_sufficeFor_64 (by decide) ?_
    refine g_lv [1, 2, 3, 4, 0] rfl ?_
    exact hk31 x3 v9 S8
set_option maxHeartbeats 4000000 in
set_option maxRecDepth 100000 in
theorem TX7_sufficeFor_31 {p : Program} {e : Env} {s : State} {m : MethodId} {args : Array Value} {below : List Frame} {meth : Method} {c : Code} (hc : CT p s m args c cX7_sufficeFor 5 RX7 wsX7_sufficeFor D (tyW cI cZ cO)) (hr : meth.sig.returnType = (some .boolean)) (hlk : meth.locks = false) (hE : EvX tF (AA 72 a s.heap.size) s) (n : Nat) (x3 : Int32) (x4 : Int32) (S : St) : GF p l e rX7_sufficeFor s m args below meth c D 72 a (cX cI cZ cO a) (AA 72 a s.heap.size) 5 0 0 (fun res => MQ below (va_Qi (fun r u => (r, u) = res) (Bw D (tyW cI cZ cO) 72 a (cX cI cZ cO a) (AA 72 a s.heap.size)) (AA 72 a s.heap.size)) args s 0 0 (AA 72 a s.heap.size)) (lX7_sufficeFor_31 n x3 x4 S) 31 [(0, .ref (a 2)), (1, .ref (a 6)), (2, .ref (a 3)), (3, .int x3), (4, .int x4)] [] S :=
  lp_ind (P := fun k : Int32 → Int32 → St → Option (Int32 × St) => ∀ (x3 : Int32) (x4 : Int32) (S : St), GF p l e rX7_sufficeFor s m args below meth c D 72 a (cX cI cZ cO a) (AA 72 a s.heap.size) 5 0 0 (fun res => MQ below (va_Qi (fun r u => (r, u) = res) (Bw D (tyW cI cZ cO) 72 a (cX cI cZ cO a) (AA 72 a s.heap.size)) (AA 72 a s.heap.size)) args s 0 0 (AA 72 a s.heap.size)) (k x3 x4 S) 31 [(0, .ref (a 2)), (1, .ref (a 6)), (2, .ref (a 3)), (3, .int x3), (4, .int x4)] [] S) (fun _ _ _ => g_none) (fun k31 hk31 => tX7_sufficeFor_31 hc hr hlk hE k31 hk31) n x3 x4 S
set_option maxHeartbeats 4000000 in
set_option maxRecDepth 100000 in
theorem tX7_sufficeFor_2 {p : Program} {e : Env} {s : State} {m : MethodId} {args : Array Value} {below : List Frame} {meth : Method} {c : Code} (hc : CT p s m args c cX7_sufficeFor 5 RX7 wsX7_sufficeFor D (tyW cI cZ cO)) (hr : meth.sig.returnType = (some .boolean)) (hlk : meth.locks = false) (hE : EvX tF (AA 72 a s.heap.size) s) (k2 : Int32 → St → Option (Int32 × St)) (hk2 : ∀ (x3 : Int32) (S : St), GF p l e rX7_sufficeFor s m args below meth c D 72 a (cX cI cZ cO a) (AA 72 a s.heap.size) 5 0 0 (fun res => MQ below (va_Qi (fun r u => (r, u) = res) (Bw D (tyW cI cZ cO) 72 a (cX cI cZ cO a) (AA 72 a s.heap.size)) (AA 72 a s.heap.size)) args s 0 0 (AA 72 a s.heap.size)) (k2 x3 S) 2 [(0, .ref (a 2)), (1, .ref (a 6)), (2, .ref (a 3)), (3, .int x3)] [] S) (x3 : Int32) (S : St) : GF p l e rX7_sufficeFor s m args below meth c D 72 a (cX cI cZ cO a) (AA 72 a s.heap.size) 5 0 0 (fun res => MQ below (va_Qi (fun r u => (r, u) = res) (Bw D (tyW cI cZ cO) 72 a (cX cI cZ cO a) (AA 72 a s.heap.size)) (AA 72 a s.heap.size)) args s 0 0 (AA 72 a s.heap.size)) (bX7_sufficeFor_2 k2 x3 S) 2 [(0, .ref (a 2)), (1, .ref (a 6)), (2, .ref (a 3)), (3, .int x3)] [] S := by
  unfold bX7_sufficeFor_2
  refine g_iload_n (j := 3) hc dX7_sufficeFor_2 rfl rfl ?_
  refine g_iconst (v := 4) hc dX7_sufficeFor_3 (by decide) ?_
  refine g_icmp_ge (tgt := 20) hc dX7_sufficeFor_4 (by decide) ?_ ?_
  · refine g_aload_n (j := 1) hc dX7_sufficeFor_20 rfl rfl ?_
    refine g_callVi (As := []) (rest := []) (k := 6) (ci := 4) (q0 := (RX4, TX4, 4)) hc hE trX rfl (fun _ h => mX4_row S _ h) (cwV 0 hc.1.2.2.2.2 gX7_sufficeFor_X4_row rfl rfl rfl (by decide +kernel) ⟨by decide, by decide⟩) (by decide) rfl rfl rfl rfl (Nat.le_of_ble_eq_true rfl) dX7_sufficeFor_21 ⟨by decide, by decide⟩ (fun v1 S2 => ?_)
    refine g_callNi (As := [.int v1]) (rest := []) hc hE trX rfl (fun _ h => mX8_bathsOf v1 S2 _ h) ⟨va_cnB 1 hc.1.2.2.2.2 gX7_sufficeFor_X8_bathsOf_n24 rfl rfl rfl hE.2.2.1.1 (hc.1.2.2.2.2 _ (List.mem_of_getElem? (i := 10) rfl)) (by decide +kernel) ⟨by decide, by decide⟩, hc.1.2.2.2.2 _ (List.mem_of_getElem? (i := 9) rfl), trivial⟩ rfl rfl (Nat.le_of_ble_eq_true rfl) dX7_sufficeFor_24 ⟨by decide, by decide⟩ (fun v3 S4 => ?_)
    refine g_istore_n (L := fun v5 => [(3, .int v5), (0, .ref (a 2)), (1, .ref (a 6)), (2, .ref (a 3))]) hc dX7_sufficeFor_27 rfl (by decide) (fun _ => rfl) (fun v5 => ?_)
    refine g_iconst (v := 0) hc dX7_sufficeFor_28 (by decide) ?_
    refine g_istore (L := fun v6 => [(4, .int v6), (3, .int v5), (0, .ref (a 2)), (1, .ref (a 6)), (2, .ref (a 3))]) hc dX7_sufficeFor_29 (by decide) (fun _ => rfl) (fun v6 => ?_)
    refine g_lv [2, 3, 4, 1, 0] rfl ?_
    exact TX7_sufficeFor_31 hc hr hlk hE FU v5 v6 S4
  · refine g_aload_n (j := 0) hc dX7_sufficeFor_7 rfl rfl ?_
    refine g_get (C0 := RX7) (T := TX7) (M := 2) (k := 2) (ci := 7) hc inX7_sufficeFor_X7 (by decide) rfl rfl 1 (by decide) (List.mem_of_getElem? (i := 1) rfl) rfl rfl dX7_sufficeFor_8 ?_
    refine g_iload_n (j := 3) hc dX7_sufficeFor_11 rfl rfl ?_
    refine g_iconst (v := 0) hc dX7_sufficeFor_12 (by decide) ?_
    refine g_iast (k := 11) (t0 := 0) hc locX (by decide) rfl rfl rfl dX7_sufficeFor_13 (fun S7 => ?_)
    refine g_iinc (j := 3) (w := x3 + 1) (L := fun v8 => [(3, .int v8), (0, .ref (a 2)), (1, .ref (a 6)), (2, .ref (a 3))]) hc dX7_sufficeFor_14 rfl (by rfl) (by decide) (fun _ => rfl) (fun v8 => ?_)
    refine g_goto (tgt := 2) hc dX7_sufficeFor_17 (by decide) ?_
    refine g_lv [1, 2, 3, 0] rfl ?_
    exact hk2 v8 S7
set_option maxHeartbeats 4000000 in
set_option maxRecDepth 100000 in
theorem TX7_sufficeFor_2 {p : Program} {e : Env} {s : State} {m : MethodId} {args : Array Value} {below : List Frame} {meth : Method} {c : Code} (hc : CT p s m args c cX7_sufficeFor 5 RX7 wsX7_sufficeFor D (tyW cI cZ cO)) (hr : meth.sig.returnType = (some .boolean)) (hlk : meth.locks = false) (hE : EvX tF (AA 72 a s.heap.size) s) (n : Nat) (x3 : Int32) (S : St) : GF p l e rX7_sufficeFor s m args below meth c D 72 a (cX cI cZ cO a) (AA 72 a s.heap.size) 5 0 0 (fun res => MQ below (va_Qi (fun r u => (r, u) = res) (Bw D (tyW cI cZ cO) 72 a (cX cI cZ cO a) (AA 72 a s.heap.size)) (AA 72 a s.heap.size)) args s 0 0 (AA 72 a s.heap.size)) (lX7_sufficeFor_2 n x3 S) 2 [(0, .ref (a 2)), (1, .ref (a 6)), (2, .ref (a 3)), (3, .int x3)] [] S :=
  lp_ind (P := fun k : Int32 → St → Option (Int32 × St) => ∀ (x3 : Int32) (S : St), GF p l e rX7_sufficeFor s m args below meth c D 72 a (cX cI cZ cO a) (AA 72 a s.heap.size) 5 0 0 (fun res => MQ below (va_Qi (fun r u => (r, u) = res) (Bw D (tyW cI cZ cO) 72 a (cX cI cZ cO a) (AA 72 a s.heap.size)) (AA 72 a s.heap.size)) args s 0 0 (AA 72 a s.heap.size)) (k x3 S) 2 [(0, .ref (a 2)), (1, .ref (a 6)), (2, .ref (a 3)), (3, .int x3)] [] S) (fun _ _ => g_none) (fun k2 hk2 => tX7_sufficeFor_2 hc hr hlk hE k2 hk2) n x3 S
set_option maxHeartbeats 4000000 in
set_option maxRecDepth 100000 in
theorem mX7_sufficeFor (S : St) : ∀ q, uX7_sufficeFor S = some q → Ki l yX7_sufficeFor wsX7_sufficeFor rX7_sufficeFor D (tyW cI cZ cO) 72 a (cX cI cZ cO a) (EvX tF) [.ref (a 2), .ref (a 6), .ref (a 3)] S q := by
  refine m_Ki (cc := cX7_sufficeFor) (nL := 5) (ret := (some .boolean)) (lv := [(0, .ref (a 2)), (1, .ref (a 6)), (2, .ref (a 3))]) (by decide) rfl (Nat.le_of_ble_eq_true rfl) rfl ?_
  intro p e s m args below meth c hc hr hlk hE
  unfold uX7_sufficeFor
  refine g_iconst (v := 0) hc dX7_sufficeFor_0 (by decide) ?_
  refine g_istore_n (L := fun v1 => [(3, .int v1), (0, .ref (a 2)), (1, .ref (a 6)), (2, .ref (a 3))]) hc dX7_sufficeFor_1 rfl (by decide) (fun _ => rfl) (fun v1 => ?_)
  refine g_lv [1, 2, 3, 0] rfl ?_
  exact TX7_sufficeFor_2 hc hr hlk hE FU v1 S
end
