-- J6_bitCount_0f7a4
def rJ6_bitCount_0f7a4 : Room := { frames := 0, cells := 0, slots := 0, locals := 0 }
def uJ6_bitCount_0f7a4 (x0 : Int32) (S : St) : Option (Int32 × St) :=
  lt (x0 - (((x0.toUInt32 >>> ((1 : Int32).toUInt32 &&& Int32.toUInt32 31)).toInt32) &&& 1431655765)) (fun v1 => lt ((v1 &&& 858993459) + (((v1.toUInt32 >>> ((2 : Int32).toUInt32 &&& Int32.toUInt32 31)).toInt32) &&& 858993459)) (fun v2 => lt ((v2 + ((v2.toUInt32 >>> ((4 : Int32).toUInt32 &&& Int32.toUInt32 31)).toInt32)) &&& 252645135) (fun v3 => lt (v3 + ((v3.toUInt32 >>> ((8 : Int32).toUInt32 &&& Int32.toUInt32 31)).toInt32)) (fun v4 => lt (v4 + ((v4.toUInt32 >>> ((16 : Int32).toUInt32 &&& Int32.toUInt32 31)).toInt32)) (fun v5 => some (v5 &&& 63, S))))))
-- X8_dyeOf
def rX8_dyeOf : Room := { frames := 0, cells := 0, slots := 0, locals := 0 }
def uX8_dyeOf (x0 : Int32) (x1 : Int32) (S : St) : Option (Int32 × St) :=
  some (((x0 >>> ((3 * x1) &&& 31)) &&& 7) - 1, S)
-- X8_bathsOf
def rX8_bathsOf : Room := { frames := 1, cells := 0, slots := 0, locals := 21 }
def bX8_bathsOf_22 (x1 : Int32) (S : St) : Option (Int32 × St) :=
  some (x1, S)
def bX8_bathsOf_2 (k2 : Int32 → Int32 → St → Option (Int32 × St)) (x0 : Int32) (x1 : Int32) (S : St) : Option (Int32 × St) :=
  if 4 ≤ x1 then bX8_bathsOf_22 x1 S else cl (uX8_dyeOf x0 x1 S) (fun v1 S2 => if v1 = ((-1)) then bX8_bathsOf_22 x1 S2 else lt (x1 + 1) (fun v3 => k2 x0 v3 S2))
def lX8_bathsOf_2 (n : Nat) : Int32 → Int32 → St → Option (Int32 × St) :=
  lp (fun k2 => bX8_bathsOf_2 k2) (fun _ _ _ => none) n
def uX8_bathsOf (x0 : Int32) (S : St) : Option (Int32 × St) :=
  lt 0 (fun v1 => lX8_bathsOf_2 FU x0 v1 S)
-- X4_bitsAt
def rX4_bitsAt : Room := { frames := 0, cells := 0, slots := 0, locals := 0 }
theorem inX4_bitsAt_X4 : ∀ w ∈ u_ws RX4 TX4 4, w ∈ wsX4_bitsAt := by decide +kernel
def uX4_bitsAt (x1 : Int32) (x2 : Int32) (S : St) : Option (Int32 × St) :=
  ck x1 8 (ckn x1.toNatClampNeg 8 (ck x2 24 (some (S (64 + x1.toNatClampNeg) x2.toNatClampNeg, S))))
-- X4_drop
def rX4_drop : Room := { frames := 0, cells := 0, slots := 0, locals := 0 }
theorem inX4_drop_X4 : ∀ w ∈ u_ws RX4 TX4 4, w ∈ wsX4_drop := by decide +kernel
def uX4_drop (S : St) : Option (Int32 × St) :=
  lz (s2 S 6 0 0) (fun S1 => some (0, S1))
-- X4_begin
def rX4_begin : Room := { frames := 0, cells := 0, slots := 0, locals := 0 }
theorem inX4_begin_X4 : ∀ w ∈ u_ws RX4 TX4 4, w ∈ wsX4_begin := by decide +kernel
def uX4_begin (x1 : Int32) (S : St) : Option (Int32 × St) :=
  lz (s2 S 6 0 1) (fun S1 => lz (s2 S1 6 1 x1) (fun S2 => lz (s2 S2 6 2 0) (fun S3 => some (0, S3))))
-- X4_addTies
def rX4_addTies : Room := { frames := 0, cells := 0, slots := 0, locals := 0 }
theorem inX4_addTies_X4 : ∀ w ∈ u_ws RX4 TX4 4, w ∈ wsX4_addTies := by decide +kernel
def uX4_addTies (x1 : Int32) (S : St) : Option (Int32 × St) :=
  lz (s2 S 6 2 ((S 6 2) + x1)) (fun S1 => some (0, S1))
-- X4_write
def rX4_write : Room := { frames := 0, cells := 0, slots := 0, locals := 0 }
theorem inX4_write_X4 : ∀ w ∈ u_ws RX4 TX4 4, w ∈ wsX4_write := by decide +kernel
def uX4_write (x1 : Int32) (x2 : Int32) (x3 : Int32) (S : St) : Option (Int32 × St) :=
  ck x1 8 (ckn x1.toNatClampNeg 8 (ck x2 24 (lz (s2 S (64 + x1.toNatClampNeg) x2.toNatClampNeg x3) (fun S1 => some (0, S1)))))
-- X4_exists
def rX4_exists : Room := { frames := 0, cells := 0, slots := 0, locals := 0 }
theorem inX4_exists_X4 : ∀ w ∈ u_ws RX4 TX4 4, w ∈ wsX4_exists := by decide +kernel
def uX4_exists (S : St) : Option (Int32 × St) :=
  rz (S 6 0) (some (S 6 0, S))
-- X4_row
def rX4_row : Room := { frames := 0, cells := 0, slots := 0, locals := 0 }
theorem inX4_row_X4 : ∀ w ∈ u_ws RX4 TX4 4, w ∈ wsX4_row := by decide +kernel
def uX4_row (S : St) : Option (Int32 × St) :=
  some (S 6 1, S)
-- X4_ties
def rX4_ties : Room := { frames := 0, cells := 0, slots := 0, locals := 0 }
theorem inX4_ties_X4 : ∀ w ∈ u_ws RX4 TX4 4, w ∈ wsX4_ties := by decide +kernel
def uX4_ties (S : St) : Option (Int32 × St) :=
  some (S 6 2, S)
-- X2_comesOf
def rX2_comesOf : Room := { frames := 0, cells := 0, slots := 0, locals := 0 }
theorem inX2_comesOf_X2 : ∀ w ∈ u_ws RX2 TX2 1, w ∈ wsX2_comesOf := by decide +kernel
def uX2_comesOf (x1 : Int32) (x2 : Int32) (S : St) : Option (Int32 × St) :=
  ck ((x1 * 4) + x2) 64 (some (S 9 ((x1 * 4) + x2).toNatClampNeg, S))
-- X2_tell
def rX2_tell : Room := { frames := 0, cells := 0, slots := 0, locals := 0 }
theorem inX2_tell_X2 : ∀ w ∈ u_ws RX2 TX2 1, w ∈ wsX2_tell := by decide +kernel
def uX2_tell (x1 : Int32) (x2 : Int32) (x3 : Int32) (S : St) : Option (Int32 × St) :=
  ck ((x1 * 4) + x2) 64 (lz (s2 S 9 ((x1 * 4) + x2).toNatClampNeg x3) (fun S1 => some (0, S1)))
-- X3_clear
def rX3_clear : Room := { frames := 0, cells := 0, slots := 0, locals := 0 }
theorem inX3_clear_X3 : ∀ w ∈ u_ws RX3 TX3 1, w ∈ wsX3_clear := by decide +kernel
def bX3_clear_10 (k2 : Int32 → St → Option (Int32 × St)) (k10 : Int32 → Int32 → St → Option (Int32 × St)) (x1 : Int32) (x2 : Int32) (S : St) : Option (Int32 × St) :=
  if 24 ≤ x2 then lt (x1 + 1) (fun v1 => k2 v1 S) else ck x1 16 (ckn x1.toNatClampNeg 16 (ck x2 24 (lz (s2 S (39 + x1.toNatClampNeg) x2.toNatClampNeg 0) (fun S2 => lt (x2 + 1) (fun v3 => k10 x1 v3 S2)))))
def lX3_clear_10 (k2 : Int32 → St → Option (Int32 × St)) (n : Nat) : Int32 → Int32 → St → Option (Int32 × St) :=
  lp (fun k10 => bX3_clear_10 k2 k10) (fun _ _ _ => none) n
def bX3_clear_2 (k2 : Int32 → St → Option (Int32 × St)) (x1 : Int32) (S : St) : Option (Int32 × St) :=
  if 16 ≤ x1 then some (0, S) else lt 0 (fun v1 => lX3_clear_10 k2 FU x1 v1 S)
def lX3_clear_2 (n : Nat) : Int32 → St → Option (Int32 × St) :=
  lp (fun k2 => bX3_clear_2 k2) (fun _ _ => none) n
def uX3_clear (S : St) : Option (Int32 × St) :=
  lt 0 (fun v1 => lX3_clear_2 FU v1 S)
-- X3_wantedAt
def rX3_wantedAt : Room := { frames := 0, cells := 0, slots := 0, locals := 0 }
theorem inX3_wantedAt_X3 : ∀ w ∈ u_ws RX3 TX3 1, w ∈ wsX3_wantedAt := by decide +kernel
def uX3_wantedAt (x1 : Int32) (x2 : Int32) (S : St) : Option (Int32 × St) :=
  ck x1 16 (ckn x1.toNatClampNeg 16 (ck x2 24 (some (S (39 + x1.toNatClampNeg) x2.toNatClampNeg, S))))
-- X3_ask
def rX3_ask : Room := { frames := 0, cells := 0, slots := 0, locals := 0 }
theorem inX3_ask_X3 : ∀ w ∈ u_ws RX3 TX3 1, w ∈ wsX3_ask := by decide +kernel
def uX3_ask (x1 : Int32) (x2 : Int32) (x3 : Int32) (S : St) : Option (Int32 × St) :=
  ck x1 16 (ckn x1.toNatClampNeg 16 (ck x2 24 (lz (s2 S (39 + x1.toNatClampNeg) x2.toNatClampNeg x3) (fun S1 => some (0, S1)))))
-- X1_size
def rX1_size : Room := { frames := 0, cells := 0, slots := 0, locals := 0 }
theorem inX1_size_X1 : ∀ w ∈ u_ws RX1 TX1 4, w ∈ wsX1_size := by decide +kernel
def uX1_size (S : St) : Option (Int32 × St) :=
  some (S 8 3, S)
-- X1_add
def rX1_add : Room := { frames := 0, cells := 0, slots := 0, locals := 0 }
theorem inX1_add_X1 : ∀ w ∈ u_ws RX1 TX1 4, w ∈ wsX1_add := by decide +kernel
def uX1_add (x1 : Int32) (x2 : Int32) (x3 : Int32) (S : St) : Option (Int32 × St) :=
  ck (S 8 3) 60 (lz (s2 S 28 (S 8 3).toNatClampNeg x1) (fun S1 => ck (S1 8 3) 60 (lz (s2 S1 29 (S1 8 3).toNatClampNeg x2) (fun S2 => ck (S2 8 3) 60 (lz (s2 S2 30 (S2 8 3).toNatClampNeg x3) (fun S3 => lz (s2 S3 8 3 ((S3 8 3) + 1)) (fun S4 => some (0, S4))))))))
-- X1_inForce
def rX1_inForce : Room := { frames := 0, cells := 0, slots := 0, locals := 0 }
theorem inX1_inForce_X1 : ∀ w ∈ u_ws RX1 TX1 4, w ∈ wsX1_inForce := by decide +kernel
def bX1_inForce_67 (k8 : Int32 → Int32 → Int32 → Int32 → Int32 → St → Option (Int32 × St)) (x1 : Int32) (x2 : Int32) (x3 : Int32) (x4 : Int32) (x5 : Int32) (S : St) : Option (Int32 × St) :=
  lt (x5 + 1) (fun v1 => k8 x1 x2 x3 x4 v1 S)
def bX1_inForce_8 (k8 : Int32 → Int32 → Int32 → Int32 → Int32 → St → Option (Int32 × St)) (x1 : Int32) (x2 : Int32) (x3 : Int32) (x4 : Int32) (x5 : Int32) (S : St) : Option (Int32 × St) :=
  if (S 8 3) ≤ x5 then some (x4, S) else ck x5 60 (if (S 29 x5.toNatClampNeg) = x2 then ck x5 60 (if x1 < (S 28 x5.toNatClampNeg) then bX1_inForce_67 k8 x1 x2 x3 x4 x5 S else ck x5 60 (if (S 28 x5.toNatClampNeg) < x3 then bX1_inForce_67 k8 x1 x2 x3 x4 x5 S else ck x5 60 (lt (S 28 x5.toNatClampNeg) (fun v1 => ck x5 60 (lt (S 30 x5.toNatClampNeg) (fun v2 => bX1_inForce_67 k8 x1 x2 v1 v2 x5 S)))))) else bX1_inForce_67 k8 x1 x2 x3 x4 x5 S)
def lX1_inForce_8 (n : Nat) : Int32 → Int32 → Int32 → Int32 → Int32 → St → Option (Int32 × St) :=
  lp (fun k8 => bX1_inForce_8 k8) (fun _ _ _ _ _ _ => none) n
def uX1_inForce (x1 : Int32) (x2 : Int32) (S : St) : Option (Int32 × St) :=
  lt ((-1)) (fun v1 => lt 0 (fun v2 => lt 0 (fun v3 => lX1_inForce_8 FU x1 x2 v1 v2 v3 S)))
section
variable {N : Nat} {C : St → Nat → va_E} {Ev : (Nat → Prop) → State → Prop} {tys : List (ClassId × FieldType)} {l : Launch} {D : va_G} {cI cZ cO cJ : ClassId} {a : Nat → Nat} {tF : Nat}
set_option maxHeartbeats 4000000 in
set_option maxRecDepth 100000 in
theorem mJ6_bitCount_0f7a4 (x0 : Int32) (S : St) : ∀ q, uJ6_bitCount_0f7a4 x0 S = some q → Ki l yJ6_bitCount_0f7a4 wsJ6_bitCount_0f7a4 rJ6_bitCount_0f7a4 D (tys) N a (C) (Ev) [.int x0] S q := by
  refine m_Ki (cc := cJ6_bitCount_0f7a4) (nL := 1) (ret := (some .int)) (lv := [(0, .int x0)]) (by decide) rfl (Nat.le_of_ble_eq_true rfl) rfl ?_
  intro p e s m args below meth c hc hr hlk hE
  unfold uJ6_bitCount_0f7a4
  refine g_iload_n (j := 0) hc dJ6_bitCount_0f7a4_0 rfl rfl ?_
  refine g_iload_n (j := 0) hc dJ6_bitCount_0f7a4_1 rfl rfl ?_
  refine g_iconst (v := 1) hc dJ6_bitCount_0f7a4_2 (by decide) ?_
  refine g_iushr hc dJ6_bitCount_0f7a4_3 ?_
  refine g_ldcw (v := 1431655765) hc dJ6_bitCount_0f7a4_4 (List.mem_of_getElem? (i := 1) rfl) ?_
  refine g_iand hc dJ6_bitCount_0f7a4_7 ?_
  refine g_isub hc dJ6_bitCount_0f7a4_8 ?_
  refine g_istore_n (L := fun v1 => [(0, .int v1)]) hc dJ6_bitCount_0f7a4_9 rfl (by decide) (fun _ => rfl) (fun v1 => ?_)
  refine g_iload_n (j := 0) hc dJ6_bitCount_0f7a4_10 rfl rfl ?_
  refine g_ldcw (v := 858993459) hc dJ6_bitCount_0f7a4_11 (List.mem_of_getElem? (i := 2) rfl) ?_
  refine g_iand hc dJ6_bitCount_0f7a4_14 ?_
  refine g_iload_n (j := 0) hc dJ6_bitCount_0f7a4_15 rfl rfl ?_
  refine g_iconst (v := 2) hc dJ6_bitCount_0f7a4_16 (by decide) ?_
  refine g_iushr hc dJ6_bitCount_0f7a4_17 ?_
  refine g_ldcw (v := 858993459) hc dJ6_bitCount_0f7a4_18 (List.mem_of_getElem? (i := 2) rfl) ?_
  refine g_iand hc dJ6_bitCount_0f7a4_21 ?_
  refine g_iadd hc dJ6_bitCount_0f7a4_22 ?_
  refine g_istore_n (L := fun v2 => [(0, .int v2)]) hc dJ6_bitCount_0f7a4_23 rfl (by decide) (fun _ => rfl) (fun v2 => ?_)
  refine g_iload_n (j := 0) hc dJ6_bitCount_0f7a4_24 rfl rfl ?_
  refine g_iload_n (j := 0) hc dJ6_bitCount_0f7a4_25 rfl rfl ?_
  refine g_iconst (v := 4) hc dJ6_bitCount_0f7a4_26 (by decide) ?_
  refine g_iushr hc dJ6_bitCount_0f7a4_27 ?_
  refine g_iadd hc dJ6_bitCount_0f7a4_28 ?_
  refine g_ldcw (v := 252645135) hc dJ6_bitCount_0f7a4_29 (List.mem_of_getElem? (i := 3) rfl) ?_
  refine g_iand hc dJ6_bitCount_0f7a4_32 ?_
  refine g_istore_n (L := fun v3 => [(0, .int v3)]) hc dJ6_bitCount_0f7a4_33 rfl (by decide) (fun _ => rfl) (fun v3 => ?_)
  refine g_iload_n (j := 0) hc dJ6_bitCount_0f7a4_34 rfl rfl ?_
  refine g_iload_n (j := 0) hc dJ6_bitCount_0f7a4_35 rfl rfl ?_
  refine g_bipush (v := 8) hc dJ6_bitCount_0f7a4_36 (by decide) ?_
  refine g_iushr hc dJ6_bitCount_0f7a4_38 ?_
  refine g_iadd hc dJ6_bitCount_0f7a4_39 ?_
  refine g_istore_n (L := fun v4 => [(0, .int v4)]) hc dJ6_bitCount_0f7a4_40 rfl (by decide) (fun _ => rfl) (fun v4 => ?_)
  refine g_iload_n (j := 0) hc dJ6_bitCount_0f7a4_41 rfl rfl ?_
  refine g_iload_n (j := 0) hc dJ6_bitCount_0f7a4_42 rfl rfl ?_
  refine g_bipush (v := 16) hc dJ6_bitCount_0f7a4_43 (by decide) ?_
  refine g_iushr hc dJ6_bitCount_0f7a4_45 ?_
  refine g_iadd hc dJ6_bitCount_0f7a4_46 ?_
  refine g_istore_n (L := fun v5 => [(0, .int v5)]) hc dJ6_bitCount_0f7a4_47 rfl (by decide) (fun _ => rfl) (fun v5 => ?_)
  refine g_iload_n (j := 0) hc dJ6_bitCount_0f7a4_48 rfl rfl ?_
  refine g_bipush (v := 63) hc dJ6_bitCount_0f7a4_49 (by decide) ?_
  refine g_iand hc dJ6_bitCount_0f7a4_51 ?_
  exact g_iret hc hr hlk dJ6_bitCount_0f7a4_52
set_option maxHeartbeats 4000000 in
set_option maxRecDepth 100000 in
theorem mX8_dyeOf (x0 : Int32) (x1 : Int32) (S : St) : ∀ q, uX8_dyeOf x0 x1 S = some q → Ki l yX8_dyeOf wsX8_dyeOf rX8_dyeOf D (tyW cI cZ cO) 72 a (cX cI cZ cO a) (EvX tF) [.int x0, .int x1] S q := by
  refine m_Ki (cc := cX8_dyeOf) (nL := 2) (ret := (some .int)) (lv := [(0, .int x0), (1, .int x1)]) (by decide) rfl (Nat.le_of_ble_eq_true rfl) rfl ?_
  intro p e s m args below meth c hc hr hlk hE
  unfold uX8_dyeOf
  refine g_iload_n (j := 0) hc dX8_dyeOf_0 rfl rfl ?_
  refine g_iconst (v := 3) hc dX8_dyeOf_1 (by decide) ?_
  refine g_iload_n (j := 1) hc dX8_dyeOf_2 rfl rfl ?_
  refine g_imul hc dX8_dyeOf_3 ?_
  refine g_ishr hc dX8_dyeOf_4 ?_
  refine g_bipush (v := 7) hc dX8_dyeOf_5 (by decide) ?_
  refine g_iand hc dX8_dyeOf_7 ?_
  refine g_iconst (v := 1) hc dX8_dyeOf_8 (by decide) ?_
  refine g_isub hc dX8_dyeOf_9 ?_
  exact g_iret hc hr hlk dX8_dyeOf_10
set_option maxHeartbeats 4000000 in
set_option maxRecDepth 100000 in
theorem tX8_bathsOf_22 {p : Program} {e : Env} {s : State} {m : MethodId} {args : Array Value} {below : List Frame} {meth : Method} {c : Code} (hc : CT p s m args c cX8_bathsOf 2 RX8 wsX8_bathsOf D (tyW cI cZ cO)) (hr : meth.sig.returnType = (some .int)) (hlk : meth.locks = false) (hE : EvX tF (AA 72 a s.heap.size) s) (x1 : Int32) (S : St) : GF p l e rX8_bathsOf s m args below meth c D 72 a (cX cI cZ cO a) (AA 72 a s.heap.size) 2 0 0 (fun res => MQ below (va_Qi (fun r u => (r, u) = res) (Bw D (tyW cI cZ cO) 72 a (cX cI cZ cO a) (AA 72 a s.heap.size)) (AA 72 a s.heap.size)) args s 0 0 (AA 72 a s.heap.size)) (bX8_bathsOf_22 x1 S) 22 [(1, .int x1)] [] S := by
  unfold bX8_bathsOf_22
  refine g_iload_n (j := 0) hc dX8_bathsOf_22 rfl rfl ?_
  exact g_iret hc hr hlk dX8_bathsOf_23
set_option maxHeartbeats 4000000 in
set_option maxRecDepth 100000 in
theorem tX8_bathsOf_2 {p : Program} {e : Env} {s : State} {m : MethodId} {args : Array Value} {below : List Frame} {meth : Method} {c : Code} (hc : CT p s m args c cX8_bathsOf 2 RX8 wsX8_bathsOf D (tyW cI cZ cO)) (hr : meth.sig.returnType = (some .int)) (hlk : meth.locks = false) (hE : EvX tF (AA 72 a s.heap.size) s) (k2 : Int32 → Int32 → St → Option (Int32 × St)) (hk2 : ∀ (x0 : Int32) (x1 : Int32) (S : St), GF p l e rX8_bathsOf s m args below meth c D 72 a (cX cI cZ cO a) (AA 72 a s.heap.size) 2 0 0 (fun res => MQ below (va_Qi (fun r u => (r, u) = res) (Bw D (tyW cI cZ cO) 72 a (cX cI cZ cO a) (AA 72 a s.heap.size)) (AA 72 a s.heap.size)) args s 0 0 (AA 72 a s.heap.size)) (k2 x0 x1 S) 2 [(0, .int x0), (1, .int x1)] [] S) (x0 : Int32) (x1 : Int32) (S : St) : GF p l e rX8_bathsOf s m args below meth c D 72 a (cX cI cZ cO a) (AA 72 a s.heap.size) 2 0 0 (fun res => MQ below (va_Qi (fun r u => (r, u) = res) (Bw D (tyW cI cZ cO) 72 a (cX cI cZ cO a) (AA 72 a s.heap.size)) (AA 72 a s.heap.size)) args s 0 0 (AA 72 a s.heap.size)) (bX8_bathsOf_2 k2 x0 x1 S) 2 [(0, .int x0), (1, .int x1)] [] S := by
  unfold bX8_bathsOf_2
  refine g_iload_n (j := 1) hc dX8_bathsOf_2 rfl rfl ?_
  refine g_iconst (v := 4) hc dX8_bathsOf_3 (by decide) ?_
  refine g_icmp_ge (tgt := 22) hc dX8_bathsOf_4 (by decide) ?_ ?_
  · refine g_lv [1] rfl ?_
    exact tX8_bathsOf_22 hc hr hlk hE x1 S
  · refine g_iload_n (j := 0) hc dX8_bathsOf_7 rfl rfl ?_
    refine g_iload_n (j := 1) hc dX8_bathsOf_8 rfl rfl ?_
    refine g_callSi (As := [.int x0, .int x1]) (rest := []) hc hE trX rfl (fun _ h => mX8_dyeOf x0 x1 S _ h) (va_cwS 2 hc.1.2.2.2.2 gX8_bathsOf_X8_dyeOf rfl rfl rfl (by decide +kernel) ⟨by decide, by decide⟩) rfl rfl (Nat.le_of_ble_eq_true rfl) dX8_bathsOf_9 ⟨by decide, by decide⟩ (fun v1 S2 => ?_)
    refine g_iconst (v := -1) hc dX8_bathsOf_12 (by decide) ?_
    refine g_icmp_eq (tgt := 22) hc dX8_bathsOf_13 (by decide) ?_ ?_
    · refine g_lv [1] rfl ?_
      exact tX8_bathsOf_22 hc hr hlk hE x1 S2
    · refine g_iinc (j := 1) (w := x1 + 1) (L := fun v3 => [(1, .int v3), (0, .int x0)]) hc dX8_bathsOf_16 rfl (by rfl) (by decide) (fun _ => rfl) (fun v3 => ?_)
      refine g_goto (tgt := 2) hc dX8_bathsOf_19 (by decide) ?_
      refine g_lv [1, 0] rfl ?_
      exact hk2 x0 v3 S2
set_option maxHeartbeats 4000000 in
set_option maxRecDepth 100000 in
theorem TX8_bathsOf_2 {p : Program} {e : Env} {s : State} {m : MethodId} {args : Array Value} {below : List Frame} {meth : Method} {c : Code} (hc : CT p s m args c cX8_bathsOf 2 RX8 wsX8_bathsOf D (tyW cI cZ cO)) (hr : meth.sig.returnType = (some .int)) (hlk : meth.locks = false) (hE : EvX tF (AA 72 a s.heap.size) s) (n : Nat) (x0 : Int32) (x1 : Int32) (S : St) : GF p l e rX8_bathsOf s m args below meth c D 72 a (cX cI cZ cO a) (AA 72 a s.heap.size) 2 0 0 (fun res => MQ below (va_Qi (fun r u => (r, u) = res) (Bw D (tyW cI cZ cO) 72 a (cX cI cZ cO a) (AA 72 a s.heap.size)) (AA 72 a s.heap.size)) args s 0 0 (AA 72 a s.heap.size)) (lX8_bathsOf_2 n x0 x1 S) 2 [(0, .int x0), (1, .int x1)] [] S :=
  lp_ind (P := fun k : Int32 → Int32 → St → Option (Int32 × St) => ∀ (x0 : Int32) (x1 : Int32) (S : St), GF p l e rX8_bathsOf s m args below meth c D 72 a (cX cI cZ cO a) (AA 72 a s.heap.size) 2 0 0 (fun res => MQ below (va_Qi (fun r u => (r, u) = res) (Bw D (tyW cI cZ cO) 72 a (cX cI cZ cO a) (AA 72 a s.heap.size)) (AA 72 a s.heap.size)) args s 0 0 (AA 72 a s.heap.size)) (k x0 x1 S) 2 [(0, .int x0), (1, .int x1)] [] S) (fun _ _ _ => g_none) (fun k2 hk2 => tX8_bathsOf_2 hc hr hlk hE k2 hk2) n x0 x1 S
set_option maxHeartbeats 4000000 in
set_option maxRecDepth 100000 in
theorem mX8_bathsOf (x0 : Int32) (S : St) : ∀ q, uX8_bathsOf x0 S = some q → Ki l yX8_bathsOf wsX8_bathsOf rX8_bathsOf D (tyW cI cZ cO) 72 a (cX cI cZ cO a) (EvX tF) [.int x0] S q := by
  refine m_Ki (cc := cX8_bathsOf) (nL := 2) (ret := (some .int)) (lv := [(0, .int x0)]) (by decide) rfl (Nat.le_of_ble_eq_true rfl) rfl ?_
  intro p e s m args below meth c hc hr hlk hE
  unfold uX8_bathsOf
  refine g_iconst (v := 0) hc dX8_bathsOf_0 (by decide) ?_
  refine g_istore_n (L := fun v1 => [(1, .int v1), (0, .int x0)]) hc dX8_bathsOf_1 rfl (by decide) (fun _ => rfl) (fun v1 => ?_)
  refine g_lv [1, 0] rfl ?_
  exact TX8_bathsOf_2 hc hr hlk hE FU x0 v1 S
set_option maxHeartbeats 4000000 in
set_option maxRecDepth 100000 in
theorem mX4_bitsAt (x1 : Int32) (x2 : Int32) (S : St) : ∀ q, uX4_bitsAt x1 x2 S = some q → Ki l yX4_bitsAt wsX4_bitsAt rX4_bitsAt D (tyW cI cZ cO) 72 a (cX cI cZ cO a) (EvX tF) [.ref (a 6), .int x1, .int x2] S q := by
  refine m_Ki (cc := cX4_bitsAt) (nL := 3) (ret := (some .int)) (lv := [(0, .ref (a 6)), (1, .int x1), (2, .int x2)]) (by decide) rfl (Nat.le_of_ble_eq_true rfl) rfl ?_
  intro p e s m args below meth c hc hr hlk hE
  unfold uX4_bitsAt
  refine g_aload_n (j := 0) hc dX4_bitsAt_0 rfl rfl ?_
  refine g_get (C0 := RX4) (T := TX4) (M := 4) (k := 6) (ci := 4) hc inX4_bitsAt_X4 (by decide) rfl rfl 3 (by decide) (List.mem_of_getElem? (i := 1) rfl) rfl rfl dX4_bitsAt_1 ?_
  refine g_iload_n (j := 1) hc dX4_bitsAt_4 rfl rfl ?_
  refine g_aald (k := 63) (base := 64) (t0 := 2) hc (by decide) rfl rfl dX4_bitsAt_5 ?_
  refine g_iload_n (j := 2) hc dX4_bitsAt_6 rfl rfl ?_
  refine g_ialdr (base := 64) (cnt := 8) (t0 := 0) hc (by decide) (fun S r h => rowX_64 S h) rfl dX4_bitsAt_7 ?_
  exact g_iret hc hr hlk dX4_bitsAt_8
set_option maxHeartbeats 4000000 in
set_option maxRecDepth 100000 in
theorem mX4_drop (S : St) : ∀ q, uX4_drop S = some q → Kv l yX4_drop wsX4_drop rX4_drop D (tyW cI cZ cO) 72 a (cX cI cZ cO a) (EvX tF) [.ref (a 6)] S q := by
  refine m_Kv (cc := cX4_drop) (nL := 1) (ret := none) (lv := [(0, .ref (a 6))]) (by decide) rfl (Nat.le_of_ble_eq_true rfl) rfl ?_
  intro p e s m args below meth c hc hr hlk hE
  unfold uX4_drop
  refine g_aload_n (j := 0) hc dX4_drop_0 rfl rfl ?_
  refine g_iconst (v := 0) hc dX4_drop_1 (by decide) ?_
  refine g_put (ty := .boolean) (C0 := RX4) (T := TX4) (M := 4) (k := 6) (ci := 4) hc locX tyX4 tyX4_ok nmX4 inX4_drop_X4 (by decide) rfl rfl 0 (by decide) (List.mem_of_getElem? (i := 1) rfl) rfl rfl (by decide +kernel) (by decide) (by decide) (Nat.le_of_ble_eq_true rfl) rfl rfl dX4_drop_2 (fun S1 => ?_)
  exact g_vret hc hr hlk dX4_drop_5
set_option maxHeartbeats 4000000 in
set_option maxRecDepth 100000 in
theorem mX4_begin (x1 : Int32) (S : St) : ∀ q, uX4_begin x1 S = some q → Kv l yX4_begin wsX4_begin rX4_begin D (tyW cI cZ cO) 72 a (cX cI cZ cO a) (EvX tF) [.ref (a 6), .int x1] S q := by
  refine m_Kv (cc := cX4_begin) (nL := 2) (ret := none) (lv := [(0, .ref (a 6)), (1, .int x1)]) (by decide) rfl (Nat.le_of_ble_eq_true rfl) rfl ?_
  intro p e s m args below meth c hc hr hlk hE
  unfold uX4_begin
  refine g_aload_n (j := 0) hc dX4_begin_0 rfl rfl ?_
  refine g_iconst (v := 1) hc dX4_begin_1 (by decide) ?_
  refine g_put (ty := .boolean) (C0 := RX4) (T := TX4) (M := 4) (k := 6) (ci := 4) hc locX tyX4 tyX4_ok nmX4 inX4_begin_X4 (by decide) rfl rfl 0 (by decide) (List.mem_of_getElem? (i := 1) rfl) rfl rfl (by decide +kernel) (by decide) (by decide) (Nat.le_of_ble_eq_true rfl) rfl rfl dX4_begin_2 (fun S1 => ?_)
  refine g_aload_n (j := 0) hc dX4_begin_5 rfl rfl ?_
  refine g_iload_n (j := 1) hc dX4_begin_6 rfl rfl ?_
  refine g_put (ty := .int) (C0 := RX4) (T := TX4) (M := 4) (k := 6) (ci := 4) hc locX tyX4 tyX4_ok nmX4 inX4_begin_X4 (by decide) rfl rfl 1 (by decide) (List.mem_of_getElem? (i := 2) rfl) rfl rfl (by decide +kernel) rfl rfl (Nat.le_of_ble_eq_true rfl) rfl rfl dX4_begin_7 (fun S2 => ?_)
  refine g_aload_n (j := 0) hc dX4_begin_10 rfl rfl ?_
  refine g_iconst (v := 0) hc dX4_begin_11 (by decide) ?_
  refine g_put (ty := .int) (C0 := RX4) (T := TX4) (M := 4) (k := 6) (ci := 4) hc locX tyX4 tyX4_ok nmX4 inX4_begin_X4 (by decide) rfl rfl 2 (by decide) (List.mem_of_getElem? (i := 3) rfl) rfl rfl (by decide +kernel) rfl rfl (Nat.le_of_ble_eq_true rfl) rfl rfl dX4_begin_12 (fun S3 => ?_)
  exact g_vret hc hr hlk dX4_begin_15
set_option maxHeartbeats 4000000 in
set_option maxRecDepth 100000 in
theorem mX4_addTies (x1 : Int32) (S : St) : ∀ q, uX4_addTies x1 S = some q → Kv l yX4_addTies wsX4_addTies rX4_addTies D (tyW cI cZ cO) 72 a (cX cI cZ cO a) (EvX tF) [.ref (a 6), .int x1] S q := by
  refine m_Kv (cc := cX4_addTies) (nL := 2) (ret := none) (lv := [(0, .ref (a 6)), (1, .int x1)]) (by decide) rfl (Nat.le_of_ble_eq_true rfl) rfl ?_
  intro p e s m args below meth c hc hr hlk hE
  unfold uX4_addTies
  refine g_aload_n (j := 0) hc dX4_addTies_0 rfl rfl ?_
  refine g_dup hc dX4_addTies_1 rfl ?_
  refine g_get (C0 := RX4) (T := TX4) (M := 4) (k := 6) (ci := 4) hc inX4_addTies_X4 (by decide) rfl rfl 2 (by decide) (List.mem_of_getElem? (i := 1) rfl) rfl rfl dX4_addTies_2 ?_
  refine g_iload_n (j := 1) hc dX4_addTies_5 rfl rfl ?_
  refine g_iadd hc dX4_addTies_6 ?_
  refine g_put (ty := .int) (C0 := RX4) (T := TX4) (M := 4) (k := 6) (ci := 4) hc locX tyX4 tyX4_ok nmX4 inX4_addTies_X4 (by decide) rfl rfl 2 (by decide) (List.mem_of_getElem? (i := 1) rfl) rfl rfl (by decide +kernel) rfl rfl (Nat.le_of_ble_eq_true rfl) rfl rfl dX4_addTies_7 (fun S1 => ?_)
  exact g_vret hc hr hlk dX4_addTies_10
set_option maxHeartbeats 4000000 in
set_option maxRecDepth 100000 in
theorem mX4_write (x1 : Int32) (x2 : Int32) (x3 : Int32) (S : St) : ∀ q, uX4_write x1 x2 x3 S = some q → Kv l yX4_write wsX4_write rX4_write D (tyW cI cZ cO) 72 a (cX cI cZ cO a) (EvX tF) [.ref (a 6), .int x1, .int x2, .int x3] S q := by
  refine m_Kv (cc := cX4_write) (nL := 4) (ret := none) (lv := [(0, .ref (a 6)), (1, .int x1), (2, .int x2), (3, .int x3)]) (by decide) rfl (Nat.le_of_ble_eq_true rfl) rfl ?_
  intro p e s m args below meth c hc hr hlk hE
  unfold uX4_write
  refine g_aload_n (j := 0) hc dX4_write_0 rfl rfl ?_
  refine g_get (C0 := RX4) (T := TX4) (M := 4) (k := 6) (ci := 4) hc inX4_write_X4 (by decide) rfl rfl 3 (by decide) (List.mem_of_getElem? (i := 1) rfl) rfl rfl dX4_write_1 ?_
  refine g_iload_n (j := 1) hc dX4_write_4 rfl rfl ?_
  refine g_aald (k := 63) (base := 64) (t0 := 2) hc (by decide) rfl rfl dX4_write_5 ?_
  refine g_iload_n (j := 2) hc dX4_write_6 rfl rfl ?_
  refine g_iload_n (j := 3) hc dX4_write_7 rfl rfl ?_
  refine g_iastr (base := 64) (cnt := 8) (t0 := 0) hc locX (by decide) (fun S r h => rowX_64 S h) rfl dX4_write_8 (fun S1 => ?_)
  exact g_vret hc hr hlk dX4_write_9
set_option maxHeartbeats 4000000 in
set_option maxRecDepth 100000 in
theorem mX4_exists (S : St) : ∀ q, uX4_exists S = some q → Ki l yX4_exists wsX4_exists rX4_exists D (tyW cI cZ cO) 72 a (cX cI cZ cO a) (EvX tF) [.ref (a 6)] S q := by
  refine m_Ki (cc := cX4_exists) (nL := 1) (ret := (some .boolean)) (lv := [(0, .ref (a 6))]) (by decide) rfl (Nat.le_of_ble_eq_true rfl) rfl ?_
  intro p e s m args below meth c hc hr hlk hE
  unfold uX4_exists
  refine g_aload_n (j := 0) hc dX4_exists_0 rfl rfl ?_
  refine g_get (C0 := RX4) (T := TX4) (M := 4) (k := 6) (ci := 4) hc inX4_exists_X4 (by decide) rfl rfl 0 (by decide) (List.mem_of_getElem? (i := 1) rfl) rfl rfl dX4_exists_1 ?_
  exact g_zret hc hr hlk dX4_exists_4
set_option maxHeartbeats 4000000 in
set_option maxRecDepth 100000 in
theorem mX4_row (S : St) : ∀ q, uX4_row S = some q → Ki l yX4_row wsX4_row rX4_row D (tyW cI cZ cO) 72 a (cX cI cZ cO a) (EvX tF) [.ref (a 6)] S q := by
  refine m_Ki (cc := cX4_row) (nL := 1) (ret := (some .int)) (lv := [(0, .ref (a 6))]) (by decide) rfl (Nat.le_of_ble_eq_true rfl) rfl ?_
  intro p e s m args below meth c hc hr hlk hE
  unfold uX4_row
  refine g_aload_n (j := 0) hc dX4_row_0 rfl rfl ?_
  refine g_get (C0 := RX4) (T := TX4) (M := 4) (k := 6) (ci := 4) hc inX4_row_X4 (by decide) rfl rfl 1 (by decide) (List.mem_of_getElem? (i := 1) rfl) rfl rfl dX4_row_1 ?_
  exact g_iret hc hr hlk dX4_row_4
set_option maxHeartbeats 4000000 in
set_option maxRecDepth 100000 in
theorem mX4_ties (S : St) : ∀ q, uX4_ties S = some q → Ki l yX4_ties wsX4_ties rX4_ties D (tyW cI cZ cO) 72 a (cX cI cZ cO a) (EvX tF) [.ref (a 6)] S q := by
  refine m_Ki (cc := cX4_ties) (nL := 1) (ret := (some .int)) (lv := [(0, .ref (a 6))]) (by decide) rfl (Nat.le_of_ble_eq_true rfl) rfl ?_
  intro p e s m args below meth c hc hr hlk hE
  unfold uX4_ties
  refine g_aload_n (j := 0) hc dX4_ties_0 rfl rfl ?_
  refine g_get (C0 := RX4) (T := TX4) (M := 4) (k := 6) (ci := 4) hc inX4_ties_X4 (by decide) rfl rfl 2 (by decide) (List.mem_of_getElem? (i := 1) rfl) rfl rfl dX4_ties_1 ?_
  exact g_iret hc hr hlk dX4_ties_4
set_option maxHeartbeats 4000000 in
set_option maxRecDepth 100000 in
theorem mX2_comesOf (x1 : Int32) (x2 : Int32) (S : St) : ∀ q, uX2_comesOf x1 x2 S = some q → Ki l yX2_comesOf wsX2_comesOf rX2_comesOf D (tyW cI cZ cO) 72 a (cX cI cZ cO a) (EvX tF) [.ref (a 1), .int x1, .int x2] S q := by
  refine m_Ki (cc := cX2_comesOf) (nL := 3) (ret := (some .int)) (lv := [(0, .ref (a 1)), (1, .int x1), (2, .int x2)]) (by decide) rfl (Nat.le_of_ble_eq_true rfl) rfl ?_
  intro p e s m args below meth c hc hr hlk hE
  unfold uX2_comesOf
  refine g_aload_n (j := 0) hc dX2_comesOf_0 rfl rfl ?_
  refine g_get (C0 := RX2) (T := TX2) (M := 1) (k := 1) (ci := 2) hc inX2_comesOf_X2 (by decide) rfl rfl 0 (by decide) (List.mem_of_getElem? (i := 1) rfl) rfl rfl dX2_comesOf_1 ?_
  refine g_iload_n (j := 1) hc dX2_comesOf_4 rfl rfl ?_
  refine g_iconst (v := 4) hc dX2_comesOf_5 (by decide) ?_
  refine g_imul hc dX2_comesOf_6 ?_
  refine g_iload_n (j := 2) hc dX2_comesOf_7 rfl rfl ?_
  refine g_iadd hc dX2_comesOf_8 ?_
  refine g_iald (k := 9) (t0 := 0) hc (by decide) rfl rfl dX2_comesOf_9 ?_
  exact g_iret hc hr hlk dX2_comesOf_10
set_option maxHeartbeats 4000000 in
set_option maxRecDepth 100000 in
theorem mX2_tell (x1 : Int32) (x2 : Int32) (x3 : Int32) (S : St) : ∀ q, uX2_tell x1 x2 x3 S = some q → Kv l yX2_tell wsX2_tell rX2_tell D (tyW cI cZ cO) 72 a (cX cI cZ cO a) (EvX tF) [.ref (a 1), .int x1, .int x2, .int x3] S q := by
  refine m_Kv (cc := cX2_tell) (nL := 4) (ret := none) (lv := [(0, .ref (a 1)), (1, .int x1), (2, .int x2), (3, .int x3)]) (by decide) rfl (Nat.le_of_ble_eq_true rfl) rfl ?_
  intro p e s m args below meth c hc hr hlk hE
  unfold uX2_tell
  refine g_aload_n (j := 0) hc dX2_tell_0 rfl rfl ?_
  refine g_get (C0 := RX2) (T := TX2) (M := 1) (k := 1) (ci := 2) hc inX2_tell_X2 (by decide) rfl rfl 0 (by decide) (List.mem_of_getElem? (i := 1) rfl) rfl rfl dX2_tell_1 ?_
  refine g_iload_n (j := 1) hc dX2_tell_4 rfl rfl ?_
  refine g_iconst (v := 4) hc dX2_tell_5 (by decide) ?_
  refine g_imul hc dX2_tell_6 ?_
  refine g_iload_n (j := 2) hc dX2_tell_7 rfl rfl ?_
  refine g_iadd hc dX2_tell_8 ?_
  refine g_iload_n (j := 3) hc dX2_tell_9 rfl rfl ?_
  refine g_iast (k := 9) (t0 := 0) hc locX (by decide) rfl rfl rfl dX2_tell_10 (fun S1 => ?_)
  exact g_vret hc hr hlk dX2_tell_11
set_option maxHeartbeats 4000000 in
set_option maxRecDepth 100000 in
theorem tX3_clear_10 {p : Program} {e : Env} {s : State} {m : MethodId} {args : Array Value} {below : List Frame} {meth : Method} {c : Code} (hc : CT p s m args c cX3_clear 3 RX3 wsX3_clear D (tyW cI cZ cO)) (hr : meth.sig.returnType = none) (hlk : meth.locks = false) (hE : EvX tF (AA 72 a s.heap.size) s) (k2 : Int32 → St → Option (Int32 × St)) (hk2 : ∀ (x1 : Int32) (S : St), GF p l e rX3_clear s m args below meth c D 72 a (cX cI cZ cO a) (AA 72 a s.heap.size) 3 0 0 (fun res => MQ below (va_Qv (fun u => ((0 : Int32), u) = res) (Bw D (tyW cI cZ cO) 72 a (cX cI cZ cO a) (AA 72 a s.heap.size)) (AA 72 a s.heap.size)) args s 0 0 (AA 72 a s.heap.size)) (k2 x1 S) 2 [(0, .ref (a 4)), (1, .int x1)] [] S) (k10 : Int32 → Int32 → St → Option (Int32 × St)) (hk10 : ∀ (x1 : Int32) (x2 : Int32) (S : St), GF p l e rX3_clear s m args below meth c D 72 a (cX cI cZ cO a) (AA 72 a s.heap.size) 3 0 0 (fun res => MQ below (va_Qv (fun u => ((0 : Int32), u) = res) (Bw D (tyW cI cZ cO) 72 a (cX cI cZ cO a) (AA 72 a s.heap.size)) (AA 72 a s.heap.size)) args s 0 0 (AA 72 a s.heap.size)) (k10 x1 x2 S) 10 [(0, .ref (a 4)), (1, .int x1), (2, .int x2)] [] S) (x1 : Int32) (x2 : Int32) (S : St) : GF p l e rX3_clear s m args below meth c D 72 a (cX cI cZ cO a) (AA 72 a s.heap.size) 3 0 0 (fun res => MQ below (va_Qv (fun u => ((0 : Int32), u) = res) (Bw D (tyW cI cZ cO) 72 a (cX cI cZ cO a) (AA 72 a s.heap.size)) (AA 72 a s.heap.size)) args s 0 0 (AA 72 a s.heap.size)) (bX3_clear_10 k2 k10 x1 x2 S) 10 [(0, .ref (a 4)), (1, .int x1), (2, .int x2)] [] S := by
  unfold bX3_clear_10
  refine g_iload_n (j := 2) hc dX3_clear_10 rfl rfl ?_
  refine g_bipush (v := 24) hc dX3_clear_11 (by decide) ?_
  refine g_icmp_ge (tgt := 31) hc dX3_clear_13 (by decide) ?_ ?_
  · refine g_iinc (j := 1) (w := x1 + 1) (L := fun v1 => [(1, .int v1), (0, .ref (a 4)), (2, .int x2)]) hc dX3_clear_31 rfl (by rfl) (by decide) (fun _ => rfl) (fun v1 => ?_)
    refine g_goto (tgt := 2) hc dX3_clear_34 (by decide) ?_
    refine g_lv [1, 0] rfl ?_
    exact hk2 v1 S
  · refine g_aload_n (j := 0) hc dX3_clear_16 rfl rfl ?_
    refine g_get (C0 := RX3) (T := TX3) (M := 1) (k := 4) (ci := 3) hc inX3_clear_X3 (by decide) rfl rfl 0 (by decide) (List.mem_of_getElem? (i := 1) rfl) rfl rfl dX3_clear_17 ?_
    refine g_iload_n (j := 1) hc dX3_clear_20 rfl rfl ?_
    refine g_aald (k := 17) (base := 39) (t0 := 2) hc (by decide) rfl rfl dX3_clear_21 ?_
    refine g_iload_n (j := 2) hc dX3_clear_22 rfl rfl ?_
    refine g_iconst (v := 0) hc dX3_clear_23 (by decide) ?_
    refine g_iastr (base := 39) (cnt := 16) (t0 := 0) hc locX (by decide) (fun S r h => rowX_39 S h) rfl dX3_clear_24 (fun S2 => ?_)
    refine g_iinc (j := 2) (w := x2 + 1) (L := fun v3 => [(2, .int v3), (0, .ref (a 4)), (1, .int x1)]) hc dX3_clear_25 rfl (by rfl) (by decide) (fun _ => rfl) (fun v3 => ?_)
    refine g_goto (tgt := 10) hc dX3_clear_28 (by decide) ?_
    refine g_lv [1, 2, 0] rfl ?_
    exact hk10 x1 v3 S2
set_option maxHeartbeats 4000000 in
set_option maxRecDepth 100000 in
theorem TX3_clear_10 {p : Program} {e : Env} {s : State} {m : MethodId} {args : Array Value} {below : List Frame} {meth : Method} {c : Code} (hc : CT p s m args c cX3_clear 3 RX3 wsX3_clear D (tyW cI cZ cO)) (hr : meth.sig.returnType = none) (hlk : meth.locks = false) (hE : EvX tF (AA 72 a s.heap.size) s) (k2 : Int32 → St → Option (Int32 × St)) (hk2 : ∀ (x1 : Int32) (S : St), GF p l e rX3_clear s m args below meth c D 72 a (cX cI cZ cO a) (AA 72 a s.heap.size) 3 0 0 (fun res => MQ below (va_Qv (fun u => ((0 : Int32), u) = res) (Bw D (tyW cI cZ cO) 72 a (cX cI cZ cO a) (AA 72 a s.heap.size)) (AA 72 a s.heap.size)) args s 0 0 (AA 72 a s.heap.size)) (k2 x1 S) 2 [(0, .ref (a 4)), (1, .int x1)] [] S) (n : Nat) (x1 : Int32) (x2 : Int32) (S : St) : GF p l e rX3_clear s m args below meth c D 72 a (cX cI cZ cO a) (AA 72 a s.heap.size) 3 0 0 (fun res => MQ below (va_Qv (fun u => ((0 : Int32), u) = res) (Bw D (tyW cI cZ cO) 72 a (cX cI cZ cO a) (AA 72 a s.heap.size)) (AA 72 a s.heap.size)) args s 0 0 (AA 72 a s.heap.size)) (lX3_clear_10 k2 n x1 x2 S) 10 [(0, .ref (a 4)), (1, .int x1), (2, .int x2)] [] S :=
  lp_ind (P := fun k : Int32 → Int32 → St → Option (Int32 × St) => ∀ (x1 : Int32) (x2 : Int32) (S : St), GF p l e rX3_clear s m args below meth c D 72 a (cX cI cZ cO a) (AA 72 a s.heap.size) 3 0 0 (fun res => MQ below (va_Qv (fun u => ((0 : Int32), u) = res) (Bw D (tyW cI cZ cO) 72 a (cX cI cZ cO a) (AA 72 a s.heap.size)) (AA 72 a s.heap.size)) args s 0 0 (AA 72 a s.heap.size)) (k x1 x2 S) 10 [(0, .ref (a 4)), (1, .int x1), (2, .int x2)] [] S) (fun _ _ _ => g_none) (fun k10 hk10 => tX3_clear_10 hc hr hlk hE k2 hk2 k10 hk10) n x1 x2 S
set_option maxHeartbeats 4000000 in
set_option maxRecDepth 100000 in
theorem tX3_clear_2 {p : Program} {e : Env} {s : State} {m : MethodId} {args : Array Value} {below : List Frame} {meth : Method} {c : Code} (hc : CT p s m args c cX3_clear 3 RX3 wsX3_clear D (tyW cI cZ cO)) (hr : meth.sig.returnType = none) (hlk : meth.locks = false) (hE : EvX tF (AA 72 a s.heap.size) s) (k2 : Int32 → St → Option (Int32 × St)) (hk2 : ∀ (x1 : Int32) (S : St), GF p l e rX3_clear s m args below meth c D 72 a (cX cI cZ cO a) (AA 72 a s.heap.size) 3 0 0 (fun res => MQ below (va_Qv (fun u => ((0 : Int32), u) = res) (Bw D (tyW cI cZ cO) 72 a (cX cI cZ cO a) (AA 72 a s.heap.size)) (AA 72 a s.heap.size)) args s 0 0 (AA 72 a s.heap.size)) (k2 x1 S) 2 [(0, .ref (a 4)), (1, .int x1)] [] S) (x1 : Int32) (S : St) : GF p l e rX3_clear s m args below meth c D 72 a (cX cI cZ cO a) (AA 72 a s.heap.size) 3 0 0 (fun res => MQ below (va_Qv (fun u => ((0 : Int32), u) = res) (Bw D (tyW cI cZ cO) 72 a (cX cI cZ cO a) (AA 72 a s.heap.size)) (AA 72 a s.heap.size)) args s 0 0 (AA 72 a s.heap.size)) (bX3_clear_2 k2 x1 S) 2 [(0, .ref (a 4)), (1, .int x1)] [] S := by
  unfold bX3_clear_2
  refine g_iload_n (j := 1) hc dX3_clear_2 rfl rfl ?_
  refine g_bipush (v := 16) hc dX3_clear_3 (by decide) ?_
  refine g_icmp_ge (tgt := 37) hc dX3_clear_5 (by decide) ?_ ?_
  · exact g_vret hc hr hlk dX3_clear_37
  · refine g_iconst (v := 0) hc dX3_clear_8 (by decide) ?_
    refine g_istore_n (L := fun v1 => [(2, .int v1), (0, .ref (a 4)), (1, .int x1)]) hc dX3_clear_9 rfl (by decide) (fun _ => rfl) (fun v1 => ?_)
    refine g_lv [1, 2, 0] rfl ?_
    exact TX3_clear_10 hc hr hlk hE k2 hk2 FU x1 v1 S
set_option maxHeartbeats 4000000 in
set_option maxRecDepth 100000 in
theorem TX3_clear_2 {p : Program} {e : Env} {s : State} {m : MethodId} {args : Array Value} {below : List Frame} {meth : Method} {c : Code} (hc : CT p s m args c cX3_clear 3 RX3 wsX3_clear D (tyW cI cZ cO)) (hr : meth.sig.returnType = none) (hlk : meth.locks = false) (hE : EvX tF (AA 72 a s.heap.size) s) (n : Nat) (x1 : Int32) (S : St) : GF p l e rX3_clear s m args below meth c D 72 a (cX cI cZ cO a) (AA 72 a s.heap.size) 3 0 0 (fun res => MQ below (va_Qv (fun u => ((0 : Int32), u) = res) (Bw D (tyW cI cZ cO) 72 a (cX cI cZ cO a) (AA 72 a s.heap.size)) (AA 72 a s.heap.size)) args s 0 0 (AA 72 a s.heap.size)) (lX3_clear_2 n x1 S) 2 [(0, .ref (a 4)), (1, .int x1)] [] S :=
  lp_ind (P := fun k : Int32 → St → Option (Int32 × St) => ∀ (x1 : Int32) (S : St), GF p l e rX3_clear s m args below meth c D 72 a (cX cI cZ cO a) (AA 72 a s.heap.size) 3 0 0 (fun res => MQ below (va_Qv (fun u => ((0 : Int32), u) = res) (Bw D (tyW cI cZ cO) 72 a (cX cI cZ cO a) (AA 72 a s.heap.size)) (AA 72 a s.heap.size)) args s 0 0 (AA 72 a s.heap.size)) (k x1 S) 2 [(0, .ref (a 4)), (1, .int x1)] [] S) (fun _ _ => g_none) (fun k2 hk2 => tX3_clear_2 hc hr hlk hE k2 hk2) n x1 S
set_option maxHeartbeats 4000000 in
set_option maxRecDepth 100000 in
theorem mX3_clear (S : St) : ∀ q, uX3_clear S = some q → Kv l yX3_clear wsX3_clear rX3_clear D (tyW cI cZ cO) 72 a (cX cI cZ cO a) (EvX tF) [.ref (a 4)] S q := by
  refine m_Kv (cc := cX3_clear) (nL := 3) (ret := none) (lv := [(0, .ref (a 4))]) (by decide) rfl (Nat.le_of_ble_eq_true rfl) rfl ?_
  intro p e s m args below meth c hc hr hlk hE
  unfold uX3_clear
  refine g_iconst (v := 0) hc dX3_clear_0 (by decide) ?_
  refine g_istore_n (L := fun v1 => [(1, .int v1), (0, .ref (a 4))]) hc dX3_clear_1 rfl (by decide) (fun _ => rfl) (fun v1 => ?_)
  refine g_lv [1, 0] rfl ?_
  exact TX3_clear_2 hc hr hlk hE FU v1 S
set_option maxHeartbeats 4000000 in
set_option maxRecDepth 100000 in
theorem mX3_wantedAt (x1 : Int32) (x2 : Int32) (S : St) : ∀ q, uX3_wantedAt x1 x2 S = some q → Ki l yX3_wantedAt wsX3_wantedAt rX3_wantedAt D (tyW cI cZ cO) 72 a (cX cI cZ cO a) (EvX tF) [.ref (a 4), .int x1, .int x2] S q := by
  refine m_Ki (cc := cX3_wantedAt) (nL := 3) (ret := (some .int)) (lv := [(0, .ref (a 4)), (1, .int x1), (2, .int x2)]) (by decide) rfl (Nat.le_of_ble_eq_true rfl) rfl ?_
  intro p e s m args below meth c hc hr hlk hE
  unfold uX3_wantedAt
  refine g_aload_n (j := 0) hc dX3_wantedAt_0 rfl rfl ?_
  refine g_get (C0 := RX3) (T := TX3) (M := 1) (k := 4) (ci := 3) hc inX3_wantedAt_X3 (by decide) rfl rfl 0 (by decide) (List.mem_of_getElem? (i := 1) rfl) rfl rfl dX3_wantedAt_1 ?_
  refine g_iload_n (j := 1) hc dX3_wantedAt_4 rfl rfl ?_
  refine g_aald (k := 17) (base := 39) (t0 := 2) hc (by decide) rfl rfl dX3_wantedAt_5 ?_
  refine g_iload_n (j := 2) hc dX3_wantedAt_6 rfl rfl ?_
  refine g_ialdr (base := 39) (cnt := 16) (t0 := 0) hc (by decide) (fun S r h => rowX_39 S h) rfl dX3_wantedAt_7 ?_
  exact g_iret hc hr hlk dX3_wantedAt_8
set_option maxHeartbeats 4000000 in
set_option maxRecDepth 100000 in
theorem mX3_ask (x1 : Int32) (x2 : Int32) (x3 : Int32) (S : St) : ∀ q, uX3_ask x1 x2 x3 S = some q → Kv l yX3_ask wsX3_ask rX3_ask D (tyW cI cZ cO) 72 a (cX cI cZ cO a) (EvX tF) [.ref (a 4), .int x1, .int x2, .int x3] S q := by
  refine m_Kv (cc := cX3_ask) (nL := 4) (ret := none) (lv := [(0, .ref (a 4)), (1, .int x1), (2, .int x2), (3, .int x3)]) (by decide) rfl (Nat.le_of_ble_eq_true rfl) rfl ?_
  intro p e s m args below meth c hc hr hlk hE
  unfold uX3_ask
  refine g_aload_n (j := 0) hc dX3_ask_0 rfl rfl ?_
  refine g_get (C0 := RX3) (T := TX3) (M := 1) (k := 4) (ci := 3) hc inX3_ask_X3 (by decide) rfl rfl 0 (by decide) (List.mem_of_getElem? (i := 1) rfl) rfl rfl dX3_ask_1 ?_
  refine g_iload_n (j := 1) hc dX3_ask_4 rfl rfl ?_
  refine g_aald (k := 17) (base := 39) (t0 := 2) hc (by decide) rfl rfl dX3_ask_5 ?_
  refine g_iload_n (j := 2) hc dX3_ask_6 rfl rfl ?_
  refine g_iload_n (j := 3) hc dX3_ask_7 rfl rfl ?_
  refine g_iastr (base := 39) (cnt := 16) (t0 := 0) hc locX (by decide) (fun S r h => rowX_39 S h) rfl dX3_ask_8 (fun S1 => ?_)
  exact g_vret hc hr hlk dX3_ask_9
set_option maxHeartbeats 4000000 in
set_option maxRecDepth 100000 in
theorem mX1_size (S : St) : ∀ q, uX1_size S = some q → Ki l yX1_size wsX1_size rX1_size D (tyW cI cZ cO) 72 a (cX cI cZ cO a) (EvX tF) [.ref (a 8)] S q := by
  refine m_Ki (cc := cX1_size) (nL := 1) (ret := (some .int)) (lv := [(0, .ref (a 8))]) (by decide) rfl (Nat.le_of_ble_eq_true rfl) rfl ?_
  intro p e s m args below meth c hc hr hlk hE
  unfold uX1_size
  refine g_aload_n (j := 0) hc dX1_size_0 rfl rfl ?_
  refine g_get (C0 := RX1) (T := TX1) (M := 4) (k := 8) (ci := 1) hc inX1_size_X1 (by decide) rfl rfl 3 (by decide) (List.mem_of_getElem? (i := 1) rfl) rfl rfl dX1_size_1 ?_
  exact g_iret hc hr hlk dX1_size_4
set_option maxHeartbeats 4000000 in
set_option maxRecDepth 100000 in
theorem mX1_add (x1 : Int32) (x2 : Int32) (x3 : Int32) (S : St) : ∀ q, uX1_add x1 x2 x3 S = some q → Kv l yX1_add wsX1_add rX1_add D (tyW cI cZ cO) 72 a (cX cI cZ cO a) (EvX tF) [.ref (a 8), .int x1, .int x2, .int x3] S q := by
  refine m_Kv (cc := cX1_add) (nL := 4) (ret := none) (lv := [(0, .ref (a 8)), (1, .int x1), (2, .int x2), (3, .int x3)]) (by decide) rfl (Nat.le_of_ble_eq_true rfl) rfl ?_
  intro p e s m args below meth c hc hr hlk hE
  unfold uX1_add
  refine g_aload_n (j := 0) hc dX1_add_0 rfl rfl ?_
  refine g_get (C0 := RX1) (T := TX1) (M := 4) (k := 8) (ci := 1) hc inX1_add_X1 (by decide) rfl rfl 0 (by decide) (List.mem_of_getElem? (i := 1) rfl) rfl rfl dX1_add_1 ?_
  refine g_aload_n (j := 0) hc dX1_add_4 rfl rfl ?_
  refine g_get (C0 := RX1) (T := TX1) (M := 4) (k := 8) (ci := 1) hc inX1_add_X1 (by decide) rfl rfl 3 (by decide) (List.mem_of_getElem? (i := 2) rfl) rfl rfl dX1_add_5 ?_
  refine g_iload_n (j := 1) hc dX1_add_8 rfl rfl ?_
  refine g_iast (k := 28) (t0 := 0) hc locX (by decide) rfl rfl rfl dX1_add_9 (fun S1 => ?_)
  refine g_aload_n (j := 0) hc dX1_add_10 rfl rfl ?_
  refine g_get (C0 := RX1) (T := TX1) (M := 4) (k := 8) (ci := 1) hc inX1_add_X1 (by decide) rfl rfl 1 (by decide) (List.mem_of_getElem? (i := 3) rfl) rfl rfl dX1_add_11 ?_
  refine g_aload_n (j := 0) hc dX1_add_14 rfl rfl ?_
  refine g_get (C0 := RX1) (T := TX1) (M := 4) (k := 8) (ci := 1) hc inX1_add_X1 (by decide) rfl rfl 3 (by decide) (List.mem_of_getElem? (i := 2) rfl) rfl rfl dX1_add_15 ?_
  refine g_iload_n (j := 2) hc dX1_add_18 rfl rfl ?_
  refine g_iast (k := 29) (t0 := 0) hc locX (by decide) rfl rfl rfl dX1_add_19 (fun S2 => ?_)
  refine g_aload_n (j := 0) hc dX1_add_20 rfl rfl ?_
  refine g_get (C0 := RX1) (T := TX1) (M := 4) (k := 8) (ci := 1) hc inX1_add_X1 (by decide) rfl rfl 2 (by decide) (List.mem_of_getElem? (i := 4) rfl) rfl rfl dX1_add_21 ?_
  refine g_aload_n (j := 0) hc dX1_add_24 rfl rfl ?_
  refine g_get (C0 := RX1) (T := TX1) (M := 4) (k := 8) (ci := 1) hc inX1_add_X1 (by decide) rfl rfl 3 (by decide) (List.mem_of_getElem? (i := 2) rfl) rfl rfl dX1_add_25 ?_
  refine g_iload_n (j := 3) hc dX1_add_28 rfl rfl ?_
  refine g_iast (k := 30) (t0 := 0) hc locX (by decide) rfl rfl rfl dX1_add_29 (fun S3 => ?_)
  refine g_aload_n (j := 0) hc dX1_add_30 rfl rfl ?_
  refine g_dup hc dX1_add_31 rfl ?_
  refine g_get (C0 := RX1) (T := TX1) (M := 4) (k := 8) (ci := 1) hc inX1_add_X1 (by decide) rfl rfl 3 (by decide) (List.mem_of_getElem? (i := 2) rfl) rfl rfl dX1_add_32 ?_
  refine g_iconst (v := 1) hc dX1_add_35 (by decide) ?_
  refine g_iadd hc dX1_add_36 ?_
  refine g_put (ty := .int) (C0 := RX1) (T := TX1) (M := 4) (k := 8) (ci := 1) hc locX tyX1 tyX1_ok nmX1 inX1_add_X1 (by decide) rfl rfl 3 (by decide) (List.mem_of_getElem? (i := 2) rfl) rfl rfl (by decide +kernel) rfl rfl (Nat.le_of_ble_eq_true rfl) rfl rfl dX1_add_37 (fun S4 => ?_)
  exact g_vret hc hr hlk dX1_add_40
set_option maxHeartbeats 4000000 in
set_option maxRecDepth 100000 in
theorem tX1_inForce_67 {p : Program} {e : Env} {s : State} {m : MethodId} {args : Array Value} {below : List Frame} {meth : Method} {c : Code} (hc : CT p s m args c cX1_inForce 6 RX1 wsX1_inForce D (tyW cI cZ cO)) (hr : meth.sig.returnType = (some .int)) (hlk : meth.locks = false) (hE : EvX tF (AA 72 a s.heap.size) s) (k8 : Int32 → Int32 → Int32 → Int32 → Int32 → St → Option (Int32 × St)) (hk8 : ∀ (x1 : Int32) (x2 : Int32) (x3 : Int32) (x4 : Int32) (x5 : Int32) (S : St), GF p l e rX1_inForce s m args below meth c D 72 a (cX cI cZ cO a) (AA 72 a s.heap.size) 6 0 0 (fun res => MQ below (va_Qi (fun r u => (r, u) = res) (Bw D (tyW cI cZ cO) 72 a (cX cI cZ cO a) (AA 72 a s.heap.size)) (AA 72 a s.heap.size)) args s 0 0 (AA 72 a s.heap.size)) (k8 x1 x2 x3 x4 x5 S) 8 [(0, .ref (a 8)), (1, .int x1), (2, .int x2), (3, .int x3), (4, .int x4), (5, .int x5)] [] S) (x1 : Int32) (x2 : Int32) (x3 : Int32) (x4 : Int32) (x5 : Int32) (S : St) : GF p l e rX1_inForce s m args below meth c D 72 a (cX cI cZ cO a) (AA 72 a s.heap.size) 6 0 0 (fun res => MQ below (va_Qi (fun r u => (r, u) = res) (Bw D (tyW cI cZ cO) 72 a (cX cI cZ cO a) (AA 72 a s.heap.size)) (AA 72 a s.heap.size)) args s 0 0 (AA 72 a s.heap.size)) (bX1_inForce_67 k8 x1 x2 x3 x4 x5 S) 67 [(0, .ref (a 8)), (1, .int x1), (2, .int x2), (3, .int x3), (4, .int x4), (5, .int x5)] [] S := by
  unfold bX1_inForce_67
  refine g_iinc (j := 5) (w := x5 + 1) (L := fun v1 => [(5, .int v1), (0, .ref (a 8)), (1, .int x1), (2, .int x2), (3, .int x3), (4, .int x4)]) hc dX1_inForce_67 rfl (by rfl) (by decide) (fun _ => rfl) (fun v1 => ?_)
  refine g_goto (tgt := 8) hc dX1_inForce_70 (by decide) ?_
  refine g_lv [1, 2, 3, 4, 5, 0] rfl ?_
  exact hk8 x1 x2 x3 x4 v1 S
set_option maxHeartbeats 4000000 in
set_option maxRecDepth 100000 in
theorem tX1_inForce_8 {p : Program} {e : Env} {s : State} {m : MethodId} {args : Array Value} {below : List Frame} {meth : Method} {c : Code} (hc : CT p s m args c cX1_inForce 6 RX1 wsX1_inForce D (tyW cI cZ cO)) (hr : meth.sig.returnType = (some .int)) (hlk : meth.locks = false) (hE : EvX tF (AA 72 a s.heap.size) s) (k8 : Int32 → Int32 → Int32 → Int32 → Int32 → St → Option (Int32 × St)) (hk8 : ∀ (x1 : Int32) (x2 : Int32) (x3 : Int32) (x4 : Int32) (x5 : Int32) (S : St), GF p l e rX1_inForce s m args below meth c D 72 a (cX cI cZ cO a) (AA 72 a s.heap.size) 6 0 0 (fun res => MQ below (va_Qi (fun r u => (r, u) = res) (Bw D (tyW cI cZ cO) 72 a (cX cI cZ cO a) (AA 72 a s.heap.size)) (AA 72 a s.heap.size)) args s 0 0 (AA 72 a s.heap.size)) (k8 x1 x2 x3 x4 x5 S) 8 [(0, .ref (a 8)), (1, .int x1), (2, .int x2), (3, .int x3), (4, .int x4), (5, .int x5)] [] S) (x1 : Int32) (x2 : Int32) (x3 : Int32) (x4 : Int32) (x5 : Int32) (S : St) : GF p l e rX1_inForce s m args below meth c D 72 a (cX cI cZ cO a) (AA 72 a s.heap.size) 6 0 0 (fun res => MQ below (va_Qi (fun r u => (r, u) = res) (Bw D (tyW cI cZ cO) 72 a (cX cI cZ cO a) (AA 72 a s.heap.size)) (AA 72 a s.heap.size)) args s 0 0 (AA 72 a s.heap.size)) (bX1_inForce_8 k8 x1 x2 x3 x4 x5 S) 8 [(0, .ref (a 8)), (1, .int x1), (2, .int x2), (3, .int x3), (4, .int x4), (5, .int x5)] [] S := by
  unfold bX1_inForce_8
  refine g_iload (j := 5) hc dX1_inForce_8 rfl ?_
  refine g_aload_n (j := 0) hc dX1_inForce_10 rfl rfl ?_
  refine g_get (C0 := RX1) (T := TX1) (M := 4) (k := 8) (ci := 1) hc inX1_inForce_X1 (by decide) rfl rfl 3 (by decide) (List.mem_of_getElem? (i := 1) rfl) rfl rfl dX1_inForce_11 ?_
  refine g_icmp_ge (tgt := 73) hc dX1_inForce_14 (by decide) ?_ ?_
  · refine g_iload (j := 4) hc dX1_inForce_73 rfl ?_
    exact g_iret hc hr hlk dX1_inForce_75
  · refine g_aload_n (j := 0) hc dX1_inForce_17 rfl rfl ?_
    refine g_get (C0 := RX1) (T := TX1) (M := 4) (k := 8) (ci := 1) hc inX1_inForce_X1 (by decide) rfl rfl 1 (by decide) (List.mem_of_getElem? (i := 2) rfl) rfl rfl dX1_inForce_18 ?_
    refine g_iload (j := 5) hc dX1_inForce_21 rfl ?_
    refine g_iald (k := 29) (t0 := 0) hc (by decide) rfl rfl dX1_inForce_23 ?_
    refine g_iload_n (j := 2) hc dX1_inForce_24 rfl rfl ?_
    refine g_icmp_ne (tgt := 67) hc dX1_inForce_25 (by decide) ?_ ?_
    · exact tX1_inForce_67 hc hr hlk hE k8 hk8 x1 x2 x3 x4 x5 S
    · refine g_aload_n (j := 0) hc dX1_inForce_28 rfl rfl ?_
      refine g_get (C0 := RX1) (T := TX1) (M := 4) (k := 8) (ci := 1) hc inX1_inForce_X1 (by decide) rfl rfl 0 (by decide) (List.mem_of_getElem? (i := 3) rfl) rfl rfl dX1_inForce_29 ?_
      refine g_iload (j := 5) hc dX1_inForce_32 rfl ?_
      refine g_iald (k := 28) (t0 := 0) hc (by decide) rfl rfl dX1_inForce_34 ?_
      refine g_iload_n (j := 1) hc dX1_inForce_35 rfl rfl ?_
      refine g_icmp_gt (tgt := 67) hc dX1_inForce_36 (by decide) ?_ ?_
      · exact tX1_inForce_67 hc hr hlk hE k8 hk8 x1 x2 x3 x4 x5 S
      · refine g_aload_n (j := 0) hc dX1_inForce_39 rfl rfl ?_
        refine g_get (C0 := RX1) (T := TX1) (M := 4) (k := 8) (ci := 1) hc inX1_inForce_X1 (by decide) rfl rfl 0 (by decide) (List.mem_of_getElem? (i := 3) rfl) rfl rfl dX1_inForce_40 ?_
        refine g_iload (j := 5) hc dX1_inForce_43 rfl ?_
        refine g_iald (k := 28) (t0 := 0) hc (by decide) rfl rfl dX1_inForce_45 ?_
        refine g_iload_n (j := 3) hc dX1_inForce_46 rfl rfl ?_
        refine g_icmp_lt (tgt := 67) hc dX1_inForce_47 (by decide) ?_ ?_
        · exact tX1_inForce_67 hc hr hlk hE k8 hk8 x1 x2 x3 x4 x5 S
        · refine g_aload_n (j := 0) hc dX1_inForce_50 rfl rfl ?_
          refine g_get (C0 := RX1) (T := TX1) (M := 4) (k := 8) (ci := 1) hc inX1_inForce_X1 (by decide) rfl rfl 0 (by decide) (List.mem_of_getElem? (i := 3) rfl) rfl rfl dX1_inForce_51 ?_
          refine g_iload (j := 5) hc dX1_inForce_54 rfl ?_
          refine g_iald (k := 28) (t0 := 0) hc (by decide) rfl rfl dX1_inForce_56 ?_
          refine g_istore_n (L := fun v1 => [(3, .int v1), (0, .ref (a 8)), (1, .int x1), (2, .int x2), (4, .int x4), (5, .int x5)]) hc dX1_inForce_57 rfl (by decide) (fun _ => rfl) (fun v1 => ?_)
          refine g_aload_n (j := 1) hc dX1_inForce_58 rfl rfl ?_
          refine g_get (C0 := RX1) (T := TX1) (M := 4) (k := 8) (ci := 1) hc inX1_inForce_X1 (by decide) rfl rfl 2 (by decide) (List.mem_of_getElem? (i := 4) rfl) rfl rfl dX1_inForce_59 ?_
          refine g_iload (j := 5) hc dX1_inForce_62 rfl ?_
          refine g_iald (k := 30) (t0 := 0) hc (by decide) rfl rfl dX1_inForce_64 ?_
          refine g_istore (L := fun v2 => [(4, .int v2), (3, .int v1), (0, .ref (a 8)), (1, .int x1), (2, .int x2), (5, .int x5)]) hc dX1_inForce_65 (by decide) (fun _ => rfl) (fun v2 => ?_)
          refine g_lv [2, 3, 4, 1, 0, 5] rfl ?_
          exact tX1_inForce_67 hc hr hlk hE k8 hk8 x1 x2 v1 v2 x5 S
set_option maxHeartbeats 4000000 in
set_option maxRecDepth 100000 in
theorem TX1_inForce_8 {p : Program} {e : Env} {s : State} {m : MethodId} {args : Array Value} {below : List Frame} {meth : Method} {c : Code} (hc : CT p s m args c cX1_inForce 6 RX1 wsX1_inForce D (tyW cI cZ cO)) (hr : meth.sig.returnType = (some .int)) (hlk : meth.locks = false) (hE : EvX tF (AA 72 a s.heap.size) s) (n : Nat) (x1 : Int32) (x2 : Int32) (x3 : Int32) (x4 : Int32) (x5 : Int32) (S : St) : GF p l e rX1_inForce s m args below meth c D 72 a (cX cI cZ cO a) (AA 72 a s.heap.size) 6 0 0 (fun res => MQ below (va_Qi (fun r u => (r, u) = res) (Bw D (tyW cI cZ cO) 72 a (cX cI cZ cO a) (AA 72 a s.heap.size)) (AA 72 a s.heap.size)) args s 0 0 (AA 72 a s.heap.size)) (lX1_inForce_8 n x1 x2 x3 x4 x5 S) 8 [(0, .ref (a 8)), (1, .int x1), (2, .int x2), (3, .int x3), (4, .int x4), (5, .int x5)] [] S :=
  lp_ind (P := fun k : Int32 → Int32 → Int32 → Int32 → Int32 → St → Option (Int32 × St) => ∀ (x1 : Int32) (x2 : Int32) (x3 : Int32) (x4 : Int32) (x5 : Int32) (S : St), GF p l e rX1_inForce s m args below meth c D 72 a (cX cI cZ cO a) (AA 72 a s.heap.size) 6 0 0 (fun res => MQ below (va_Qi (fun r u => (r, u) = res) (Bw D (tyW cI cZ cO) 72 a (cX cI cZ cO a) (AA 72 a s.heap.size)) (AA 72 a s.heap.size)) args s 0 0 (AA 72 a s.heap.size)) (k x1 x2 x3 x4 x5 S) 8 [(0, .ref (a 8)), (1, .int x1), (2, .int x2), (3, .int x3), (4, .int x4), (5, .int x5)] [] S) (fun _ _ _ _ _ _ => g_none) (fun k8 hk8 => tX1_inForce_8 hc hr hlk hE k8 hk8) n x1 x2 x3 x4 x5 S
set_option maxHeartbeats 4000000 in
set_option maxRecDepth 100000 in
theorem mX1_inForce (x1 : Int32) (x2 : Int32) (S : St) : ∀ q, uX1_inForce x1 x2 S = some q → Ki l yX1_inForce wsX1_inForce rX1_inForce D (tyW cI cZ cO) 72 a (cX cI cZ cO a) (EvX tF) [.ref (a 8), .int x1, .int x2] S q := by
  refine m_Ki (cc := cX1_inForce) (nL := 6) (ret := (some .int)) (lv := [(0, .ref (a 8)), (1, .int x1), (2, .int x2)]) (by decide) rfl (Nat.le_of_ble_eq_true rfl) rfl ?_
  intro p e s m args below meth c hc hr hlk hE
  unfold uX1_inForce
  refine g_iconst (v := -1) hc dX1_inForce_0 (by decide) ?_
  refine g_istore_n (L := fun v1 => [(3, .int v1), (0, .ref (a 8)), (1, .int x1), (2, .int x2)]) hc dX1_inForce_1 rfl (by decide) (fun _ => rfl) (fun v1 => ?_)
  refine g_iconst (v := 0) hc dX1_inForce_2 (by decide) ?_
  refine g_istore (L := fun v2 => [(4, .int v2), (3, .int v1), (0, .ref (a 8)), (1, .int x1), (2, .int x2)]) hc dX1_inForce_3 (by decide) (fun _ => rfl) (fun v2 => ?_)
  refine g_iconst (v := 0) hc dX1_inForce_5 (by decide) ?_
  refine g_istore (L := fun v3 => [(5, .int v3), (4, .int v2), (3, .int v1), (0, .ref (a 8)), (1, .int x1), (2, .int x2)]) hc dX1_inForce_6 (by decide) (fun _ => rfl) (fun v3 => ?_)
  refine g_lv [3, 4, 5, 2, 1, 0] rfl ?_
  exact TX1_inForce_8 hc hr hlk hE FU x1 x2 v1 v2 v3 S
end
