-- X2_init
def rX2_init : Room := { frames := 1, cells := 1, slots := 64, locals := 40 }
theorem inX2_init_X2 : ∀ w ∈ u_ws RX2 TX2 1, w ∈ wsX2_init := by decide +kernel
def bX2_init_22 (k14 : Int32 → St → Option (Int32 × St)) (k22 : Int32 → Int32 → St → Option (Int32 × St)) (x1 : Int32) (x2 : Int32) (S : St) : Option (Int32 × St) :=
  if 4 ≤ x2 then lt (x1 + 1) (fun v1 => k14 v1 S) else ck ((x1 * 4) + x2) 64 (lz (s2 S 1 ((x1 * 4) + x2).toNatClampNeg (x1 ||| (1 <<< (x2 &&& 31)))) (fun S2 => lt (x2 + 1) (fun v3 => k22 x1 v3 S2)))
def lX2_init_22 (k14 : Int32 → St → Option (Int32 × St)) (n : Nat) : Int32 → Int32 → St → Option (Int32 × St) :=
  lp (fun k22 => bX2_init_22 k14 k22) (fun _ _ _ => none) n
def bX2_init_14 (k14 : Int32 → St → Option (Int32 × St)) (x1 : Int32) (S : St) : Option (Int32 × St) :=
  if 16 ≤ x1 then some (0, S) else lt 0 (fun v1 => lX2_init_22 k14 FU x1 v1 S)
def lX2_init_14 (n : Nat) : Int32 → St → Option (Int32 × St) :=
  lp (fun k14 => bX2_init_14 k14) (fun _ _ => none) n
def uX2_init (S : St) : Option (Int32 × St) :=
  lt 0 (fun v1 => lX2_init_14 FU v1 S)
-- X5_init
def rX5_init : Room := { frames := 1, cells := 56, slots := 953, locals := 40 }
theorem inX5_init_X5 : ∀ w ∈ u_ws RX5 TX5 9, w ∈ wsX5_init := by decide +kernel
def bX5_init_92 (k84 : Int32 → St → Option (Int32 × St)) (k92 : Int32 → Int32 → St → Option (Int32 × St)) (x1 : Int32) (x2 : Int32) (S : St) : Option (Int32 × St) :=
  if 16 ≤ x2 then lt (x1 + 1) (fun v1 => k84 v1 S) else ck x1 16 (cl (uJ6_bitCount_0f7a4 (x1 &&& (x2 ^^^ ((-1)))) S) (fun v2 S3 => ckn x1.toNatClampNeg 16 (ck x2 16 (lz (s2 S3 (41 + x1.toNatClampNeg) x2.toNatClampNeg v2) (fun S4 => lt (x2 + 1) (fun v5 => k92 x1 v5 S4))))))
def lX5_init_92 (k84 : Int32 → St → Option (Int32 × St)) (n : Nat) : Int32 → Int32 → St → Option (Int32 × St) :=
  lp (fun k92 => bX5_init_92 k84 k92) (fun _ _ _ => none) n
def bX5_init_84 (k84 : Int32 → St → Option (Int32 × St)) (x1 : Int32) (S : St) : Option (Int32 × St) :=
  if 16 ≤ x1 then some (0, S) else lt 0 (fun v1 => lX5_init_92 k84 FU x1 v1 S)
def lX5_init_84 (n : Nat) : Int32 → St → Option (Int32 × St) :=
  lp (fun k84 => bX5_init_84 k84) (fun _ _ => none) n
def uX5_init (S : St) : Option (Int32 × St) :=
  lt 0 (fun v1 => lX5_init_84 FU v1 S)
-- X9_init
def rX9_init : Room := { frames := 1, cells := 16, slots := 1860, locals := 40 }
theorem inX9_init_X9 : ∀ w ∈ u_ws RX9 TX9 24, w ∈ wsX9_init := by decide +kernel
def bX9_init_156 (k148 : Int32 → St → Option (Int32 × St)) (k156 : Int32 → Int32 → St → Option (Int32 × St)) (x1 : Int32) (x2 : Int32) (S : St) : Option (Int32 × St) :=
  if 4 ≤ x2 then lt (x1 + 1) (fun v1 => k148 v1 S) else ck ((4 * x1) + x2) 64 (lz (s2 S 3 ((4 * x1) + x2).toNatClampNeg (x1 ||| (1 <<< (x2 &&& 31)))) (fun S2 => lt (x2 + 1) (fun v3 => k156 x1 v3 S2)))
def lX9_init_156 (k148 : Int32 → St → Option (Int32 × St)) (n : Nat) : Int32 → Int32 → St → Option (Int32 × St) :=
  lp (fun k156 => bX9_init_156 k148 k156) (fun _ _ _ => none) n
def bX9_init_148 (k148 : Int32 → St → Option (Int32 × St)) (x1 : Int32) (S : St) : Option (Int32 × St) :=
  if 16 ≤ x1 then some (0, S) else lt 0 (fun v1 => lX9_init_156 k148 FU x1 v1 S)
def lX9_init_148 (n : Nat) : Int32 → St → Option (Int32 × St) :=
  lp (fun k148 => bX9_init_148 k148) (fun _ _ => none) n
def uX9_init (S : St) : Option (Int32 × St) :=
  lt 0 (fun v1 => lX9_init_148 FU v1 S)
section
variable {N : Nat} {C : St → Nat → va_E} {Ev : (Nat → Prop) → State → Prop} {tys : List (ClassId × FieldType)} {l : Launch} {D : va_G} {cI cZ cO cJ : ClassId} {a : Nat → Nat} {tF : Nat}
set_option maxHeartbeats 4000000 in
set_option maxRecDepth 100000 in
theorem tX2_init_22 {p : Program} {e : Env} {s : State} {m : MethodId} {args : Array Value} {below : List Frame} {meth : Method} {c : Code} (hc : CT p s m args c cX2_init 3 RX2 wsX2_init D (tyW cI cZ cO)) (hr : meth.sig.returnType = none) (hlk : meth.locks = false) (hE : EvM (AA 2 a s.heap.size) s) (k14 : Int32 → St → Option (Int32 × St)) (hk14 : ∀ (x1 : Int32) (S : St), GF p l e rX2_init s m args below meth c D 2 a (cK2 cI a) (AA 2 a s.heap.size) 3 1 64 (fun res => MQ below (va_Qv (fun u => ((0 : Int32), u) = res) (Bw D (tyW cI cZ cO) 2 a (cK2 cI a) (AA 2 a s.heap.size)) (AA 2 a s.heap.size)) args s 1 64 (AA 2 a s.heap.size)) (k14 x1 S) 14 [(0, .ref (a 0)), (1, .int x1)] [] S) (k22 : Int32 → Int32 → St → Option (Int32 × St)) (hk22 : ∀ (x1 : Int32) (x2 : Int32) (S : St), GF p l e rX2_init s m args below meth c D 2 a (cK2 cI a) (AA 2 a s.heap.size) 3 1 64 (fun res => MQ below (va_Qv (fun u => ((0 : Int32), u) = res) (Bw D (tyW cI cZ cO) 2 a (cK2 cI a) (AA 2 a s.heap.size)) (AA 2 a s.heap.size)) args s 1 64 (AA 2 a s.heap.size)) (k22 x1 x2 S) 22 [(0, .ref (a 0)), (1, .int x1), (2, .int x2)] [] S) (x1 : Int32) (x2 : Int32) (S : St) : GF p l e rX2_init s m args below meth c D 2 a (cK2 cI a) (AA 2 a s.heap.size) 3 1 64 (fun res => MQ below (va_Qv (fun u => ((0 : Int32), u) = res) (Bw D (tyW cI cZ cO) 2 a (cK2 cI a) (AA 2 a s.heap.size)) (AA 2 a s.heap.size)) args s 1 64 (AA 2 a s.heap.size)) (bX2_init_22 k14 k22 x1 x2 S) 22 [(0, .ref (a 0)), (1, .int x1), (2, .int x2)] [] S := by
  unfold bX2_init_22
  refine g_iload_n (j := 2) hc dX2_init_22 rfl rfl ?_
  refine g_iconst (v := 4) hc dX2_init_23 (by decide) ?_
  refine g_icmp_ge (tgt := 48) hc dX2_init_24 (by decide) ?_ ?_
  · refine g_iinc (j := 1) (w := x1 + 1) (L := fun v1 => [(1, .int v1), (0, .ref (a 0)), (2, .int x2)]) hc dX2_init_48 rfl (by rfl) (by decide) (fun _ => rfl) (fun v1 => ?_)
    refine g_goto (tgt := 14) hc dX2_init_51 (by decide) ?_
    refine g_lv [1, 0] rfl ?_
    exact hk14 v1 S
  · refine g_aload_n (j := 0) hc dX2_init_27 rfl rfl ?_
    refine g_get (C0 := RX2) (T := TX2) (M := 1) (k := 0) (ci := 2) hc inX2_init_X2 (by decide) rfl rfl 0 (by decide) (List.mem_of_getElem? (i := 5) rfl) rfl rfl dX2_init_28 ?_
    refine g_iload_n (j := 1) hc dX2_init_31 rfl rfl ?_
    refine g_iconst (v := 4) hc dX2_init_32 (by decide) ?_
    refine g_imul hc dX2_init_33 ?_
    refine g_iload_n (j := 2) hc dX2_init_34 rfl rfl ?_
    refine g_iadd hc dX2_init_35 ?_
    refine g_iload_n (j := 1) hc dX2_init_36 rfl rfl ?_
    refine g_iconst (v := 1) hc dX2_init_37 (by decide) ?_
    refine g_iload_n (j := 2) hc dX2_init_38 rfl rfl ?_
    refine g_ishl hc dX2_init_39 ?_
    refine g_ior hc dX2_init_40 ?_
    refine g_iast (k := 1) (t0 := 0) hc locK2 (by decide) rfl rfl rfl dX2_init_41 (fun S2 => ?_)
    refine g_iinc (j := 2) (w := x2 + 1) (L := fun v3 => [(2, .int v3), (0, .ref (a 0)), (1, .int x1)]) hc dX2_init_42 rfl (by rfl) (by decide) (fun _ => rfl) (fun v3 => ?_)
    refine g_goto (tgt := 22) hc dX2_init_45 (by decide) ?_
    refine g_lv [1, 2, 0] rfl ?_
    exact hk22 x1 v3 S2
set_option maxHeartbeats 4000000 in
set_option maxRecDepth 100000 in
theorem TX2_init_22 {p : Program} {e : Env} {s : State} {m : MethodId} {args : Array Value} {below : List Frame} {meth : Method} {c : Code} (hc : CT p s m args c cX2_init 3 RX2 wsX2_init D (tyW cI cZ cO)) (hr : meth.sig.returnType = none) (hlk : meth.locks = false) (hE : EvM (AA 2 a s.heap.size) s) (k14 : Int32 → St → Option (Int32 × St)) (hk14 : ∀ (x1 : Int32) (S : St), GF p l e rX2_init s m args below meth c D 2 a (cK2 cI a) (AA 2 a s.heap.size) 3 1 64 (fun res => MQ below (va_Qv (fun u => ((0 : Int32), u) = res) (Bw D (tyW cI cZ cO) 2 a (cK2 cI a) (AA 2 a s.heap.size)) (AA 2 a s.heap.size)) args s 1 64 (AA 2 a s.heap.size)) (k14 x1 S) 14 [(0, .ref (a 0)), (1, .int x1)] [] S) (n : Nat) (x1 : Int32) (x2 : Int32) (S : St) : GF p l e rX2_init s m args below meth c D 2 a (cK2 cI a) (AA 2 a s.heap.size) 3 1 64 (fun res => MQ below (va_Qv (fun u => ((0 : Int32), u) = res) (Bw D (tyW cI cZ cO) 2 a (cK2 cI a) (AA 2 a s.heap.size)) (AA 2 a s.heap.size)) args s 1 64 (AA 2 a s.heap.size)) (lX2_init_22 k14 n x1 x2 S) 22 [(0, .ref (a 0)), (1, .int x1), (2, .int x2)] [] S :=
  lp_ind (P := fun k : Int32 → Int32 → St → Option (Int32 × St) => ∀ (x1 : Int32) (x2 : Int32) (S : St), GF p l e rX2_init s m args below meth c D 2 a (cK2 cI a) (AA 2 a s.heap.size) 3 1 64 (fun res => MQ below (va_Qv (fun u => ((0 : Int32), u) = res) (Bw D (tyW cI cZ cO) 2 a (cK2 cI a) (AA 2 a s.heap.size)) (AA 2 a s.heap.size)) args s 1 64 (AA 2 a s.heap.size)) (k x1 x2 S) 22 [(0, .ref (a 0)), (1, .int x1), (2, .int x2)] [] S) (fun _ _ _ => g_none) (fun k22 hk22 => tX2_init_22 hc hr hlk hE k14 hk14 k22 hk22) n x1 x2 S
set_option maxHeartbeats 4000000 in
set_option maxRecDepth 100000 in
theorem tX2_init_14 {p : Program} {e : Env} {s : State} {m : MethodId} {args : Array Value} {below : List Frame} {meth : Method} {c : Code} (hc : CT p s m args c cX2_init 3 RX2 wsX2_init D (tyW cI cZ cO)) (hr : meth.sig.returnType = none) (hlk : meth.locks = false) (hE : EvM (AA 2 a s.heap.size) s) (k14 : Int32 → St → Option (Int32 × St)) (hk14 : ∀ (x1 : Int32) (S : St), GF p l e rX2_init s m args below meth c D 2 a (cK2 cI a) (AA 2 a s.heap.size) 3 1 64 (fun res => MQ below (va_Qv (fun u => ((0 : Int32), u) = res) (Bw D (tyW cI cZ cO) 2 a (cK2 cI a) (AA 2 a s.heap.size)) (AA 2 a s.heap.size)) args s 1 64 (AA 2 a s.heap.size)) (k14 x1 S) 14 [(0, .ref (a 0)), (1, .int x1)] [] S) (x1 : Int32) (S : St) : GF p l e rX2_init s m args below meth c D 2 a (cK2 cI a) (AA 2 a s.heap.size) 3 1 64 (fun res => MQ below (va_Qv (fun u => ((0 : Int32), u) = res) (Bw D (tyW cI cZ cO) 2 a (cK2 cI a) (AA 2 a s.heap.size)) (AA 2 a s.heap.size)) args s 1 64 (AA 2 a s.heap.size)) (bX2_init_14 k14 x1 S) 14 [(0, .ref (a 0)), (1, .int x1)] [] S := by
  unfold bX2_init_14
  refine g_iload_n (j := 1) hc dX2_init_14 rfl rfl ?_
  refine g_bipush (v := 16) hc dX2_init_15 (by decide) ?_
  refine g_icmp_ge (tgt := 54) hc dX2_init_17 (by decide) ?_ ?_
  · exact g_cret hc hr hlk dX2_init_54
  · refine g_iconst (v := 0) hc dX2_init_20 (by decide) ?_
    refine g_istore_n (L := fun v1 => [(2, .int v1), (0, .ref (a 0)), (1, .int x1)]) hc dX2_init_21 rfl (by decide) (fun _ => rfl) (fun v1 => ?_)
    refine g_lv [1, 2, 0] rfl ?_
    exact TX2_init_22 hc hr hlk hE k14 hk14 FU x1 v1 S
set_option maxHeartbeats 4000000 in
set_option maxRecDepth 100000 in
theorem TX2_init_14 {p : Program} {e : Env} {s : State} {m : MethodId} {args : Array Value} {below : List Frame} {meth : Method} {c : Code} (hc : CT p s m args c cX2_init 3 RX2 wsX2_init D (tyW cI cZ cO)) (hr : meth.sig.returnType = none) (hlk : meth.locks = false) (hE : EvM (AA 2 a s.heap.size) s) (n : Nat) (x1 : Int32) (S : St) : GF p l e rX2_init s m args below meth c D 2 a (cK2 cI a) (AA 2 a s.heap.size) 3 1 64 (fun res => MQ below (va_Qv (fun u => ((0 : Int32), u) = res) (Bw D (tyW cI cZ cO) 2 a (cK2 cI a) (AA 2 a s.heap.size)) (AA 2 a s.heap.size)) args s 1 64 (AA 2 a s.heap.size)) (lX2_init_14 n x1 S) 14 [(0, .ref (a 0)), (1, .int x1)] [] S :=
  lp_ind (P := fun k : Int32 → St → Option (Int32 × St) => ∀ (x1 : Int32) (S : St), GF p l e rX2_init s m args below meth c D 2 a (cK2 cI a) (AA 2 a s.heap.size) 3 1 64 (fun res => MQ below (va_Qv (fun u => ((0 : Int32), u) = res) (Bw D (tyW cI cZ cO) 2 a (cK2 cI a) (AA 2 a s.heap.size)) (AA 2 a s.heap.size)) args s 1 64 (AA 2 a s.heap.size)) (k x1 S) 14 [(0, .ref (a 0)), (1, .int x1)] [] S) (fun _ _ => g_none) (fun k14 hk14 => tX2_init_14 hc hr hlk hE k14 hk14) n x1 S
set_option maxHeartbeats 4000000 in
set_option maxRecDepth 100000 in
theorem eX2_init {p : Program} {e : Env} {s : State} {m : MethodId} {args : Array Value} {below : List Frame} {meth : Method} {c : Code} (hc : CT p s m args c cX2_init 3 RX2 wsX2_init D (tyW cI cZ cO)) (hr : meth.sig.returnType = none) (hlk : meth.locks = false) (hE : EvM (AA 2 a s.heap.size) s) (S : St) : GF p l e rX2_init s m args below meth c D 2 a (cK2 cI a) (AA 2 a s.heap.size) 3 1 64 (fun res => MQ below (va_Qv (fun u => ((0 : Int32), u) = res) (Bw D (tyW cI cZ cO) 2 a (cK2 cI a) (AA 2 a s.heap.size)) (AA 2 a s.heap.size)) args s 1 64 (AA 2 a s.heap.size)) (uX2_init S) 12 [(0, .ref (a 0))] [] S := by
  unfold uX2_init
  refine g_iconst (v := 0) hc dX2_init_12 (by decide) ?_
  refine g_istore_n (L := fun v1 => [(1, .int v1), (0, .ref (a 0))]) hc dX2_init_13 rfl (by decide) (fun _ => rfl) (fun v1 => ?_)
  refine g_lv [1, 0] rfl ?_
  exact TX2_init_14 hc hr hlk hE FU v1 S
set_option maxHeartbeats 4000000 in
set_option maxRecDepth 100000 in
theorem tX5_init_92 {p : Program} {e : Env} {s : State} {m : MethodId} {args : Array Value} {below : List Frame} {meth : Method} {c : Code} (hc : CT p s m args c cX5_init 3 RX5 wsX5_init D (tyW cI cZ cO)) (hr : meth.sig.returnType = none) (hlk : meth.locks = false) (hE : EvM (AA 57 a s.heap.size) s) (k84 : Int32 → St → Option (Int32 × St)) (hk84 : ∀ (x1 : Int32) (S : St), GF p l e rX5_init s m args below meth c D 57 a (cK5 cI cO a) (AA 57 a s.heap.size) 3 56 953 (fun res => MQ below (va_Qv (fun u => ((0 : Int32), u) = res) (Bw D (tyW cI cZ cO) 57 a (cK5 cI cO a) (AA 57 a s.heap.size)) (AA 57 a s.heap.size)) args s 56 953 (AA 57 a s.heap.size)) (k84 x1 S) 84 [(0, .ref (a 0)), (1, .int x1)] [] S) (k92 : Int32 → Int32 → St → Option (Int32 × St)) (hk92 : ∀ (x1 : Int32) (x2 : Int32) (S : St), GF p l e rX5_init s m args below meth c D 57 a (cK5 cI cO a) (AA 57 a s.heap.size) 3 56 953 (fun res => MQ below (va_Qv (fun u => ((0 : Int32), u) = res) (Bw D (tyW cI cZ cO) 57 a (cK5 cI cO a) (AA 57 a s.heap.size)) (AA 57 a s.heap.size)) args s 56 953 (AA 57 a s.heap.size)) (k92 x1 x2 S) 92 [(0, .ref (a 0)), (1, .int x1), (2, .int x2)] [] S) (x1 : Int32) (x2 : Int32) (S : St) : GF p l e rX5_init s m args below meth c D 57 a (cK5 cI cO a) (AA 57 a s.heap.size) 3 56 953 (fun res => MQ below (va_Qv (fun u => ((0 : Int32), u) = res) (Bw D (tyW cI cZ cO) 57 a (cK5 cI cO a) (AA 57 a s.heap.size)) (AA 57 a s.heap.size)) args s 56 953 (AA 57 a s.heap.size)) (bX5_init_92 k84 k92 x1 x2 S) 92 [(0, .ref (a 0)), (1, .int x1), (2, .int x2)] [] S := by
  unfold bX5_init_92
  refine g_iload_n (j := 2) hc dX5_init_92 rfl rfl ?_
  refine g_bipush (v := 16) hc dX5_init_93 (by decide) ?_
  refine g_icmp_ge (tgt := 120) hc dX5_init_95 (by decide) ?_ ?_
  · refine g_iinc (j := 1) (w := x1 + 1) (L := fun v1 => [(1, .int v1), (0, .ref (a 0)), (2, .int x2)]) hc dX5_init_120 rfl (by rfl) (by decide) (fun _ => rfl) (fun v1 => ?_)
    refine g_goto (tgt := 84) hc dX5_init_123 (by decide) ?_
    refine g_lv [1, 0] rfl ?_
    exact hk84 v1 S
  · refine g_aload_n (j := 0) hc dX5_init_98 rfl rfl ?_
    refine g_get (C0 := RX5) (T := TX5) (M := 9) (k := 0) (ci := 5) hc inX5_init_X5 (by decide) rfl rfl 8 (by decide) (List.mem_of_getElem? (i := 14) rfl) rfl rfl dX5_init_99 ?_
    refine g_iload_n (j := 1) hc dX5_init_102 rfl rfl ?_
    refine g_aald (k := 40) (base := 41) (t0 := 2) hc (by decide) rfl rfl dX5_init_103 ?_
    refine g_iload_n (j := 2) hc dX5_init_104 rfl rfl ?_
    refine g_iload_n (j := 1) hc dX5_init_105 rfl rfl ?_
    refine g_iload_n (j := 2) hc dX5_init_106 rfl rfl ?_
    refine g_iconst (v := -1) hc dX5_init_107 (by decide) ?_
    refine g_ixor hc dX5_init_108 ?_
    refine g_iand hc dX5_init_109 ?_
    refine g_callSi (As := [.int (x1 &&& (x2 ^^^ ((-1))))]) (rest := [.int x2, .ref (a (41 + x1.toNatClampNeg))]) hc hE trM rfl (fun _ h => mJ6_bitCount_0f7a4 (x1 &&& (x2 ^^^ ((-1)))) S _ h) (va_cwS 1 hc.1.2.2.2.2 gX5_init_J6_bitCount_0f7a4 rfl rfl rfl (by decide +kernel) ⟨by decide, by decide⟩) rfl rfl (Nat.le_of_ble_eq_true rfl) dX5_init_110 ⟨by decide, by decide⟩ (fun v2 S3 => ?_)
    refine g_iastr (base := 41) (cnt := 16) (t0 := 0) hc locK5 (by decide) (fun S r h => rowK5_41 S h) rfl dX5_init_113 (fun S4 => ?_)
    refine g_iinc (j := 2) (w := x2 + 1) (L := fun v5 => [(2, .int v5), (0, .ref (a 0)), (1, .int x1)]) hc dX5_init_114 rfl (by rfl) (by decide) (fun _ => rfl) (fun v5 => ?_)
    refine g_goto (tgt := 92) hc dX5_init_117 (by decide) ?_
    refine g_lv [1, 2, 0] rfl ?_
    exact hk92 x1 v5 S4
set_option maxHeartbeats 4000000 in
set_option maxRecDepth 100000 in
theorem TX5_init_92 {p : Program} {e : Env} {s : State} {m : MethodId} {args : Array Value} {below : List Frame} {meth : Method} {c : Code} (hc : CT p s m args c cX5_init 3 RX5 wsX5_init D (tyW cI cZ cO)) (hr : meth.sig.returnType = none) (hlk : meth.locks = false) (hE : EvM (AA 57 a s.heap.size) s) (k84 : Int32 → St → Option (Int32 × St)) (hk84 : ∀ (x1 : Int32) (S : St), GF p l e rX5_init s m args below meth c D 57 a (cK5 cI cO a) (AA 57 a s.heap.size) 3 56 953 (fun res => MQ below (va_Qv (fun u => ((0 : Int32), u) = res) (Bw D (tyW cI cZ cO) 57 a (cK5 cI cO a) (AA 57 a s.heap.size)) (AA 57 a s.heap.size)) args s 56 953 (AA 57 a s.heap.size)) (k84 x1 S) 84 [(0, .ref (a 0)), (1, .int x1)] [] S) (n : Nat) (x1 : Int32) (x2 : Int32) (S : St) : GF p l e rX5_init s m args below meth c D 57 a (cK5 cI cO a) (AA 57 a s.heap.size) 3 56 953 (fun res => MQ below (va_Qv (fun u => ((0 : Int32), u) = res) (Bw D (tyW cI cZ cO) 57 a (cK5 cI cO a) (AA 57 a s.heap.size)) (AA 57 a s.heap.size)) args s 56 953 (AA 57 a s.heap.size)) (lX5_init_92 k84 n x1 x2 S) 92 [(0, .ref (a 0)), (1, .int x1), (2, .int x2)] [] S :=
  lp_ind (P := fun k : Int32 → Int32 → St → Option (Int32 × St) => ∀ (x1 : Int32) (x2 : Int32) (S : St), GF p l e rX5_init s m args below meth c D 57 a (cK5 cI cO a) (AA 57 a s.heap.size) 3 56 953 (fun res => MQ below (va_Qv (fun u => ((0 : Int32), u) = res) (Bw D (tyW cI cZ cO) 57 a (cK5 cI cO a) (AA 57 a s.heap.size)) (AA 57 a s.heap.size)) args s 56 953 (AA 57 a s.heap.size)) (k x1 x2 S) 92 [(0, .ref (a 0)), (1, .int x1), (2, .int x2)] [] S) (fun _ _ _ => g_none) (fun k92 hk92 => tX5_init_92 hc hr hlk hE k84 hk84 k92 hk92) n x1 x2 S
set_option maxHeartbeats 4000000 in
set_option maxRecDepth 100000 in
theorem tX5_init_84 {p : Program} {e : Env} {s : State} {m : MethodId} {args : Array Value} {below : List Frame} {meth : Method} {c : Code} (hc : CT p s m args c cX5_init 3 RX5 wsX5_init D (tyW cI cZ cO)) (hr : meth.sig.returnType = none) (hlk : meth.locks = false) (hE : EvM (AA 57 a s.heap.size) s) (k84 : Int32 → St → Option (Int32 × St)) (hk84 : ∀ (x1 : Int32) (S : St), GF p l e rX5_init s m args below meth c D 57 a (cK5 cI cO a) (AA 57 a s.heap.size) 3 56 953 (fun res => MQ below (va_Qv (fun u => ((0 : Int32), u) = res) (Bw D (tyW cI cZ cO) 57 a (cK5 cI cO a) (AA 57 a s.heap.size)) (AA 57 a s.heap.size)) args s 56 953 (AA 57 a s.heap.size)) (k84 x1 S) 84 [(0, .ref (a 0)), (1, .int x1)] [] S) (x1 : Int32) (S : St) : GF p l e rX5_init s m args below meth c D 57 a (cK5 cI cO a) (AA 57 a s.heap.size) 3 56 953 (fun res => MQ below (va_Qv (fun u => ((0 : Int32), u) = res) (Bw D (tyW cI cZ cO) 57 a (cK5 cI cO a) (AA 57 a s.heap.size)) (AA 57 a s.heap.size)) args s 56 953 (AA 57 a s.heap.size)) (bX5_init_84 k84 x1 S) 84 [(0, .ref (a 0)), (1, .int x1)] [] S := by
  unfold bX5_init_84
  refine g_iload_n (j := 1) hc dX5_init_84 rfl rfl ?_
  refine g_bipush (v := 16) hc dX5_init_85 (by decide) ?_
  refine g_icmp_ge (tgt := 126) hc dX5_init_87 (by decide) ?_ ?_
  · exact g_cret hc hr hlk dX5_init_126
  · refine g_iconst (v := 0) hc dX5_init_90 (by decide) ?_
    refine g_istore_n (L := fun v1 => [(2, .int v1), (0, .ref (a 0)), (1, .int x1)]) hc dX5_init_91 rfl (by decide) (fun _ => rfl) (fun v1 => ?_)
    refine g_lv [1, 2, 0] rfl ?_
    exact TX5_init_92 hc hr hlk hE k84 hk84 FU x1 v1 S
set_option maxHeartbeats 4000000 in
set_option maxRecDepth 100000 in
theorem TX5_init_84 {p : Program} {e : Env} {s : State} {m : MethodId} {args : Array Value} {below : List Frame} {meth : Method} {c : Code} (hc : CT p s m args c cX5_init 3 RX5 wsX5_init D (tyW cI cZ cO)) (hr : meth.sig.returnType = none) (hlk : meth.locks = false) (hE : EvM (AA 57 a s.heap.size) s) (n : Nat) (x1 : Int32) (S : St) : GF p l e rX5_init s m args below meth c D 57 a (cK5 cI cO a) (AA 57 a s.heap.size) 3 56 953 (fun res => MQ below (va_Qv (fun u => ((0 : Int32), u) = res) (Bw D (tyW cI cZ cO) 57 a (cK5 cI cO a) (AA 57 a s.heap.size)) (AA 57 a s.heap.size)) args s 56 953 (AA 57 a s.heap.size)) (lX5_init_84 n x1 S) 84 [(0, .ref (a 0)), (1, .int x1)] [] S :=
  lp_ind (P := fun k : Int32 → St → Option (Int32 × St) => ∀ (x1 : Int32) (S : St), GF p l e rX5_init s m args below meth c D 57 a (cK5 cI cO a) (AA 57 a s.heap.size) 3 56 953 (fun res => MQ below (va_Qv (fun u => ((0 : Int32), u) = res) (Bw D (tyW cI cZ cO) 57 a (cK5 cI cO a) (AA 57 a s.heap.size)) (AA 57 a s.heap.size)) args s 56 953 (AA 57 a s.heap.size)) (k x1 S) 84 [(0, .ref (a 0)), (1, .int x1)] [] S) (fun _ _ => g_none) (fun k84 hk84 => tX5_init_84 hc hr hlk hE k84 hk84) n x1 S
set_option maxHeartbeats 4000000 in
set_option maxRecDepth 100000 in
theorem eX5_init {p : Program} {e : Env} {s : State} {m : MethodId} {args : Array Value} {below : List Frame} {meth : Method} {c : Code} (hc : CT p s m args c cX5_init 3 RX5 wsX5_init D (tyW cI cZ cO)) (hr : meth.sig.returnType = none) (hlk : meth.locks = false) (hE : EvM (AA 57 a s.heap.size) s) (S : St) : GF p l e rX5_init s m args below meth c D 57 a (cK5 cI cO a) (AA 57 a s.heap.size) 3 56 953 (fun res => MQ below (va_Qv (fun u => ((0 : Int32), u) = res) (Bw D (tyW cI cZ cO) 57 a (cK5 cI cO a) (AA 57 a s.heap.size)) (AA 57 a s.heap.size)) args s 56 953 (AA 57 a s.heap.size)) (uX5_init S) 82 [(0, .ref (a 0))] [] S := by
  unfold uX5_init
  refine g_iconst (v := 0) hc dX5_init_82 (by decide) ?_
  refine g_istore_n (L := fun v1 => [(1, .int v1), (0, .ref (a 0))]) hc dX5_init_83 rfl (by decide) (fun _ => rfl) (fun v1 => ?_)
  refine g_lv [1, 0] rfl ?_
  exact TX5_init_84 hc hr hlk hE FU v1 S
set_option maxHeartbeats 4000000 in
set_option maxRecDepth 100000 in
theorem tX9_init_156 {p : Program} {e : Env} {s : State} {m : MethodId} {args : Array Value} {below : List Frame} {meth : Method} {c : Code} (hc : CT p s m args c cX9_init 3 RX9 wsX9_init D (tyW cI cZ cO)) (hr : meth.sig.returnType = none) (hlk : meth.locks = false) (hE : EvM (AA 17 a s.heap.size) s) (k148 : Int32 → St → Option (Int32 × St)) (hk148 : ∀ (x1 : Int32) (S : St), GF p l e rX9_init s m args below meth c D 17 a (cM cI cZ a) (AA 17 a s.heap.size) 3 16 1860 (fun res => MQ below (va_Qv (fun u => ((0 : Int32), u) = res) (Bw D (tyW cI cZ cO) 17 a (cM cI cZ a) (AA 17 a s.heap.size)) (AA 17 a s.heap.size)) args s 16 1860 (AA 17 a s.heap.size)) (k148 x1 S) 148 [(0, .ref (a 0)), (1, .int x1)] [] S) (k156 : Int32 → Int32 → St → Option (Int32 × St)) (hk156 : ∀ (x1 : Int32) (x2 : Int32) (S : St), GF p l e rX9_init s m args below meth c D 17 a (cM cI cZ a) (AA 17 a s.heap.size) 3 16 1860 (fun res => MQ below (va_Qv (fun u => ((0 : Int32), u) = res) (Bw D (tyW cI cZ cO) 17 a (cM cI cZ a) (AA 17 a s.heap.size)) (AA 17 a s.heap.size)) args s 16 1860 (AA 17 a s.heap.size)) (k156 x1 x2 S) 156 [(0, .ref (a 0)), (1, .int x1), (2, .int x2)] [] S) (x1 : Int32) (x2 : Int32) (S : St) : GF p l e rX9_init s m args below meth c D 17 a (cM cI cZ a) (AA 17 a s.heap.size) 3 16 1860 (fun res => MQ below (va_Qv (fun u => ((0 : Int32), u) = res) (Bw D (tyW cI cZ cO) 17 a (cM cI cZ a) (AA 17 a s.heap.size)) (AA 17 a s.heap.size)) args s 16 1860 (AA 17 a s.heap.size)) (bX9_init_156 k148 k156 x1 x2 S) 156 [(0, .ref (a 0)), (1, .int x1), (2, .int x2)] [] S := by
  unfold bX9_init_156
  refine g_iload_n (j := 2) hc dX9_init_156 rfl rfl ?_
  refine g_iconst (v := 4) hc dX9_init_157 (by decide) ?_
  refine g_icmp_ge (tgt := 182) hc dX9_init_158 (by decide) ?_ ?_
  · refine g_iinc (j := 1) (w := x1 + 1) (L := fun v1 => [(1, .int v1), (0, .ref (a 0)), (2, .int x2)]) hc dX9_init_182 rfl (by rfl) (by decide) (fun _ => rfl) (fun v1 => ?_)
    refine g_goto (tgt := 148) hc dX9_init_185 (by decide) ?_
    refine g_lv [1, 0] rfl ?_
    exact hk148 v1 S
  · refine g_aload_n (j := 0) hc dX9_init_161 rfl rfl ?_
    refine g_get (C0 := RX9) (T := TX9) (M := 24) (k := 0) (ci := 9) hc inX9_init_X9 (by decide) rfl rfl 7 (by decide) (List.mem_of_getElem? (i := 9) rfl) rfl rfl dX9_init_162 ?_
    refine g_iconst (v := 4) hc dX9_init_165 (by decide) ?_
    refine g_iload_n (j := 1) hc dX9_init_166 rfl rfl ?_
    refine g_imul hc dX9_init_167 ?_
    refine g_iload_n (j := 2) hc dX9_init_168 rfl rfl ?_
    refine g_iadd hc dX9_init_169 ?_
    refine g_iload_n (j := 1) hc dX9_init_170 rfl rfl ?_
    refine g_iconst (v := 1) hc dX9_init_171 (by decide) ?_
    refine g_iload_n (j := 2) hc dX9_init_172 rfl rfl ?_
    refine g_ishl hc dX9_init_173 ?_
    refine g_ior hc dX9_init_174 ?_
    refine g_iast (k := 3) (t0 := 0) hc locM (by decide) rfl rfl rfl dX9_init_175 (fun S2 => ?_)
    refine g_iinc (j := 2) (w := x2 + 1) (L := fun v3 => [(2, .int v3), (0, .ref (a 0)), (1, .int x1)]) hc dX9_init_176 rfl (by rfl) (by decide) (fun _ => rfl) (fun v3 => ?_)
    refine g_goto (tgt := 156) hc dX9_init_179 (by decide) ?_
    refine g_lv [1, 2, 0] rfl ?_
    exact hk156 x1 v3 S2
set_option maxHeartbeats 4000000 in
set_option maxRecDepth 100000 in
theorem TX9_init_156 {p : Program} {e : Env} {s : State} {m : MethodId} {args : Array Value} {below : List Frame} {meth : Method} {c : Code} (hc : CT p s m args c cX9_init 3 RX9 wsX9_init D (tyW cI cZ cO)) (hr : meth.sig.returnType = none) (hlk : meth.locks = false) (hE : EvM (AA 17 a s.heap.size) s) (k148 : Int32 → St → Option (Int32 × St)) (hk148 : ∀ (x1 : Int32) (S : St), GF p l e rX9_init s m args below meth c D 17 a (cM cI cZ a) (AA 17 a s.heap.size) 3 16 1860 (fun res => MQ below (va_Qv (fun u => ((0 : Int32), u) = res) (Bw D (tyW cI cZ cO) 17 a (cM cI cZ a) (AA 17 a s.heap.size)) (AA 17 a s.heap.size)) args s 16 1860 (AA 17 a s.heap.size)) (k148 x1 S) 148 [(0, .ref (a 0)), (1, .int x1)] [] S) (n : Nat) (x1 : Int32) (x2 : Int32) (S : St) : GF p l e rX9_init s m args below meth c D 17 a (cM cI cZ a) (AA 17 a s.heap.size) 3 16 1860 (fun res => MQ below (va_Qv (fun u => ((0 : Int32), u) = res) (Bw D (tyW cI cZ cO) 17 a (cM cI cZ a) (AA 17 a s.heap.size)) (AA 17 a s.heap.size)) args s 16 1860 (AA 17 a s.heap.size)) (lX9_init_156 k148 n x1 x2 S) 156 [(0, .ref (a 0)), (1, .int x1), (2, .int x2)] [] S :=
  lp_ind (P := fun k : Int32 → Int32 → St → Option (Int32 × St) => ∀ (x1 : Int32) (x2 : Int32) (S : St), GF p l e rX9_init s m args below meth c D 17 a (cM cI cZ a) (AA 17 a s.heap.size) 3 16 1860 (fun res => MQ below (va_Qv (fun u => ((0 : Int32), u) = res) (Bw D (tyW cI cZ cO) 17 a (cM cI cZ a) (AA 17 a s.heap.size)) (AA 17 a s.heap.size)) args s 16 1860 (AA 17 a s.heap.size)) (k x1 x2 S) 156 [(0, .ref (a 0)), (1, .int x1), (2, .int x2)] [] S) (fun _ _ _ => g_none) (fun k156 hk156 => tX9_init_156 hc hr hlk hE k148 hk148 k156 hk156) n x1 x2 S
set_option maxHeartbeats 4000000 in
set_option maxRecDepth 100000 in
theorem tX9_init_148 {p : Program} {e : Env} {s : State} {m : MethodId} {args : Array Value} {below : List Frame} {meth : Method} {c : Code} (hc : CT p s m args c cX9_init 3 RX9 wsX9_init D (tyW cI cZ cO)) (hr : meth.sig.returnType = none) (hlk : meth.locks = false) (hE : EvM (AA 17 a s.heap.size) s) (k148 : Int32 → St → Option (Int32 × St)) (hk148 : ∀ (x1 : Int32) (S : St), GF p l e rX9_init s m args below meth c D 17 a (cM cI cZ a) (AA 17 a s.heap.size) 3 16 1860 (fun res => MQ below (va_Qv (fun u => ((0 : Int32), u) = res) (Bw D (tyW cI cZ cO) 17 a (cM cI cZ a) (AA 17 a s.heap.size)) (AA 17 a s.heap.size)) args s 16 1860 (AA 17 a s.heap.size)) (k148 x1 S) 148 [(0, .ref (a 0)), (1, .int x1)] [] S) (x1 : Int32) (S : St) : GF p l e rX9_init s m args below meth c D 17 a (cM cI cZ a) (AA 17 a s.heap.size) 3 16 1860 (fun res => MQ below (va_Qv (fun u => ((0 : Int32), u) = res) (Bw D (tyW cI cZ cO) 17 a (cM cI cZ a) (AA 17 a s.heap.size)) (AA 17 a s.heap.size)) args s 16 1860 (AA 17 a s.heap.size)) (bX9_init_148 k148 x1 S) 148 [(0, .ref (a 0)), (1, .int x1)] [] S := by
  unfold bX9_init_148
  refine g_iload_n (j := 1) hc dX9_init_148 rfl rfl ?_
  refine g_bipush (v := 16) hc dX9_init_149 (by decide) ?_
  refine g_icmp_ge (tgt := 188) hc dX9_init_151 (by decide) ?_ ?_
  · exact g_cret hc hr hlk dX9_init_188
  · refine g_iconst (v := 0) hc dX9_init_154 (by decide) ?_
    refine g_istore_n (L := fun v1 => [(2, .int v1), (0, .ref (a 0)), (1, .int x1)]) hc dX9_init_155 rfl (by decide) (fun _ => rfl) (fun v1 => ?_)
    refine g_lv [1, 2, 0] rfl ?_
    exact TX9_init_156 hc hr hlk hE k148 hk148 FU x1 v1 S
set_option maxHeartbeats 4000000 in
set_option maxRecDepth 100000 in
theorem TX9_init_148 {p : Program} {e : Env} {s : State} {m : MethodId} {args : Array Value} {below : List Frame} {meth : Method} {c : Code} (hc : CT p s m args c cX9_init 3 RX9 wsX9_init D (tyW cI cZ cO)) (hr : meth.sig.returnType = none) (hlk : meth.locks = false) (hE : EvM (AA 17 a s.heap.size) s) (n : Nat) (x1 : Int32) (S : St) : GF p l e rX9_init s m args below meth c D 17 a (cM cI cZ a) (AA 17 a s.heap.size) 3 16 1860 (fun res => MQ below (va_Qv (fun u => ((0 : Int32), u) = res) (Bw D (tyW cI cZ cO) 17 a (cM cI cZ a) (AA 17 a s.heap.size)) (AA 17 a s.heap.size)) args s 16 1860 (AA 17 a s.heap.size)) (lX9_init_148 n x1 S) 148 [(0, .ref (a 0)), (1, .int x1)] [] S :=
  lp_ind (P := fun k : Int32 → St → Option (Int32 × St) => ∀ (x1 : Int32) (S : St), GF p l e rX9_init s m args below meth c D 17 a (cM cI cZ a) (AA 17 a s.heap.size) 3 16 1860 (fun res => MQ below (va_Qv (fun u => ((0 : Int32), u) = res) (Bw D (tyW cI cZ cO) 17 a (cM cI cZ a) (AA 17 a s.heap.size)) (AA 17 a s.heap.size)) args s 16 1860 (AA 17 a s.heap.size)) (k x1 S) 148 [(0, .ref (a 0)), (1, .int x1)] [] S) (fun _ _ => g_none) (fun k148 hk148 => tX9_init_148 hc hr hlk hE k148 hk148) n x1 S
set_option maxHeartbeats 4000000 in
set_option maxRecDepth 100000 in
theorem eX9_init {p : Program} {e : Env} {s : State} {m : MethodId} {args : Array Value} {below : List Frame} {meth : Method} {c : Code} (hc : CT p s m args c cX9_init 3 RX9 wsX9_init D (tyW cI cZ cO)) (hr : meth.sig.returnType = none) (hlk : meth.locks = false) (hE : EvM (AA 17 a s.heap.size) s) (S : St) : GF p l e rX9_init s m args below meth c D 17 a (cM cI cZ a) (AA 17 a s.heap.size) 3 16 1860 (fun res => MQ below (va_Qv (fun u => ((0 : Int32), u) = res) (Bw D (tyW cI cZ cO) 17 a (cM cI cZ a) (AA 17 a s.heap.size)) (AA 17 a s.heap.size)) args s 16 1860 (AA 17 a s.heap.size)) (uX9_init S) 146 [(0, .ref (a 0))] [] S := by
  unfold uX9_init
  refine g_iconst (v := 0) hc dX9_init_146 (by decide) ?_
  refine g_istore_n (L := fun v1 => [(1, .int v1), (0, .ref (a 0))]) hc dX9_init_147 rfl (by decide) (fun _ => rfl) (fun v1 => ?_)
  refine g_lv [1, 0] rfl ?_
  exact TX9_init_148 hc hr hlk hE FU v1 S
end
