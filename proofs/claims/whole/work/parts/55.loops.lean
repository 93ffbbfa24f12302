-- X2_init
def rX2_init : Room := { frames := 1, cells := 1, slots := 64, locals := 40 }
theorem inX2_init_X2 : ∀ w ∈ u_ws RX2 TX2 1, w ∈ wsX2_init := by decide +kernel
def bX2_init_22 (k14 : Int32 → St → Option (Int32 × St)) (k22 : Int32 → Int32 → St → Option (Int32 × St)) (x1 : Int32) (x2 : Int32) (S : St) : Option (Int32 × St) :=
  if 4 ≤ x2 then lt (x1 + 1) (fun v1 => k14 v1 S) else ck ((x1 * 4) + x2) 64 (lz (s2 S 1 ((x1 * 4) + x2).toNatClampNeg (x1 ||| (1 <<< (x2 &&& 31)))) (fun S2 => lt (x2 + 1) (fun v3 => k22 x1 v3 S2)))
def lX2_init_22 (k14 : Int32 → St → Option (Int32 × St)) (n : Nat) : Int32 → Int32 → St → Option (Int32 × St) :=
  lp (fun k22 => bX2_init_22 k14 k22) (fun _ _ _ => none) n
def bX2_init_14 (k14 : Int32 → St → Option (Int32 × St)) (x1 : Int32) (S : St) : Option (Int32 × St) :=
  if 16 ≤ x1 then some (0, S) else lt 0 (fun v1 => lX2_init_22 k14 FU x1 v1 S)
def lX2_init_14 (n : Nat) : Int32 → St → Option (Int32 × St) :=
  lp (fun k14 => bX2_init_14 k14) (fun _ _ => none) n
def uX2_init (S : St) : Option (Int32 × St) :=
  lt 0 (fun v1 => lX2_init_14 FU v1 S)
-- X9_init
def rX9_init : Room := { frames := 1, cells := 16, slots := 1860, locals := 40 }
theorem inX9_init_X9 : ∀ w ∈ u_ws RX9 TX9 24, w ∈ wsX9_init := by decide +kernel
def bX9_init_156 (k148 : Int32 → St → Option (Int32 × St)) (k156 : Int32 → Int32 → St → Option (Int32 × St)) (x1 : Int32) (x2 : Int32) (S : St) : Option (Int32 × St) :=
  if 4 ≤ x2 then lt (x1 + 1) (fun v1 => k148 v1 S) else ck ((4 * x1) + x2) 64 (lz (s2 S 3 ((4 * x1) + x2).toNatClampNeg (x1 ||| (1 <<< (x2 &&& 31)))) (fun S2 => lt (x2 + 1) (fun v3 => k156 x1 v3 S2)))
def lX9_init_156 (k148 : Int32 → St → Option (Int32 × St)) (n : Nat) : Int32 → Int32 → St → Option (Int32 × St) :=
  lp (fun k156 => bX9_init_156 k148 k156) (fun _ _ _ => none) n
def bX9_init_148 (k148 : Int32 → St → Option (Int32 × St)) (x1 : Int32) (S : St) : Option (Int32 × St) :=
  if 16 ≤ x1 then some (0, S) else lt 0 (fun v1 => lX9_init_156 k148 FU x1 v1 S)
def lX9_init_148 (n : Nat) : Int32 → St → Option (Int32 × St) :=
  lp (fun k148 => bX9_init_148 k148) (fun _ _ => none) n
def uX9_init (S : St) : Option (Int32 × St) :=
  lt 0 (fun v1 => lX9_init_148 FU v1 S)
section
variable {N : Nat} {C : St → Nat → va_E} {Ev : (Nat → Prop) → State → Prop} {tys : List (ClassId × FieldType)} {l : Launch} {D : va_G} {cI cZ cO cJ : ClassId} {a : Nat → Nat} {tF : Nat}
set_option maxHeartbeats 4000000 in
set_option maxRecDepth 100000 in
theorem tX2_init_22 {p : Program} {e : Env} {s : State} {m : MethodId} {args : Array Value} {below : List Frame} {meth : Method} {c : Code} (hc : CT p s m args c cX2_init 3 RX2 wsX2_init D (tyW cI cZ cO)) (hr : meth.sig.returnType = none) (hlk : meth.locks = false) (hE : EvM (AA 2 a s.heap.size) s) (k14 : Int32 → St → Option (Int32 × St)) (hk14 : ∀ (x1 : Int32) (S : St), GF p l e rX2_init s m args below meth c D 2 a (cK2 cI a) (AA 2 a s.heap.size) 3 1 64 (fun res => MQ below (va_Qv (fun u => ((0 : Int32), u) = res) (Bw D (tyW cI cZ cO) 2 a (cK2 cI a) (AA 2 a s.heap.size)) (AA 2 a s.heap.size)) args s 1 64 (AA 2 a s.heap.size)) (k14 x1 S) 14 [(0, .ref (a 0)), (1, .int x1)] [] S) (k22 : Int32 → Int32 → St → Option (Int32 × St)) (hk22 : ∀ (x1 : Int32) (x2 : Int32) (S : St), GF p l e rX2_init s m args below meth c D 2 a (cK2 cI a) (AA 2 a s.heap.size) 3 1 64 (fun res => MQ below (va_Qv (fun u => ((0 : Int32), u) = res) (Bw D (tyW cI cZ cO) 2 a (cK2 cI a) (AA 2 a s.heap.size)) (AA 2 a s.heap.size)) args s 1 64 (AA 2 a s.heap.size)) (k22 x1 x2 S) 22 [(0, .ref (a 0)), (1, .int x1), (2, .int x2)] [] S) (x1 : Int32) (x2 : Int32) (S : St) : GF p l e rX2_init s m args below meth c D 2 a (cK2 cI a) (AA 2 a s.heap.size) 3 1 64 (fun res => MQ below (va_Qv (fun u => ((0 : Int32), u) = res) (Bw D (tyW cI cZ cO) 2 a (cK2 cI a) (AA 2 a s.heap.size)) (AA 2 a s.heap.size)) args s 1 64 (AA 2 a s.heap.size)) (bX2_init_22 k14 k22 x1 x2 S) 22 [(0, .ref (a 0)), (1, .int x1), (2, .int x2)] [] S := by
  unfold bX2_init_22
  refine g_iload_n (j := 2) hc dX2_init_22 rfl rfl ?_
  refine g_iconst (v := 4) hc dX2_init_23 (by decide) ?_
  refine g_icmp_ge (tgt := 48) hc dX2_init_24 (by decide) ?_ ?_
  · refine g_iinc (j := 1) (w := x1 + 1) (L := fun v1 => [(1, .int v1), (0, .ref (a 0)), (2, .int x2)]) hc dX2_init_48 rfl (by rfl) (by decide) (fun _ => rfl) (fun v1 => ?_)
    refine g_goto (tgt := 14) hc dX2_init_51 (by decide) ?_
    refine g_lv [1, 0] rfl ?_
    exact hk14 v1 S
  · refine g_aload_n (j := 0) hc dX2_init_27 rfl rfl ?_
    refine g_get (C0 := RX2) (T := TX2) (M := 1) (k := 0) (ci := 2) hc inX2_init_X2 (by decide) rfl rfl 0 (by decide) (List.mem_of_getElem? (i := 5) rfl) rfl rfl dX2_init_28 ?_
    refine g_iload_n (j := 1) hc dX2_init_31 rfl rfl ?_
    refine g_iconst (v := 4) hc dX2_init_32 (by decide) ?_
    refine g_imul hc dX2_init_33 ?_
    refine g_iload_n (j := 2) hc dX2_init_34 rfl rfl ?_
    refine g_iadd hc dX2_init_35 ?_
    refine g_iload_n (j := 1) hc dX2_init_36 rfl rfl ?_
    refine g_iconst (v := 1) hc dX2_init_37 (by decide) ?_
    refine g_iload_n (j := 2) hc dX2_init_38 rfl rfl ?_
    refine g_ishl hc dX2_init_39 ?_
    refine g_ior hc dX2_init_40 ?_
    refine g_iast (k := 1) (t0 := 0) hc locK2 (by decide) rfl rfl rfl dX2_init_41 (fun S2 => ?_)
    refine g_iinc (j := 2) (w := x2 + 1) (L := fun v3 => [(2, .int v3), (0, .ref (a 0)), (1, .int x1)]) hc dX2_init_42 rfl (by rfl) (by decide) (fun _ => rfl) (fun v3 => ?_)
    refine g_goto (tgt := 22) hc dX2_init_45 (by decide) ?_
    refine g_lv [1, 2, 0] rfl ?_
    exact hk22 x1 v3 S2
set_option maxHeartbeats 4000000 in
set_option maxRecDepth 100000 in
theorem TX2_init_22 {p : Program} {e : Env} {s : State} {m : MethodId} {args : Array Value} {below : List Frame} {meth : Method} {c : Code} (hc : CT p s m args c cX2_init 3 RX2 wsX2_init D (tyW cI cZ cO)) (hr : meth.sig.returnType = none) (hlk : meth.locks = false) (hE : EvM (AA 2 a s.heap.size) s) (k14 : Int32 → St → Option (Int32 × St)) (hk14 : ∀ (x1 : Int32) (S : St), GF p l e rX2_init s m args below meth c D 2 a (cK2 cI a) (AA 2 a s.heap.size) 3 1 64 (fun res => MQ below (va_Qv (fun u => ((0 : Int32), u) = res) (Bw D (tyW cI cZ cO) 2 a (cK2 cI a) (AA 2 a s.heap.size)) (AA 2 a s.heap.size)) args s 1 64 (AA 2 a s.heap.size)) (k14 x1 S) 14 [(0, .ref (a 0)), (1, .int x1)] [] S) (n : Nat) (x1 : Int32) (x2 : Int32) (S : St) : GF p l e rX2_init s m args below meth c D 2 a (cK2 cI a) (AA 2 a s.heap.size) 3 1 64 (fun res => MQ below (va_Qv (fun u => ((0 : Int32), u) = res) (Bw D (tyW cI cZ cO) 2 a (cK2 cI a) (AA 2 a s.heap.size)) (AA 2 a s.heap.size)) args s 1 64 (AA 2 a s.heap.size)) (lX2_init_22 k14 n x1 x2 S) 22 [(0, .ref (a 0)), (1, .int x1), (2, .int x2)] [] S :=
  lp_ind (P := fun k : Int32 → Int32 → St → Option (Int32 × St) => ∀ (x1 : Int32) (x2 : Int32) (S : St), GF p l e rX2_init s m args below meth c D 2 a (cK2 cI a) (AA 2 a s.heap.size) 3 1 64 (fun res => MQ below (va_Qv (fun u => ((0 : Int32), u) = res) (Bw D (tyW cI cZ cO) 2 a (cK2 cI a) (AA 2 a s.heap.size)) (AA 2 a s.heap.size)) args s 1 64 (AA 2 a s.heap.size)) (k x1 x2 S) 22 [(0, .ref (a 0)), (1, .int x1), (2, .int x2)] [] S) (fun _ _ _ => g_none) (fun k22 hk22 => tX2_init_22 hc hr hlk hE k14 hk14 k22 hk22) n x1 x2 S
set_option maxHeartbeats 4000000 in
set_option maxRecDepth 100000 in
theorem tX2_init_14 {p : Program} {e : Env} {s : State} {m : MethodId} {args : Array Value} {below : List Frame} {meth : Method} {c : Code} (hc : CT p s m args c cX2_init 3 RX2 wsX2_init D (tyW cI cZ cO)) (hr : meth.sig.returnType = none) (hlk : meth.locks = false) (hE : EvM (AA 2 a s.heap.size) s) (k14 : Int32 → St → Option (Int32 × St)) (hk14 : ∀ (x1 : Int32) (S : St), GF p l e rX2_init s m args below meth c D 2 a (cK2 cI a) (AA 2 a s.heap.size) 3 1 64 (fun res => MQ below (va_Qv (fun u => ((0 : Int32), u) = res) (Bw D (tyW cI cZ cO) 2 a (cK2 cI a) (AA 2 a s.heap.size)) (AA 2 a s.heap.size)) args s 1 64 (AA 2 a s.heap.size)) (k14 x1 S) 14 [(0, .ref (a 0)), (1, .int x1)] [] S) (x1 : Int32) (S : St) : GF p l e rX2_init s m args below meth c D 2 a (cK2 cI a) (AA 2 a s.heap.size) 3 1 64 (fun res => MQ below (va_Qv (fun u => ((0 : Int32), u) = res) (Bw D (tyW cI cZ cO) 2 a (cK2 cI a) (AA 2 a s.heap.size)) (AA 2 a s.heap.size)) args s 1 64 (AA 2 a s.heap.size)) (bX2_init_14 k14 x1 S) 14 [(0, .ref (a 0)), (1, .int x1)] [] S := by
  unfold bX2_init_14
  refine g_iload_n (j := 1) hc dX2_init_14 rfl rfl ?_
  refine g_bipush (v := 16) hc dX2_init_15 (by decide) ?_
  refine g_icmp_ge (tgt := 54) hc dX2_init_17 (by decide) ?_ ?_
  · exact g_cret hc hr hlk dX2_init_54
  · refine g_iconst (v := 0) hc dX2_init_20 (by decide) ?_
    refine g_istore_n (L := fun v1 => [(2, .int v1), (0, .ref (a 0)), (1, .int x1)]) hc dX2_init_21 rfl (by decide) (fun _ => rfl) (fun v1 => ?_)
    refine g_lv [1, 2, 0] rfl ?_
    exact TX2_init_22 hc hr hlk hE k14 hk14 FU x1 v1 S
set_option maxHeartbeats 4000000 in
set_option maxRecDepth 100000 in
theorem TX2_init_14 {p : Program} {e : Env} {s : State} {m : MethodId} {args : Array Value} {below : List Frame} {meth : Method} {c : Code} (hc : CT p s m args c cX2_init 3 RX2 wsX2_init D (tyW cI cZ cO)) (hr : meth.sig.returnType = none) (hlk : meth.locks = false) (hE : EvM (AA 2 a s.heap.size) s) (n : Nat) (x1 : Int32) (S : St) : GF p l e rX2_init s m args below meth c D 2 a (cK2 cI a) (AA 2 a s.heap.size) 3 1 64 (fun res => MQ below (va_Qv (fun u => ((0 : Int32), u) = res) (Bw D (tyW cI cZ cO) 2 a (cK2 cI a) (AA 2 a s.heap.size)) (AA 2 a s.heap.size)) args s 1 64 (AA 2 a s.heap.size)) (lX2_init_14 n x1 S) 14 [(0, .ref (a 0)), (1, .int x1)] [] S :=
  lp_ind (P := fun k : Int32 → St → Option (Int32 × St) => ∀ (x1 : Int32) (S : St), GF p l e rX2_init s m args below meth c D 2 a (cK2 cI a) (AA 2 a s.heap.size) 3 1 64 (fun res => MQ below (va_Qv (fun u => ((0 : Int32), u) = res) (Bw D (tyW cI cZ cO) 2 a (cK2 cI a) (AA 2 a s.heap.size)) (AA 2 a s.heap.size)) args s 1 64 (AA 2 a s.heap.size)) (k x1 S) 14 [(0, .ref (a 0)), (1, .int x1)] [] S) (fun _ _ => g_none) (fun k14 hk14 => tX2_init_14 hc hr hlk hE k14 hk14) n x1 S
set_option maxHeartbeats 4000000 in
set_option maxRecDepth 100000 in
theorem eX2_init {p : Program} {e : Env} {s : State} {m : MethodId} {args : Array Value} {below : List Frame} {meth : Method} {c : Code} (hc : CT p s m args c cX2_init 3 RX2 wsX2_init D (tyW cI cZ cO)) (hr : meth.sig.returnType = none) (hlk : meth.locks = false) (hE : EvM (AA 2 a s.heap.size) s) (S : St) : GF p l e rX2_init s m args below meth c D 2 a (cK2 cI a) (AA 2 a s.heap.size) 3 1 64 (fun res => MQ below (va_Qv (fun u => ((0 : Int32), u) = res) (Bw D (tyW cI cZ cO) 2 a (cK2 cI a) (AA 2 a s.heap.size)) (AA 2 a s.heap.size)) args s 1 64 (AA 2 a s.heap.size)) (uX2_init S) 12 [(0, .ref (a 0))] [] S := by
  unfold uX2_init
  refine g_iconst (v := 0) hc dX2_init_12 (by decide) ?_
  refine g_istore_n (L := fun v1 => [(1, .int v1), (0, .ref (a 0))]) hc dX2_init_13 rfl (by decide) (fun _ => rfl) (fun v1 => ?_)
  refine g_lv [1, 0] rfl ?_
  exact TX2_init_14 hc hr hlk hE FU v1 S
set_option maxHeartbeats 4000000 in
set_option maxRecDepth 100000 in
theorem tX9_init_156 {p : Program} {e : Env} {s : State} {m : MethodId} {args : Array Value} {below : List Frame} {meth : Method} {c : Code} (hc : CT p s m args c cX9_init 3 RX9 wsX9_init D (tyW cI cZ cO)) (hr : meth.sig.returnType = none) (hlk : meth.locks = false) (hE : EvM (AA 17 a s.heap.size) s) (k148 : Int32 → St → Option (Int32 × St)) (hk148 : ∀ (x1 : Int32) (S : St), GF p l e rX9_init s m args below meth c D 17 a (cM cI cZ a) (AA 17 a s.heap.size) 3 16 1860 (fun res => MQ below (va_Qv (fun u => ((0 : Int32), u) = res) (Bw D (tyW cI cZ cO) 17 a (cM cI cZ a) (AA 17 a s.heap.size)) (AA 17 a s.heap.size)) args s 16 1860 (AA 17 a s.heap.size)) (k148 x1 S) 148 [(0, .ref (a 0)), (1, .int x1)] [] S) (k156 : Int32 → Int32 → St → Option (Int32 × St)) (hk156 : ∀ (x1 : Int32) (x2 : Int32) (S : St), GF p l e rX9_init s m args below meth c D 17 a (cM cI cZ a) (AA 17 a s.heap.size) 3 16 1860 (fun res => MQ below (va_Qv (fun u => ((0 : Int32), u) = res) (Bw D (tyW cI cZ cO) 17 a (cM cI cZ a) (AA 17 a s.heap.size)) (AA 17 a s.heap.size)) args s 16 1860 (AA 17 a s.heap.size)) (k156 x1 x2 S) 156 [(0, .ref (a 0)), (1, .int x1), (2, .int x2)] [] S) (x1 : Int32) (x2 : Int32) (S : St) : GF p l e rX9_init s m args below meth c D 17 a (cM cI cZ a) (AA 17 a s.heap.size) 3 16 1860 (fun res => MQ below (va_Qv (fun u => ((0 : Int32), u) = res) (Bw D (tyW cI cZ cO) 17 a (cM cI cZ a) (AA 17 a s.heap.size)) (AA 17 a s.heap.size)) args s 16 1860 (AA 17 a s.heap.size)) (bX9_init_156 k148 k156 x1 x2 S) 156 [(0, .ref (a 0)), (1, .int x1), (2, .int x2)] [] S := by
  unfold bX9_init_156
  refine g_iload_n (j := 2) hc dX9_init_156 rfl rfl ?_
  refine g_iconst (v := 4) hc dX9_init_157 (by decide) ?_
  refine g_icmp_ge (tgt := 182) hc dX9_init_158 (by decide) ?_ ?_
  · refine g_iinc (j := 1) (w := x1 + 1) (L := fun v1 => [(1, .int v1), (0, .ref (a 0)), (2, .int x2)]) hc dX9_init_182 rfl (by rfl) (by decide) (fun _ => rfl) (fun v1 => ?_)
    refine g_goto (tgt := 148) hc dX9_init_185 (by decide) ?_
    refine g_lv [1, 0] rfl ?_
    exact hk148 v1 S
  · refine g_aload_n (j := 0) hc dX9_init_161 rfl rfl ?_
    refine g_get (C0 := RX9) (T := TX9) (M := 24) (k := 0) (ci := 9) hc inX9_init_X9 (by decide) rfl rfl 7 (by decide) (List.mem_of_getElem? (i := 9) rfl) rfl rfl dX9_init_162 ?_
    refine g_iconst (v := 4) hc dX9_init_165 (by decide) ?_
    refine g_iload_n (j := 1) hc dX9_init_166 rfl rfl ?_
    refine g_imul hc dX9_init_167 ?_
    refine g_iload_n (j := 2) hc dX9_init_168 rfl rfl ?_
    refine g_iadd hc dX9_init_169 ?_
    refine g_iload_n (j := 1) hc dX9_init_170 rfl rfl ?_
    refine g_iconst (v := 1) hc dX9_init_171 (by decide) ?_
    refine g_iload_n (j := 2) hc dX9_init_172 rfl rfl ?_
    refine g_ishl hc dX9_init_173 ?_
    refine g_ior hc dX9_init_174 ?_
    refine g_iast (k := 3) (t0 := 0) hc locM (by decide) rfl rfl rfl dX9_init_175 (fun S2 => ?_)
    refine g_iinc (j := 2) (w := x2 + 1) (L := fun v3 => [(2, .int v3), (0, .ref (a 0)), (1, .int x1)]) hc dX9_init_176 rfl (by rfl) (by decide) (fun _ => rfl) (fun v3 => ?_)
    refine g_goto (tgt := 156) hc dX9_init_179 (by decide) ?_
    refine g_lv [1, 2, 0] rfl ?_
    exact hk156 x1 v3 S2
set_option maxHeartbeats 4000000 in
set_option maxRecDepth 100000 in
theorem TX9_init_156 {p : Program} {e : Env} {s : State} {m : MethodId} {args : Array Value} {below : List Frame} {meth : Method} {c : Code} (hc : CT p s m args c cX9_init 3 RX9 wsX9_init D (tyW cI cZ cO)) (hr : meth.sig.returnType = none) (hlk : meth.locks = false) (hE : EvM (AA 17 a s.heap.size) s) (k148 : Int32 → St → Option (Int32 × St)) (hk148 : ∀ (x1 : Int32) (S : St), GF p l e rX9_init s m args below meth c D 17 a (cM cI cZ a) (AA 17 a s.heap.size) 3 16 1860 (fun res => MQ below (va_Qv (fun u => ((0 : Int32), u) = res) (Bw D (tyW cI cZ cO) 17 a (cM cI cZ a) (AA 17 a s.heap.size)) (AA 17 a s.heap.size)) args s 16 1860 (AA 17 a s.heap.size)) (k148 x1 S) 148 [(0, .ref (a 0)), (1, .int x1)] [] S) (n : Nat) (x1 : Int32) (x2 : Int32) (S : St) : GF p l e rX9_init s m args below meth c D 17 a (cM cI cZ a) (AA 17 a s.heap.size) 3 16 1860 (fun res => MQ below (va_Qv (fun u => ((0 : Int32), u) = res) (Bw D (tyW cI cZ cO) 17 a (cM cI cZ a) (AA 17 a s.heap.size)) (AA 17 a s.heap.size)) args s 16 1860 (AA 17 a s.heap.size)) (lX9_init_156 k148 n x1 x2 S) 156 [(0, .ref (a 0)), (1, .int x1), (2, .int x2)] [] S :=
  lp_ind (P := fun k : Int32 → Int32 → St → Option (Int32 × St) => ∀ (x1 : Int32) (x2 : Int32) (S : St), GF p l e rX9_init s m args below meth c D 17 a (cM cI cZ a) (AA 17 a s.heap.size) 3 16 1860 (fun res => MQ below (va_Qv (fun u => ((0 : Int32), u) = res) (Bw D (tyW cI cZ cO) 17 a (cM cI cZ a) (AA 17 a s.heap.size)) (AA 17 a s.heap.size)) args s 16 1860 (AA 17 a s.heap.size)) (k x1 x2 S) 156 [(0, .ref (a 0)), (1, .int x1), (2, .int x2)] [] S) (fun _ _ _ => g_none) (fun k156 hk156 => tX9_init_156 hc hr hlk hE k148 hk148 k156 hk156) n x1 x2 S
set_option maxHeartbeats 4000000 in
set_option maxRecDepth 100000 in
theorem tX9_init_148 {p : Program} {e : Env} {s : State} {m : MethodId} {args : Array Value} {below : List Frame} {meth : Method} {c : Code} (hc : CT p s m args c cX9_init 3 RX9 wsX9_init D (tyW cI cZ cO)) (hr : meth.sig.returnType = none) (hlk : meth.locks = false) (hE : EvM (AA 17 a s.heap.size) s) (k148 : Int32 → St → Option (Int32 × St)) (hk148 : ∀ (x1 : Int32) (S : St), GF p l e rX9_init s m args below meth c D 17 a (cM cI cZ a) (AA 17 a s.heap.size) 3 16 1860 (fun res => MQ below (va_Qv (fun u => ((0 : Int32), u) = res) (Bw D (tyW cI cZ cO) 17 a (cM cI cZ a) (AA 17 a s.heap.size)) (AA 17 a s.heap.size)) args s 16 1860 (AA 17 a s.heap.size)) (k148 x1 S) 148 [(0, .ref (a 0)), (1, .int x1)] [] S) (x1 : Int32) (S : St) : GF p l e rX9_init s m args below meth c D 17 a (cM cI cZ a) (AA 17 a s.heap.size) 3 16 1860 (fun res => MQ below (va_Qv (fun u => ((0 : Int32), u) = res) (Bw D (tyW cI cZ cO) 17 a (cM cI cZ a) (AA 17 a s.heap.size)) (AA 17 a s.heap.size)) args s 16 1860 (AA 17 a s.heap.size)) (bX9_init_148 k148 x1 S) 148 [(0, .ref (a 0)), (1, .int x1)] [] S := by
  unfold bX9_init_148
  refine g_iload_n (j := 1) hc dX9_init_148 rfl rfl ?_
  refine g_bipush (v := 16) hc dX9_init_149 (by decide) ?_
  refine g_icmp_ge (tgt := 188) hc dX9_init_151 (by decide) ?_ ?_
  · exact g_cret hc hr hlk dX9_init_188
  · refine g_iconst (v := 0) hc dX9_init_154 (by decide) ?_
    refine g_istore_n (L := fun v1 => [(2, .int v1), (0, .ref (a 0)), (1, .int x1)]) hc dX9_init_155 rfl (by decide) (fun _ => rfl) (fun v1 => ?_)
    refine g_lv [1, 2, 0] rfl ?_
    exact TX9_init_156 hc hr hlk hE k148 hk148 FU x1 v1 S
set_option maxHeartbeats 4000000 in
set_option maxRecDepth 100000 in
theorem TX9_init_148 {p : Program} {e : Env} {s : State} {m : MethodId} {args : Array Value} {below : List Frame} {meth : Method} {c : Code} (hc : CT p s m args c cX9_init 3 RX9 wsX9_init D (tyW cI cZ cO)) (hr : meth.sig.returnType = none) (hlk : meth.locks = false) (hE : EvM (AA 17 a s.heap.size) s) (n : Nat) (x1 : Int32) (S : St) : GF p l e rX9_init s m args below meth c D 17 a (cM cI cZ a) (AA 17 a s.heap.size) 3 16 1860 (fun res => MQ below (va_Qv (fun u => ((0 : Int32), u) = res) (Bw D (tyW cI cZ cO) 17 a (cM cI cZ a) (AA 17 a s.heap.size)) (AA 17 a s.heap.size)) args s 16 1860 (AA 17 a s.heap.size)) (lX9_init_148 n x1 S) 148 [(0, .ref (a 0)), (1, .int x1)] [] S :=
  lp_ind (P := fun k : Int32 → St → Option (Int32 × St) => ∀ (x1 : Int32) (S : St), GF p l e rX9_init s m args below meth c D 17 a (cM cI cZ a) (AA 17 a s.heap.size) 3 16 1860 (fun res => MQ below (va_Qv (fun u => ((0 : Int32), u) = res) (Bw D (tyW cI cZ cO) 17 a (cM cI cZ a) (AA 17 a s.heap.size)) (AA 17 a s.heap.size)) args s 16 1860 (AA 17 a s.heap.size)) (k x1 S) 148 [(0, .ref (a 0)), (1, .int x1)] [] S) (fun _ _ => g_none) (fun k148 hk148 => tX9_init_148 hc hr hlk hE k148 hk148) n x1 S
set_option maxHeartbeats 4000000 in
set_option maxRecDepth 100000 in
theorem eX9_init {p : Program} {e : Env} {s : State} {m : MethodId} {args : Array Value} {below : List Frame} {meth : Method} {c : Code} (hc : CT p s m args c cX9_init 3 RX9 wsX9_init D (tyW cI cZ cO)) (hr : meth.sig.returnType = none) (hlk : meth.locks = false) (hE : EvM (AA 17 a s.heap.size) s) (S : St) : GF p l e rX9_init s m args below meth c D 17 a (cM cI cZ a) (AA 17 a s.heap.size) 3 16 1860 (fun res => MQ below (va_Qv (fun u => ((0 : Int32), u) = res) (Bw D (tyW cI cZ cO) 17 a (cM cI cZ a) (AA 17 a s.heap.size)) (AA 17 a s.heap.size)) args s 16 1860 (AA 17 a s.heap.size)) (uX9_init S) 146 [(0, .ref (a 0))] [] S := by
  unfold uX9_init
  refine g_iconst (v := 0) hc dX9_init_146 (by decide) ?_
  refine g_istore_n (L := fun v1 => [(1, .int v1), (0, .ref (a 0))]) hc dX9_init_147 rfl (by decide) (fun _ => rfl) (fun v1 => ?_)
  refine g_lv [1, 0] rfl ?_
  exact TX9_init_148 hc hr hlk hE FU v1 S
end
