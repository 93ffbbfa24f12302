-- X8_init
def rX8_init : Room := { frames := 3, cells := 71, slots := 1486, locals := 120 }
theorem inX8_init_X8 : ∀ w ∈ u_ws RX8 TX8 9, w ∈ wsX8_init := by decide +kernel
def uX8_init (S : St) : Option (Int32 × St) :=
  cl (uX0_stretch 1 1 S) (fun _ S2 => some (0, S2))
section
variable {N : Nat} {C : St → Nat → va_E} {Ev : (Nat → Prop) → State → Prop} {tys : List (ClassId × FieldType)} {l : Launch} {D : va_G} {cI cZ cO cJ : ClassId} {a : Nat → Nat} {tF : Nat}
set_option maxHeartbeats 4000000 in
set_option maxRecDepth 100000 in
theorem eX8_init {p : Program} {e : Env} {s : State} {m : MethodId} {args : Array Value} {below : List Frame} {meth : Method} {c : Code} (hc : CT p s m args c cX8_init 1 RX8 wsX8_init D (tyW cI cZ cO)) (hr : meth.sig.returnType = none) (hlk : meth.locks = false) (hE : EvX tF (AA 72 a s.heap.size) s) (S : St) : GF p l e rX8_init s m args below meth c D 72 a (cX cI cZ cO a) (AA 72 a s.heap.size) 1 71 1486 (fun res => MQ below (va_Qv (fun u => ((0 : Int32), u) = res) (Bw D (tyW cI cZ cO) 72 a (cX cI cZ cO a) (AA 72 a s.heap.size)) (AA 72 a s.heap.size)) args s 71 1486 (AA 72 a s.heap.size)) (uX8_init S) 97 [(0, .ref (a 0))] [] S := by
  unfold uX8_init
  refine g_aload_n (j := 0) hc dX8_init_97 rfl rfl ?_
  refine g_get (C0 := RX8) (T := TX8) (M := 9) (k := 0) (ci := 8) hc inX8_init_X8 (by decide) rfl rfl 2 (by decide) (List.mem_of_getElem? (i := 15) rfl) rfl rfl dX8_init_98 ?_
  refine g_iconst (v := 1) hc dX8_init_101 (by decide) ?_
  refine g_iconst (v := 1) hc dX8_init_102 (by decide) ?_
  refine g_callVv (As := [.int 1, .int 1]) (rest := []) (k := 3) (ci := 0) (q0 := (RX0, TX0, 7)) hc hE trX rfl (fun _ h => mX0_stretch 1 1 S _ h) (cwV 2 hc.1.2.2.2.2 gX8_init_X0_stretch rfl rfl rfl (by decide +kernel) ⟨by decide, by decide⟩) (by decide) rfl rfl rfl rfl (Nat.le_of_ble_eq_true rfl) dX8_init_103 ⟨by decide, by decide⟩ (fun S2 => ?_)
  exact g_cret hc hr hlk dX8_init_106
end
