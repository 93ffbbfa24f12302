def rX7_init : Room := { frames := 1, cells := 2, slots := 8, locals := 40 }
theorem inX7_init_X7 : ∀ w ∈ u_ws RX7 TX7 2, w ∈ wsX7_init := by decide +kernel
set_option maxHeartbeats 4000000 in
set_option maxRecDepth 100000 in
theorem kX7_init {l : Launch} {D : va_G} {cI cZ cO : ClassId} (h0 : Nat) : Kc l yX7_init wsX7_init rX7_init D cI cZ cO 7 [.null, .null] 3 (cK7 cI) (fun _ => True) h0 := by
  refine m_Kc (cc := cX7_init) (nL := 1) (by decide) rfl rfl (by decide) ?_
  intro p e s m args below meth c hc hr hlk hnm hov
  have hA : ∀ q, s.heap.size ≤ q → A1 h0 s.heap.size q := fun q h => Or.inr h
  refine gc_aload_n (j := 0) hc dX7_init_0 rfl rfl ?_
  refine gc_obj hc (List.mem_of_getElem? (i := 1) rfl) (List.mem_of_getElem? (i := 2) rfl) (List.mem_of_getElem? (i := 3) rfl) (by decide) (by decide) dX7_init_1 ?_
  refine gc_aload_n (j := 0) hc dX7_init_4 rfl rfl ?_
  refine gc_iconst (v := 4) hc dX7_init_5 (by decide) ?_
  refine gc_newaI (n := 4) hc hA (List.mem_of_getElem? (i := 4) rfl) (by decide) (by decide) (by decide) (by decide) (by decide) dX7_init_6 (fun q1 => ?_)
  refine gc_wid (k := 1) (n := 4) (by decide) (by decide) ?_
  refine gc_eq (ws' := [(h0, .inr (7, [.null, .null])), (q1, .inl (cI, 4, .inl (fun _ => 0)))]) rfl ?_
  refine gc_putF (ws' := [(h0, .inr (7, [.ref q1, .null])), (q1, .inl (cI, 4, .inl (fun _ => 0)))]) (C0 := RX7) (T := TX7) (M := 2) (k := 0) (ci := 7) (ty := .array .int) hc hnm tyX7 tyX7_ok nmX7 inX7_init_X7 rfl rfl 0 (by decide) (List.mem_of_getElem? (i := 5) rfl) rfl rfl rfl (by decide +kernel) rfl rfl (Nat.le_of_ble_eq_true rfl) rfl dX7_init_8 ?_
  refine gc_aload_n (j := 0) hc dX7_init_11 rfl rfl ?_
  refine gc_iconst (v := 4) hc dX7_init_12 (by decide) ?_
  refine gc_newaI (n := 4) hc hA (List.mem_of_getElem? (i := 4) rfl) (by decide) (by decide) (by decide) (by decide) (by decide) dX7_init_13 (fun q2 => ?_)
  refine gc_wid (k := 2) (n := 8) (by decide) (by decide) ?_
  refine gc_eq (ws' := [(h0, .inr (7, [.ref q1, .null])), (q1, .inl (cI, 4, .inl (fun _ => 0))), (q2, .inl (cI, 4, .inl (fun _ => 0)))]) rfl ?_
  refine gc_putF (ws' := [(h0, .inr (7, [.ref q1, .ref q2])), (q1, .inl (cI, 4, .inl (fun _ => 0))), (q2, .inl (cI, 4, .inl (fun _ => 0)))]) (C0 := RX7) (T := TX7) (M := 2) (k := 0) (ci := 7) (ty := .array .int) hc hnm tyX7 tyX7_ok nmX7 inX7_init_X7 rfl rfl 1 (by decide) (List.mem_of_getElem? (i := 6) rfl) rfl rfl rfl (by decide +kernel) rfl rfl (Nat.le_of_ble_eq_true rfl) rfl dX7_init_15 ?_
  exact gc_ret (n := 3) (C := cK7 cI) (P := fun _ => True) hc hr hlk (fun k => [h0, q1, q2].getD k 0) z0 (fun k => k) (by
    intro k hk
    match k, hk with
    | 0, _ => exact ⟨_, rfl, Or.inl rfl⟩
    | 1, _ => exact ⟨_, rfl, Or.inl rfl⟩
    | 2, _ => exact ⟨_, rfl, Or.inl rfl⟩
    | k + 3, hk => exact absurd hk (by omega)) (fun _ _ _ _ h => h) rfl trivial (by decide) (by decide) dX7_init_18
def rX0_init : Room := { frames := 1, cells := 13, slots := 240, locals := 40 }
theorem inX0_init_X0 : ∀ w ∈ u_ws RX0 TX0 7, w ∈ wsX0_init := by decide +kernel
set_option maxHeartbeats 4000000 in
set_option maxRecDepth 100000 in
theorem kX0_init {l : Launch} {D : va_G} {cI cZ cO : ClassId} (h0 : Nat) : Kc l yX0_init wsX0_init rX0_init D cI cZ cO 0 [.int 0, .int 0, .null, .null, .null, .null, .null] 14 (cK0 cI cZ cO) (fun _ => True) h0 := by
  refine m_Kc (cc := cX0_init) (nL := 1) (by decide) rfl rfl (by decide) ?_
  intro p e s m args below meth c hc hr hlk hnm hov
  have hA : ∀ q, s.heap.size ≤ q → A1 h0 s.heap.size q := fun q h => Or.inr h
  refine gc_aload_n (j := 0) hc dX0_init_0 rfl rfl ?_
  refine gc_obj hc (List.mem_of_getElem? (i := 1) rfl) (List.mem_of_getElem? (i := 2) rfl) (List.mem_of_getElem? (i := 3) rfl) (by decide) (by decide) dX0_init_1 ?_
  refine gc_aload_n (j := 0) hc dX0_init_4 rfl rfl ?_
  refine gc_bipush (v := 16) hc dX0_init_5 (by decide) ?_
  refine gc_newaI (n := 16) hc hA (List.mem_of_getElem? (i := 4) rfl) (by decide) (by decide) (by decide) (by decide) (by decide) dX0_init_7 (fun q1 => ?_)
  refine gc_wid (k := 1) (n := 16) (by decide) (by decide) ?_
  refine gc_eq (ws' := [(h0, .inr (0, [.int 0, .int 0, .null, .null, .null, .null, .null])), (q1, .inl (cI, 16, .inl (fun _ => 0)))]) rfl ?_
  refine gc_putF (ws' := [(h0, .inr (0, [.int 0, .int 0, .ref q1, .null, .null, .null, .null])), (q1, .inl (cI, 16, .inl (fun _ => 0)))]) (C0 := RX0) (T := TX0) (M := 7) (k := 0) (ci := 0) (ty := .array .int) hc hnm tyX0 tyX0_ok nmX0 inX0_init_X0 rfl rfl 2 (by decide) (List.mem_of_getElem? (i := 5) rfl) rfl rfl rfl (by decide +kernel) rfl rfl (Nat.le_of_ble_eq_true rfl) rfl dX0_init_9 ?_
  refine gc_aload_n (j := 0) hc dX0_init_12 rfl rfl ?_
  refine gc_bipush (v := 8) hc dX0_init_13 (by decide) ?_
  refine gc_newaI (n := 8) hc hA (List.mem_of_getElem? (i := 4) rfl) (by decide) (by decide) (by decide) (by decide) (by decide) dX0_init_15 (fun q2 => ?_)
  refine gc_wid (k := 2) (n := 24) (by decide) (by decide) ?_
  refine gc_eq (ws' := [(h0, .inr (0, [.int 0, .int 0, .ref q1, .null, .null, .null, .null])), (q1, .inl (cI, 16, .inl (fun _ => 0))), (q2, .inl (cI, 8, .inl (fun _ => 0)))]) rfl ?_
  refine gc_putF (ws' := [(h0, .inr (0, [.int 0, .int 0, .ref q1, .ref q2, .null, .null, .null])), (q1, .inl (cI, 16, .inl (fun _ => 0))), (q2, .inl (cI, 8, .inl (fun _ => 0)))]) (C0 := RX0) (T := TX0) (M := 7) (k := 0) (ci := 0) (ty := .array .int) hc hnm tyX0 tyX0_ok nmX0 inX0_init_X0 rfl rfl 3 (by decide) (List.mem_of_getElem? (i := 6) rfl) rfl rfl rfl (by decide +kernel) rfl rfl (Nat.le_of_ble_eq_true rfl) rfl dX0_init_17 ?_
  refine gc_aload_n (j := 0) hc dX0_init_20 rfl rfl ?_
  refine gc_bipush (v := 8) hc dX0_init_21 (by decide) ?_
  refine gc_newaZ (n := 8) hc hA (List.mem_of_getElem? (i := 7) rfl) (by decide) (by decide) (by decide) (by decide) (by decide) dX0_init_23 (fun q3 => ?_)
  refine gc_wid (k := 3) (n := 32) (by decide) (by decide) ?_
  refine gc_eq (ws' := [(h0, .inr (0, [.int 0, .int 0, .ref q1, .ref q2, .null, .null, .null])), (q1, .inl (cI, 16, .inl (fun _ => 0))), (q2, .inl (cI, 8, .inl (fun _ => 0))), (q3, .inl (cZ, 8, .inl (fun _ => 0)))]) rfl ?_
  refine gc_putF (ws' := [(h0, .inr (0, [.int 0, .int 0, .ref q1, .ref q2, .ref q3, .null, .null])), (q1, .inl (cI, 16, .inl (fun _ => 0))), (q2, .inl (cI, 8, .inl (fun _ => 0))), (q3, .inl (cZ, 8, .inl (fun _ => 0)))]) (C0 := RX0) (T := TX0) (M := 7) (k := 0) (ci := 0) (ty := .array .boolean) hc hnm tyX0 tyX0_ok nmX0 inX0_init_X0 rfl rfl 4 (by decide) (List.mem_of_getElem? (i := 8) rfl) rfl rfl rfl (by decide +kernel) rfl rfl (Nat.le_of_ble_eq_true rfl) rfl dX0_init_25 ?_
  refine gc_aload_n (j := 0) hc dX0_init_28 rfl rfl ?_
  refine gc_bipush (v := 8) hc dX0_init_29 (by decide) ?_
  refine gc_newaI (n := 8) hc hA (List.mem_of_getElem? (i := 4) rfl) (by decide) (by decide) (by decide) (by decide) (by decide) dX0_init_31 (fun q4 => ?_)
  refine gc_wid (k := 4) (n := 40) (by decide) (by decide) ?_
  refine gc_eq (ws' := [(h0, .inr (0, [.int 0, .int 0, .ref q1, .ref q2, .ref q3, .null, .null])), (q1, .inl (cI, 16, .inl (fun _ => 0))), (q2, .inl (cI, 8, .inl (fun _ => 0))), (q3, .inl (cZ, 8, .inl (fun _ => 0))), (q4, .inl (cI, 8, .inl (fun _ => 0)))]) rfl ?_
  refine gc_putF (ws' := [(h0, .inr (0, [.int 0, .int 0, .ref q1, .ref q2, .ref q3, .ref q4, .null])), (q1, .inl (cI, 16, .inl (fun _ => 0))), (q2, .inl (cI, 8, .inl (fun _ => 0))), (q3, .inl (cZ, 8, .inl (fun _ => 0))), (q4, .inl (cI, 8, .inl (fun _ => 0)))]) (C0 := RX0) (T := TX0) (M := 7) (k := 0) (ci := 0) (ty := .array .int) hc hnm tyX0 tyX0_ok nmX0 inX0_init_X0 rfl rfl 5 (by decide) (List.mem_of_getElem? (i := 9) rfl) rfl rfl rfl (by decide +kernel) rfl rfl (Nat.le_of_ble_eq_true rfl) rfl dX0_init_33 ?_
  refine gc_aload_n (j := 0) hc dX0_init_36 rfl rfl ?_
  refine gc_bipush (v := 8) hc dX0_init_37 (by decide) ?_
  refine gc_bipush (v := 24) hc dX0_init_39 (by decide) ?_
  refine gc_mna (n := 8) (k := 24) hc hA (List.mem_of_getElem? (i := 10) rfl) hov (List.mem_of_getElem? (i := 4) rfl) (by decide) (by decide) (by decide) (by decide) (by decide) (by decide) (by decide) (by decide) (by decide) dX0_init_41 (fun q5 r5 => ?_)
  refine gc_wid (k := 13) (n := 240) (by decide) (by decide) ?_
  refine gc_eq (ws' := [(h0, .inr (0, [.int 0, .int 0, .ref q1, .ref q2, .ref q3, .ref q4, .null])), (q1, .inl (cI, 16, .inl (fun _ => 0))), (q2, .inl (cI, 8, .inl (fun _ => 0))), (q3, .inl (cZ, 8, .inl (fun _ => 0))), (q4, .inl (cI, 8, .inl (fun _ => 0))), (q5, .inl (cO, 8, .inr (.inr (.inr (.inr (fun i => some (r5 i))))))), (r5 0, .inl (cI, 24, .inl (fun _ => 0))), (r5 1, .inl (cI, 24, .inl (fun _ => 0))), (r5 2, .inl (cI, 24, .inl (fun _ => 0))), (r5 3, .inl (cI, 24, .inl (fun _ => 0))), (r5 4, .inl (cI, 24, .inl (fun _ => 0))), (r5 5, .inl (cI, 24, .inl (fun _ => 0))), (r5 6, .inl (cI, 24, .inl (fun _ => 0))), (r5 7, .inl (cI, 24, .inl (fun _ => 0)))]) rfl ?_
  refine gc_putF (ws' := [(h0, .inr (0, [.int 0, .int 0, .ref q1, .ref q2, .ref q3, .ref q4, .ref q5])), (q1, .inl (cI, 16, .inl (fun _ => 0))), (q2, .inl (cI, 8, .inl (fun _ => 0))), (q3, .inl (cZ, 8, .inl (fun _ => 0))), (q4, .inl (cI, 8, .inl (fun _ => 0))), (q5, .inl (cO, 8, .inr (.inr (.inr (.inr (fun i => some (r5 i))))))), (r5 0, .inl (cI, 24, .inl (fun _ => 0))), (r5 1, .inl (cI, 24, .inl (fun _ => 0))), (r5 2, .inl (cI, 24, .inl (fun _ => 0))), (r5 3, .inl (cI, 24, .inl (fun _ => 0))), (r5 4, .inl (cI, 24, .inl (fun _ => 0))), (r5 5, .inl (cI, 24, .inl (fun _ => 0))), (r5 6, .inl (cI, 24, .inl (fun _ => 0))), (r5 7, .inl (cI, 24, .inl (fun _ => 0)))]) (C0 := RX0) (T := TX0) (M := 7) (k := 0) (ci := 0) (ty := .array (.array .int)) hc hnm tyX0 tyX0_ok nmX0 inX0_init_X0 rfl rfl 6 (by decide) (List.mem_of_getElem? (i := 11) rfl) rfl rfl rfl (by decide +kernel) rfl rfl (Nat.le_of_ble_eq_true rfl) rfl dX0_init_45 ?_
  exact gc_ret (n := 14) (C := cK0 cI cZ cO) (P := fun _ => True) hc hr hlk (fun k => if k < 6 then [h0, q1, q2, q3, q4, q5].getD k 0 else r5 (k - 6)) z0 (fun k => k) (by
    intro k hk
    match k, hk with
    | 0, _ => exact ⟨_, rfl, Or.inl rfl⟩
    | 1, _ => exact ⟨_, rfl, Or.inl rfl⟩
    | 2, _ => exact ⟨_, rfl, Or.inl rfl⟩
    | 3, _ => exact ⟨_, rfl, Or.inl rfl⟩
    | 4, _ => exact ⟨_, rfl, Or.inl rfl⟩
    | 5, _ => exact ⟨_, rfl, Or.inr ⟨_, _, _, _, rfl, rfl, fun i hi => by show some (r5 i) = some ((fun k => if k < 6 then [h0, q1, q2, q3, q4, q5].getD k 0 else r5 (k - 6)) (6 + i)); dsimp only; rw [if_neg (by omega), Nat.add_sub_cancel_left]⟩⟩
    | 6, _ => exact ⟨_, rfl, Or.inl rfl⟩
    | 7, _ => exact ⟨_, rfl, Or.inl rfl⟩
    | 8, _ => exact ⟨_, rfl, Or.inl rfl⟩
    | 9, _ => exact ⟨_, rfl, Or.inl rfl⟩
    | 10, _ => exact ⟨_, rfl, Or.inl rfl⟩
    | 11, _ => exact ⟨_, rfl, Or.inl rfl⟩
    | 12, _ => exact ⟨_, rfl, Or.inl rfl⟩
    | 13, _ => exact ⟨_, rfl, Or.inl rfl⟩
    | k + 14, hk => exact absurd hk (by omega)) (fun _ _ _ _ h => h) rfl trivial (by decide) (by decide) dX0_init_48
def rX3_init : Room := { frames := 1, cells := 17, slots := 400, locals := 40 }
theorem inX3_init_X3 : ∀ w ∈ u_ws RX3 TX3 1, w ∈ wsX3_init := by decide +kernel
set_option maxHeartbeats 4000000 in
set_option maxRecDepth 100000 in
theorem kX3_init {l : Launch} {D : va_G} {cI cZ cO : ClassId} (h0 : Nat) : Kc l yX3_init wsX3_init rX3_init D cI cZ cO 3 [.null] 18 (cK3 cI cO) (fun _ => True) h0 := by
  refine m_Kc (cc := cX3_init) (nL := 1) (by decide) rfl rfl (by decide) ?_
  intro p e s m args below meth c hc hr hlk hnm hov
  have hA : ∀ q, s.heap.size ≤ q → A1 h0 s.heap.size q := fun q h => Or.inr h
  refine gc_aload_n (j := 0) hc dX3_init_0 rfl rfl ?_
  refine gc_obj hc (List.mem_of_getElem? (i := 1) rfl) (List.mem_of_getElem? (i := 2) rfl) (List.mem_of_getElem? (i := 3) rfl) (by decide) (by decide) dX3_init_1 ?_
  refine gc_aload_n (j := 0) hc dX3_init_4 rfl rfl ?_
  refine gc_bipush (v := 16) hc dX3_init_5 (by decide) ?_
  refine gc_bipush (v := 24) hc dX3_init_7 (by decide) ?_
  refine gc_mna (n := 16) (k := 24) hc hA (List.mem_of_getElem? (i := 4) rfl) hov (List.mem_of_getElem? (i := 5) rfl) (by decide) (by decide) (by decide) (by decide) (by decide) (by decide) (by decide) (by decide) (by decide) dX3_init_9 (fun q1 r1 => ?_)
  refine gc_wid (k := 17) (n := 400) (by decide) (by decide) ?_
  refine gc_eq (ws' := [(h0, .inr (3, [.null])), (q1, .inl (cO, 16, .inr (.inr (.inr (.inr (fun i => some (r1 i))))))), (r1 0, .inl (cI, 24, .inl (fun _ => 0))), (r1 1, .inl (cI, 24, .inl (fun _ => 0))), (r1 2, .inl (cI, 24, .inl (fun _ => 0))), (r1 3, .inl (cI, 24, .inl (fun _ => 0))), (r1 4, .inl (cI, 24, .inl (fun _ => 0))), (r1 5, .inl (cI, 24, .inl (fun _ => 0))), (r1 6, .inl (cI, 24, .inl (fun _ => 0))), (r1 7, .inl (cI, 24, .inl (fun _ => 0))), (r1 8, .inl (cI, 24, .inl (fun _ => 0))), (r1 9, .inl (cI, 24, .inl (fun _ => 0))), (r1 10, .inl (cI, 24, .inl (fun _ => 0))), (r1 11, .inl (cI, 24, .inl (fun _ => 0))), (r1 12, .inl (cI, 24, .inl (fun _ => 0))), (r1 13, .inl (cI, 24, .inl (fun _ => 0))), (r1 14, .inl (cI, 24, .inl (fun _ => 0))), (r1 15, .inl (cI, 24, .inl (fun _ => 0)))]) rfl ?_
  refine gc_putF (ws' := [(h0, .inr (3, [.ref q1])), (q1, .inl (cO, 16, .inr (.inr (.inr (.inr (fun i => some (r1 i))))))), (r1 0, .inl (cI, 24, .inl (fun _ => 0))), (r1 1, .inl (cI, 24, .inl (fun _ => 0))), (r1 2, .inl (cI, 24, .inl (fun _ => 0))), (r1 3, .inl (cI, 24, .inl (fun _ => 0))), (r1 4, .inl (cI, 24, .inl (fun _ => 0))), (r1 5, .inl (cI, 24, .inl (fun _ => 0))), (r1 6, .inl (cI, 24, .inl (fun _ => 0))), (r1 7, .inl (cI, 24, .inl (fun _ => 0))), (r1 8, .inl (cI, 24, .inl (fun _ => 0))), (r1 9, .inl (cI, 24, .inl (fun _ => 0))), (r1 10, .inl (cI, 24, .inl (fun _ => 0))), (r1 11, .inl (cI, 24, .inl (fun _ => 0))), (r1 12, .inl (cI, 24, .inl (fun _ => 0))), (r1 13, .inl (cI, 24, .inl (fun _ => 0))), (r1 14, .inl (cI, 24, .inl (fun _ => 0))), (r1 15, .inl (cI, 24, .inl (fun _ => 0)))]) (C0 := RX3) (T := TX3) (M := 1) (k := 0) (ci := 3) (ty := .array (.array .int)) hc hnm tyX3 tyX3_ok nmX3 inX3_init_X3 rfl rfl 0 (by decide) (List.mem_of_getElem? (i := 6) rfl) rfl rfl rfl (by decide +kernel) rfl rfl (Nat.le_of_ble_eq_true rfl) rfl dX3_init_13 ?_
  exact gc_ret (n := 18) (C := cK3 cI cO) (P := fun _ => True) hc hr hlk (fun k => if k < 2 then [h0, q1].getD k 0 else r1 (k - 2)) z0 (fun k => k) (by
    intro k hk
    match k, hk with
    | 0, _ => exact ⟨_, rfl, Or.inl rfl⟩
    | 1, _ => exact ⟨_, rfl, Or.inr ⟨_, _, _, _, rfl, rfl, fun i hi => by show some (r1 i) = some ((fun k => if k < 2 then [h0, q1].getD k 0 else r1 (k - 2)) (2 + i)); dsimp only; rw [if_neg (by omega), Nat.add_sub_cancel_left]⟩⟩
    | 2, _ => exact ⟨_, rfl, Or.inl rfl⟩
    | 3, _ => exact ⟨_, rfl, Or.inl rfl⟩
    | 4, _ => exact ⟨_, rfl, Or.inl rfl⟩
    | 5, _ => exact ⟨_, rfl, Or.inl rfl⟩
    | 6, _ => exact ⟨_, rfl, Or.inl rfl⟩
    | 7, _ => exact ⟨_, rfl, Or.inl rfl⟩
    | 8, _ => exact ⟨_, rfl, Or.inl rfl⟩
    | 9, _ => exact ⟨_, rfl, Or.inl rfl⟩
    | 10, _ => exact ⟨_, rfl, Or.inl rfl⟩
    | 11, _ => exact ⟨_, rfl, Or.inl rfl⟩
    | 12, _ => exact ⟨_, rfl, Or.inl rfl⟩
    | 13, _ => exact ⟨_, rfl, Or.inl rfl⟩
    | 14, _ => exact ⟨_, rfl, Or.inl rfl⟩
    | 15, _ => exact ⟨_, rfl, Or.inl rfl⟩
    | 16, _ => exact ⟨_, rfl, Or.inl rfl⟩
    | 17, _ => exact ⟨_, rfl, Or.inl rfl⟩
    | k + 18, hk => exact absurd hk (by omega)) (fun _ _ _ _ h => h) rfl trivial (by decide) (by decide) dX3_init_16
def rX4_init : Room := { frames := 1, cells := 9, slots := 200, locals := 40 }
theorem inX4_init_X4 : ∀ w ∈ u_ws RX4 TX4 4, w ∈ wsX4_init := by decide +kernel
set_option maxHeartbeats 4000000 in
set_option maxRecDepth 100000 in
theorem kX4_init {l : Launch} {D : va_G} {cI cZ cO : ClassId} (h0 : Nat) : Kc l yX4_init wsX4_init rX4_init D cI cZ cO 4 [.int 0, .int 0, .int 0, .null] 10 (cK4 cI cO) (fun _ => True) h0 := by
  refine m_Kc (cc := cX4_init) (nL := 1) (by decide) rfl rfl (by decide) ?_
  intro p e s m args below meth c hc hr hlk hnm hov
  have hA : ∀ q, s.heap.size ≤ q → A1 h0 s.heap.size q := fun q h => Or.inr h
  refine gc_aload_n (j := 0) hc dX4_init_0 rfl rfl ?_
  refine gc_obj hc (List.mem_of_getElem? (i := 1) rfl) (List.mem_of_getElem? (i := 2) rfl) (List.mem_of_getElem? (i := 3) rfl) (by decide) (by decide) dX4_init_1 ?_
  refine gc_aload_n (j := 0) hc dX4_init_4 rfl rfl ?_
  refine gc_iconst (v := 0) hc dX4_init_5 (by decide) ?_
  refine gc_put (ws' := [(h0, .inr (4, [.int 0, .int 0, .int 0, .null]))]) (C0 := RX4) (T := TX4) (M := 4) (k := 0) (ci := 4) (ty := .boolean) hc tyX4 tyX4_ok nmX4 inX4_init_X4 rfl rfl 0 (by decide) (List.mem_of_getElem? (i := 4) rfl) rfl rfl (by decide +kernel) (by decide) (by decide) (Nat.le_of_ble_eq_true rfl) rfl dX4_init_6 ?_
  refine gc_aload_n (j := 0) hc dX4_init_9 rfl rfl ?_
  refine gc_iconst (v := 0) hc dX4_init_10 (by decide) ?_
  refine gc_put (ws' := [(h0, .inr (4, [.int 0, .int 0, .int 0, .null]))]) (C0 := RX4) (T := TX4) (M := 4) (k := 0) (ci := 4) (ty := .int) hc tyX4 tyX4_ok nmX4 inX4_init_X4 rfl rfl 1 (by decide) (List.mem_of_getElem? (i := 5) rfl) rfl rfl (by decide +kernel) rfl rfl (Nat.le_of_ble_eq_true rfl) rfl dX4_init_11 ?_
  refine gc_aload_n (j := 0) hc dX4_init_14 rfl rfl ?_
  refine gc_iconst (v := 0) hc dX4_init_15 (by decide) ?_
  refine gc_put (ws' := [(h0, .inr (4, [.int 0, .int 0, .int 0, .null]))]) (C0 := RX4) (T := TX4) (M := 4) (k := 0) (ci := 4) (ty := .int) hc tyX4 tyX4_ok nmX4 inX4_init_X4 rfl rfl 2 (by decide) (List.mem_of_getElem? (i := 6) rfl) rfl rfl (by decide +kernel) rfl rfl (Nat.le_of_ble_eq_true rfl) rfl dX4_init_16 ?_
  refine gc_aload_n (j := 0) hc dX4_init_19 rfl rfl ?_
  refine gc_bipush (v := 8) hc dX4_init_20 (by decide) ?_
  refine gc_bipush (v := 24) hc dX4_init_22 (by decide) ?_
  refine gc_mna (n := 8) (k := 24) hc hA (List.mem_of_getElem? (i := 7) rfl) hov (List.mem_of_getElem? (i := 8) rfl) (by decide) (by decide) (by decide) (by decide) (by decide) (by decide) (by decide) (by decide) (by decide) dX4_init_24 (fun q1 r1 => ?_)
  refine gc_wid (k := 9) (n := 200) (by decide) (by decide) ?_
  refine gc_eq (ws' := [(h0, .inr (4, [.int 0, .int 0, .int 0, .null])), (q1, .inl (cO, 8, .inr (.inr (.inr (.inr (fun i => some (r1 i))))))), (r1 0, .inl (cI, 24, .inl (fun _ => 0))), (r1 1, .inl (cI, 24, .inl (fun _ => 0))), (r1 2, .inl (cI, 24, .inl (fun _ => 0))), (r1 3, .inl (cI, 24, .inl (fun _ => 0))), (r1 4, .inl (cI, 24, .inl (fun _ => 0))), (r1 5, .inl (cI, 24, .inl (fun _ => 0))), (r1 6, .inl (cI, 24, .inl (fun _ => 0))), (r1 7, .inl (cI, 24, .inl (fun _ => 0)))]) rfl ?_
  refine gc_putF (ws' := [(h0, .inr (4, [.int 0, .int 0, .int 0, .ref q1])), (q1, .inl (cO, 8, .inr (.inr (.inr (.inr (fun i => some (r1 i))))))), (r1 0, .inl (cI, 24, .inl (fun _ => 0))), (r1 1, .inl (cI, 24, .inl (fun _ => 0))), (r1 2, .inl (cI, 24, .inl (fun _ => 0))), (r1 3, .inl (cI, 24, .inl (fun _ => 0))), (r1 4, .inl (cI, 24, .inl (fun _ => 0))), (r1 5, .inl (cI, 24, .inl (fun _ => 0))), (r1 6, .inl (cI, 24, .inl (fun _ => 0))), (r1 7, .inl (cI, 24, .inl (fun _ => 0)))]) (C0 := RX4) (T := TX4) (M := 4) (k := 0) (ci := 4) (ty := .array (.array .int)) hc hnm tyX4 tyX4_ok nmX4 inX4_init_X4 rfl rfl 3 (by decide) (List.mem_of_getElem? (i := 9) rfl) rfl rfl rfl (by decide +kernel) rfl rfl (Nat.le_of_ble_eq_true rfl) rfl dX4_init_28 ?_
  exact gc_ret (n := 10) (C := cK4 cI cO) (P := fun _ => True) hc hr hlk (fun k => if k < 2 then [h0, q1].getD k 0 else r1 (k - 2)) z0 (fun k => k) (by
    intro k hk
    match k, hk with
    | 0, _ => exact ⟨_, rfl, Or.inl rfl⟩
    | 1, _ => exact ⟨_, rfl, Or.inr ⟨_, _, _, _, rfl, rfl, fun i hi => by show some (r1 i) = some ((fun k => if k < 2 then [h0, q1].getD k 0 else r1 (k - 2)) (2 + i)); dsimp only; rw [if_neg (by omega), Nat.add_sub_cancel_left]⟩⟩
    | 2, _ => exact ⟨_, rfl, Or.inl rfl⟩
    | 3, _ => exact ⟨_, rfl, Or.inl rfl⟩
    | 4, _ => exact ⟨_, rfl, Or.inl rfl⟩
    | 5, _ => exact ⟨_, rfl, Or.inl rfl⟩
    | 6, _ => exact ⟨_, rfl, Or.inl rfl⟩
    | 7, _ => exact ⟨_, rfl, Or.inl rfl⟩
    | 8, _ => exact ⟨_, rfl, Or.inl rfl⟩
    | 9, _ => exact ⟨_, rfl, Or.inl rfl⟩
    | k + 10, hk => exact absurd hk (by omega)) (fun _ _ _ _ h => h) rfl trivial (by decide) (by decide) dX4_init_31
def rX6_init : Room := { frames := 1, cells := 2, slots := 32, locals := 40 }
theorem inX6_init_X6 : ∀ w ∈ u_ws RX6 TX6 2, w ∈ wsX6_init := by decide +kernel
set_option maxHeartbeats 4000000 in
set_option maxRecDepth 100000 in
theorem kX6_init {l : Launch} {D : va_G} {cI cZ cO : ClassId} (h0 : Nat) : Kc l yX6_init wsX6_init rX6_init D cI cZ cO 6 [.null, .null] 3 (cK6 cI) (fun _ => True) h0 := by
  refine m_Kc (cc := cX6_init) (nL := 1) (by decide) rfl rfl (by decide) ?_
  intro p e s m args below meth c hc hr hlk hnm hov
  have hA : ∀ q, s.heap.size ≤ q → A1 h0 s.heap.size q := fun q h => Or.inr h
  refine gc_aload_n (j := 0) hc dX6_init_0 rfl rfl ?_
  refine gc_obj hc (List.mem_of_getElem? (i := 1) rfl) (List.mem_of_getElem? (i := 2) rfl) (List.mem_of_getElem? (i := 3) rfl) (by decide) (by decide) dX6_init_1 ?_
  refine gc_aload_n (j := 0) hc dX6_init_4 rfl rfl ?_
  refine gc_bipush (v := 16) hc dX6_init_5 (by decide) ?_
  refine gc_newaI (n := 16) hc hA (List.mem_of_getElem? (i := 4) rfl) (by decide) (by decide) (by decide) (by decide) (by decide) dX6_init_7 (fun q1 => ?_)
  refine gc_wid (k := 1) (n := 16) (by decide) (by decide) ?_
  refine gc_eq (ws' := [(h0, .inr (6, [.null, .null])), (q1, .inl (cI, 16, .inl (fun _ => 0)))]) rfl ?_
  refine gc_putF (ws' := [(h0, .inr (6, [.ref q1, .null])), (q1, .inl (cI, 16, .inl (fun _ => 0)))]) (C0 := RX6) (T := TX6) (M := 2) (k := 0) (ci := 6) (ty := .array .int) hc hnm tyX6 tyX6_ok nmX6 inX6_init_X6 rfl rfl 0 (by decide) (List.mem_of_getElem? (i := 5) rfl) rfl rfl rfl (by decide +kernel) rfl rfl (Nat.le_of_ble_eq_true rfl) rfl dX6_init_9 ?_
  refine gc_aload_n (j := 0) hc dX6_init_12 rfl rfl ?_
  refine gc_bipush (v := 16) hc dX6_init_13 (by decide) ?_
  refine gc_newaI (n := 16) hc hA (List.mem_of_getElem? (i := 4) rfl) (by decide) (by decide) (by decide) (by decide) (by decide) dX6_init_15 (fun q2 => ?_)
  refine gc_wid (k := 2) (n := 32) (by decide) (by decide) ?_
  refine gc_eq (ws' := [(h0, .inr (6, [.ref q1, .null])), (q1, .inl (cI, 16, .inl (fun _ => 0))), (q2, .inl (cI, 16, .inl (fun _ => 0)))]) rfl ?_
  refine gc_putF (ws' := [(h0, .inr (6, [.ref q1, .ref q2])), (q1, .inl (cI, 16, .inl (fun _ => 0))), (q2, .inl (cI, 16, .inl (fun _ => 0)))]) (C0 := RX6) (T := TX6) (M := 2) (k := 0) (ci := 6) (ty := .array .int) hc hnm tyX6 tyX6_ok nmX6 inX6_init_X6 rfl rfl 1 (by decide) (List.mem_of_getElem? (i := 6) rfl) rfl rfl rfl (by decide +kernel) rfl rfl (Nat.le_of_ble_eq_true rfl) rfl dX6_init_17 ?_
  exact gc_ret (n := 3) (C := cK6 cI) (P := fun _ => True) hc hr hlk (fun k => [h0, q1, q2].getD k 0) z0 (fun k => k) (by
    intro k hk
    match k, hk with
    | 0, _ => exact ⟨_, rfl, Or.inl rfl⟩
    | 1, _ => exact ⟨_, rfl, Or.inl rfl⟩
    | 2, _ => exact ⟨_, rfl, Or.inl rfl⟩
    | k + 3, hk => exact absurd hk (by omega)) (fun _ _ _ _ h => h) rfl trivial (by decide) (by decide) dX6_init_20
def rX1_init : Room := { frames := 1, cells := 3, slots := 180, locals := 40 }
theorem inX1_init_X1 : ∀ w ∈ u_ws RX1 TX1 4, w ∈ wsX1_init := by decide +kernel
set_option maxHeartbeats 4000000 in
set_option maxRecDepth 100000 in
theorem kX1_init {l : Launch} {D : va_G} {cI cZ cO : ClassId} (h0 : Nat) : Kc l yX1_init wsX1_init rX1_init D cI cZ cO 1 [.null, .null, .null, .int 0] 4 (cK1 cI) (fun _ => True) h0 := by
  refine m_Kc (cc := cX1_init) (nL := 1) (by decide) rfl rfl (by decide) ?_
  intro p e s m args below meth c hc hr hlk hnm hov
  have hA : ∀ q, s.heap.size ≤ q → A1 h0 s.heap.size q := fun q h => Or.inr h
  refine gc_aload_n (j := 0) hc dX1_init_0 rfl rfl ?_
  refine gc_obj hc (List.mem_of_getElem? (i := 1) rfl) (List.mem_of_getElem? (i := 2) rfl) (List.mem_of_getElem? (i := 3) rfl) (by decide) (by decide) dX1_init_1 ?_
  refine gc_aload_n (j := 0) hc dX1_init_4 rfl rfl ?_
  refine gc_bipush (v := 60) hc dX1_init_5 (by decide) ?_
  refine gc_newaI (n := 60) hc hA (List.mem_of_getElem? (i := 4) rfl) (by decide) (by decide) (by decide) (by decide) (by decide) dX1_init_7 (fun q1 => ?_)
  refine gc_wid (k := 1) (n := 60) (by decide) (by decide) ?_
  refine gc_eq (ws' := [(h0, .inr (1, [.null, .null, .null, .int 0])), (q1, .inl (cI, 60, .inl (fun _ => 0)))]) rfl ?_
  refine gc_putF (ws' := [(h0, .inr (1, [.ref q1, .null, .null, .int 0])), (q1, .inl (cI, 60, .inl (fun _ => 0)))]) (C0 := RX1) (T := TX1) (M := 4) (k := 0) (ci := 1) (ty := .array .int) hc hnm tyX1 tyX1_ok nmX1 inX1_init_X1 rfl rfl 0 (by decide) (List.mem_of_getElem? (i := 5) rfl) rfl rfl rfl (by decide +kernel) rfl rfl (Nat.le_of_ble_eq_true rfl) rfl dX1_init_9 ?_
  refine gc_aload_n (j := 0) hc dX1_init_12 rfl rfl ?_
  refine gc_bipush (v := 60) hc dX1_init_13 (by decide) ?_
  refine gc_newaI (n := 60) hc hA (List.mem_of_getElem? (i := 4) rfl) (by decide) (by decide) (by decide) (by decide) (by decide) dX1_init_15 (fun q2 => ?_)
  refine gc_wid (k := 2) (n := 120) (by decide) (by decide) ?_
  refine gc_eq (ws' := [(h0, .inr (1, [.ref q1, .null, .null, .int 0])), (q1, .inl (cI, 60, .inl (fun _ => 0))), (q2, .inl (cI, 60, .inl (fun _ => 0)))]) rfl ?_
  refine gc_putF (ws' := [(h0, .inr (1, [.ref q1, .ref q2, .null, .int 0])), (q1, .inl (cI, 60, .inl (fun _ => 0))), (q2, .inl (cI, 60, .inl (fun _ => 0)))]) (C0 := RX1) (T := TX1) (M := 4) (k := 0) (ci := 1) (ty := .array .int) hc hnm tyX1 tyX1_ok nmX1 inX1_init_X1 rfl rfl 1 (by decide) (List.mem_of_getElem? (i := 6) rfl) rfl rfl rfl (by decide +kernel) rfl rfl (Nat.le_of_ble_eq_true rfl) rfl dX1_init_17 ?_
  refine gc_aload_n (j := 0) hc dX1_init_20 rfl rfl ?_
  refine gc_bipush (v := 60) hc dX1_init_21 (by decide) ?_
  refine gc_newaI (n := 60) hc hA (List.mem_of_getElem? (i := 4) rfl) (by decide) (by decide) (by decide) (by decide) (by decide) dX1_init_23 (fun q3 => ?_)
  refine gc_wid (k := 3) (n := 180) (by decide) (by decide) ?_
  refine gc_eq (ws' := [(h0, .inr (1, [.ref q1, .ref q2, .null, .int 0])), (q1, .inl (cI, 60, .inl (fun _ => 0))), (q2, .inl (cI, 60, .inl (fun _ => 0))), (q3, .inl (cI, 60, .inl (fun _ => 0)))]) rfl ?_
  refine gc_putF (ws' := [(h0, .inr (1, [.ref q1, .ref q2, .ref q3, .int 0])), (q1, .inl (cI, 60, .inl (fun _ => 0))), (q2, .inl (cI, 60, .inl (fun _ => 0))), (q3, .inl (cI, 60, .inl (fun _ => 0)))]) (C0 := RX1) (T := TX1) (M := 4) (k := 0) (ci := 1) (ty := .array .int) hc hnm tyX1 tyX1_ok nmX1 inX1_init_X1 rfl rfl 2 (by decide) (List.mem_of_getElem? (i := 7) rfl) rfl rfl rfl (by decide +kernel) rfl rfl (Nat.le_of_ble_eq_true rfl) rfl dX1_init_25 ?_
  refine gc_aload_n (j := 0) hc dX1_init_28 rfl rfl ?_
  refine gc_iconst (v := 0) hc dX1_init_29 (by decide) ?_
  refine gc_put (ws' := [(h0, .inr (1, [.ref q1, .ref q2, .ref q3, .int 0])), (q1, .inl (cI, 60, .inl (fun _ => 0))), (q2, .inl (cI, 60, .inl (fun _ => 0))), (q3, .inl (cI, 60, .inl (fun _ => 0)))]) (C0 := RX1) (T := TX1) (M := 4) (k := 0) (ci := 1) (ty := .int) hc tyX1 tyX1_ok nmX1 inX1_init_X1 rfl rfl 3 (by decide) (List.mem_of_getElem? (i := 8) rfl) rfl rfl (by decide +kernel) rfl rfl (Nat.le_of_ble_eq_true rfl) rfl dX1_init_30 ?_
  exact gc_ret (n := 4) (C := cK1 cI) (P := fun _ => True) hc hr hlk (fun k => [h0, q1, q2, q3].getD k 0) z0 (fun k => k) (by
    intro k hk
    match k, hk with
    | 0, _ => exact ⟨_, rfl, Or.inl rfl⟩
    | 1, _ => exact ⟨_, rfl, Or.inl rfl⟩
    | 2, _ => exact ⟨_, rfl, Or.inl rfl⟩
    | 3, _ => exact ⟨_, rfl, Or.inl rfl⟩
    | k + 4, hk => exact absurd hk (by omega)) (fun _ _ _ _ h => h) rfl trivial (by decide) (by decide) dX1_init_33
set_option maxHeartbeats 4000000 in
set_option maxRecDepth 100000 in
theorem kX2_init {l : Launch} {D : va_G} {cI cZ cO : ClassId} (S1 : St) (hx : uX2_init z0 = some (0, S1)) (h0 : Nat) : Kc l yX2_init wsX2_init rX2_init D cI cZ cO 2 [.null] 2 (cK2 cI) (fun S => S = S1) h0 := by
  refine m_Kc (cc := cX2_init) (nL := 3) (by decide) rfl rfl (by decide) ?_
  intro p e s m args below meth c hc hr hlk hnm hov
  have hA : ∀ q, s.heap.size ≤ q → A1 h0 s.heap.size q := fun q h => Or.inr h
  refine gc_aload_n (j := 0) hc dX2_init_0 rfl rfl ?_
  refine gc_obj hc (List.mem_of_getElem? (i := 1) rfl) (List.mem_of_getElem? (i := 2) rfl) (List.mem_of_getElem? (i := 3) rfl) (by decide) (by decide) dX2_init_1 ?_
  refine gc_aload_n (j := 0) hc dX2_init_4 rfl rfl ?_
  refine gc_bipush (v := 64) hc dX2_init_5 (by decide) ?_
  refine gc_newaI (n := 64) hc hA (List.mem_of_getElem? (i := 4) rfl) (by decide) (by decide) (by decide) (by decide) (by decide) dX2_init_7 (fun q1 => ?_)
  refine gc_wid (k := 1) (n := 64) (by decide) (by decide) ?_
  refine gc_eq (ws' := [(h0, .inr (2, [.null])), (q1, .inl (cI, 64, .inl (fun _ => 0)))]) rfl ?_
  refine gc_putF (ws' := [(h0, .inr (2, [.ref q1])), (q1, .inl (cI, 64, .inl (fun _ => 0)))]) (C0 := RX2) (T := TX2) (M := 1) (k := 0) (ci := 2) (ty := .array .int) hc hnm tyX2 tyX2_ok nmX2 inX2_init_X2 rfl rfl 0 (by decide) (List.mem_of_getElem? (i := 5) rfl) rfl rfl rfl (by decide +kernel) rfl rfl (Nat.le_of_ble_eq_true rfl) rfl dX2_init_9 ?_
  refine gc_loop (n := 2) (C := cK2 cI) (P := fun S => S = S1) (fun k => [h0, q1].getD k 0) z0 S1 (fun k => k) (by
    intro k hk
    match k, hk with
    | 0, _ => exact ⟨_, rfl, Or.inl rfl⟩
    | 1, _ => exact ⟨_, rfl, Or.inl rfl⟩
    | k + 2, hk => exact absurd hk (by omega)) (fun _ _ _ _ h => h) (by decide) rfl hx rfl (by decide) (by decide) ?_
  exact eX2_init hc hr hlk trivial z0
def rX5_init : Room := { frames := 1, cells := 16, slots := 331, locals := 40 }
theorem inX5_init_X5 : ∀ w ∈ u_ws RX5 TX5 10, w ∈ wsX5_init := by decide +kernel
set_option maxHeartbeats 4000000 in
set_option maxRecDepth 100000 in
theorem kX5_init {l : Launch} {D : va_G} {cI cZ cO : ClassId} (h0 : Nat) : Kc l yX5_init wsX5_init rX5_init D cI cZ cO 5 [.null, .null, .int 0, .int 0, .null, .null, .null, .null, .null, .null] 17 (cK5 cI cO) (fun _ => True) h0 := by
  refine m_Kc (cc := cX5_init) (nL := 1) (by decide) rfl rfl (by decide) ?_
  intro p e s m args below meth c hc hr hlk hnm hov
  have hA : ∀ q, s.heap.size ≤ q → A1 h0 s.heap.size q := fun q h => Or.inr h
  refine gc_aload_n (j := 0) hc dX5_init_0 rfl rfl ?_
  refine gc_obj hc (List.mem_of_getElem? (i := 1) rfl) (List.mem_of_getElem? (i := 2) rfl) (List.mem_of_getElem? (i := 3) rfl) (by decide) (by decide) dX5_init_1 ?_
  refine gc_aload_n (j := 0) hc dX5_init_4 rfl rfl ?_
  refine gc_bipush (v := 8) hc dX5_init_5 (by decide) ?_
  refine gc_newaI (n := 8) hc hA (List.mem_of_getElem? (i := 4) rfl) (by decide) (by decide) (by decide) (by decide) (by decide) dX5_init_7 (fun q1 => ?_)
  refine gc_wid (k := 1) (n := 8) (by decide) (by decide) ?_
  refine gc_eq (ws' := [(h0, .inr (5, [.null, .null, .int 0, .int 0, .null, .null, .null, .null, .null, .null])), (q1, .inl (cI, 8, .inl (fun _ => 0)))]) rfl ?_
  refine gc_putF (ws' := [(h0, .inr (5, [.ref q1, .null, .int 0, .int 0, .null, .null, .null, .null, .null, .null])), (q1, .inl (cI, 8, .inl (fun _ => 0)))]) (C0 := RX5) (T := TX5) (M := 10) (k := 0) (ci := 5) (ty := .array .int) hc hnm tyX5 tyX5_ok nmX5 inX5_init_X5 rfl rfl 0 (by decide) (List.mem_of_getElem? (i := 5) rfl) rfl rfl rfl (by decide +kernel) rfl rfl (Nat.le_of_ble_eq_true rfl) rfl dX5_init_9 ?_
  refine gc_aload_n (j := 0) hc dX5_init_12 rfl rfl ?_
  refine gc_bipush (v := 8) hc dX5_init_13 (by decide) ?_
  refine gc_bipush (v := 24) hc dX5_init_15 (by decide) ?_
  refine gc_mna (n := 8) (k := 24) hc hA (List.mem_of_getElem? (i := 6) rfl) hov (List.mem_of_getElem? (i := 4) rfl) (by decide) (by decide) (by decide) (by decide) (by decide) (by decide) (by decide) (by decide) (by decide) dX5_init_17 (fun q2 r2 => ?_)
  refine gc_wid (k := 10) (n := 208) (by decide) (by decide) ?_
  refine gc_eq (ws' := [(h0, .inr (5, [.ref q1, .null, .int 0, .int 0, .null, .null, .null, .null, .null, .null])), (q1, .inl (cI, 8, .inl (fun _ => 0))), (q2, .inl (cO, 8, .inr (.inr (.inr (.inr (fun i => some (r2 i))))))), (r2 0, .inl (cI, 24, .inl (fun _ => 0))), (r2 1, .inl (cI, 24, .inl (fun _ => 0))), (r2 2, .inl (cI, 24, .inl (fun _ => 0))), (r2 3, .inl (cI, 24, .inl (fun _ => 0))), (r2 4, .inl (cI, 24, .inl (fun _ => 0))), (r2 5, .inl (cI, 24, .inl (fun _ => 0))), (r2 6, .inl (cI, 24, .inl (fun _ => 0))), (r2 7, .inl (cI, 24, .inl (fun _ => 0)))]) rfl ?_
  refine gc_putF (ws' := [(h0, .inr (5, [.ref q1, .ref q2, .int 0, .int 0, .null, .null, .null, .null, .null, .null])), (q1, .inl (cI, 8, .inl (fun _ => 0))), (q2, .inl (cO, 8, .inr (.inr (.inr (.inr (fun i => some (r2 i))))))), (r2 0, .inl (cI, 24, .inl (fun _ => 0))), (r2 1, .inl (cI, 24, .inl (fun _ => 0))), (r2 2, .inl (cI, 24, .inl (fun _ => 0))), (r2 3, .inl (cI, 24, .inl (fun _ => 0))), (r2 4, .inl (cI, 24, .inl (fun _ => 0))), (r2 5, .inl (cI, 24, .inl (fun _ => 0))), (r2 6, .inl (cI, 24, .inl (fun _ => 0))), (r2 7, .inl (cI, 24, .inl (fun _ => 0)))]) (C0 := RX5) (T := TX5) (M := 10) (k := 0) (ci := 5) (ty := .array (.array .int)) hc hnm tyX5 tyX5_ok nmX5 inX5_init_X5 rfl rfl 1 (by decide) (List.mem_of_getElem? (i := 7) rfl) rfl rfl rfl (by decide +kernel) rfl rfl (Nat.le_of_ble_eq_true rfl) rfl dX5_init_21 ?_
  refine gc_aload_n (j := 0) hc dX5_init_24 rfl rfl ?_
  refine gc_iconst (v := 0) hc dX5_init_25 (by decide) ?_
  refine gc_put (ws' := [(h0, .inr (5, [.ref q1, .ref q2, .int 0, .int 0, .null, .null, .null, .null, .null, .null])), (q1, .inl (cI, 8, .inl (fun _ => 0))), (q2, .inl (cO, 8, .inr (.inr (.inr (.inr (fun i => some (r2 i))))))), (r2 0, .inl (cI, 24, .inl (fun _ => 0))), (r2 1, .inl (cI, 24, .inl (fun _ => 0))), (r2 2, .inl (cI, 24, .inl (fun _ => 0))), (r2 3, .inl (cI, 24, .inl (fun _ => 0))), (r2 4, .inl (cI, 24, .inl (fun _ => 0))), (r2 5, .inl (cI, 24, .inl (fun _ => 0))), (r2 6, .inl (cI, 24, .inl (fun _ => 0))), (r2 7, .inl (cI, 24, .inl (fun _ => 0)))]) (C0 := RX5) (T := TX5) (M := 10) (k := 0) (ci := 5) (ty := .int) hc tyX5 tyX5_ok nmX5 inX5_init_X5 rfl rfl 2 (by decide) (List.mem_of_getElem? (i := 8) rfl) rfl rfl (by decide +kernel) rfl rfl (Nat.le_of_ble_eq_true rfl) rfl dX5_init_26 ?_
  refine gc_aload_n (j := 0) hc dX5_init_29 rfl rfl ?_
  refine gc_iconst (v := 0) hc dX5_init_30 (by decide) ?_
  refine gc_put (ws' := [(h0, .inr (5, [.ref q1, .ref q2, .int 0, .int 0, .null, .null, .null, .null, .null, .null])), (q1, .inl (cI, 8, .inl (fun _ => 0))), (q2, .inl (cO, 8, .inr (.inr (.inr (.inr (fun i => some (r2 i))))))), (r2 0, .inl (cI, 24, .inl (fun _ => 0))), (r2 1, .inl (cI, 24, .inl (fun _ => 0))), (r2 2, .inl (cI, 24, .inl (fun _ => 0))), (r2 3, .inl (cI, 24, .inl (fun _ => 0))), (r2 4, .inl (cI, 24, .inl (fun _ => 0))), (r2 5, .inl (cI, 24, .inl (fun _ => 0))), (r2 6, .inl (cI, 24, .inl (fun _ => 0))), (r2 7, .inl (cI, 24, .inl (fun _ => 0)))]) (C0 := RX5) (T := TX5) (M := 10) (k := 0) (ci := 5) (ty := .int) hc tyX5 tyX5_ok nmX5 inX5_init_X5 rfl rfl 3 (by decide) (List.mem_of_getElem? (i := 9) rfl) rfl rfl (by decide +kernel) rfl rfl (Nat.le_of_ble_eq_true rfl) rfl dX5_init_31 ?_
  refine gc_aload_n (j := 0) hc dX5_init_34 rfl rfl ?_
  refine gc_bipush (v := 16) hc dX5_init_35 (by decide) ?_
  refine gc_newaI (n := 16) hc hA (List.mem_of_getElem? (i := 4) rfl) (by decide) (by decide) (by decide) (by decide) (by decide) dX5_init_37 (fun q3 => ?_)
  refine gc_wid (k := 11) (n := 224) (by decide) (by decide) ?_
  refine gc_eq (ws' := [(h0, .inr (5, [.ref q1, .ref q2, .int 0, .int 0, .null, .null, .null, .null, .null, .null])), (q1, .inl (cI, 8, .inl (fun _ => 0))), (q2, .inl (cO, 8, .inr (.inr (.inr (.inr (fun i => some (r2 i))))))), (r2 0, .inl (cI, 24, .inl (fun _ => 0))), (r2 1, .inl (cI, 24, .inl (fun _ => 0))), (r2 2, .inl (cI, 24, .inl (fun _ => 0))), (r2 3, .inl (cI, 24, .inl (fun _ => 0))), (r2 4, .inl (cI, 24, .inl (fun _ => 0))), (r2 5, .inl (cI, 24, .inl (fun _ => 0))), (r2 6, .inl (cI, 24, .inl (fun _ => 0))), (r2 7, .inl (cI, 24, .inl (fun _ => 0))), (q3, .inl (cI, 16, .inl (fun _ => 0)))]) rfl ?_
  refine gc_putF (ws' := [(h0, .inr (5, [.ref q1, .ref q2, .int 0, .int 0, .ref q3, .null, .null, .null, .null, .null])), (q1, .inl (cI, 8, .inl (fun _ => 0))), (q2, .inl (cO, 8, .inr (.inr (.inr (.inr (fun i => some (r2 i))))))), (r2 0, .inl (cI, 24, .inl (fun _ => 0))), (r2 1, .inl (cI, 24, .inl (fun _ => 0))), (r2 2, .inl (cI, 24, .inl (fun _ => 0))), (r2 3, .inl (cI, 24, .inl (fun _ => 0))), (r2 4, .inl (cI, 24, .inl (fun _ => 0))), (r2 5, .inl (cI, 24, .inl (fun _ => 0))), (r2 6, .inl (cI, 24, .inl (fun _ => 0))), (r2 7, .inl (cI, 24, .inl (fun _ => 0))), (q3, .inl (cI, 16, .inl (fun _ => 0)))]) (C0 := RX5) (T := TX5) (M := 10) (k := 0) (ci := 5) (ty := .array .int) hc hnm tyX5 tyX5_ok nmX5 inX5_init_X5 rfl rfl 4 (by decide) (List.mem_of_getElem? (i := 10) rfl) rfl rfl rfl (by decide +kernel) rfl rfl (Nat.le_of_ble_eq_true rfl) rfl dX5_init_39 ?_
  refine gc_aload_n (j := 0) hc dX5_init_42 rfl rfl ?_
  refine gc_bipush (v := 16) hc dX5_init_43 (by decide) ?_
  refine gc_newaI (n := 16) hc hA (List.mem_of_getElem? (i := 4) rfl) (by decide) (by decide) (by decide) (by decide) (by decide) dX5_init_45 (fun q4 => ?_)
  refine gc_wid (k := 12) (n := 240) (by decide) (by decide) ?_
  refine gc_eq (ws' := [(h0, .inr (5, [.ref q1, .ref q2, .int 0, .int 0, .ref q3, .null, .null, .null, .null, .null])), (q1, .inl (cI, 8, .inl (fun _ => 0))), (q2, .inl (cO, 8, .inr (.inr (.inr (.inr (fun i => some (r2 i))))))), (r2 0, .inl (cI, 24, .inl (fun _ => 0))), (r2 1, .inl (cI, 24, .inl (fun _ => 0))), (r2 2, .inl (cI, 24, .inl (fun _ => 0))), (r2 3, .inl (cI, 24, .inl (fun _ => 0))), (r2 4, .inl (cI, 24, .inl (fun _ => 0))), (r2 5, .inl (cI, 24, .inl (fun _ => 0))), (r2 6, .inl (cI, 24, .inl (fun _ => 0))), (r2 7, .inl (cI, 24, .inl (fun _ => 0))), (q3, .inl (cI, 16, .inl (fun _ => 0))), (q4, .inl (cI, 16, .inl (fun _ => 0)))]) rfl ?_
  refine gc_putF (ws' := [(h0, .inr (5, [.ref q1, .ref q2, .int 0, .int 0, .ref q3, .ref q4, .null, .null, .null, .null])), (q1, .inl (cI, 8, .inl (fun _ => 0))), (q2, .inl (cO, 8, .inr (.inr (.inr (.inr (fun i => some (r2 i))))))), (r2 0, .inl (cI, 24, .inl (fun _ => 0))), (r2 1, .inl (cI, 24, .inl (fun _ => 0))), (r2 2, .inl (cI, 24, .inl (fun _ => 0))), (r2 3, .inl (cI, 24, .inl (fun _ => 0))), (r2 4, .inl (cI, 24, .inl (fun _ => 0))), (r2 5, .inl (cI, 24, .inl (fun _ => 0))), (r2 6, .inl (cI, 24, .inl (fun _ => 0))), (r2 7, .inl (cI, 24, .inl (fun _ => 0))), (q3, .inl (cI, 16, .inl (fun _ => 0))), (q4, .inl (cI, 16, .inl (fun _ => 0)))]) (C0 := RX5) (T := TX5) (M := 10) (k := 0) (ci := 5) (ty := .array .int) hc hnm tyX5 tyX5_ok nmX5 inX5_init_X5 rfl rfl 5 (by decide) (List.mem_of_getElem? (i := 11) rfl) rfl rfl rfl (by decide +kernel) rfl rfl (Nat.le_of_ble_eq_true rfl) rfl dX5_init_47 ?_
  refine gc_aload_n (j := 0) hc dX5_init_50 rfl rfl ?_
  refine gc_bipush (v := 16) hc dX5_init_51 (by decide) ?_
  refine gc_newaI (n := 16) hc hA (List.mem_of_getElem? (i := 4) rfl) (by decide) (by decide) (by decide) (by decide) (by decide) dX5_init_53 (fun q5 => ?_)
  refine gc_wid (k := 13) (n := 256) (by decide) (by decide) ?_
  refine gc_eq (ws' := [(h0, .inr (5, [.ref q1, .ref q2, .int 0, .int 0, .ref q3, .ref q4, .null, .null, .null, .null])), (q1, .inl (cI, 8, .inl (fun _ => 0))), (q2, .inl (cO, 8, .inr (.inr (.inr (.inr (fun i => some (r2 i))))))), (r2 0, .inl (cI, 24, .inl (fun _ => 0))), (r2 1, .inl (cI, 24, .inl (fun _ => 0))), (r2 2, .inl (cI, 24, .inl (fun _ => 0))), (r2 3, .inl (cI, 24, .inl (fun _ => 0))), (r2 4, .inl (cI, 24, .inl (fun _ => 0))), (r2 5, .inl (cI, 24, .inl (fun _ => 0))), (r2 6, .inl (cI, 24, .inl (fun _ => 0))), (r2 7, .inl (cI, 24, .inl (fun _ => 0))), (q3, .inl (cI, 16, .inl (fun _ => 0))), (q4, .inl (cI, 16, .inl (fun _ => 0))), (q5, .inl (cI, 16, .inl (fun _ => 0)))]) rfl ?_
  refine gc_putF (ws' := [(h0, .inr (5, [.ref q1, .ref q2, .int 0, .int 0, .ref q3, .ref q4, .ref q5, .null, .null, .null])), (q1, .inl (cI, 8, .inl (fun _ => 0))), (q2, .inl (cO, 8, .inr (.inr (.inr (.inr (fun i => some (r2 i))))))), (r2 0, .inl (cI, 24, .inl (fun _ => 0))), (r2 1, .inl (cI, 24, .inl (fun _ => 0))), (r2 2, .inl (cI, 24, .inl (fun _ => 0))), (r2 3, .inl (cI, 24, .inl (fun _ => 0))), (r2 4, .inl (cI, 24, .inl (fun _ => 0))), (r2 5, .inl (cI, 24, .inl (fun _ => 0))), (r2 6, .inl (cI, 24, .inl (fun _ => 0))), (r2 7, .inl (cI, 24, .inl (fun _ => 0))), (q3, .inl (cI, 16, .inl (fun _ => 0))), (q4, .inl (cI, 16, .inl (fun _ => 0))), (q5, .inl (cI, 16, .inl (fun _ => 0)))]) (C0 := RX5) (T := TX5) (M := 10) (k := 0) (ci := 5) (ty := .array .int) hc hnm tyX5 tyX5_ok nmX5 inX5_init_X5 rfl rfl 6 (by decide) (List.mem_of_getElem? (i := 12) rfl) rfl rfl rfl (by decide +kernel) rfl rfl (Nat.le_of_ble_eq_true rfl) rfl dX5_init_55 ?_
  refine gc_aload_n (j := 0) hc dX5_init_58 rfl rfl ?_
  refine gc_bipush (v := 25) hc dX5_init_59 (by decide) ?_
  refine gc_newaI (n := 25) hc hA (List.mem_of_getElem? (i := 4) rfl) (by decide) (by decide) (by decide) (by decide) (by decide) dX5_init_61 (fun q6 => ?_)
  refine gc_wid (k := 14) (n := 281) (by decide) (by decide) ?_
  refine gc_eq (ws' := [(h0, .inr (5, [.ref q1, .ref q2, .int 0, .int 0, .ref q3, .ref q4, .ref q5, .null, .null, .null])), (q1, .inl (cI, 8, .inl (fun _ => 0))), (q2, .inl (cO, 8, .inr (.inr (.inr (.inr (fun i => some (r2 i))))))), (r2 0, .inl (cI, 24, .inl (fun _ => 0))), (r2 1, .inl (cI, 24, .inl (fun _ => 0))), (r2 2, .inl (cI, 24, .inl (fun _ => 0))), (r2 3, .inl (cI, 24, .inl (fun _ => 0))), (r2 4, .inl (cI, 24, .inl (fun _ => 0))), (r2 5, .inl (cI, 24, .inl (fun _ => 0))), (r2 6, .inl (cI, 24, .inl (fun _ => 0))), (r2 7, .inl (cI, 24, .inl (fun _ => 0))), (q3, .inl (cI, 16, .inl (fun _ => 0))), (q4, .inl (cI, 16, .inl (fun _ => 0))), (q5, .inl (cI, 16, .inl (fun _ => 0))), (q6, .inl (cI, 25, .inl (fun _ => 0)))]) rfl ?_
  refine gc_putF (ws' := [(h0, .inr (5, [.ref q1, .ref q2, .int 0, .int 0, .ref q3, .ref q4, .ref q5, .ref q6, .null, .null])), (q1, .inl (cI, 8, .inl (fun _ => 0))), (q2, .inl (cO, 8, .inr (.inr (.inr (.inr (fun i => some (r2 i))))))), (r2 0, .inl (cI, 24, .inl (fun _ => 0))), (r2 1, .inl (cI, 24, .inl (fun _ => 0))), (r2 2, .inl (cI, 24, .inl (fun _ => 0))), (r2 3, .inl (cI, 24, .inl (fun _ => 0))), (r2 4, .inl (cI, 24, .inl (fun _ => 0))), (r2 5, .inl (cI, 24, .inl (fun _ => 0))), (r2 6, .inl (cI, 24, .inl (fun _ => 0))), (r2 7, .inl (cI, 24, .inl (fun _ => 0))), (q3, .inl (cI, 16, .inl (fun _ => 0))), (q4, .inl (cI, 16, .inl (fun _ => 0))), (q5, .inl (cI, 16, .inl (fun _ => 0))), (q6, .inl (cI, 25, .inl (fun _ => 0)))]) (C0 := RX5) (T := TX5) (M := 10) (k := 0) (ci := 5) (ty := .array .int) hc hnm tyX5 tyX5_ok nmX5 inX5_init_X5 rfl rfl 7 (by decide) (List.mem_of_getElem? (i := 13) rfl) rfl rfl rfl (by decide +kernel) rfl rfl (Nat.le_of_ble_eq_true rfl) rfl dX5_init_63 ?_
  refine gc_aload_n (j := 0) hc dX5_init_66 rfl rfl ?_
  refine gc_bipush (v := 25) hc dX5_init_67 (by decide) ?_
  refine gc_newaI (n := 25) hc hA (List.mem_of_getElem? (i := 4) rfl) (by decide) (by decide) (by decide) (by decide) (by decide) dX5_init_69 (fun q7 => ?_)
  refine gc_wid (k := 15) (n := 306) (by decide) (by decide) ?_
  refine gc_eq (ws' := [(h0, .inr (5, [.ref q1, .ref q2, .int 0, .int 0, .ref q3, .ref q4, .ref q5, .ref q6, .null, .null])), (q1, .inl (cI, 8, .inl (fun _ => 0))), (q2, .inl (cO, 8, .inr (.inr (.inr (.inr (fun i => some (r2 i))))))), (r2 0, .inl (cI, 24, .inl (fun _ => 0))), (r2 1, .inl (cI, 24, .inl (fun _ => 0))), (r2 2, .inl (cI, 24, .inl (fun _ => 0))), (r2 3, .inl (cI, 24, .inl (fun _ => 0))), (r2 4, .inl (cI, 24, .inl (fun _ => 0))), (r2 5, .inl (cI, 24, .inl (fun _ => 0))), (r2 6, .inl (cI, 24, .inl (fun _ => 0))), (r2 7, .inl (cI, 24, .inl (fun _ => 0))), (q3, .inl (cI, 16, .inl (fun _ => 0))), (q4, .inl (cI, 16, .inl (fun _ => 0))), (q5, .inl (cI, 16, .inl (fun _ => 0))), (q6, .inl (cI, 25, .inl (fun _ => 0))), (q7, .inl (cI, 25, .inl (fun _ => 0)))]) rfl ?_
  refine gc_putF (ws' := [(h0, .inr (5, [.ref q1, .ref q2, .int 0, .int 0, .ref q3, .ref q4, .ref q5, .ref q6, .ref q7, .null])), (q1, .inl (cI, 8, .inl (fun _ => 0))), (q2, .inl (cO, 8, .inr (.inr (.inr (.inr (fun i => some (r2 i))))))), (r2 0, .inl (cI, 24, .inl (fun _ => 0))), (r2 1, .inl (cI, 24, .inl (fun _ => 0))), (r2 2, .inl (cI, 24, .inl (fun _ => 0))), (r2 3, .inl (cI, 24, .inl (fun _ => 0))), (r2 4, .inl (cI, 24, .inl (fun _ => 0))), (r2 5, .inl (cI, 24, .inl (fun _ => 0))), (r2 6, .inl (cI, 24, .inl (fun _ => 0))), (r2 7, .inl (cI, 24, .inl (fun _ => 0))), (q3, .inl (cI, 16, .inl (fun _ => 0))), (q4, .inl (cI, 16, .inl (fun _ => 0))), (q5, .inl (cI, 16, .inl (fun _ => 0))), (q6, .inl (cI, 25, .inl (fun _ => 0))), (q7, .inl (cI, 25, .inl (fun _ => 0)))]) (C0 := RX5) (T := TX5) (M := 10) (k := 0) (ci := 5) (ty := .array .int) hc hnm tyX5 tyX5_ok nmX5 inX5_init_X5 rfl rfl 8 (by decide) (List.mem_of_getElem? (i := 14) rfl) rfl rfl rfl (by decide +kernel) rfl rfl (Nat.le_of_ble_eq_true rfl) rfl dX5_init_71 ?_
  refine gc_aload_n (j := 0) hc dX5_init_74 rfl rfl ?_
  refine gc_bipush (v := 25) hc dX5_init_75 (by decide) ?_
  refine gc_newaI (n := 25) hc hA (List.mem_of_getElem? (i := 4) rfl) (by decide) (by decide) (by decide) (by decide) (by decide) dX5_init_77 (fun q8 => ?_)
  refine gc_wid (k := 16) (n := 331) (by decide) (by decide) ?_
  refine gc_eq (ws' := [(h0, .inr (5, [.ref q1, .ref q2, .int 0, .int 0, .ref q3, .ref q4, .ref q5, .ref q6, .ref q7, .null])), (q1, .inl (cI, 8, .inl (fun _ => 0))), (q2, .inl (cO, 8, .inr (.inr (.inr (.inr (fun i => some (r2 i))))))), (r2 0, .inl (cI, 24, .inl (fun _ => 0))), (r2 1, .inl (cI, 24, .inl (fun _ => 0))), (r2 2, .inl (cI, 24, .inl (fun _ => 0))), (r2 3, .inl (cI, 24, .inl (fun _ => 0))), (r2 4, .inl (cI, 24, .inl (fun _ => 0))), (r2 5, .inl (cI, 24, .inl (fun _ => 0))), (r2 6, .inl (cI, 24, .inl (fun _ => 0))), (r2 7, .inl (cI, 24, .inl (fun _ => 0))), (q3, .inl (cI, 16, .inl (fun _ => 0))), (q4, .inl (cI, 16, .inl (fun _ => 0))), (q5, .inl (cI, 16, .inl (fun _ => 0))), (q6, .inl (cI, 25, .inl (fun _ => 0))), (q7, .inl (cI, 25, .inl (fun _ => 0))), (q8, .inl (cI, 25, .inl (fun _ => 0)))]) rfl ?_
  refine gc_putF (ws' := [(h0, .inr (5, [.ref q1, .ref q2, .int 0, .int 0, .ref q3, .ref q4, .ref q5, .ref q6, .ref q7, .ref q8])), (q1, .inl (cI, 8, .inl (fun _ => 0))), (q2, .inl (cO, 8, .inr (.inr (.inr (.inr (fun i => some (r2 i))))))), (r2 0, .inl (cI, 24, .inl (fun _ => 0))), (r2 1, .inl (cI, 24, .inl (fun _ => 0))), (r2 2, .inl (cI, 24, .inl (fun _ => 0))), (r2 3, .inl (cI, 24, .inl (fun _ => 0))), (r2 4, .inl (cI, 24, .inl (fun _ => 0))), (r2 5, .inl (cI, 24, .inl (fun _ => 0))), (r2 6, .inl (cI, 24, .inl (fun _ => 0))), (r2 7, .inl (cI, 24, .inl (fun _ => 0))), (q3, .inl (cI, 16, .inl (fun _ => 0))), (q4, .inl (cI, 16, .inl (fun _ => 0))), (q5, .inl (cI, 16, .inl (fun _ => 0))), (q6, .inl (cI, 25, .inl (fun _ => 0))), (q7, .inl (cI, 25, .inl (fun _ => 0))), (q8, .inl (cI, 25, .inl (fun _ => 0)))]) (C0 := RX5) (T := TX5) (M := 10) (k := 0) (ci := 5) (ty := .array .int) hc hnm tyX5 tyX5_ok nmX5 inX5_init_X5 rfl rfl 9 (by decide) (List.mem_of_getElem? (i := 15) rfl) rfl rfl rfl (by decide +kernel) rfl rfl (Nat.le_of_ble_eq_true rfl) rfl dX5_init_79 ?_
  exact gc_ret (n := 17) (C := cK5 cI cO) (P := fun _ => True) hc hr hlk (fun k => if k < 3 then [h0, q1, q2].getD k 0 else if k < 11 then r2 (k - 3) else [q3, q4, q5, q6, q7, q8].getD (k - 11) 0) z0 (fun k => k) (by
    intro k hk
    match k, hk with
    | 0, _ => exact ⟨_, rfl, Or.inl rfl⟩
    | 1, _ => exact ⟨_, rfl, Or.inl rfl⟩
    | 2, _ => exact ⟨_, rfl, Or.inr ⟨_, _, _, _, rfl, rfl, fun i hi => by show some (r2 i) = some ((fun k => if k < 3 then [h0, q1, q2].getD k 0 else if k < 11 then r2 (k - 3) else [q3, q4, q5, q6, q7, q8].getD (k - 11) 0) (3 + i)); dsimp only; rw [if_neg (by omega), if_pos (by omega), Nat.add_sub_cancel_left]⟩⟩
    | 3, _ => exact ⟨_, rfl, Or.inl rfl⟩
    | 4, _ => exact ⟨_, rfl, Or.inl rfl⟩
    | 5, _ => exact ⟨_, rfl, Or.inl rfl⟩
    | 6, _ => exact ⟨_, rfl, Or.inl rfl⟩
    | 7, _ => exact ⟨_, rfl, Or.inl rfl⟩
    | 8, _ => exact ⟨_, rfl, Or.inl rfl⟩
    | 9, _ => exact ⟨_, rfl, Or.inl rfl⟩
    | 10, _ => exact ⟨_, rfl, Or.inl rfl⟩
    | 11, _ => exact ⟨_, rfl, Or.inl rfl⟩
    | 12, _ => exact ⟨_, rfl, Or.inl rfl⟩
    | 13, _ => exact ⟨_, rfl, Or.inl rfl⟩
    | 14, _ => exact ⟨_, rfl, Or.inl rfl⟩
    | 15, _ => exact ⟨_, rfl, Or.inl rfl⟩
    | 16, _ => exact ⟨_, rfl, Or.inl rfl⟩
    | k + 17, hk => exact absurd hk (by omega)) (fun _ _ _ _ h => h) rfl trivial (by decide) (by decide) dX5_init_82
set_option maxHeartbeats 4000000 in
set_option maxRecDepth 100000 in
theorem kX9_init {l : Launch} {D : va_G} {cI cZ cO : ClassId} (S1 : St) (hx : uX9_init m0 = some (0, S1)) (h0 : Nat) : Kc l yX9_init wsX9_init rX9_init D cI cZ cO 9 [.int 0, .int 0, .int 0, .int 0, .int 0, .null, .null, .null, .null, .null, .null, .null, .null, .null, .null, .null, .null, .int 0, .int 0, .int 0, .null, .null, .null, .null] 17 (cM cI cZ) (fun S => S = S1) h0 := by
  refine m_Kc (cc := cX9_init) (nL := 3) (by decide) rfl rfl (by decide) ?_
  intro p e s m args below meth c hc hr hlk hnm hov
  have hA : ∀ q, s.heap.size ≤ q → A1 h0 s.heap.size q := fun q h => Or.inr h
  refine gc_aload_n (j := 0) hc dX9_init_0 rfl rfl ?_
  refine gc_obj hc (List.mem_of_getElem? (i := 1) rfl) (List.mem_of_getElem? (i := 2) rfl) (List.mem_of_getElem? (i := 3) rfl) (by decide) (by decide) dX9_init_1 ?_
  refine gc_aload_n (j := 0) hc dX9_init_4 rfl rfl ?_
  refine gc_iconst (v := 1) hc dX9_init_5 (by decide) ?_
  refine gc_put (ws' := [(h0, .inr (9, [.int 0, .int 1, .int 0, .int 0, .int 0, .null, .null, .null, .null, .null, .null, .null, .null, .null, .null, .null, .null, .int 0, .int 0, .int 0, .null, .null, .null, .null]))]) (C0 := RX9) (T := TX9) (M := 24) (k := 0) (ci := 9) (ty := .int) hc tyX9 tyX9_ok nmX9 inX9_init_X9 rfl rfl 1 (by decide) (List.mem_of_getElem? (i := 4) rfl) rfl rfl (by decide +kernel) rfl rfl (Nat.le_of_ble_eq_true rfl) rfl dX9_init_6 ?_
  refine gc_aload_n (j := 0) hc dX9_init_9 rfl rfl ?_
  refine gc_iconst (v := 1) hc dX9_init_10 (by decide) ?_
  refine gc_put (ws' := [(h0, .inr (9, [.int 0, .int 1, .int 1, .int 0, .int 0, .null, .null, .null, .null, .null, .null, .null, .null, .null, .null, .null, .null, .int 0, .int 0, .int 0, .null, .null, .null, .null]))]) (C0 := RX9) (T := TX9) (M := 24) (k := 0) (ci := 9) (ty := .int) hc tyX9 tyX9_ok nmX9 inX9_init_X9 rfl rfl 2 (by decide) (List.mem_of_getElem? (i := 5) rfl) rfl rfl (by decide +kernel) rfl rfl (Nat.le_of_ble_eq_true rfl) rfl dX9_init_11 ?_
  refine gc_aload_n (j := 0) hc dX9_init_14 rfl rfl ?_
  refine gc_bipush (v := 16) hc dX9_init_15 (by decide) ?_
  refine gc_newaI (n := 16) hc hA (List.mem_of_getElem? (i := 6) rfl) (by decide) (by decide) (by decide) (by decide) (by decide) dX9_init_17 (fun q1 => ?_)
  refine gc_wid (k := 1) (n := 16) (by decide) (by decide) ?_
  refine gc_eq (ws' := [(h0, .inr (9, [.int 0, .int 1, .int 1, .int 0, .int 0, .null, .null, .null, .null, .null, .null, .null, .null, .null, .null, .null, .null, .int 0, .int 0, .int 0, .null, .null, .null, .null])), (q1, .inl (cI, 16, .inl (fun _ => 0)))]) rfl ?_
  refine gc_putF (ws' := [(h0, .inr (9, [.int 0, .int 1, .int 1, .int 0, .int 0, .ref q1, .null, .null, .null, .null, .null, .null, .null, .null, .null, .null, .null, .int 0, .int 0, .int 0, .null, .null, .null, .null])), (q1, .inl (cI, 16, .inl (fun _ => 0)))]) (C0 := RX9) (T := TX9) (M := 24) (k := 0) (ci := 9) (ty := .array .int) hc hnm tyX9 tyX9_ok nmX9 inX9_init_X9 rfl rfl 5 (by decide) (List.mem_of_getElem? (i := 7) rfl) rfl rfl rfl (by decide +kernel) rfl rfl (Nat.le_of_ble_eq_true rfl) rfl dX9_init_19 ?_
  refine gc_aload_n (j := 0) hc dX9_init_22 rfl rfl ?_
  refine gc_sipush (v := 192) hc dX9_init_23 (by decide) ?_
  refine gc_newaI (n := 192) hc hA (List.mem_of_getElem? (i := 6) rfl) (by decide) (by decide) (by decide) (by decide) (by decide) dX9_init_26 (fun q2 => ?_)
  refine gc_wid (k := 2) (n := 208) (by decide) (by decide) ?_
  refine gc_eq (ws' := [(h0, .inr (9, [.int 0, .int 1, .int 1, .int 0, .int 0, .ref q1, .null, .null, .null, .null, .null, .null, .null, .null, .null, .null, .null, .int 0, .int 0, .int 0, .null, .null, .null, .null])), (q1, .inl (cI, 16, .inl (fun _ => 0))), (q2, .inl (cI, 192, .inl (fun _ => 0)))]) rfl ?_
  refine gc_putF (ws' := [(h0, .inr (9, [.int 0, .int 1, .int 1, .int 0, .int 0, .ref q1, .ref q2, .null, .null, .null, .null, .null, .null, .null, .null, .null, .null, .int 0, .int 0, .int 0, .null, .null, .null, .null])), (q1, .inl (cI, 16, .inl (fun _ => 0))), (q2, .inl (cI, 192, .inl (fun _ => 0)))]) (C0 := RX9) (T := TX9) (M := 24) (k := 0) (ci := 9) (ty := .array .int) hc hnm tyX9 tyX9_ok nmX9 inX9_init_X9 rfl rfl 6 (by decide) (List.mem_of_getElem? (i := 8) rfl) rfl rfl rfl (by decide +kernel) rfl rfl (Nat.le_of_ble_eq_true rfl) rfl dX9_init_28 ?_
  refine gc_aload_n (j := 0) hc dX9_init_31 rfl rfl ?_
  refine gc_bipush (v := 64) hc dX9_init_32 (by decide) ?_
  refine gc_newaI (n := 64) hc hA (List.mem_of_getElem? (i := 6) rfl) (by decide) (by decide) (by decide) (by decide) (by decide) dX9_init_34 (fun q3 => ?_)
  refine gc_wid (k := 3) (n := 272) (by decide) (by decide) ?_
  refine gc_eq (ws' := [(h0, .inr (9, [.int 0, .int 1, .int 1, .int 0, .int 0, .ref q1, .ref q2, .null, .null, .null, .null, .null, .null, .null, .null, .null, .null, .int 0, .int 0, .int 0, .null, .null, .null, .null])), (q1, .inl (cI, 16, .inl (fun _ => 0))), (q2, .inl (cI, 192, .inl (fun _ => 0))), (q3, .inl (cI, 64, .inl (fun _ => 0)))]) rfl ?_
  refine gc_putF (ws' := [(h0, .inr (9, [.int 0, .int 1, .int 1, .int 0, .int 0, .ref q1, .ref q2, .ref q3, .null, .null, .null, .null, .null, .null, .null, .null, .null, .int 0, .int 0, .int 0, .null, .null, .null, .null])), (q1, .inl (cI, 16, .inl (fun _ => 0))), (q2, .inl (cI, 192, .inl (fun _ => 0))), (q3, .inl (cI, 64, .inl (fun _ => 0)))]) (C0 := RX9) (T := TX9) (M := 24) (k := 0) (ci := 9) (ty := .array .int) hc hnm tyX9 tyX9_ok nmX9 inX9_init_X9 rfl rfl 7 (by decide) (List.mem_of_getElem? (i := 9) rfl) rfl rfl rfl (by decide +kernel) rfl rfl (Nat.le_of_ble_eq_true rfl) rfl dX9_init_36 ?_
  refine gc_aload_n (j := 0) hc dX9_init_39 rfl rfl ?_
  refine gc_iconst (v := 4) hc dX9_init_40 (by decide) ?_
  refine gc_newaI (n := 4) hc hA (List.mem_of_getElem? (i := 6) rfl) (by decide) (by decide) (by decide) (by decide) (by decide) dX9_init_41 (fun q4 => ?_)
  refine gc_wid (k := 4) (n := 276) (by decide) (by decide) ?_
  refine gc_eq (ws' := [(h0, .inr (9, [.int 0, .int 1, .int 1, .int 0, .int 0, .ref q1, .ref q2, .ref q3, .null, .null, .null, .null, .null, .null, .null, .null, .null, .int 0, .int 0, .int 0, .null, .null, .null, .null])), (q1, .inl (cI, 16, .inl (fun _ => 0))), (q2, .inl (cI, 192, .inl (fun _ => 0))), (q3, .inl (cI, 64, .inl (fun _ => 0))), (q4, .inl (cI, 4, .inl (fun _ => 0)))]) rfl ?_
  refine gc_putF (ws' := [(h0, .inr (9, [.int 0, .int 1, .int 1, .int 0, .int 0, .ref q1, .ref q2, .ref q3, .ref q4, .null, .null, .null, .null, .null, .null, .null, .null, .int 0, .int 0, .int 0, .null, .null, .null, .null])), (q1, .inl (cI, 16, .inl (fun _ => 0))), (q2, .inl (cI, 192, .inl (fun _ => 0))), (q3, .inl (cI, 64, .inl (fun _ => 0))), (q4, .inl (cI, 4, .inl (fun _ => 0)))]) (C0 := RX9) (T := TX9) (M := 24) (k := 0) (ci := 9) (ty := .array .int) hc hnm tyX9 tyX9_ok nmX9 inX9_init_X9 rfl rfl 8 (by decide) (List.mem_of_getElem? (i := 10) rfl) rfl rfl rfl (by decide +kernel) rfl rfl (Nat.le_of_ble_eq_true rfl) rfl dX9_init_43 ?_
  refine gc_aload_n (j := 0) hc dX9_init_46 rfl rfl ?_
  refine gc_sipush (v := 384) hc dX9_init_47 (by decide) ?_
  refine gc_newaI (n := 384) hc hA (List.mem_of_getElem? (i := 6) rfl) (by decide) (by decide) (by decide) (by decide) (by decide) dX9_init_50 (fun q5 => ?_)
  refine gc_wid (k := 5) (n := 660) (by decide) (by decide) ?_
  refine gc_eq (ws' := [(h0, .inr (9, [.int 0, .int 1, .int 1, .int 0, .int 0, .ref q1, .ref q2, .ref q3, .ref q4, .null, .null, .null, .null, .null, .null, .null, .null, .int 0, .int 0, .int 0, .null, .null, .null, .null])), (q1, .inl (cI, 16, .inl (fun _ => 0))), (q2, .inl (cI, 192, .inl (fun _ => 0))), (q3, .inl (cI, 64, .inl (fun _ => 0))), (q4, .inl (cI, 4, .inl (fun _ => 0))), (q5, .inl (cI, 384, .inl (fun _ => 0)))]) rfl ?_
  refine gc_putF (ws' := [(h0, .inr (9, [.int 0, .int 1, .int 1, .int 0, .int 0, .ref q1, .ref q2, .ref q3, .ref q4, .ref q5, .null, .null, .null, .null, .null, .null, .null, .int 0, .int 0, .int 0, .null, .null, .null, .null])), (q1, .inl (cI, 16, .inl (fun _ => 0))), (q2, .inl (cI, 192, .inl (fun _ => 0))), (q3, .inl (cI, 64, .inl (fun _ => 0))), (q4, .inl (cI, 4, .inl (fun _ => 0))), (q5, .inl (cI, 384, .inl (fun _ => 0)))]) (C0 := RX9) (T := TX9) (M := 24) (k := 0) (ci := 9) (ty := .array .int) hc hnm tyX9 tyX9_ok nmX9 inX9_init_X9 rfl rfl 9 (by decide) (List.mem_of_getElem? (i := 11) rfl) rfl rfl rfl (by decide +kernel) rfl rfl (Nat.le_of_ble_eq_true rfl) rfl dX9_init_52 ?_
  refine gc_aload_n (j := 0) hc dX9_init_55 rfl rfl ?_
  refine gc_bipush (v := 16) hc dX9_init_56 (by decide) ?_
  refine gc_newaI (n := 16) hc hA (List.mem_of_getElem? (i := 6) rfl) (by decide) (by decide) (by decide) (by decide) (by decide) dX9_init_58 (fun q6 => ?_)
  refine gc_wid (k := 6) (n := 676) (by decide) (by decide) ?_
  refine gc_eq (ws' := [(h0, .inr (9, [.int 0, .int 1, .int 1, .int 0, .int 0, .ref q1, .ref q2, .ref q3, .ref q4, .ref q5, .null, .null, .null, .null, .null, .null, .null, .int 0, .int 0, .int 0, .null, .null, .null, .null])), (q1, .inl (cI, 16, .inl (fun _ => 0))), (q2, .inl (cI, 192, .inl (fun _ => 0))), (q3, .inl (cI, 64, .inl (fun _ => 0))), (q4, .inl (cI, 4, .inl (fun _ => 0))), (q5, .inl (cI, 384, .inl (fun _ => 0))), (q6, .inl (cI, 16, .inl (fun _ => 0)))]) rfl ?_
  refine gc_putF (ws' := [(h0, .inr (9, [.int 0, .int 1, .int 1, .int 0, .int 0, .ref q1, .ref q2, .ref q3, .ref q4, .ref q5, .ref q6, .null, .null, .null, .null, .null, .null, .int 0, .int 0, .int 0, .null, .null, .null, .null])), (q1, .inl (cI, 16, .inl (fun _ => 0))), (q2, .inl (cI, 192, .inl (fun _ => 0))), (q3, .inl (cI, 64, .inl (fun _ => 0))), (q4, .inl (cI, 4, .inl (fun _ => 0))), (q5, .inl (cI, 384, .inl (fun _ => 0))), (q6, .inl (cI, 16, .inl (fun _ => 0)))]) (C0 := RX9) (T := TX9) (M := 24) (k := 0) (ci := 9) (ty := .array .int) hc hnm tyX9 tyX9_ok nmX9 inX9_init_X9 rfl rfl 10 (by decide) (List.mem_of_getElem? (i := 12) rfl) rfl rfl rfl (by decide +kernel) rfl rfl (Nat.le_of_ble_eq_true rfl) rfl dX9_init_60 ?_
  refine gc_aload_n (j := 0) hc dX9_init_63 rfl rfl ?_
  refine gc_bipush (v := 16) hc dX9_init_64 (by decide) ?_
  refine gc_newaI (n := 16) hc hA (List.mem_of_getElem? (i := 6) rfl) (by decide) (by decide) (by decide) (by decide) (by decide) dX9_init_66 (fun q7 => ?_)
  refine gc_wid (k := 7) (n := 692) (by decide) (by decide) ?_
  refine gc_eq (ws' := [(h0, .inr (9, [.int 0, .int 1, .int 1, .int 0, .int 0, .ref q1, .ref q2, .ref q3, .ref q4, .ref q5, .ref q6, .null, .null, .null, .null, .null, .null, .int 0, .int 0, .int 0, .null, .null, .null, .null])), (q1, .inl (cI, 16, .inl (fun _ => 0))), (q2, .inl (cI, 192, .inl (fun _ => 0))), (q3, .inl (cI, 64, .inl (fun _ => 0))), (q4, .inl (cI, 4, .inl (fun _ => 0))), (q5, .inl (cI, 384, .inl (fun _ => 0))), (q6, .inl (cI, 16, .inl (fun _ => 0))), (q7, .inl (cI, 16, .inl (fun _ => 0)))]) rfl ?_
  refine gc_putF (ws' := [(h0, .inr (9, [.int 0, .int 1, .int 1, .int 0, .int 0, .ref q1, .ref q2, .ref q3, .ref q4, .ref q5, .ref q6, .ref q7, .null, .null, .null, .null, .null, .int 0, .int 0, .int 0, .null, .null, .null, .null])), (q1, .inl (cI, 16, .inl (fun _ => 0))), (q2, .inl (cI, 192, .inl (fun _ => 0))), (q3, .inl (cI, 64, .inl (fun _ => 0))), (q4, .inl (cI, 4, .inl (fun _ => 0))), (q5, .inl (cI, 384, .inl (fun _ => 0))), (q6, .inl (cI, 16, .inl (fun _ => 0))), (q7, .inl (cI, 16, .inl (fun _ => 0)))]) (C0 := RX9) (T := TX9) (M := 24) (k := 0) (ci := 9) (ty := .array .int) hc hnm tyX9 tyX9_ok nmX9 inX9_init_X9 rfl rfl 11 (by decide) (List.mem_of_getElem? (i := 13) rfl) rfl rfl rfl (by decide +kernel) rfl rfl (Nat.le_of_ble_eq_true rfl) rfl dX9_init_68 ?_
  refine gc_aload_n (j := 0) hc dX9_init_71 rfl rfl ?_
  refine gc_bipush (v := 8) hc dX9_init_72 (by decide) ?_
  refine gc_newaZ (n := 8) hc hA (List.mem_of_getElem? (i := 14) rfl) (by decide) (by decide) (by decide) (by decide) (by decide) dX9_init_74 (fun q8 => ?_)
  refine gc_wid (k := 8) (n := 700) (by decide) (by decide) ?_
  refine gc_eq (ws' := [(h0, .inr (9, [.int 0, .int 1, .int 1, .int 0, .int 0, .ref q1, .ref q2, .ref q3, .ref q4, .ref q5, .ref q6, .ref q7, .null, .null, .null, .null, .null, .int 0, .int 0, .int 0, .null, .null, .null, .null])), (q1, .inl (cI, 16, .inl (fun _ => 0))), (q2, .inl (cI, 192, .inl (fun _ => 0))), (q3, .inl (cI, 64, .inl (fun _ => 0))), (q4, .inl (cI, 4, .inl (fun _ => 0))), (q5, .inl (cI, 384, .inl (fun _ => 0))), (q6, .inl (cI, 16, .inl (fun _ => 0))), (q7, .inl (cI, 16, .inl (fun _ => 0))), (q8, .inl (cZ, 8, .inl (fun _ => 0)))]) rfl ?_
  refine gc_putF (ws' := [(h0, .inr (9, [.int 0, .int 1, .int 1, .int 0, .int 0, .ref q1, .ref q2, .ref q3, .ref q4, .ref q5, .ref q6, .ref q7, .ref q8, .null, .null, .null, .null, .int 0, .int 0, .int 0, .null, .null, .null, .null])), (q1, .inl (cI, 16, .inl (fun _ => 0))), (q2, .inl (cI, 192, .inl (fun _ => 0))), (q3, .inl (cI, 64, .inl (fun _ => 0))), (q4, .inl (cI, 4, .inl (fun _ => 0))), (q5, .inl (cI, 384, .inl (fun _ => 0))), (q6, .inl (cI, 16, .inl (fun _ => 0))), (q7, .inl (cI, 16, .inl (fun _ => 0))), (q8, .inl (cZ, 8, .inl (fun _ => 0)))]) (C0 := RX9) (T := TX9) (M := 24) (k := 0) (ci := 9) (ty := .array .boolean) hc hnm tyX9 tyX9_ok nmX9 inX9_init_X9 rfl rfl 12 (by decide) (List.mem_of_getElem? (i := 15) rfl) rfl rfl rfl (by decide +kernel) rfl rfl (Nat.le_of_ble_eq_true rfl) rfl dX9_init_76 ?_
  refine gc_aload_n (j := 0) hc dX9_init_79 rfl rfl ?_
  refine gc_sipush (v := 192) hc dX9_init_80 (by decide) ?_
  refine gc_newaZ (n := 192) hc hA (List.mem_of_getElem? (i := 14) rfl) (by decide) (by decide) (by decide) (by decide) (by decide) dX9_init_83 (fun q9 => ?_)
  refine gc_wid (k := 9) (n := 892) (by decide) (by decide) ?_
  refine gc_eq (ws' := [(h0, .inr (9, [.int 0, .int 1, .int 1, .int 0, .int 0, .ref q1, .ref q2, .ref q3, .ref q4, .ref q5, .ref q6, .ref q7, .ref q8, .null, .null, .null, .null, .int 0, .int 0, .int 0, .null, .null, .null, .null])), (q1, .inl (cI, 16, .inl (fun _ => 0))), (q2, .inl (cI, 192, .inl (fun _ => 0))), (q3, .inl (cI, 64, .inl (fun _ => 0))), (q4, .inl (cI, 4, .inl (fun _ => 0))), (q5, .inl (cI, 384, .inl (fun _ => 0))), (q6, .inl (cI, 16, .inl (fun _ => 0))), (q7, .inl (cI, 16, .inl (fun _ => 0))), (q8, .inl (cZ, 8, .inl (fun _ => 0))), (q9, .inl (cZ, 192, .inl (fun _ => 0)))]) rfl ?_
  refine gc_putF (ws' := [(h0, .inr (9, [.int 0, .int 1, .int 1, .int 0, .int 0, .ref q1, .ref q2, .ref q3, .ref q4, .ref q5, .ref q6, .ref q7, .ref q8, .ref q9, .null, .null, .null, .int 0, .int 0, .int 0, .null, .null, .null, .null])), (q1, .inl (cI, 16, .inl (fun _ => 0))), (q2, .inl (cI, 192, .inl (fun _ => 0))), (q3, .inl (cI, 64, .inl (fun _ => 0))), (q4, .inl (cI, 4, .inl (fun _ => 0))), (q5, .inl (cI, 384, .inl (fun _ => 0))), (q6, .inl (cI, 16, .inl (fun _ => 0))), (q7, .inl (cI, 16, .inl (fun _ => 0))), (q8, .inl (cZ, 8, .inl (fun _ => 0))), (q9, .inl (cZ, 192, .inl (fun _ => 0)))]) (C0 := RX9) (T := TX9) (M := 24) (k := 0) (ci := 9) (ty := .array .boolean) hc hnm tyX9 tyX9_ok nmX9 inX9_init_X9 rfl rfl 13 (by decide) (List.mem_of_getElem? (i := 16) rfl) rfl rfl rfl (by decide +kernel) rfl rfl (Nat.le_of_ble_eq_true rfl) rfl dX9_init_85 ?_
  refine gc_aload_n (j := 0) hc dX9_init_88 rfl rfl ?_
  refine gc_bipush (v := 60) hc dX9_init_89 (by decide) ?_
  refine gc_newaI (n := 60) hc hA (List.mem_of_getElem? (i := 6) rfl) (by decide) (by decide) (by decide) (by decide) (by decide) dX9_init_91 (fun q10 => ?_)
  refine gc_wid (k := 10) (n := 952) (by decide) (by decide) ?_
  refine gc_eq (ws' := [(h0, .inr (9, [.int 0, .int 1, .int 1, .int 0, .int 0, .ref q1, .ref q2, .ref q3, .ref q4, .ref q5, .ref q6, .ref q7, .ref q8, .ref q9, .null, .null, .null, .int 0, .int 0, .int 0, .null, .null, .null, .null])), (q1, .inl (cI, 16, .inl (fun _ => 0))), (q2, .inl (cI, 192, .inl (fun _ => 0))), (q3, .inl (cI, 64, .inl (fun _ => 0))), (q4, .inl (cI, 4, .inl (fun _ => 0))), (q5, .inl (cI, 384, .inl (fun _ => 0))), (q6, .inl (cI, 16, .inl (fun _ => 0))), (q7, .inl (cI, 16, .inl (fun _ => 0))), (q8, .inl (cZ, 8, .inl (fun _ => 0))), (q9, .inl (cZ, 192, .inl (fun _ => 0))), (q10, .inl (cI, 60, .inl (fun _ => 0)))]) rfl ?_
  refine gc_putF (ws' := [(h0, .inr (9, [.int 0, .int 1, .int 1, .int 0, .int 0, .ref q1, .ref q2, .ref q3, .ref q4, .ref q5, .ref q6, .ref q7, .ref q8, .ref q9, .ref q10, .null, .null, .int 0, .int 0, .int 0, .null, .null, .null, .null])), (q1, .inl (cI, 16, .inl (fun _ => 0))), (q2, .inl (cI, 192, .inl (fun _ => 0))), (q3, .inl (cI, 64, .inl (fun _ => 0))), (q4, .inl (cI, 4, .inl (fun _ => 0))), (q5, .inl (cI, 384, .inl (fun _ => 0))), (q6, .inl (cI, 16, .inl (fun _ => 0))), (q7, .inl (cI, 16, .inl (fun _ => 0))), (q8, .inl (cZ, 8, .inl (fun _ => 0))), (q9, .inl (cZ, 192, .inl (fun _ => 0))), (q10, .inl (cI, 60, .inl (fun _ => 0)))]) (C0 := RX9) (T := TX9) (M := 24) (k := 0) (ci := 9) (ty := .array .int) hc hnm tyX9 tyX9_ok nmX9 inX9_init_X9 rfl rfl 14 (by decide) (List.mem_of_getElem? (i := 17) rfl) rfl rfl rfl (by decide +kernel) rfl rfl (Nat.le_of_ble_eq_true rfl) rfl dX9_init_93 ?_
  refine gc_aload_n (j := 0) hc dX9_init_96 rfl rfl ?_
  refine gc_bipush (v := 60) hc dX9_init_97 (by decide) ?_
  refine gc_newaI (n := 60) hc hA (List.mem_of_getElem? (i := 6) rfl) (by decide) (by decide) (by decide) (by decide) (by decide) dX9_init_99 (fun q11 => ?_)
  refine gc_wid (k := 11) (n := 1012) (by decide) (by decide) ?_
  refine gc_eq (ws' := [(h0, .inr (9, [.int 0, .int 1, .int 1, .int 0, .int 0, .ref q1, .ref q2, .ref q3, .ref q4, .ref q5, .ref q6, .ref q7, .ref q8, .ref q9, .ref q10, .null, .null, .int 0, .int 0, .int 0, .null, .null, .null, .null])), (q1, .inl (cI, 16, .inl (fun _ => 0))), (q2, .inl (cI, 192, .inl (fun _ => 0))), (q3, .inl (cI, 64, .inl (fun _ => 0))), (q4, .inl (cI, 4, .inl (fun _ => 0))), (q5, .inl (cI, 384, .inl (fun _ => 0))), (q6, .inl (cI, 16, .inl (fun _ => 0))), (q7, .inl (cI, 16, .inl (fun _ => 0))), (q8, .inl (cZ, 8, .inl (fun _ => 0))), (q9, .inl (cZ, 192, .inl (fun _ => 0))), (q10, .inl (cI, 60, .inl (fun _ => 0))), (q11, .inl (cI, 60, .inl (fun _ => 0)))]) rfl ?_
  refine gc_putF (ws' := [(h0, .inr (9, [.int 0, .int 1, .int 1, .int 0, .int 0, .ref q1, .ref q2, .ref q3, .ref q4, .ref q5, .ref q6, .ref q7, .ref q8, .ref q9, .ref q10, .ref q11, .null, .int 0, .int 0, .int 0, .null, .null, .null, .null])), (q1, .inl (cI, 16, .inl (fun _ => 0))), (q2, .inl (cI, 192, .inl (fun _ => 0))), (q3, .inl (cI, 64, .inl (fun _ => 0))), (q4, .inl (cI, 4, .inl (fun _ => 0))), (q5, .inl (cI, 384, .inl (fun _ => 0))), (q6, .inl (cI, 16, .inl (fun _ => 0))), (q7, .inl (cI, 16, .inl (fun _ => 0))), (q8, .inl (cZ, 8, .inl (fun _ => 0))), (q9, .inl (cZ, 192, .inl (fun _ => 0))), (q10, .inl (cI, 60, .inl (fun _ => 0))), (q11, .inl (cI, 60, .inl (fun _ => 0)))]) (C0 := RX9) (T := TX9) (M := 24) (k := 0) (ci := 9) (ty := .array .int) hc hnm tyX9 tyX9_ok nmX9 inX9_init_X9 rfl rfl 15 (by decide) (List.mem_of_getElem? (i := 18) rfl) rfl rfl rfl (by decide +kernel) rfl rfl (Nat.le_of_ble_eq_true rfl) rfl dX9_init_101 ?_
  refine gc_aload_n (j := 0) hc dX9_init_104 rfl rfl ?_
  refine gc_bipush (v := 60) hc dX9_init_105 (by decide) ?_
  refine gc_newaI (n := 60) hc hA (List.mem_of_getElem? (i := 6) rfl) (by decide) (by decide) (by decide) (by decide) (by decide) dX9_init_107 (fun q12 => ?_)
  refine gc_wid (k := 12) (n := 1072) (by decide) (by decide) ?_
  refine gc_eq (ws' := [(h0, .inr (9, [.int 0, .int 1, .int 1, .int 0, .int 0, .ref q1, .ref q2, .ref q3, .ref q4, .ref q5, .ref q6, .ref q7, .ref q8, .ref q9, .ref q10, .ref q11, .null, .int 0, .int 0, .int 0, .null, .null, .null, .null])), (q1, .inl (cI, 16, .inl (fun _ => 0))), (q2, .inl (cI, 192, .inl (fun _ => 0))), (q3, .inl (cI, 64, .inl (fun _ => 0))), (q4, .inl (cI, 4, .inl (fun _ => 0))), (q5, .inl (cI, 384, .inl (fun _ => 0))), (q6, .inl (cI, 16, .inl (fun _ => 0))), (q7, .inl (cI, 16, .inl (fun _ => 0))), (q8, .inl (cZ, 8, .inl (fun _ => 0))), (q9, .inl (cZ, 192, .inl (fun _ => 0))), (q10, .inl (cI, 60, .inl (fun _ => 0))), (q11, .inl (cI, 60, .inl (fun _ => 0))), (q12, .inl (cI, 60, .inl (fun _ => 0)))]) rfl ?_
  refine gc_putF (ws' := [(h0, .inr (9, [.int 0, .int 1, .int 1, .int 0, .int 0, .ref q1, .ref q2, .ref q3, .ref q4, .ref q5, .ref q6, .ref q7, .ref q8, .ref q9, .ref q10, .ref q11, .ref q12, .int 0, .int 0, .int 0, .null, .null, .null, .null])), (q1, .inl (cI, 16, .inl (fun _ => 0))), (q2, .inl (cI, 192, .inl (fun _ => 0))), (q3, .inl (cI, 64, .inl (fun _ => 0))), (q4, .inl (cI, 4, .inl (fun _ => 0))), (q5, .inl (cI, 384, .inl (fun _ => 0))), (q6, .inl (cI, 16, .inl (fun _ => 0))), (q7, .inl (cI, 16, .inl (fun _ => 0))), (q8, .inl (cZ, 8, .inl (fun _ => 0))), (q9, .inl (cZ, 192, .inl (fun _ => 0))), (q10, .inl (cI, 60, .inl (fun _ => 0))), (q11, .inl (cI, 60, .inl (fun _ => 0))), (q12, .inl (cI, 60, .inl (fun _ => 0)))]) (C0 := RX9) (T := TX9) (M := 24) (k := 0) (ci := 9) (ty := .array .int) hc hnm tyX9 tyX9_ok nmX9 inX9_init_X9 rfl rfl 16 (by decide) (List.mem_of_getElem? (i := 19) rfl) rfl rfl rfl (by decide +kernel) rfl rfl (Nat.le_of_ble_eq_true rfl) rfl dX9_init_109 ?_
  refine gc_aload_n (j := 0) hc dX9_init_112 rfl rfl ?_
  refine gc_sipush (v := 192) hc dX9_init_113 (by decide) ?_
  refine gc_newaI (n := 192) hc hA (List.mem_of_getElem? (i := 6) rfl) (by decide) (by decide) (by decide) (by decide) (by decide) dX9_init_116 (fun q13 => ?_)
  refine gc_wid (k := 13) (n := 1264) (by decide) (by decide) ?_
  refine gc_eq (ws' := [(h0, .inr (9, [.int 0, .int 1, .int 1, .int 0, .int 0, .ref q1, .ref q2, .ref q3, .ref q4, .ref q5, .ref q6, .ref q7, .ref q8, .ref q9, .ref q10, .ref q11, .ref q12, .int 0, .int 0, .int 0, .null, .null, .null, .null])), (q1, .inl (cI, 16, .inl (fun _ => 0))), (q2, .inl (cI, 192, .inl (fun _ => 0))), (q3, .inl (cI, 64, .inl (fun _ => 0))), (q4, .inl (cI, 4, .inl (fun _ => 0))), (q5, .inl (cI, 384, .inl (fun _ => 0))), (q6, .inl (cI, 16, .inl (fun _ => 0))), (q7, .inl (cI, 16, .inl (fun _ => 0))), (q8, .inl (cZ, 8, .inl (fun _ => 0))), (q9, .inl (cZ, 192, .inl (fun _ => 0))), (q10, .inl (cI, 60, .inl (fun _ => 0))), (q11, .inl (cI, 60, .inl (fun _ => 0))), (q12, .inl (cI, 60, .inl (fun _ => 0))), (q13, .inl (cI, 192, .inl (fun _ => 0)))]) rfl ?_
  refine gc_putF (ws' := [(h0, .inr (9, [.int 0, .int 1, .int 1, .int 0, .int 0, .ref q1, .ref q2, .ref q3, .ref q4, .ref q5, .ref q6, .ref q7, .ref q8, .ref q9, .ref q10, .ref q11, .ref q12, .int 0, .int 0, .int 0, .ref q13, .null, .null, .null])), (q1, .inl (cI, 16, .inl (fun _ => 0))), (q2, .inl (cI, 192, .inl (fun _ => 0))), (q3, .inl (cI, 64, .inl (fun _ => 0))), (q4, .inl (cI, 4, .inl (fun _ => 0))), (q5, .inl (cI, 384, .inl (fun _ => 0))), (q6, .inl (cI, 16, .inl (fun _ => 0))), (q7, .inl (cI, 16, .inl (fun _ => 0))), (q8, .inl (cZ, 8, .inl (fun _ => 0))), (q9, .inl (cZ, 192, .inl (fun _ => 0))), (q10, .inl (cI, 60, .inl (fun _ => 0))), (q11, .inl (cI, 60, .inl (fun _ => 0))), (q12, .inl (cI, 60, .inl (fun _ => 0))), (q13, .inl (cI, 192, .inl (fun _ => 0)))]) (C0 := RX9) (T := TX9) (M := 24) (k := 0) (ci := 9) (ty := .array .int) hc hnm tyX9 tyX9_ok nmX9 inX9_init_X9 rfl rfl 20 (by decide) (List.mem_of_getElem? (i := 20) rfl) rfl rfl rfl (by decide +kernel) rfl rfl (Nat.le_of_ble_eq_true rfl) rfl dX9_init_118 ?_
  refine gc_aload_n (j := 0) hc dX9_init_121 rfl rfl ?_
  refine gc_sipush (v := 192) hc dX9_init_122 (by decide) ?_
  refine gc_newaI (n := 192) hc hA (List.mem_of_getElem? (i := 6) rfl) (by decide) (by decide) (by decide) (by decide) (by decide) dX9_init_125 (fun q14 => ?_)
  refine gc_wid (k := 14) (n := 1456) (by decide) (by decide) ?_
  refine gc_eq (ws' := [(h0, .inr (9, [.int 0, .int 1, .int 1, .int 0, .int 0, .ref q1, .ref q2, .ref q3, .ref q4, .ref q5, .ref q6, .ref q7, .ref q8, .ref q9, .ref q10, .ref q11, .ref q12, .int 0, .int 0, .int 0, .ref q13, .null, .null, .null])), (q1, .inl (cI, 16, .inl (fun _ => 0))), (q2, .inl (cI, 192, .inl (fun _ => 0))), (q3, .inl (cI, 64, .inl (fun _ => 0))), (q4, .inl (cI, 4, .inl (fun _ => 0))), (q5, .inl (cI, 384, .inl (fun _ => 0))), (q6, .inl (cI, 16, .inl (fun _ => 0))), (q7, .inl (cI, 16, .inl (fun _ => 0))), (q8, .inl (cZ, 8, .inl (fun _ => 0))), (q9, .inl (cZ, 192, .inl (fun _ => 0))), (q10, .inl (cI, 60, .inl (fun _ => 0))), (q11, .inl (cI, 60, .inl (fun _ => 0))), (q12, .inl (cI, 60, .inl (fun _ => 0))), (q13, .inl (cI, 192, .inl (fun _ => 0))), (q14, .inl (cI, 192, .inl (fun _ => 0)))]) rfl ?_
  refine gc_putF (ws' := [(h0, .inr (9, [.int 0, .int 1, .int 1, .int 0, .int 0, .ref q1, .ref q2, .ref q3, .ref q4, .ref q5, .ref q6, .ref q7, .ref q8, .ref q9, .ref q10, .ref q11, .ref q12, .int 0, .int 0, .int 0, .ref q13, .ref q14, .null, .null])), (q1, .inl (cI, 16, .inl (fun _ => 0))), (q2, .inl (cI, 192, .inl (fun _ => 0))), (q3, .inl (cI, 64, .inl (fun _ => 0))), (q4, .inl (cI, 4, .inl (fun _ => 0))), (q5, .inl (cI, 384, .inl (fun _ => 0))), (q6, .inl (cI, 16, .inl (fun _ => 0))), (q7, .inl (cI, 16, .inl (fun _ => 0))), (q8, .inl (cZ, 8, .inl (fun _ => 0))), (q9, .inl (cZ, 192, .inl (fun _ => 0))), (q10, .inl (cI, 60, .inl (fun _ => 0))), (q11, .inl (cI, 60, .inl (fun _ => 0))), (q12, .inl (cI, 60, .inl (fun _ => 0))), (q13, .inl (cI, 192, .inl (fun _ => 0))), (q14, .inl (cI, 192, .inl (fun _ => 0)))]) (C0 := RX9) (T := TX9) (M := 24) (k := 0) (ci := 9) (ty := .array .int) hc hnm tyX9 tyX9_ok nmX9 inX9_init_X9 rfl rfl 21 (by decide) (List.mem_of_getElem? (i := 21) rfl) rfl rfl rfl (by decide +kernel) rfl rfl (Nat.le_of_ble_eq_true rfl) rfl dX9_init_127 ?_
  refine gc_aload_n (j := 0) hc dX9_init_130 rfl rfl ?_
  refine gc_sipush (v := 400) hc dX9_init_131 (by decide) ?_
  refine gc_newaI (n := 400) hc hA (List.mem_of_getElem? (i := 6) rfl) (by decide) (by decide) (by decide) (by decide) (by decide) dX9_init_134 (fun q15 => ?_)
  refine gc_wid (k := 15) (n := 1856) (by decide) (by decide) ?_
  refine gc_eq (ws' := [(h0, .inr (9, [.int 0, .int 1, .int 1, .int 0, .int 0, .ref q1, .ref q2, .ref q3, .ref q4, .ref q5, .ref q6, .ref q7, .ref q8, .ref q9, .ref q10, .ref q11, .ref q12, .int 0, .int 0, .int 0, .ref q13, .ref q14, .null, .null])), (q1, .inl (cI, 16, .inl (fun _ => 0))), (q2, .inl (cI, 192, .inl (fun _ => 0))), (q3, .inl (cI, 64, .inl (fun _ => 0))), (q4, .inl (cI, 4, .inl (fun _ => 0))), (q5, .inl (cI, 384, .inl (fun _ => 0))), (q6, .inl (cI, 16, .inl (fun _ => 0))), (q7, .inl (cI, 16, .inl (fun _ => 0))), (q8, .inl (cZ, 8, .inl (fun _ => 0))), (q9, .inl (cZ, 192, .inl (fun _ => 0))), (q10, .inl (cI, 60, .inl (fun _ => 0))), (q11, .inl (cI, 60, .inl (fun _ => 0))), (q12, .inl (cI, 60, .inl (fun _ => 0))), (q13, .inl (cI, 192, .inl (fun _ => 0))), (q14, .inl (cI, 192, .inl (fun _ => 0))), (q15, .inl (cI, 400, .inl (fun _ => 0)))]) rfl ?_
  refine gc_putF (ws' := [(h0, .inr (9, [.int 0, .int 1, .int 1, .int 0, .int 0, .ref q1, .ref q2, .ref q3, .ref q4, .ref q5, .ref q6, .ref q7, .ref q8, .ref q9, .ref q10, .ref q11, .ref q12, .int 0, .int 0, .int 0, .ref q13, .ref q14, .ref q15, .null])), (q1, .inl (cI, 16, .inl (fun _ => 0))), (q2, .inl (cI, 192, .inl (fun _ => 0))), (q3, .inl (cI, 64, .inl (fun _ => 0))), (q4, .inl (cI, 4, .inl (fun _ => 0))), (q5, .inl (cI, 384, .inl (fun _ => 0))), (q6, .inl (cI, 16, .inl (fun _ => 0))), (q7, .inl (cI, 16, .inl (fun _ => 0))), (q8, .inl (cZ, 8, .inl (fun _ => 0))), (q9, .inl (cZ, 192, .inl (fun _ => 0))), (q10, .inl (cI, 60, .inl (fun _ => 0))), (q11, .inl (cI, 60, .inl (fun _ => 0))), (q12, .inl (cI, 60, .inl (fun _ => 0))), (q13, .inl (cI, 192, .inl (fun _ => 0))), (q14, .inl (cI, 192, .inl (fun _ => 0))), (q15, .inl (cI, 400, .inl (fun _ => 0)))]) (C0 := RX9) (T := TX9) (M := 24) (k := 0) (ci := 9) (ty := .array .int) hc hnm tyX9 tyX9_ok nmX9 inX9_init_X9 rfl rfl 22 (by decide) (List.mem_of_getElem? (i := 22) rfl) rfl rfl rfl (by decide +kernel) rfl rfl (Nat.le_of_ble_eq_true rfl) rfl dX9_init_136 ?_
  refine gc_aload_n (j := 0) hc dX9_init_139 rfl rfl ?_
  refine gc_iconst (v := 4) hc dX9_init_140 (by decide) ?_
  refine gc_newaI (n := 4) hc hA (List.mem_of_getElem? (i := 6) rfl) (by decide) (by decide) (by decide) (by decide) (by decide) dX9_init_141 (fun q16 => ?_)
  refine gc_wid (k := 16) (n := 1860) (by decide) (by decide) ?_
  refine gc_eq (ws' := [(h0, .inr (9, [.int 0, .int 1, .int 1, .int 0, .int 0, .ref q1, .ref q2, .ref q3, .ref q4, .ref q5, .ref q6, .ref q7, .ref q8, .ref q9, .ref q10, .ref q11, .ref q12, .int 0, .int 0, .int 0, .ref q13, .ref q14, .ref q15, .null])), (q1, .inl (cI, 16, .inl (fun _ => 0))), (q2, .inl (cI, 192, .inl (fun _ => 0))), (q3, .inl (cI, 64, .inl (fun _ => 0))), (q4, .inl (cI, 4, .inl (fun _ => 0))), (q5, .inl (cI, 384, .inl (fun _ => 0))), (q6, .inl (cI, 16, .inl (fun _ => 0))), (q7, .inl (cI, 16, .inl (fun _ => 0))), (q8, .inl (cZ, 8, .inl (fun _ => 0))), (q9, .inl (cZ, 192, .inl (fun _ => 0))), (q10, .inl (cI, 60, .inl (fun _ => 0))), (q11, .inl (cI, 60, .inl (fun _ => 0))), (q12, .inl (cI, 60, .inl (fun _ => 0))), (q13, .inl (cI, 192, .inl (fun _ => 0))), (q14, .inl (cI, 192, .inl (fun _ => 0))), (q15, .inl (cI, 400, .inl (fun _ => 0))), (q16, .inl (cI, 4, .inl (fun _ => 0)))]) rfl ?_
  refine gc_putF (ws' := [(h0, .inr (9, [.int 0, .int 1, .int 1, .int 0, .int 0, .ref q1, .ref q2, .ref q3, .ref q4, .ref q5, .ref q6, .ref q7, .ref q8, .ref q9, .ref q10, .ref q11, .ref q12, .int 0, .int 0, .int 0, .ref q13, .ref q14, .ref q15, .ref q16])), (q1, .inl (cI, 16, .inl (fun _ => 0))), (q2, .inl (cI, 192, .inl (fun _ => 0))), (q3, .inl (cI, 64, .inl (fun _ => 0))), (q4, .inl (cI, 4, .inl (fun _ => 0))), (q5, .inl (cI, 384, .inl (fun _ => 0))), (q6, .inl (cI, 16, .inl (fun _ => 0))), (q7, .inl (cI, 16, .inl (fun _ => 0))), (q8, .inl (cZ, 8, .inl (fun _ => 0))), (q9, .inl (cZ, 192, .inl (fun _ => 0))), (q10, .inl (cI, 60, .inl (fun _ => 0))), (q11, .inl (cI, 60, .inl (fun _ => 0))), (q12, .inl (cI, 60, .inl (fun _ => 0))), (q13, .inl (cI, 192, .inl (fun _ => 0))), (q14, .inl (cI, 192, .inl (fun _ => 0))), (q15, .inl (cI, 400, .inl (fun _ => 0))), (q16, .inl (cI, 4, .inl (fun _ => 0)))]) (C0 := RX9) (T := TX9) (M := 24) (k := 0) (ci := 9) (ty := .array .int) hc hnm tyX9 tyX9_ok nmX9 inX9_init_X9 rfl rfl 23 (by decide) (List.mem_of_getElem? (i := 23) rfl) rfl rfl rfl (by decide +kernel) rfl rfl (Nat.le_of_ble_eq_true rfl) rfl dX9_init_143 ?_
  refine gc_loop (n := 17) (C := cM cI cZ) (P := fun S => S = S1) (fun k => [h0, q1, q2, q3, q4, q5, q6, q7, q8, q9, q10, q11, q12, q13, q14, q15, q16].getD k 0) m0 S1 (fun k => k) (by
    intro k hk
    match k, hk with
    | 0, _ => exact ⟨_, rfl, Or.inl rfl⟩
    | 1, _ => exact ⟨_, rfl, Or.inl rfl⟩
    | 2, _ => exact ⟨_, rfl, Or.inl rfl⟩
    | 3, _ => exact ⟨_, rfl, Or.inl rfl⟩
    | 4, _ => exact ⟨_, rfl, Or.inl rfl⟩
    | 5, _ => exact ⟨_, rfl, Or.inl rfl⟩
    | 6, _ => exact ⟨_, rfl, Or.inl rfl⟩
    | 7, _ => exact ⟨_, rfl, Or.inl rfl⟩
    | 8, _ => exact ⟨_, rfl, Or.inl rfl⟩
    | 9, _ => exact ⟨_, rfl, Or.inl rfl⟩
    | 10, _ => exact ⟨_, rfl, Or.inl rfl⟩
    | 11, _ => exact ⟨_, rfl, Or.inl rfl⟩
    | 12, _ => exact ⟨_, rfl, Or.inl rfl⟩
    | 13, _ => exact ⟨_, rfl, Or.inl rfl⟩
    | 14, _ => exact ⟨_, rfl, Or.inl rfl⟩
    | 15, _ => exact ⟨_, rfl, Or.inl rfl⟩
    | 16, _ => exact ⟨_, rfl, Or.inl rfl⟩
    | k + 17, hk => exact absurd hk (by omega)) (fun _ _ _ _ h => h) (by decide) rfl hx rfl (by decide) (by decide) ?_
  exact eX9_init hc hr hlk trivial m0
