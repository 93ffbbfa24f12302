section GC
variable {p : Program} {l : Launch} {e : Env} {R : Room} {s : State} {m : MethodId} {args : Array Value} {below : List Frame} {meth : Method} {c : Code} {D : va_G} {tys : List (ClassId × FieldType)} {N : Nat} {a : Nat → Nat} {C : St → Nat → va_E} {Ev : (Nat → Prop) → State → Prop} {A : Nat → Prop} {cc : ByteArray} {nL : Nat} {own : String} {Ts : List Cond} {cells slots : Nat} {α : Type} {Q : α → State → Prop} {x z : Option α} {pc : Nat} {lv lv' : List (Nat × Value)} {rest : List Value} {S : St}
theorem pw_blind {sz : Nat} {av : List Value} (hT : TR Ev) : FrameBlind (va_Pc av (Pw D tys N a C Ev sz S)) := fun v U g mk q => by
  obtain ⟨q0, q1, qP, qK, qD, qE⟩ := q
  exact ⟨q0, q1, qP, va_K.moved (u := U) (U := U.calling g mk v) (Vm.Alike.refl U.vm) qK, qD, hT.2 _ _ _ _ _ qE⟩
theorem pw_at {av : List Value} {H : Heap} {locs : List Loc} (hT : TR Ev) (hE : Ev A s) (hA : A = AA N a s.heap.size) (hK : va_K D vwCl tys s) (hP : va_P D vwCl (wl N a (C S)) H) (hD : va_D A (wl N a (C S))) (hS : va_S A s.heap H locs) : ∀ U : State, U.heap = H → s.WarmedH U.vm → va_Pc av (Pw D tys N a C Ev H.size S) av.toArray U := fun U hU hW => by
  subst hU
  exact ⟨rfl, rfl, hP, va_K.moved hW.alike hK, hD.weaken (fun _ _ _ _ => trivial), hT.1 A _ s U locs hE hW hS (fun q h => by rw [hA]; exact AA_sub hS.1 q h)⟩

theorem g_iret (hc : CT p s m args c cc nL own Ts D tys) {v : Int32} (hr : meth.sig.returnType = some .int) (hlocks : meth.locks = false) (hdg : decode cc pc = .ok (.ireturn, 1)) : GF p l e R s m args below meth c D N a C A nL 0 0 (fun res => MQ below (va_Qi (fun r u => (r, u) = res) (Bw D tys N a C A) A) args s 0 0 A) (some (v, S)) pc lv [.int v] S :=
  by
  intro res h H locs hP hD hS ls hl
  cases h
  exact W.iret hc.1.1 hc.1.2.1 hr (fun t ht hW => ⟨⟨v, S, rfl, rfl, by rw [ht]; exact hP, va_K.moved hW.alike hc.2, hD⟩, hS.F ht⟩) hS.2.2 hdg hlocks
theorem g_zret (hc : CT p s m args c cc nL own Ts D tys) {v : Int32} (hr : meth.sig.returnType = some .boolean) (hlocks : meth.locks = false) (hdg : decode cc pc = .ok (.ireturn, 1)) : GF p l e R s m args below meth c D N a C A nL 0 0 (fun res => MQ below (va_Qi (fun r u => (r, u) = res) (Bw D tys N a C A) A) args s 0 0 A) (rz v (some (v, S))) pc lv [.int v] S :=
  by
  intro res h H locs hP hD hS ls hl
  obtain ⟨hz, h⟩ := rz_some h
  cases h
  exact W.zret hc.1.1 hc.1.2.1 hr (by show Value.int (v &&& 1) = Value.int v; rw [hz]) (fun t ht hW => ⟨⟨v, S, rfl, rfl, by rw [ht]; exact hP, va_K.moved hW.alike hc.2, hD⟩, hS.F ht⟩) hS.2.2 hdg hlocks
theorem g_vret (hc : CT p s m args c cc nL own Ts D tys) (hr : meth.sig.returnType = none) (hlocks : meth.locks = false) (hdg : decode cc pc = .ok (.return_, 1)) : GF p l e R s m args below meth c D N a C A nL 0 0 (fun res => MQ below (va_Qv (fun u => ((0 : Int32), u) = res) (Bw D tys N a C A) A) args s 0 0 A) (some ((0 : Int32), S)) pc lv [] S :=
  by
  intro res h H locs hP hD hS ls hl
  cases h
  exact W.vret hc.1.1 hc.1.2.1 hr (fun t ht hW => ⟨⟨S, rfl, rfl, by rw [ht]; exact hP, va_K.moved hW.alike hc.2, hD⟩, hS.F ht⟩) hS.2.2 hdg hlocks
theorem g_xiret (hc : CT p s m args c cc nL own Ts D tys) {mc ms : Nat} {v : Int32} (hr : meth.sig.returnType = some .int) (hlocks : meth.locks = false) (hmc : cells ≤ mc) (hms : slots ≤ ms) (hdg : decode cc pc = .ok (.ireturn, 1)) : GF p l e R s m args below meth c D N a C A nL cells slots (fun res : RX => vx_MQ below (QXi D tys N a C A res) (XXc D tys N a C A res) args s mc ms A) (some (.inr v, S)) pc lv [.int v] S :=
  by
  intro res h H locs hP hD hS ls hl
  cases h
  refine W.widen hmc hms ?_
  exact vx_ret (W.iret hc.1.1 hc.1.2.1 hr (fun t ht hW => ⟨⟨v, S, rfl, rfl, by rw [ht]; exact hP, va_K.moved hW.alike hc.2, hD⟩, hS.F ht⟩) hS.2.2 hdg hlocks)
theorem g_xzret (hc : CT p s m args c cc nL own Ts D tys) {mc ms : Nat} {v : Int32} (hr : meth.sig.returnType = some .boolean) (hlocks : meth.locks = false) (hmc : cells ≤ mc) (hms : slots ≤ ms) (hdg : decode cc pc = .ok (.ireturn, 1)) : GF p l e R s m args below meth c D N a C A nL cells slots (fun res : RX => vx_MQ below (QXi D tys N a C A res) (XXc D tys N a C A res) args s mc ms A) (rz v (some (.inr v, S))) pc lv [.int v] S :=
  by
  intro res h H locs hP hD hS ls hl
  obtain ⟨hz, h⟩ := rz_some h
  cases h
  refine W.widen hmc hms ?_
  exact vx_ret (W.zret hc.1.1 hc.1.2.1 hr (by show Value.int (v &&& 1) = Value.int v; rw [hz]) (fun t ht hW => ⟨⟨v, S, rfl, rfl, by rw [ht]; exact hP, va_K.moved hW.alike hc.2, hD⟩, hS.F ht⟩) hS.2.2 hdg hlocks)
theorem g_xvret (hc : CT p s m args c cc nL own Ts D tys) {mc ms : Nat} (hr : meth.sig.returnType = none) (hlocks : meth.locks = false) (hmc : cells ≤ mc) (hms : slots ≤ ms) (hdg : decode cc pc = .ok (.return_, 1)) : GF p l e R s m args below meth c D N a C A nL cells slots (fun res : RX => vx_MQ below (QXv D tys N a C A res) (XXc D tys N a C A res) args s mc ms A) (some (.inr (0 : Int32), S)) pc lv [] S :=
  by
  intro res h H locs hP hD hS ls hl
  cases h
  refine W.widen hmc hms ?_
  exact vx_ret (W.vret hc.1.1 hc.1.2.1 hr (fun t ht hW => ⟨⟨S, rfl, rfl, by rw [ht]; exact hP, va_K.moved hW.alike hc.2, hD⟩, hS.F ht⟩) hS.2.2 hdg hlocks)
theorem g_corei {y0 : Option (Int32 × St)} {f : Int32 → St → Option α} {st : List Value} (hA : A = AA N a s.heap.size) (hrun : ∀ (H : Heap) (locs : List Loc) (ls : Array Slot) (q : Int32 × St), va_P D vwCl (wl N a (C S)) H → va_D A (wl N a (C S)) → va_S A s.heap H locs → lv_has ls nL lv → y0 = some q → ∃ av : Array Value, va_Run p l e R s m args below meth c H locs cells slots 0 0 (F0 m pc ls st) rest (va_Qi (fun r u => (r, u) = q) (Bw D tys N a C (AA N a H.size)) (AA N a H.size) av) (AA N a H.size)) (kk : ∀ (r : Int32) (S2 : St), GF p l e R s m args below meth c D N a C A nL cells slots Q (f r S2) (pc + 3) lv (.int r :: rest) S2) : GF p l e R s m args below meth c D N a C A nL cells slots Q (cl y0 f) pc lv st S := by
  intro res h H locs hP hD hS ls hl
  cases hy : y0 with
  | none => rw [hy] at h; cases h
  | some q =>
    rw [hy] at h
    obtain ⟨av, hr⟩ := hrun H locs ls q hP hD hS hl hy
    have hsub : ∀ z, AA N a H.size z → A z := fun z h => by rw [hA]; exact AA_sub hS.1 z h
    refine va_calli hr hS (fun z _ h => hsub z h) hsub (fun r u t H1 locs1 ht hvm hpost hB hz hk hS1 => ?_)
    subst hpost
    obtain ⟨hP1, hK1, hD1⟩ := hB
    rw [ht] at hP1
    exact kk r u res h H1 locs1 hP1 (hD1.weaken (fun _ _ _ h => hsub _ h)) hS1 ls hl
theorem g_callVi (hc : CT p s m args c cc nL own Ts D tys) {y0 : Option (Int32 × St)} {f : Int32 → St → Option α} {st As : List Value} {y : MethodName} {ws : List Cond} {rm : Room} {index n maxL k ci : Nat} {bytes : ByteArray} {ret : Option FieldType} {q0 : vw_C} {fs : List Value} (hE : Ev A s) (hT : TR Ev) (hA : A = AA N a s.heap.size) (hM : ∀ q, y0 = some q → Ki l y ws rm D tys N a C Ev (.ref (a k) :: As) S q) (cw : CallW R s args own q0.1 index y bytes maxL ret ws rm 0 0 n) (hk : k < N) (he : C S k = .inr (ci, fs)) (hcl : vwCl[ci]? = some q0) (hn : As.length = n) (hst : st = As.reverse ++ .ref (a k) :: rest) (hcat : (rest.map fun v => v.category).sum ≤ 8) (hdg : decode cc pc = .ok (.invokevirtual index, 3)) (hf : cells + 0 ≤ R.cells ∧ slots + 0 ≤ R.slots) (kk : ∀ (r : Int32) (S2 : St), GF p l e R s m args below meth c D N a C A nL cells slots Q (f r S2) (pc + 3) lv (.int r :: rest) S2) : GF p l e R s m args below meth c D N a C A nL cells slots Q (cl y0 f) pc lv st S :=
  g_corei hA (fun H locs ls q hP hD hS hl hy => ⟨_, va_runV (g := F0 m pc ls st) hc.1 (hM q hy H.size) cw ⟨pw_blind hT, va_recv hc.2 hP hcl (by rw [wl_at hk, he]), pw_at hT hE hA hc.2 hP hD hS⟩ rfl hn hl.1 hst (lv_room (ls := ls) (rest := st) hcat) hdg hf⟩) kk
theorem g_callSi (hc : CT p s m args c cc nL own Ts D tys) {y0 : Option (Int32 × St)} {f : Int32 → St → Option α} {st As : List Value} {y : MethodName} {ws : List Cond} {rm : Room} {index n maxL : Nat} {bytes : ByteArray} {ret : Option FieldType} (hE : Ev A s) (hT : TR Ev) (hA : A = AA N a s.heap.size) (hM : ∀ q, y0 = some q → Ki l y ws rm D tys N a C Ev As S q) (cw : CallB R s args own index y bytes maxL ret ws rm 0 0 n ∧ (Cond.static y).before args s = true) (hn : As.length = n) (hst : st = As.reverse ++ rest) (hcat : (rest.map fun v => v.category).sum ≤ 8) (hdg : decode cc pc = .ok (.invokestatic index, 3)) (hf : cells + 0 ≤ R.cells ∧ slots + 0 ≤ R.slots) (kk : ∀ (r : Int32) (S2 : St), GF p l e R s m args below meth c D N a C A nL cells slots Q (f r S2) (pc + 3) lv (.int r :: rest) S2) : GF p l e R s m args below meth c D N a C A nL cells slots Q (cl y0 f) pc lv st S :=
  g_corei hA (fun H locs ls q hP hD hS hl hy => ⟨_, va_runS (g := F0 m pc ls st) hc.1 (hM q hy H.size) cw ⟨pw_blind hT, pw_at hT hE hA hc.2 hP hD hS⟩ rfl hn hl.1 hst (lv_room (ls := ls) (rest := st) hcat) hdg hf⟩) kk
theorem g_callNi (hc : CT p s m args c cc nL own Ts D tys) {y0 : Option (Int32 × St)} {f : Int32 → St → Option α} {st As : List Value} {y : MethodName} {ws : List Cond} {rm : Room} {index n maxL : Nat} {bytes : ByteArray} {ret : Option FieldType} {host : String} (hE : Ev A s) (hT : TR Ev) (hA : A = AA N a s.heap.size) (hM : ∀ q, y0 = some q → Ki l y ws rm D tys N a C Ev As S q) (cw : va_CN R s args own index y host bytes maxL ret ws rm 0 0 n ∧ (Cond.static y).before args s = true ∧ True) (hn : As.length = n) (hst : st = As.reverse ++ rest) (hcat : (rest.map fun v => v.category).sum ≤ 8) (hdg : decode cc pc = .ok (.invokestatic index, 3)) (hf : cells + 0 ≤ R.cells ∧ slots + 0 ≤ R.slots) (kk : ∀ (r : Int32) (S2 : St), GF p l e R s m args below meth c D N a C A nL cells slots Q (f r S2) (pc + 3) lv (.int r :: rest) S2) : GF p l e R s m args below meth c D N a C A nL cells slots Q (cl y0 f) pc lv st S :=
  g_corei hA (fun H locs ls q hP hD hS hl hy => ⟨_, va_runSN (g := F0 m pc ls st) hc.1 (hM q hy H.size) cw ⟨pw_blind hT, pw_at hT hE hA hc.2 hP hD hS⟩ rfl hn hl.1 hst (lv_room (ls := ls) (rest := st) hcat) hdg hf⟩) kk
theorem g_corev {y0 : Option (Int32 × St)} {f : Int32 → St → Option α} {st : List Value} (hA : A = AA N a s.heap.size) (hrun : ∀ (H : Heap) (locs : List Loc) (ls : Array Slot) (q : Int32 × St), va_P D vwCl (wl N a (C S)) H → va_D A (wl N a (C S)) → va_S A s.heap H locs → lv_has ls nL lv → y0 = some q → ∃ av : Array Value, va_Run p l e R s m args below meth c H locs cells slots 0 0 (F0 m pc ls st) rest (va_Qv (fun u => ((0 : Int32), u) = q) (Bw D tys N a C (AA N a H.size)) (AA N a H.size) av) (AA N a H.size)) (kk : ∀ (S2 : St), GF p l e R s m args below meth c D N a C A nL cells slots Q (f 0 S2) (pc + 3) lv rest S2) : GF p l e R s m args below meth c D N a C A nL cells slots Q (cl y0 f) pc lv st S := by
  intro res h H locs hP hD hS ls hl
  cases hy : y0 with
  | none => rw [hy] at h; cases h
  | some q =>
    rw [hy] at h
    obtain ⟨av, hr⟩ := hrun H locs ls q hP hD hS hl hy
    have hsub : ∀ z, AA N a H.size z → A z := fun z h => by rw [hA]; exact AA_sub hS.1 z h
    refine va_callv hr hS (fun z _ h => hsub z h) hsub (fun u t H1 locs1 ht hvm hpost hB hz hk hS1 => ?_)
    subst hpost
    obtain ⟨hP1, hK1, hD1⟩ := hB
    rw [ht] at hP1
    exact kk u res h H1 locs1 hP1 (hD1.weaken (fun _ _ _ h => hsub _ h)) hS1 ls hl
theorem g_callVv (hc : CT p s m args c cc nL own Ts D tys) {y0 : Option (Int32 × St)} {f : Int32 → St → Option α} {st As : List Value} {y : MethodName} {ws : List Cond} {rm : Room} {index n maxL k ci : Nat} {bytes : ByteArray} {ret : Option FieldType} {q0 : vw_C} {fs : List Value} (hE : Ev A s) (hT : TR Ev) (hA : A = AA N a s.heap.size) (hM : ∀ q, y0 = some q → Kv l y ws rm D tys N a C Ev (.ref (a k) :: As) S q) (cw : CallW R s args own q0.1 index y bytes maxL ret ws rm 0 0 n) (hk : k < N) (he : C S k = .inr (ci, fs)) (hcl : vwCl[ci]? = some q0) (hn : As.length = n) (hst : st = As.reverse ++ .ref (a k) :: rest) (hcat : (rest.map fun v => v.category).sum ≤ 8) (hdg : decode cc pc = .ok (.invokevirtual index, 3)) (hf : cells + 0 ≤ R.cells ∧ slots + 0 ≤ R.slots) (kk : ∀ (S2 : St), GF p l e R s m args below meth c D N a C A nL cells slots Q (f 0 S2) (pc + 3) lv rest S2) : GF p l e R s m args below meth c D N a C A nL cells slots Q (cl y0 f) pc lv st S :=
  g_corev hA (fun H locs ls q hP hD hS hl hy => ⟨_, va_runV (g := F0 m pc ls st) hc.1 (hM q hy H.size) cw ⟨pw_blind hT, va_recv hc.2 hP hcl (by rw [wl_at hk, he]), pw_at hT hE hA hc.2 hP hD hS⟩ rfl hn hl.1 hst (lv_room (ls := ls) (rest := st) hcat) hdg hf⟩) kk
theorem g_callSv (hc : CT p s m args c cc nL own Ts D tys) {y0 : Option (Int32 × St)} {f : Int32 → St → Option α} {st As : List Value} {y : MethodName} {ws : List Cond} {rm : Room} {index n maxL : Nat} {bytes : ByteArray} {ret : Option FieldType} (hE : Ev A s) (hT : TR Ev) (hA : A = AA N a s.heap.size) (hM : ∀ q, y0 = some q → Kv l y ws rm D tys N a C Ev As S q) (cw : CallB R s args own index y bytes maxL ret ws rm 0 0 n ∧ (Cond.static y).before args s = true) (hn : As.length = n) (hst : st = As.reverse ++ rest) (hcat : (rest.map fun v => v.category).sum ≤ 8) (hdg : decode cc pc = .ok (.invokestatic index, 3)) (hf : cells + 0 ≤ R.cells ∧ slots + 0 ≤ R.slots) (kk : ∀ (S2 : St), GF p l e R s m args below meth c D N a C A nL cells slots Q (f 0 S2) (pc + 3) lv rest S2) : GF p l e R s m args below meth c D N a C A nL cells slots Q (cl y0 f) pc lv st S :=
  g_corev hA (fun H locs ls q hP hD hS hl hy => ⟨_, va_runS (g := F0 m pc ls st) hc.1 (hM q hy H.size) cw ⟨pw_blind hT, pw_at hT hE hA hc.2 hP hD hS⟩ rfl hn hl.1 hst (lv_room (ls := ls) (rest := st) hcat) hdg hf⟩) kk
theorem g_callNv (hc : CT p s m args c cc nL own Ts D tys) {y0 : Option (Int32 × St)} {f : Int32 → St → Option α} {st As : List Value} {y : MethodName} {ws : List Cond} {rm : Room} {index n maxL : Nat} {bytes : ByteArray} {ret : Option FieldType} {host : String} (hE : Ev A s) (hT : TR Ev) (hA : A = AA N a s.heap.size) (hM : ∀ q, y0 = some q → Kv l y ws rm D tys N a C Ev As S q) (cw : va_CN R s args own index y host bytes maxL ret ws rm 0 0 n ∧ (Cond.static y).before args s = true ∧ True) (hn : As.length = n) (hst : st = As.reverse ++ rest) (hcat : (rest.map fun v => v.category).sum ≤ 8) (hdg : decode cc pc = .ok (.invokestatic index, 3)) (hf : cells + 0 ≤ R.cells ∧ slots + 0 ≤ R.slots) (kk : ∀ (S2 : St), GF p l e R s m args below meth c D N a C A nL cells slots Q (f 0 S2) (pc + 3) lv rest S2) : GF p l e R s m args below meth c D N a C A nL cells slots Q (cl y0 f) pc lv st S :=
  g_corev hA (fun H locs ls q hP hD hS hl hy => ⟨_, va_runSN (g := F0 m pc ls st) hc.1 (hM q hy H.size) cw ⟨pw_blind hT, pw_at hT hE hA hc.2 hP hD hS⟩ rfl hn hl.1 hst (lv_room (ls := ls) (rest := st) hcat) hdg hf⟩) kk
end GC
section GX
variable {p : Program} {l : Launch} {e : Env} {R : Room} {s : State} {m : MethodId} {args : Array Value} {below : List Frame} {meth : Method} {c : Code} {D : va_G} {tys : List (ClassId × FieldType)} {N : Nat} {a : Nat → Nat} {C : St → Nat → va_E} {Ev : (Nat → Prop) → State → Prop} {A : Nat → Prop} {cc : ByteArray} {nL : Nat} {own : String} {Ts : List Cond} {cells slots : Nat} {mc ms : Nat} {pc : Nat} {lv lv' : List (Nat × Value)} {rest : List Value} {S : St}
theorem g_xcoreIi (hc : CT p s m args c cc nL own Ts D tys) (hout : ∀ z ∈ c.exceptionTable.toList, False) (hlocks : meth.locks = false) {rm : Room} {y0 : Option RX} {f : Int32 → St → Option RX} {st : List Value} (hA : A = AA N a s.heap.size) (hmc : cells + rm.cells ≤ mc) (hms : slots + rm.slots ≤ ms) (hrun : ∀ (H : Heap) (locs : List Loc) (ls : Array Slot) (q : RX), va_P D vwCl (wl N a (C S)) H → va_D A (wl N a (C S)) → va_S A s.heap H locs → lv_has ls nL lv → y0 = some q → ∃ av : Array Value, vx_Run p l e R s m args below meth c H locs cells slots rm.cells rm.slots (F0 m pc ls st) rest (QXi D tys N a C (AA N a H.size) q av) (XXc D tys N a C (AA N a H.size) q) (AA N a H.size)) (kk : ∀ (r : Int32) (S2 : St), GF p l e R s m args below meth c D N a C A nL (cells + rm.cells) (slots + rm.slots) (fun res : RX => vx_MQ below (QXi D tys N a C A res) (XXc D tys N a C A res) args s mc ms A) (f r S2) (pc + 3) lv (.int r :: rest) S2) : GF p l e R s m args below meth c D N a C A nL cells slots (fun res : RX => vx_MQ below (QXi D tys N a C A res) (XXc D tys N a C A res) args s mc ms A) (cx y0 f) pc lv st S := by
  intro res h H locs hP hD hS ls hl
  cases hy : y0 with
  | none => rw [hy] at h; cases h
  | some q =>
    rw [hy] at h
    obtain ⟨av, hr⟩ := hrun H locs ls q hP hD hS hl hy
    have hsub : ∀ z, AA N a H.size z → A z := fun z h => by rw [hA]; exact AA_sub hS.1 z h
    refine vx_calli hr hS (fun z _ h => hsub z h) hsub (fun z _ h => hsub z h) (fun E ce q9 u t H1 locs1 ht hvm _ hB hz hk hS1 hce hcv hcl => ?_) (fun r u t H1 locs1 ht hvm hpost hB hz hk hS1 => ?_)
    · obtain ⟨hpost, hP1, hK1, hD1⟩ := hB
      subst hpost
      cases h
      rw [ht] at hP1
      exact vx_out (fun z hz => (hout z hz).elim) hlocks hce hcv hcl (fun t2 ht2 hvm2 => ⟨u, trivial, ⟨rfl, by rw [ht2]; exact hP1, va_K.moved hvm2 hc.2, hD1.weaken (fun _ _ _ h => hsub _ h)⟩, hS1.F ht2⟩) hS1.2.2 hmc hms
    · subst hpost
      obtain ⟨hP1, hK1, hD1⟩ := hB
      rw [ht] at hP1
      exact kk r u res h H1 locs1 hP1 (hD1.weaken (fun _ _ _ h => hsub _ h)) hS1 ls hl
theorem g_xcallVIi (hc : CT p s m args c cc nL own Ts D tys) (hout : ∀ z ∈ c.exceptionTable.toList, False) (hlocks : meth.locks = false) {y0 : Option RX} {f : Int32 → St → Option RX} {st As : List Value} {y : MethodName} {ws : List Cond} {rm : Room} {index n maxL k ci : Nat} {bytes : ByteArray} {ret : Option FieldType} {q0 : vw_C} {fs : List Value} (hE : Ev A s) (hT : TR Ev) (hA : A = AA N a s.heap.size) (hmc : cells + rm.cells ≤ mc) (hms : slots + rm.slots ≤ ms) (hM : ∀ q, y0 = some q → Xi l y ws rm D tys N a C Ev (.ref (a k) :: As) S q) (cw : CallW R s args own q0.1 index y bytes maxL ret ws rm rm.cells rm.slots n) (hk : k < N) (he : C S k = .inr (ci, fs)) (hcl : vwCl[ci]? = some q0) (hn : As.length = n) (hst : st = As.reverse ++ .ref (a k) :: rest) (hcat : (rest.map fun v => v.category).sum ≤ 8) (hdg : decode cc pc = .ok (.invokevirtual index, 3)) (hf : cells + rm.cells ≤ R.cells ∧ slots + rm.slots ≤ R.slots) (kk : ∀ (r : Int32) (S2 : St), GF p l e R s m args below meth c D N a C A nL (cells + rm.cells) (slots + rm.slots) (fun res : RX => vx_MQ below (QXi D tys N a C A res) (XXc D tys N a C A res) args s mc ms A) (f r S2) (pc + 3) lv (.int r :: rest) S2) : GF p l e R s m args below meth c D N a C A nL cells slots (fun res : RX => vx_MQ below (QXi D tys N a C A res) (XXc D tys N a C A res) args s mc ms A) (cx y0 f) pc lv st S :=
  g_xcoreIi hc hout hlocks hA hmc hms (fun H locs ls q hP hD hS hl hy => ⟨_, vx_runV (g := F0 m pc ls st) hc.1 (hM q hy H.size) cw ⟨pw_blind hT, va_recv hc.2 hP hcl (by rw [wl_at hk, he]), pw_at hT hE hA hc.2 hP hD hS⟩ rfl hn hl.1 hst (lv_room (ls := ls) (rest := st) hcat) hdg hf⟩) kk
theorem g_xcallSIi (hc : CT p s m args c cc nL own Ts D tys) (hout : ∀ z ∈ c.exceptionTable.toList, False) (hlocks : meth.locks = false) {y0 : Option RX} {f : Int32 → St → Option RX} {st As : List Value} {y : MethodName} {ws : List Cond} {rm : Room} {index n maxL : Nat} {bytes : ByteArray} {ret : Option FieldType} (hE : Ev A s) (hT : TR Ev) (hA : A = AA N a s.heap.size) (hmc : cells + rm.cells ≤ mc) (hms : slots + rm.slots ≤ ms) (hM : ∀ q, y0 = some q → Xi l y ws rm D tys N a C Ev As S q) (cw : CallB R s args own index y bytes maxL ret ws rm rm.cells rm.slots n ∧ (Cond.static y).before args s = true) (hn : As.length = n) (hst : st = As.reverse ++ rest) (hcat : (rest.map fun v => v.category).sum ≤ 8) (hdg : decode cc pc = .ok (.invokestatic index, 3)) (hf : cells + rm.cells ≤ R.cells ∧ slots + rm.slots ≤ R.slots) (kk : ∀ (r : Int32) (S2 : St), GF p l e R s m args below meth c D N a C A nL (cells + rm.cells) (slots + rm.slots) (fun res : RX => vx_MQ below (QXi D tys N a C A res) (XXc D tys N a C A res) args s mc ms A) (f r S2) (pc + 3) lv (.int r :: rest) S2) : GF p l e R s m args below meth c D N a C A nL cells slots (fun res : RX => vx_MQ below (QXi D tys N a C A res) (XXc D tys N a C A res) args s mc ms A) (cx y0 f) pc lv st S :=
  g_xcoreIi hc hout hlocks hA hmc hms (fun H locs ls q hP hD hS hl hy => ⟨_, vx_runS (g := F0 m pc ls st) hc.1 (hM q hy H.size) cw ⟨pw_blind hT, pw_at hT hE hA hc.2 hP hD hS⟩ rfl hn hl.1 hst (lv_room (ls := ls) (rest := st) hcat) hdg hf⟩) kk
theorem g_xcoreIv (hc : CT p s m args c cc nL own Ts D tys) (hout : ∀ z ∈ c.exceptionTable.toList, False) (hlocks : meth.locks = false) {rm : Room} {y0 : Option RX} {f : Int32 → St → Option RX} {st : List Value} (hA : A = AA N a s.heap.size) (hmc : cells + rm.cells ≤ mc) (hms : slots + rm.slots ≤ ms) (hrun : ∀ (H : Heap) (locs : List Loc) (ls : Array Slot) (q : RX), va_P D vwCl (wl N a (C S)) H → va_D A (wl N a (C S)) → va_S A s.heap H locs → lv_has ls nL lv → y0 = some q → ∃ av : Array Value, vx_Run p l e R s m args below meth c H locs cells slots rm.cells rm.slots (F0 m pc ls st) rest (QXv D tys N a C (AA N a H.size) q av) (XXc D tys N a C (AA N a H.size) q) (AA N a H.size)) (kk : ∀ (S2 : St), GF p l e R s m args below meth c D N a C A nL (cells + rm.cells) (slots + rm.slots) (fun res : RX => vx_MQ below (QXi D tys N a C A res) (XXc D tys N a C A res) args s mc ms A) (f 0 S2) (pc + 3) lv rest S2) : GF p l e R s m args below meth c D N a C A nL cells slots (fun res : RX => vx_MQ below (QXi D tys N a C A res) (XXc D tys N a C A res) args s mc ms A) (cx y0 f) pc lv st S := by
  intro res h H locs hP hD hS ls hl
  cases hy : y0 with
  | none => rw [hy] at h; cases h
  | some q =>
    rw [hy] at h
    obtain ⟨av, hr⟩ := hrun H locs ls q hP hD hS hl hy
    have hsub : ∀ z, AA N a H.size z → A z := fun z h => by rw [hA]; exact AA_sub hS.1 z h
    refine vx_callv hr hS (fun z _ h => hsub z h) hsub (fun z _ h => hsub z h) (fun E ce q9 u t H1 locs1 ht hvm _ hB hz hk hS1 hce hcv hcl => ?_) (fun u t H1 locs1 ht hvm hpost hB hz hk hS1 => ?_)
    · obtain ⟨hpost, hP1, hK1, hD1⟩ := hB
      subst hpost
      cases h
      rw [ht] at hP1
      exact vx_out (fun z hz => (hout z hz).elim) hlocks hce hcv hcl (fun t2 ht2 hvm2 => ⟨u, trivial, ⟨rfl, by rw [ht2]; exact hP1, va_K.moved hvm2 hc.2, hD1.weaken (fun _ _ _ h => hsub _ h)⟩, hS1.F ht2⟩) hS1.2.2 hmc hms
    · subst hpost
      obtain ⟨hP1, hK1, hD1⟩ := hB
      rw [ht] at hP1
      exact kk u res h H1 locs1 hP1 (hD1.weaken (fun _ _ _ h => hsub _ h)) hS1 ls hl
theorem g_xcallVIv (hc : CT p s m args c cc nL own Ts D tys) (hout : ∀ z ∈ c.exceptionTable.toList, False) (hlocks : meth.locks = false) {y0 : Option RX} {f : Int32 → St → Option RX} {st As : List Value} {y : MethodName} {ws : List Cond} {rm : Room} {index n maxL k ci : Nat} {bytes : ByteArray} {ret : Option FieldType} {q0 : vw_C} {fs : List Value} (hE : Ev A s) (hT : TR Ev) (hA : A = AA N a s.heap.size) (hmc : cells + rm.cells ≤ mc) (hms : slots + rm.slots ≤ ms) (hM : ∀ q, y0 = some q → Xv l y ws rm D tys N a C Ev (.ref (a k) :: As) S q) (cw : CallW R s args own q0.1 index y bytes maxL ret ws rm rm.cells rm.slots n) (hk : k < N) (he : C S k = .inr (ci, fs)) (hcl : vwCl[ci]? = some q0) (hn : As.length = n) (hst : st = As.reverse ++ .ref (a k) :: rest) (hcat : (rest.map fun v => v.category).sum ≤ 8) (hdg : decode cc pc = .ok (.invokevirtual index, 3)) (hf : cells + rm.cells ≤ R.cells ∧ slots + rm.slots ≤ R.slots) (kk : ∀ (S2 : St), GF p l e R s m args below meth c D N a C A nL (cells + rm.cells) (slots + rm.slots) (fun res : RX => vx_MQ below (QXi D tys N a C A res) (XXc D tys N a C A res) args s mc ms A) (f 0 S2) (pc + 3) lv rest S2) : GF p l e R s m args below meth c D N a C A nL cells slots (fun res : RX => vx_MQ below (QXi D tys N a C A res) (XXc D tys N a C A res) args s mc ms A) (cx y0 f) pc lv st S :=
  g_xcoreIv hc hout hlocks hA hmc hms (fun H locs ls q hP hD hS hl hy => ⟨_, vx_runV (g := F0 m pc ls st) hc.1 (hM q hy H.size) cw ⟨pw_blind hT, va_recv hc.2 hP hcl (by rw [wl_at hk, he]), pw_at hT hE hA hc.2 hP hD hS⟩ rfl hn hl.1 hst (lv_room (ls := ls) (rest := st) hcat) hdg hf⟩) kk
theorem g_xcallSIv (hc : CT p s m args c cc nL own Ts D tys) (hout : ∀ z ∈ c.exceptionTable.toList, False) (hlocks : meth.locks = false) {y0 : Option RX} {f : Int32 → St → Option RX} {st As : List Value} {y : MethodName} {ws : List Cond} {rm : Room} {index n maxL : Nat} {bytes : ByteArray} {ret : Option FieldType} (hE : Ev A s) (hT : TR Ev) (hA : A = AA N a s.heap.size) (hmc : cells + rm.cells ≤ mc) (hms : slots + rm.slots ≤ ms) (hM : ∀ q, y0 = some q → Xv l y ws rm D tys N a C Ev As S q) (cw : CallB R s args own index y bytes maxL ret ws rm rm.cells rm.slots n ∧ (Cond.static y).before args s = true) (hn : As.length = n) (hst : st = As.reverse ++ rest) (hcat : (rest.map fun v => v.category).sum ≤ 8) (hdg : decode cc pc = .ok (.invokestatic index, 3)) (hf : cells + rm.cells ≤ R.cells ∧ slots + rm.slots ≤ R.slots) (kk : ∀ (S2 : St), GF p l e R s m args below meth c D N a C A nL (cells + rm.cells) (slots + rm.slots) (fun res : RX => vx_MQ below (QXi D tys N a C A res) (XXc D tys N a C A res) args s mc ms A) (f 0 S2) (pc + 3) lv rest S2) : GF p l e R s m args below meth c D N a C A nL cells slots (fun res : RX => vx_MQ below (QXi D tys N a C A res) (XXc D tys N a C A res) args s mc ms A) (cx y0 f) pc lv st S :=
  g_xcoreIv hc hout hlocks hA hmc hms (fun H locs ls q hP hD hS hl hy => ⟨_, vx_runS (g := F0 m pc ls st) hc.1 (hM q hy H.size) cw ⟨pw_blind hT, pw_at hT hE hA hc.2 hP hD hS⟩ rfl hn hl.1 hst (lv_room (ls := ls) (rest := st) hcat) hdg hf⟩) kk
theorem g_xcoreVi (hc : CT p s m args c cc nL own Ts D tys) (hout : ∀ z ∈ c.exceptionTable.toList, False) (hlocks : meth.locks = false) {rm : Room} {y0 : Option RX} {f : Int32 → St → Option RX} {st : List Value} (hA : A = AA N a s.heap.size) (hmc : cells + rm.cells ≤ mc) (hms : slots + rm.slots ≤ ms) (hrun : ∀ (H : Heap) (locs : List Loc) (ls : Array Slot) (q : RX), va_P D vwCl (wl N a (C S)) H → va_D A (wl N a (C S)) → va_S A s.heap H locs → lv_has ls nL lv → y0 = some q → ∃ av : Array Value, vx_Run p l e R s m args below meth c H locs cells slots rm.cells rm.slots (F0 m pc ls st) rest (QXi D tys N a C (AA N a H.size) q av) (XXc D tys N a C (AA N a H.size) q) (AA N a H.size)) (kk : ∀ (r : Int32) (S2 : St), GF p l e R s m args below meth c D N a C A nL (cells + rm.cells) (slots + rm.slots) (fun res : RX => vx_MQ below (QXv D tys N a C A res) (XXc D tys N a C A res) args s mc ms A) (f r S2) (pc + 3) lv (.int r :: rest) S2) : GF p l e R s m args below meth c D N a C A nL cells slots (fun res : RX => vx_MQ below (QXv D tys N a C A res) (XXc D tys N a C A res) args s mc ms A) (cx y0 f) pc lv st S := by
  intro res h H locs hP hD hS ls hl
  cases hy : y0 with
  | none => rw [hy] at h; cases h
  | some q =>
    rw [hy] at h
    obtain ⟨av, hr⟩ := hrun H locs ls q hP hD hS hl hy
    have hsub : ∀ z, AA N a H.size z → A z := fun z h => by rw [hA]; exact AA_sub hS.1 z h
    refine vx_calli hr hS (fun z _ h => hsub z h) hsub (fun z _ h => hsub z h) (fun E ce q9 u t H1 locs1 ht hvm _ hB hz hk hS1 hce hcv hcl => ?_) (fun r u t H1 locs1 ht hvm hpost hB hz hk hS1 => ?_)
    · obtain ⟨hpost, hP1, hK1, hD1⟩ := hB
      subst hpost
      cases h
      rw [ht] at hP1
      exact vx_out (fun z hz => (hout z hz).elim) hlocks hce hcv hcl (fun t2 ht2 hvm2 => ⟨u, trivial, ⟨rfl, by rw [ht2]; exact hP1, va_K.moved hvm2 hc.2, hD1.weaken (fun _ _ _ h => hsub _ h)⟩, hS1.F ht2⟩) hS1.2.2 hmc hms
    · subst hpost
      obtain ⟨hP1, hK1, hD1⟩ := hB
      rw [ht] at hP1
      exact kk r u res h H1 locs1 hP1 (hD1.weaken (fun _ _ _ h => hsub _ h)) hS1 ls hl
theorem g_xcallVVi (hc : CT p s m args c cc nL own Ts D tys) (hout : ∀ z ∈ c.exceptionTable.toList, False) (hlocks : meth.locks = false) {y0 : Option RX} {f : Int32 → St → Option RX} {st As : List Value} {y : MethodName} {ws : List Cond} {rm : Room} {index n maxL k ci : Nat} {bytes : ByteArray} {ret : Option FieldType} {q0 : vw_C} {fs : List Value} (hE : Ev A s) (hT : TR Ev) (hA : A = AA N a s.heap.size) (hmc : cells + rm.cells ≤ mc) (hms : slots + rm.slots ≤ ms) (hM : ∀ q, y0 = some q → Xi l y ws rm D tys N a C Ev (.ref (a k) :: As) S q) (cw : CallW R s args own q0.1 index y bytes maxL ret ws rm rm.cells rm.slots n) (hk : k < N) (he : C S k = .inr (ci, fs)) (hcl : vwCl[ci]? = some q0) (hn : As.length = n) (hst : st = As.reverse ++ .ref (a k) :: rest) (hcat : (rest.map fun v => v.category).sum ≤ 8) (hdg : decode cc pc = .ok (.invokevirtual index, 3)) (hf : cells + rm.cells ≤ R.cells ∧ slots + rm.slots ≤ R.slots) (kk : ∀ (r : Int32) (S2 : St), GF p l e R s m args below meth c D N a C A nL (cells + rm.cells) (slots + rm.slots) (fun res : RX => vx_MQ below (QXv D tys N a C A res) (XXc D tys N a C A res) args s mc ms A) (f r S2) (pc + 3) lv (.int r :: rest) S2) : GF p l e R s m args below meth c D N a C A nL cells slots (fun res : RX => vx_MQ below (QXv D tys N a C A res) (XXc D tys N a C A res) args s mc ms A) (cx y0 f) pc lv st S :=
  g_xcoreVi hc hout hlocks hA hmc hms (fun H locs ls q hP hD hS hl hy => ⟨_, vx_runV (g := F0 m pc ls st) hc.1 (hM q hy H.size) cw ⟨pw_blind hT, va_recv hc.2 hP hcl (by rw [wl_at hk, he]), pw_at hT hE hA hc.2 hP hD hS⟩ rfl hn hl.1 hst (lv_room (ls := ls) (rest := st) hcat) hdg hf⟩) kk
theorem g_xcallSVi (hc : CT p s m args c cc nL own Ts D tys) (hout : ∀ z ∈ c.exceptionTable.toList, False) (hlocks : meth.locks = false) {y0 : Option RX} {f : Int32 → St → Option RX} {st As : List Value} {y : MethodName} {ws : List Cond} {rm : Room} {index n maxL : Nat} {bytes : ByteArray} {ret : Option FieldType} (hE : Ev A s) (hT : TR Ev) (hA : A = AA N a s.heap.size) (hmc : cells + rm.cells ≤ mc) (hms : slots + rm.slots ≤ ms) (hM : ∀ q, y0 = some q → Xi l y ws rm D tys N a C Ev As S q) (cw : CallB R s args own index y bytes maxL ret ws rm rm.cells rm.slots n ∧ (Cond.static y).before args s = true) (hn : As.length = n) (hst : st = As.reverse ++ rest) (hcat : (rest.map fun v => v.category).sum ≤ 8) (hdg : decode cc pc = .ok (.invokestatic index, 3)) (hf : cells + rm.cells ≤ R.cells ∧ slots + rm.slots ≤ R.slots) (kk : ∀ (r : Int32) (S2 : St), GF p l e R s m args below meth c D N a C A nL (cells + rm.cells) (slots + rm.slots) (fun res : RX => vx_MQ below (QXv D tys N a C A res) (XXc D tys N a C A res) args s mc ms A) (f r S2) (pc + 3) lv (.int r :: rest) S2) : GF p l e R s m args below meth c D N a C A nL cells slots (fun res : RX => vx_MQ below (QXv D tys N a C A res) (XXc D tys N a C A res) args s mc ms A) (cx y0 f) pc lv st S :=
  g_xcoreVi hc hout hlocks hA hmc hms (fun H locs ls q hP hD hS hl hy => ⟨_, vx_runS (g := F0 m pc ls st) hc.1 (hM q hy H.size) cw ⟨pw_blind hT, pw_at hT hE hA hc.2 hP hD hS⟩ rfl hn hl.1 hst (lv_room (ls := ls) (rest := st) hcat) hdg hf⟩) kk
theorem g_xcoreVv (hc : CT p s m args c cc nL own Ts D tys) (hout : ∀ z ∈ c.exceptionTable.toList, False) (hlocks : meth.locks = false) {rm : Room} {y0 : Option RX} {f : Int32 → St → Option RX} {st : List Value} (hA : A = AA N a s.heap.size) (hmc : cells + rm.cells ≤ mc) (hms : slots + rm.slots ≤ ms) (hrun : ∀ (H : Heap) (locs : List Loc) (ls : Array Slot) (q : RX), va_P D vwCl (wl N a (C S)) H → va_D A (wl N a (C S)) → va_S A s.heap H locs → lv_has ls nL lv → y0 = some q → ∃ av : Array Value, vx_Run p l e R s m args below meth c H locs cells slots rm.cells rm.slots (F0 m pc ls st) rest (QXv D tys N a C (AA N a H.size) q av) (XXc D tys N a C (AA N a H.size) q) (AA N a H.size)) (kk : ∀ (S2 : St), GF p l e R s m args below meth c D N a C A nL (cells + rm.cells) (slots + rm.slots) (fun res : RX => vx_MQ below (QXv D tys N a C A res) (XXc D tys N a C A res) args s mc ms A) (f 0 S2) (pc + 3) lv rest S2) : GF p l e R s m args below meth c D N a C A nL cells slots (fun res : RX => vx_MQ below (QXv D tys N a C A res) (XXc D tys N a C A res) args s mc ms A) (cx y0 f) pc lv st S := by
  intro res h H locs hP hD hS ls hl
  cases hy : y0 with
  | none => rw [hy] at h; cases h
  | some q =>
    rw [hy] at h
    obtain ⟨av, hr⟩ := hrun H locs ls q hP hD hS hl hy
    have hsub : ∀ z, AA N a H.size z → A z := fun z h => by rw [hA]; exact AA_sub hS.1 z h
    refine vx_callv hr hS (fun z _ h => hsub z h) hsub (fun z _ h => hsub z h) (fun E ce q9 u t H1 locs1 ht hvm _ hB hz hk hS1 hce hcv hcl => ?_) (fun u t H1 locs1 ht hvm hpost hB hz hk hS1 => ?_)
    · obtain ⟨hpost, hP1, hK1, hD1⟩ := hB
      subst hpost
      cases h
      rw [ht] at hP1
      exact vx_out (fun z hz => (hout z hz).elim) hlocks hce hcv hcl (fun t2 ht2 hvm2 => ⟨u, trivial, ⟨rfl, by rw [ht2]; exact hP1, va_K.moved hvm2 hc.2, hD1.weaken (fun _ _ _ h => hsub _ h)⟩, hS1.F ht2⟩) hS1.2.2 hmc hms
    · subst hpost
      obtain ⟨hP1, hK1, hD1⟩ := hB
      rw [ht] at hP1
      exact kk u res h H1 locs1 hP1 (hD1.weaken (fun _ _ _ h => hsub _ h)) hS1 ls hl
theorem g_xcallVVv (hc : CT p s m args c cc nL own Ts D tys) (hout : ∀ z ∈ c.exceptionTable.toList, False) (hlocks : meth.locks = false) {y0 : Option RX} {f : Int32 → St → Option RX} {st As : List Value} {y : MethodName} {ws : List Cond} {rm : Room} {index n maxL k ci : Nat} {bytes : ByteArray} {ret : Option FieldType} {q0 : vw_C} {fs : List Value} (hE : Ev A s) (hT : TR Ev) (hA : A = AA N a s.heap.size) (hmc : cells + rm.cells ≤ mc) (hms : slots + rm.slots ≤ ms) (hM : ∀ q, y0 = some q → Xv l y ws rm D tys N a C Ev (.ref (a k) :: As) S q) (cw : CallW R s args own q0.1 index y bytes maxL ret ws rm rm.cells rm.slots n) (hk : k < N) (he : C S k = .inr (ci, fs)) (hcl : vwCl[ci]? = some q0) (hn : As.length = n) (hst : st = As.reverse ++ .ref (a k) :: rest) (hcat : (rest.map fun v => v.category).sum ≤ 8) (hdg : decode cc pc = .ok (.invokevirtual index, 3)) (hf : cells + rm.cells ≤ R.cells ∧ slots + rm.slots ≤ R.slots) (kk : ∀ (S2 : St), GF p l e R s m args below meth c D N a C A nL (cells + rm.cells) (slots + rm.slots) (fun res : RX => vx_MQ below (QXv D tys N a C A res) (XXc D tys N a C A res) args s mc ms A) (f 0 S2) (pc + 3) lv rest S2) : GF p l e R s m args below meth c D N a C A nL cells slots (fun res : RX => vx_MQ below (QXv D tys N a C A res) (XXc D tys N a C A res) args s mc ms A) (cx y0 f) pc lv st S :=
  g_xcoreVv hc hout hlocks hA hmc hms (fun H locs ls q hP hD hS hl hy => ⟨_, vx_runV (g := F0 m pc ls st) hc.1 (hM q hy H.size) cw ⟨pw_blind hT, va_recv hc.2 hP hcl (by rw [wl_at hk, he]), pw_at hT hE hA hc.2 hP hD hS⟩ rfl hn hl.1 hst (lv_room (ls := ls) (rest := st) hcat) hdg hf⟩) kk
theorem g_xcallSVv (hc : CT p s m args c cc nL own Ts D tys) (hout : ∀ z ∈ c.exceptionTable.toList, False) (hlocks : meth.locks = false) {y0 : Option RX} {f : Int32 → St → Option RX} {st As : List Value} {y : MethodName} {ws : List Cond} {rm : Room} {index n maxL : Nat} {bytes : ByteArray} {ret : Option FieldType} (hE : Ev A s) (hT : TR Ev) (hA : A = AA N a s.heap.size) (hmc : cells + rm.cells ≤ mc) (hms : slots + rm.slots ≤ ms) (hM : ∀ q, y0 = some q → Xv l y ws rm D tys N a C Ev As S q) (cw : CallB R s args own index y bytes maxL ret ws rm rm.cells rm.slots n ∧ (Cond.static y).before args s = true) (hn : As.length = n) (hst : st = As.reverse ++ rest) (hcat : (rest.map fun v => v.category).sum ≤ 8) (hdg : decode cc pc = .ok (.invokestatic index, 3)) (hf : cells + rm.cells ≤ R.cells ∧ slots + rm.slots ≤ R.slots) (kk : ∀ (S2 : St), GF p l e R s m args below meth c D N a C A nL (cells + rm.cells) (slots + rm.slots) (fun res : RX => vx_MQ below (QXv D tys N a C A res) (XXc D tys N a C A res) args s mc ms A) (f 0 S2) (pc + 3) lv rest S2) : GF p l e R s m args below meth c D N a C A nL cells slots (fun res : RX => vx_MQ below (QXv D tys N a C A res) (XXc D tys N a C A res) args s mc ms A) (cx y0 f) pc lv st S :=
  g_xcoreVv hc hout hlocks hA hmc hms (fun H locs ls q hP hD hS hl hy => ⟨_, vx_runS (g := F0 m pc ls st) hc.1 (hM q hy H.size) cw ⟨pw_blind hT, pw_at hT hE hA hc.2 hP hD hS⟩ rfl hn hl.1 hst (lv_room (ls := ls) (rest := st) hcat) hdg hf⟩) kk
end GX
theorem m_Ki {l : Launch} {y : MethodName} {ws ws' : List Cond} {rm : Room} {D : va_G} {tys : List (ClassId × FieldType)} {N : Nat} {a : Nat → Nat} {C : St → Nat → va_E} {Ev : (Nat → Prop) → State → Prop} {av : List Value} {S : St} {cc : ByteArray} {nL : Nat} {ret : Option FieldType} {x : Option (Int32 × St)} {lv : List (Nat × Value)} (hy : plainName y.cls = true) (hw : ws = Cond.code y cc nL ret :: ws') (hlen : (lg_sl av).length ≤ nL) (hlv : lv_args 0 av = lv)
    (h : ∀ (p : Program) (e : Env) (s : State) (m : MethodId) (args : Array Value) (below : List Frame) (meth : Method) (c : Code), CT p s m args c cc nL y.cls ws D tys → meth.sig.returnType = ret → meth.locks = false → Ev (AA N a s.heap.size) s → GF p l e rm s m args below meth c D N a C (AA N a s.heap.size) nL 0 0 (fun res => MQ below (va_Qi (fun r u => (r, u) = res) (Bw D tys N a C (AA N a s.heap.size)) (AA N a s.heap.size)) args s 0 0 (AA N a s.heap.size)) x 0 lv [] S) : ∀ q, x = some q → Ki l y ws rm D tys N a C Ev av S q := by
  intro q hq sz
  refine Met.ofW (cc := cc) (maxL := nL) (ret := ret) hy hw ?_
  intro p e s m args below meth c s₁ B hml hv
  obtain ⟨rfl, hsz, hP, hK, hD0, hE⟩ := hv
  subst hsz
  have hl := lv_entry av (n := nL) hlen
  rw [lg_entry_eq]
  generalize (lg_sl av ++ List.replicate (nL - (lg_sl av).length) Slot.unset).toArray = ls at hl ⊢
  rw [hlv] at hl
  exact h p e s m av.toArray below meth c ⟨⟨B.exec, B.bytes, hml, findClass_of_methodNamed B.named, atoms_spec (ws := ws) B.pre⟩, hK⟩ B.returns B.notSynchronized hE q hq s.heap [] hP (AA_D hD0) va_S.rf ls hl
theorem m_Kv {l : Launch} {y : MethodName} {ws ws' : List Cond} {rm : Room} {D : va_G} {tys : List (ClassId × FieldType)} {N : Nat} {a : Nat → Nat} {C : St → Nat → va_E} {Ev : (Nat → Prop) → State → Prop} {av : List Value} {S : St} {cc : ByteArray} {nL : Nat} {ret : Option FieldType} {x : Option (Int32 × St)} {lv : List (Nat × Value)} (hy : plainName y.cls = true) (hw : ws = Cond.code y cc nL ret :: ws') (hlen : (lg_sl av).length ≤ nL) (hlv : lv_args 0 av = lv)
    (h : ∀ (p : Program) (e : Env) (s : State) (m : MethodId) (args : Array Value) (below : List Frame) (meth : Method) (c : Code), CT p s m args c cc nL y.cls ws D tys → meth.sig.returnType = ret → meth.locks = false → Ev (AA N a s.heap.size) s → GF p l e rm s m args below meth c D N a C (AA N a s.heap.size) nL 0 0 (fun res => MQ below (va_Qv (fun u => ((0 : Int32), u) = res) (Bw D tys N a C (AA N a s.heap.size)) (AA N a s.heap.size)) args s 0 0 (AA N a s.heap.size)) x 0 lv [] S) : ∀ q, x = some q → Kv l y ws rm D tys N a C Ev av S q := by
  intro q hq sz
  refine Met.ofW (cc := cc) (maxL := nL) (ret := ret) hy hw ?_
  intro p e s m args below meth c s₁ B hml hv
  obtain ⟨rfl, hsz, hP, hK, hD0, hE⟩ := hv
  subst hsz
  have hl := lv_entry av (n := nL) hlen
  rw [lg_entry_eq]
  generalize (lg_sl av ++ List.replicate (nL - (lg_sl av).length) Slot.unset).toArray = ls at hl ⊢
  rw [hlv] at hl
  exact h p e s m av.toArray below meth c ⟨⟨B.exec, B.bytes, hml, findClass_of_methodNamed B.named, atoms_spec (ws := ws) B.pre⟩, hK⟩ B.returns B.notSynchronized hE q hq s.heap [] hP (AA_D hD0) va_S.rf ls hl
theorem m_Xi {l : Launch} {y : MethodName} {ws ws' : List Cond} {rm : Room} {D : va_G} {tys : List (ClassId × FieldType)} {N : Nat} {a : Nat → Nat} {C : St → Nat → va_E} {Ev : (Nat → Prop) → State → Prop} {av : List Value} {S : St} {cc : ByteArray} {nL : Nat} {ret : Option FieldType} {x : Option RX} {lv : List (Nat × Value)} (hy : plainName y.cls = true) (hw : ws = Cond.code y cc nL ret :: ws') (hlen : (lg_sl av).length ≤ nL) (hlv : lv_args 0 av = lv)
    (h : ∀ (p : Program) (e : Env) (s : State) (m : MethodId) (args : Array Value) (below : List Frame) (meth : Method) (c : Code), CT p s m args c cc nL y.cls ws D tys → meth.sig.returnType = ret → meth.locks = false → (∀ z ∈ c.exceptionTable.toList, False) → Ev (AA N a s.heap.size) s → GF p l e rm s m args below meth c D N a C (AA N a s.heap.size) nL 0 0 (fun res : RX => vx_MQ below (QXi D tys N a C (AA N a s.heap.size) res) (XXc D tys N a C (AA N a s.heap.size) res) args s rm.cells rm.slots (AA N a s.heap.size)) x 0 lv [] S) : ∀ q, x = some q → Xi l y ws rm D tys N a C Ev av S q := by
  intro q hq sz
  refine vx_ofW (cc := cc) (maxL := nL) (ret := ret) hy hw ?_
  intro p e s m args below meth c s₁ B hml hout hv
  obtain ⟨rfl, hsz, hP, hK, hD0, hE⟩ := hv
  subst hsz
  have hl := lv_entry av (n := nL) hlen
  rw [lg_entry_eq]
  generalize (lg_sl av ++ List.replicate (nL - (lg_sl av).length) Slot.unset).toArray = ls at hl ⊢
  rw [hlv] at hl
  exact h p e s m av.toArray below meth c ⟨⟨B.exec, B.bytes, hml, findClass_of_methodNamed B.named, atoms_spec (ws := ws) B.pre⟩, hK⟩ B.returns B.notSynchronized hout hE q hq s.heap [] hP (AA_D hD0) va_S.rf ls hl
theorem m_Xv {l : Launch} {y : MethodName} {ws ws' : List Cond} {rm : Room} {D : va_G} {tys : List (ClassId × FieldType)} {N : Nat} {a : Nat → Nat} {C : St → Nat → va_E} {Ev : (Nat → Prop) → State → Prop} {av : List Value} {S : St} {cc : ByteArray} {nL : Nat} {ret : Option FieldType} {x : Option RX} {lv : List (Nat × Value)} (hy : plainName y.cls = true) (hw : ws = Cond.code y cc nL ret :: ws') (hlen : (lg_sl av).length ≤ nL) (hlv : lv_args 0 av = lv)
    (h : ∀ (p : Program) (e : Env) (s : State) (m : MethodId) (args : Array Value) (below : List Frame) (meth : Method) (c : Code), CT p s m args c cc nL y.cls ws D tys → meth.sig.returnType = ret → meth.locks = false → (∀ z ∈ c.exceptionTable.toList, False) → Ev (AA N a s.heap.size) s → GF p l e rm s m args below meth c D N a C (AA N a s.heap.size) nL 0 0 (fun res : RX => vx_MQ below (QXv D tys N a C (AA N a s.heap.size) res) (XXc D tys N a C (AA N a s.heap.size) res) args s rm.cells rm.slots (AA N a s.heap.size)) x 0 lv [] S) : ∀ q, x = some q → Xv l y ws rm D tys N a C Ev av S q := by
  intro q hq sz
  refine vx_ofW (cc := cc) (maxL := nL) (ret := ret) hy hw ?_
  intro p e s m args below meth c s₁ B hml hout hv
  obtain ⟨rfl, hsz, hP, hK, hD0, hE⟩ := hv
  subst hsz
  have hl := lv_entry av (n := nL) hlen
  rw [lg_entry_eq]
  generalize (lg_sl av ++ List.replicate (nL - (lg_sl av).length) Slot.unset).toArray = ls at hl ⊢
  rw [hlv] at hl
  exact h p e s m av.toArray below meth c ⟨⟨B.exec, B.bytes, hml, findClass_of_methodNamed B.named, atoms_spec (ws := ws) B.pre⟩, hK⟩ B.returns B.notSynchronized hout hE q hq s.heap [] hP (AA_D hD0) va_S.rf ls hl
