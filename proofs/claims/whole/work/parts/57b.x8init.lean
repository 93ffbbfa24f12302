theorem va_AOA.moved {t : FieldType} {u U : State} (hvm : u.vm.Alike U.vm) (h : va_AOA t u) : va_AOA t U := by
  obtain ⟨comp, c, k, h1, h2, h3, h4, h5⟩ := arrayOverA_spec h
  obtain ⟨k', hk', he⟩ := hvm.2.2 _ _ h3
  have hi : (U.vm.classes.findIdx? fun (x : Class) => match x.kind with | .array component _ => component == comp | _ => false) = some c := by
    have hb : (U.vm.bare.classes.findIdx? fun (x : Class) => match x.kind with | .array component _ => component == comp | _ => false) = (u.vm.bare.classes.findIdx? fun (x : Class) => match x.kind with | .array component _ => component == comp | _ => false) := by
      first | rw [hvm.bare_eq] | rw [← hvm.bare_eq]
    exact ((va_idx_bare U.vm comp).symm.trans (hb.trans (va_idx_bare u.vm comp))).trans h2
  have hkind : k'.kind = .array comp (.array t) := by rw [he]; exact h4
  have f1 : U.vm.findClass (FieldType.array t).toString = some comp := by rw [hvm.findClass]; exact h1
  have f2 : U.vm.findClass ("[" ++ (FieldType.array t).toString) = some c := by rw [hvm.findClass]; exact h5
  unfold va_AOA Cond.before Cond.holds
  simp only [Cond.value]
  rw [f1, Option.bind_some]
  refine (congrArg (fun o : Option Nat => (o.bind (fun c => (U.vm.classes[c]?).map fun (k : Class) => match k.kind with | .array _ ty => decide (ty = FieldType.array t) && decide (U.vm.findClass ("[" ++ (FieldType.array t).toString) = some c) | _ => false) == some true)) hi).trans ?_
  simp [hk', hkind, f2]
section GKC
variable {p : Program} {l : Launch} {e : Env} {R : Room} {s : State} {m : MethodId} {args : Array Value} {below : List Frame} {meth : Method} {c : Code} {D : va_G} {cI cZ cO : ClassId} {A : Nat → Prop} {cc : ByteArray} {nL : Nat} {own : String} {Ts : List Cond} {cells slots : Nat} {Q : State → Prop} {pc : Nat} {lv : List (Nat × Value)} {rest : List Value} {W0 : va_W} {tysX : List (ClassId × FieldType)}
/-- a part's constructor behind its 'new': its cells come behind the others -/
theorem gc_core {y : MethodName} {ws : List Cond} {rm : Room} {ci n q : Nat} {fs0 : List Value} {C : (Nat → Nat) → St → Nat → va_E} {P : St → Prop} {st : List Value} (hK : va_K D vwCl (tyW cI cZ cO) s) (hov : va_AOA .int s) (hA : ∀ z, s.heap.size ≤ z → A z)
    (hrun : ∀ (H : Heap) (locs : List Loc) (ls : Array Slot), lv_has ls nL lv → FrameBlind (va_Pc [.ref q] (fun U => U.heap.size = H.size ∧ va_P D vwCl [(q, .inr (ci, fs0))] U.heap ∧ va_K D vwCl (tyW cI cZ cO) U ∧ va_D (fun _ => True) [(q, .inr (ci, fs0))] ∧ va_AOA .int U)) → (∀ U : State, U.heap = H → s.WarmedH U.vm → va_Pc [.ref q] (fun U => U.heap.size = H.size ∧ va_P D vwCl [(q, .inr (ci, fs0))] U.heap ∧ va_K D vwCl (tyW cI cZ cO) U ∧ va_D (fun _ => True) [(q, .inr (ci, fs0))] ∧ va_AOA .int U) [Value.ref q].toArray U) → ∃ av : Array Value, va_Run p l e R s m args below meth c H locs cells slots rm.cells rm.slots (F0 m pc ls st) rest (va_Qv (fun u : (Nat → Nat) × St => u.1 0 = q ∧ P u.2) (fun u t => va_P D vwCl (wl n u.1 (C u.1 u.2)) t.heap ∧ va_K D vwCl (tyW cI cZ cO) t ∧ va_D (A1 q H.size) (wl n u.1 (C u.1 u.2))) (A1 q H.size) av) (A1 q H.size))
    (kk : ∀ (u : Nat → Nat) (S1 : St), u 0 = q → P S1 → GC p l e R s m args below meth c D A nL (cells + rm.cells) (slots + rm.slots) Q (pc + 3) lv rest (W0 ++ wl n u (C u S1))) : GC p l e R s m args below meth c D A nL cells slots Q pc lv st (W0 ++ [(q, .inr (ci, fs0))]) := by
  intro H locs hP hD hS ls hl
  have hlast : (W0 ++ [(q, (.inr (ci, fs0) : va_E))])[W0.length]? = some (q, .inr (ci, fs0)) := by
    rw [List.getElem?_append_right (Nat.le_refl _), Nat.sub_self]; rfl
  have hP1 : va_P D vwCl [(q, .inr (ci, fs0))] H := fun k x hx => by
    have hk : k < 1 := (List.getElem?_eq_some_iff.mp hx).1
    have : k = 0 := by omega
    subst this
    cases hx
    exact hP _ _ hlast
  have hD1 : va_D (fun _ => True) [(q, (.inr (ci, fs0) : va_E))] := ⟨fun i j x y hx hy _ => by
    have h1 : i < 1 := (List.getElem?_eq_some_iff.mp hx).1
    have h2 : j < 1 := (List.getElem?_eq_some_iff.mp hy).1
    omega, fun _ _ _ => trivial⟩
  have hAq : A q := hD.2 _ _ hlast
  have hsub : ∀ z, A1 q H.size z → A z := fun z hz => hz.elim (fun e9 => by rw [e9]; exact hAq) (fun h9 => hA z (Nat.le_trans hS.1 h9))
  obtain ⟨av, hr⟩ := hrun H locs ls hl (fun v U g mk z => by
    obtain ⟨z0, z1, zP, zK, zD, zE⟩ := z
    exact ⟨z0, z1, zP, va_K.moved (u := U) (U := U.calling g mk v) (Vm.Alike.refl U.vm) zK, zD, zE.moved (u := U) (U := U.calling g mk v) (Vm.Alike.refl U.vm)⟩) (fun U hU hW => by
    subst hU
    exact ⟨rfl, rfl, hP1, va_K.moved hW.alike hK, hD1, hov.moved hW.alike⟩)
  refine va_callv hr hS (fun z _ h => hsub z h) hsub (fun u t H1 locs1 ht hvm hpost hB hz hk hS1 => ?_)
  obtain ⟨hP2, hK2, hD2⟩ := hB
  rw [ht] at hP2
  have hW0 : ∀ (i : Nat) (x : Nat × va_E), W0[i]? = some x → x.1 < H.size ∧ ¬ A1 q H.size x.1 := fun i x hx => by
    have hi : i < W0.length := (List.getElem?_eq_some_iff.mp hx).1
    have hx2 : (W0 ++ [(q, (.inr (ci, fs0) : va_E))])[i]? = some x := by rw [List.getElem?_append_left hi]; exact hx
    have hlt := (hP i x hx2).lt
    refine ⟨hlt, fun h => ?_⟩
    rcases h with h | h
    · have := hD.1 i W0.length x _ hx2 hlast h
      omega
    · exact absurd hlt (by omega)
  refine kk u.1 u.2 hpost.1 hpost.2 H1 locs1 ?_ ?_ hS1 ls hl
  · refine va_P.app (fun i x hx => ?_) hP2
    have hi : i < W0.length := (List.getElem?_eq_some_iff.mp hx).1
    have hx2 : (W0 ++ [(q, (.inr (ci, fs0) : va_E))])[i]? = some x := by rw [List.getElem?_append_left hi]; exact hx
    exact (hP i x hx2).kept (hk _ (hW0 i x hx).1 (hW0 i x hx).2)
  · refine va_D.app ⟨fun i j x y hx hy e9 => ?_, fun i x hx => ?_⟩ (hD2.weaken (fun _ _ _ h => hsub _ h)) (fun i j x y hx hy e9 => ?_)
    · have hi : i < W0.length := (List.getElem?_eq_some_iff.mp hx).1
      have hj : j < W0.length := (List.getElem?_eq_some_iff.mp hy).1
      exact hD.1 i j x y (by rw [List.getElem?_append_left hi]; exact hx) (by rw [List.getElem?_append_left hj]; exact hy) e9
    · have hi : i < W0.length := (List.getElem?_eq_some_iff.mp hx).1
      exact hD.2 i x (by rw [List.getElem?_append_left hi]; exact hx)
    · exact (hW0 i x hx).2 (by rw [e9]; exact hD2.2 j y hy)
theorem gc_ctorI (hc : CT p s m args c cc nL own Ts D tysX) {y : MethodName} {ws : List Cond} {rm : Room} {ci n q index maxL : Nat} {bytes : ByteArray} {fs0 : List Value} {C : (Nat → Nat) → St → Nat → va_E} {P : St → Prop} (hKw : va_K D vwCl (tyW cI cZ cO) s) (hov : va_AOA .int s) (hA : ∀ z, s.heap.size ≤ z → A z) (hM : Kc l y ws rm D cI cZ cO ci fs0 n C P q) (cw : CallB R s args own index y bytes maxL none ws rm rm.cells rm.slots 0 ∧ y.name = "<init>" ∧ (Cond.instanceMethod y).before args s = true) (hcat : (rest.map fun v => v.category).sum ≤ 8) (hdg : decode cc pc = .ok (.invokespecial index, 3)) (hf : cells + rm.cells ≤ R.cells ∧ slots + rm.slots ≤ R.slots)
    (kk : ∀ (u : Nat → Nat) (S1 : St), u 0 = q → P S1 → GC p l e R s m args below meth c D A nL (cells + rm.cells) (slots + rm.slots) Q (pc + 3) lv rest (W0 ++ wl n u (C u S1))) : GC p l e R s m args below meth c D A nL cells slots Q pc lv (.ref q :: rest) (W0 ++ [(q, .inr (ci, fs0))]) :=
  gc_core (y := y) (ws := ws) hKw hov hA (fun H locs ls hl hbl hp => ⟨_, va_runI (As := []) (g := F0 m pc ls (.ref q :: rest)) hc.1 (hM H.size) cw ⟨hbl, hp⟩ rfl rfl hl.1 rfl (lv_room (ls := ls) (rest := .ref q :: rest) hcat) hdg hf⟩) kk
theorem gc_ctorN (hc : CT p s m args c cc nL own Ts D tysX) {y : MethodName} {ws : List Cond} {rm : Room} {ci n q index maxL : Nat} {bytes : ByteArray} {host : String} {fs0 : List Value} {C : (Nat → Nat) → St → Nat → va_E} {P : St → Prop} (hKw : va_K D vwCl (tyW cI cZ cO) s) (hov : va_AOA .int s) (hA : ∀ z, s.heap.size ≤ z → A z) (hM : Kc l y ws rm D cI cZ cO ci fs0 n C P q) (cw : va_CN R s args own index y host bytes maxL none ws rm rm.cells rm.slots 0 ∧ y.name = "<init>" ∧ (Cond.instanceMethod y).before args s = true) (hcat : (rest.map fun v => v.category).sum ≤ 8) (hdg : decode cc pc = .ok (.invokespecial index, 3)) (hf : cells + rm.cells ≤ R.cells ∧ slots + rm.slots ≤ R.slots)
    (kk : ∀ (u : Nat → Nat) (S1 : St), u 0 = q → P S1 → GC p l e R s m args below meth c D A nL (cells + rm.cells) (slots + rm.slots) Q (pc + 3) lv rest (W0 ++ wl n u (C u S1))) : GC p l e R s m args below meth c D A nL cells slots Q pc lv (.ref q :: rest) (W0 ++ [(q, .inr (ci, fs0))]) :=
  gc_core (y := y) (ws := ws) hKw hov hA (fun H locs ls hl hbl hp => ⟨_, va_runIN (As := []) (g := F0 m pc ls (.ref q :: rest)) hc.1 (hM H.size) cw ⟨hbl, hp⟩ rfl rfl hl.1 rfl (lv_room (ls := ls) (rest := .ref q :: rest) hcat) hdg hf⟩) kk
end GKC
/-- what TiedFrame() asks of its launch beside the class's environment -/
def EvN (U : State) : Prop := va_AOA .int U ∧ va_Nw (.methodLinkNest RX8 18 yX7_init RX8) U ∧ va_Nw (.methodLinkNest RX8 25 yX0_init RX8) U ∧ va_Nw (.methodLinkNest RX8 32 yX3_init RX8) U ∧ va_Nw (.methodLinkNest RX8 46 yX4_init RX8) U ∧ va_Nw (.methodLinkNest RX8 53 yX6_init RX8) U ∧ va_Nw (.methodLinkNest RX8 60 yX1_init RX8) U ∧ va_Nw (.methodLinkNest RX8 39 yX5_init RX8) U
/-- the state behind the parts' constructors -/
def sX0 (SM : St) : St := fun k => if k = 9 then SM 1 else fun _ => 0

def posX : Nat → Nat := fun k => ([0, 1, 3, 6, 20, 38, 55, 65, 68, 2, 4, 5, 7, 8, 9, 10, 11, 21, 39, 40, 49, 50, 51, 52, 53, 54, 66, 67, 69, 70, 71, 12, 13, 14, 15, 16, 17, 18, 19, 22, 23, 24, 25, 26, 27, 28, 29, 30, 31, 32, 33, 34, 35, 36, 37, 41, 42, 43, 44, 45, 46, 47, 48, 56, 57, 58, 59, 60, 61, 62, 63, 64] : List Nat).getD k 0
theorem posX_inj : ∀ i j, i < 72 → j < 72 → posX i = posX j → i = j := by
  have h : ∀ i : Fin 72, ∀ j : Fin 72, posX i.val = posX j.val → i.val = j.val := by decide +kernel
  exact fun i j hi hj => h ⟨i, hi⟩ ⟨j, hj⟩
theorem inX8_init_X0 : ∀ w ∈ u_ws RX0 TX0 7, w ∈ wsX8_init := by decide +kernel
theorem inX8_init_X1 : ∀ w ∈ u_ws RX1 TX1 4, w ∈ wsX8_init := by decide +kernel
theorem inX8_init_X2 : ∀ w ∈ u_ws RX2 TX2 1, w ∈ wsX8_init := by decide +kernel
theorem inX8_init_X3 : ∀ w ∈ u_ws RX3 TX3 1, w ∈ wsX8_init := by decide +kernel
theorem inX8_init_X4 : ∀ w ∈ u_ws RX4 TX4 4, w ∈ wsX8_init := by decide +kernel
theorem inX8_init_X5 : ∀ w ∈ u_ws RX5 TX5 10, w ∈ wsX8_init := by decide +kernel
theorem inX8_init_X6 : ∀ w ∈ u_ws RX6 TX6 2, w ∈ wsX8_init := by decide +kernel
theorem inX8_init_X7 : ∀ w ∈ u_ws RX7 TX7 2, w ∈ wsX8_init := by decide +kernel
def Kc8 (l : Launch) (D : va_G) (cI cZ cO : ClassId) (tF : Nat) (S1 : St) (h0 : Nat) : Prop := ∀ sz, Met l yX8_init wsX8_init rX8_init (va_Pc [.ref h0] (fun U => U.heap.size = sz ∧ va_P D vwCl [(h0, .inr (8, [.null, .null, .null, .null, .null, .null, .null, .null, .int 0]))] U.heap ∧ va_K D vwCl (tyW cI cZ cO) U ∧ va_D (fun _ => True) [(h0, .inr (8, [.null, .null, .null, .null, .null, .null, .null, .null, .int 0]))] ∧ EvN U ∧ EvX tF (A1 h0 sz) U)) (va_Qv (fun u : (Nat → Nat) × St => u.1 0 = h0 ∧ u.2 = S1) (fun u t => va_P D vwCl (wl 72 u.1 (cX cI cZ cO u.1 u.2)) t.heap ∧ va_K D vwCl (tyW cI cZ cO) t ∧ va_D (A1 h0 sz) (wl 72 u.1 (cX cI cZ cO u.1 u.2))) (A1 h0 sz)) rX8_init.cells rX8_init.slots (A1 h0 sz)
set_option maxHeartbeats 4000000 in
set_option maxRecDepth 100000 in
theorem kX8_init {l : Launch} {D : va_G} {cI cZ cO : ClassId} {tF : Nat} (SM SF : St) (hM : uX2_init z0 = some (0, SM)) (hx : uX8_init (sX0 SM) = some (0, SF)) (h0 : Nat) : Kc8 l D cI cZ cO tF SF h0 := by
  intro sz
  refine Met.ofW (cc := cX8_init) (maxL := 1) (ret := none) (by decide) rfl ?_
  intro p e s m args below meth c s₁ B hml hv
  obtain ⟨rfl, hsz, hP, hK, hD0, hn, hE⟩ := hv
  subst hsz
  have hl := lv_entry [.ref h0] (n := 1) (Nat.le_of_ble_eq_true rfl)
  rw [lg_entry_eq]
  generalize (lg_sl [Value.ref h0] ++ List.replicate (1 - (lg_sl [Value.ref h0]).length) Slot.unset).toArray = ls at hl ⊢
  have hl : lv_has ls 1 [(0, .ref h0)] := hl
  have hD : va_D (A1 h0 s.heap.size) [(h0, .inr (8, [.null, .null, .null, .null, .null, .null, .null, .null, .int 0]))] := ⟨hD0.1, fun k q hq => by
    have hk : k < 1 := (List.getElem?_eq_some_iff.mp hq).1
    have : k = 0 := by omega
    subst this
    cases hq
    exact Or.inl rfl⟩
  have hc : CT p s m [Value.ref h0].toArray c cX8_init 1 RX8 wsX8_init D (tyW cI cZ cO) := ⟨⟨B.exec, B.bytes, hml, findClass_of_methodNamed B.named, atoms_spec (ws := wsX8_init) B.pre⟩, hK⟩
  have hr : meth.sig.returnType = none := B.returns
  have hlk : meth.locks = false := B.notSynchronized
  have hnm : meth.name = "<init>" := (name_of_methodNamed B.named B.method).1
  have hA : ∀ q, s.heap.size ≤ q → A1 h0 s.heap.size q := fun q h => Or.inr h
  have G : GC p l e rX8_init s m [Value.ref h0].toArray below meth c D (A1 h0 s.heap.size) 1 0 0 (MQ below (va_Qv (fun u : (Nat → Nat) × St => u.1 0 = h0 ∧ u.2 = SF) (fun u t => va_P D vwCl (wl 72 u.1 (cX cI cZ cO u.1 u.2)) t.heap ∧ va_K D vwCl (tyW cI cZ cO) t ∧ va_D (A1 h0 s.heap.size) (wl 72 u.1 (cX cI cZ cO u.1 u.2))) (A1 h0 s.heap.size)) [Value.ref h0].toArray s rX8_init.cells rX8_init.slots (A1 h0 s.heap.size)) 0 [(0, .ref h0)] [] [(h0, .inr (8, [.null, .null, .null, .null, .null, .null, .null, .null, .int 0]))] := by
    refine gc_aload_n (j := 0) hc dX8_init_0 rfl rfl ?_
    refine gc_obj hc (List.mem_of_getElem? (i := 1) rfl) (List.mem_of_getElem? (i := 2) rfl) (List.mem_of_getElem? (i := 3) rfl) (by decide) (by decide) dX8_init_1 ?_
    refine gc_aload_n (j := 0) hc dX8_init_4 rfl rfl ?_
    refine gc_new (C0 := RX2) (T := TX2) (M := 1) (ci := 2) (fs := [.null]) hc hA tyX2 tyX2_ok inX8_init_X2 (List.mem_of_getElem? (i := 4) rfl) (List.mem_of_getElem? (i := 5) rfl) (List.mem_of_getElem? (i := 6) rfl) rfl (fun j hj => by rcases (show j = 0 by omega) with rfl <;> rfl) (by decide) (by decide) dX8_init_5 (fun q0 => ?_)
    refine gc_wid (k := 1) (n := 1) (by decide) (by decide) ?_
    refine gc_dup hc dX8_init_8 rfl ?_
    refine gc_ctorI (rest := [.ref q0, .ref h0]) (W0 := (h0, .inr (8, [.null, .null, .null, .null, .null, .null, .null, .null, .int 0])) :: ([])) hc hc.2 hn.1 hA (kX2_init SM hM q0) (cwI 0 hc.1.2.2.2.2 gX8_init_X2_init rfl rfl rfl (hc.1.2.2.2.2 _ (List.mem_of_getElem? (i := 6) rfl)) (hc.1.2.2.2.2 _ (List.mem_of_getElem? (i := 37) rfl)) (hc.1.2.2.2.2 _ (List.mem_of_getElem? (i := 38) rfl)) rfl (by decide +kernel) ⟨by decide, by decide⟩) (Nat.le_of_ble_eq_true rfl) dX8_init_9 ⟨by decide, by decide⟩ (fun uM S0 e0 hS0 => ?_)
    refine gc_wid (k := 2) (n := 65) (by decide) (by decide) ?_
    obtain rfl : S0 = SM := hS0
    rw [← e0]
    refine gc_eq (ws' := (h0, .inr (8, [.null, .null, .null, .null, .null, .null, .null, .null, .int 0])) :: (wl 2 uM (cK2 cI uM S0))) (by simp only [List.append_assoc, List.cons_append, List.nil_append, List.append_nil]) ?_
    refine gc_putF (ws' := (h0, .inr (8, [.ref (uM 0), .null, .null, .null, .null, .null, .null, .null, .int 0])) :: (wl 2 uM (cK2 cI uM S0))) (C0 := RX8) (T := TX8) (M := 9) (k := 0) (ci := 8) (ty := .object "TiedFrame$Mixing") hc hnm tyX8 tyX8_ok nmX8 inX8_init_X8 rfl rfl 0 (by decide) (List.mem_of_getElem? (i := 7) rfl) rfl rfl rfl (by decide +kernel) rfl rfl (Nat.le_of_ble_eq_true rfl) rfl dX8_init_12 ?_
    refine gc_aload_n (j := 0) hc dX8_init_15 rfl rfl ?_
    refine gc_new (C0 := RX7) (T := TX7) (M := 2) (ci := 7) (fs := [.null, .null]) hc hA tyX7 tyX7_ok inX8_init_X7 (List.mem_of_getElem? (i := 8) rfl) (List.mem_of_getElem? (i := 9) rfl) (List.mem_of_getElem? (i := 10) rfl) rfl (fun j hj => by rcases (show j = 0 ∨ j = 1 by omega) with rfl | rfl <;> rfl) (by decide) (by decide) dX8_init_16 (fun q1 => ?_)
    refine gc_wid (k := 3) (n := 67) (by decide) (by decide) ?_
    refine gc_dup hc dX8_init_19 rfl ?_
    refine gc_ctorN (rest := [.ref q1, .ref h0]) (W0 := (h0, .inr (8, [.ref (uM 0), .null, .null, .null, .null, .null, .null, .null, .int 0])) :: (wl 2 uM (cK2 cI uM S0))) hc hc.2 hn.1 hA (kX7_init q1) ⟨va_cnB 0 hc.1.2.2.2.2 gX8_init_X7_init_n18 rfl rfl rfl hn.2.1 (hc.1.2.2.2.2 _ (List.mem_of_getElem? (i := 10) rfl)) (by decide +kernel) ⟨by decide, by decide⟩, rfl, hc.1.2.2.2.2 _ (List.mem_of_getElem? (i := 43) rfl)⟩ (Nat.le_of_ble_eq_true rfl) dX8_init_20 ⟨by decide, by decide⟩ (fun uV S1 e1 hS1 => ?_)
    refine gc_wid (k := 5) (n := 75) (by decide) (by decide) ?_
    rw [← e1]
    refine gc_eq (ws' := (h0, .inr (8, [.ref (uM 0), .null, .null, .null, .null, .null, .null, .null, .int 0])) :: (wl 2 uM (cK2 cI uM S0) ++ (wl 3 uV (cK7 cI uV S1)))) (by simp only [List.append_assoc, List.cons_append, List.nil_append, List.append_nil]) ?_
    refine gc_putF (ws' := (h0, .inr (8, [.ref (uM 0), .ref (uV 0), .null, .null, .null, .null, .null, .null, .int 0])) :: (wl 2 uM (cK2 cI uM S0) ++ (wl 3 uV (cK7 cI uV S1)))) (C0 := RX8) (T := TX8) (M := 9) (k := 0) (ci := 8) (ty := .object "TiedFrame$Vats") hc hnm tyX8 tyX8_ok nmX8 inX8_init_X8 rfl rfl 1 (by decide) (List.mem_of_getElem? (i := 11) rfl) rfl rfl rfl (by decide +kernel) rfl rfl (Nat.le_of_ble_eq_true rfl) rfl dX8_init_23 ?_
    refine gc_aload_n (j := 0) hc dX8_init_26 rfl rfl ?_
    refine gc_new (C0 := RX0) (T := TX0) (M := 7) (ci := 0) (fs := [.int 0, .int 0, .null, .null, .null, .null, .null]) hc hA tyX0 tyX0_ok inX8_init_X0 (List.mem_of_getElem? (i := 12) rfl) (List.mem_of_getElem? (i := 13) rfl) (List.mem_of_getElem? (i := 14) rfl) rfl (fun j hj => by rcases (show j = 0 ∨ j = 1 ∨ j = 2 ∨ j = 3 ∨ j = 4 ∨ j = 5 ∨ j = 6 by omega) with rfl | rfl | rfl | rfl | rfl | rfl | rfl <;> rfl) (by decide) (by decide) dX8_init_27 (fun q2 => ?_)
    refine gc_wid (k := 6) (n := 82) (by decide) (by decide) ?_
    refine gc_dup hc dX8_init_30 rfl ?_
    refine gc_ctorN (rest := [.ref q2, .ref h0]) (W0 := (h0, .inr (8, [.ref (uM 0), .ref (uV 0), .null, .null, .null, .null, .null, .null, .int 0])) :: (wl 2 uM (cK2 cI uM S0) ++ (wl 3 uV (cK7 cI uV S1)))) hc hc.2 hn.1 hA (kX0_init q2) ⟨va_cnB 0 hc.1.2.2.2.2 gX8_init_X0_init_n25 rfl rfl rfl hn.2.2.1 (hc.1.2.2.2.2 _ (List.mem_of_getElem? (i := 14) rfl)) (by decide +kernel) ⟨by decide, by decide⟩, rfl, hc.1.2.2.2.2 _ (List.mem_of_getElem? (i := 48) rfl)⟩ (Nat.le_of_ble_eq_true rfl) dX8_init_31 ⟨by decide, by decide⟩ (fun uC S2 e2 hS2 => ?_)
    refine gc_wid (k := 19) (n := 322) (by decide) (by decide) ?_
    rw [← e2]
    refine gc_eq (ws' := (h0, .inr (8, [.ref (uM 0), .ref (uV 0), .null, .null, .null, .null, .null, .null, .int 0])) :: (wl 2 uM (cK2 cI uM S0) ++ (wl 3 uV (cK7 cI uV S1) ++ (wl 14 uC (cK0 cI cZ cO uC S2))))) (by simp only [List.append_assoc, List.cons_append, List.nil_append, List.append_nil]) ?_
    refine gc_putF (ws' := (h0, .inr (8, [.ref (uM 0), .ref (uV 0), .ref (uC 0), .null, .null, .null, .null, .null, .int 0])) :: (wl 2 uM (cK2 cI uM S0) ++ (wl 3 uV (cK7 cI uV S1) ++ (wl 14 uC (cK0 cI cZ cO uC S2))))) (C0 := RX8) (T := TX8) (M := 9) (k := 0) (ci := 8) (ty := .object "TiedFrame$Cloth") hc hnm tyX8 tyX8_ok nmX8 inX8_init_X8 rfl rfl 2 (by decide) (List.mem_of_getElem? (i := 15) rfl) rfl rfl rfl (by decide +kernel) rfl rfl (Nat.le_of_ble_eq_true rfl) rfl dX8_init_34 ?_
    refine gc_aload_n (j := 0) hc dX8_init_37 rfl rfl ?_
    refine gc_new (C0 := RX3) (T := TX3) (M := 1) (ci := 3) (fs := [.null]) hc hA tyX3 tyX3_ok inX8_init_X3 (List.mem_of_getElem? (i := 16) rfl) (List.mem_of_getElem? (i := 17) rfl) (List.mem_of_getElem? (i := 18) rfl) rfl (fun j hj => by rcases (show j = 0 by omega) with rfl <;> rfl) (by decide) (by decide) dX8_init_38 (fun q3 => ?_)
    refine gc_wid (k := 20) (n := 323) (by decide) (by decide) ?_
    refine gc_dup hc dX8_init_41 rfl ?_
    refine gc_ctorN (rest := [.ref q3, .ref h0]) (W0 := (h0, .inr (8, [.ref (uM 0), .ref (uV 0), .ref (uC 0), .null, .null, .null, .null, .null, .int 0])) :: (wl 2 uM (cK2 cI uM S0) ++ (wl 3 uV (cK7 cI uV S1) ++ (wl 14 uC (cK0 cI cZ cO uC S2))))) hc hc.2 hn.1 hA (kX3_init q3) ⟨va_cnB 0 hc.1.2.2.2.2 gX8_init_X3_init_n32 rfl rfl rfl hn.2.2.2.1 (hc.1.2.2.2.2 _ (List.mem_of_getElem? (i := 18) rfl)) (by decide +kernel) ⟨by decide, by decide⟩, rfl, hc.1.2.2.2.2 _ (List.mem_of_getElem? (i := 58) rfl)⟩ (Nat.le_of_ble_eq_true rfl) dX8_init_42 ⟨by decide, by decide⟩ (fun uP S3 e3 hS3 => ?_)
    refine gc_wid (k := 37) (n := 723) (by decide) (by decide) ?_
    rw [← e3]
    refine gc_eq (ws' := (h0, .inr (8, [.ref (uM 0), .ref (uV 0), .ref (uC 0), .null, .null, .null, .null, .null, .int 0])) :: (wl 2 uM (cK2 cI uM S0) ++ (wl 3 uV (cK7 cI uV S1) ++ (wl 14 uC (cK0 cI cZ cO uC S2) ++ (wl 18 uP (cK3 cI cO uP S3)))))) (by simp only [List.append_assoc, List.cons_append, List.nil_append, List.append_nil]) ?_
    refine gc_putF (ws' := (h0, .inr (8, [.ref (uM 0), .ref (uV 0), .ref (uC 0), .ref (uP 0), .null, .null, .null, .null, .int 0])) :: (wl 2 uM (cK2 cI uM S0) ++ (wl 3 uV (cK7 cI uV S1) ++ (wl 14 uC (cK0 cI cZ cO uC S2) ++ (wl 18 uP (cK3 cI cO uP S3)))))) (C0 := RX8) (T := TX8) (M := 9) (k := 0) (ci := 8) (ty := .object "TiedFrame$Picture") hc hnm tyX8 tyX8_ok nmX8 inX8_init_X8 rfl rfl 3 (by decide) (List.mem_of_getElem? (i := 19) rfl) rfl rfl rfl (by decide +kernel) rfl rfl (Nat.le_of_ble_eq_true rfl) rfl dX8_init_45 ?_
    refine gc_aload_n (j := 0) hc dX8_init_48 rfl rfl ?_
    refine gc_new (C0 := RX5) (T := TX5) (M := 10) (ci := 5) (fs := [.null, .null, .int 0, .int 0, .null, .null, .null, .null, .null, .null]) hc hA tyX5 tyX5_ok inX8_init_X5 (List.mem_of_getElem? (i := 20) rfl) (List.mem_of_getElem? (i := 21) rfl) (List.mem_of_getElem? (i := 22) rfl) rfl (fun j hj => by rcases (show j = 0 ∨ j = 1 ∨ j = 2 ∨ j = 3 ∨ j = 4 ∨ j = 5 ∨ j = 6 ∨ j = 7 ∨ j = 8 ∨ j = 9 by omega) with rfl | rfl | rfl | rfl | rfl | rfl | rfl | rfl | rfl | rfl <;> rfl) (by decide) (by decide) dX8_init_49 (fun q4 => ?_)
    refine gc_wid (k := 38) (n := 733) (by decide) (by decide) ?_
    refine gc_dup hc dX8_init_52 rfl ?_
    refine gc_ctorN (rest := [.ref q4, .ref h0]) (W0 := (h0, .inr (8, [.ref (uM 0), .ref (uV 0), .ref (uC 0), .ref (uP 0), .null, .null, .null, .null, .int 0])) :: (wl 2 uM (cK2 cI uM S0) ++ (wl 3 uV (cK7 cI uV S1) ++ (wl 14 uC (cK0 cI cZ cO uC S2) ++ (wl 18 uP (cK3 cI cO uP S3)))))) hc hc.2 hn.1 hA (kX5_init q4) ⟨va_cnB 0 hc.1.2.2.2.2 gX8_init_X5_init_n39 rfl rfl rfl hn.2.2.2.2.2.2.2 (hc.1.2.2.2.2 _ (List.mem_of_getElem? (i := 22) rfl)) (by decide +kernel) ⟨by decide, by decide⟩, rfl, hc.1.2.2.2.2 _ (List.mem_of_getElem? (i := 63) rfl)⟩ (Nat.le_of_ble_eq_true rfl) dX8_init_53 ⟨by decide, by decide⟩ (fun uN S4 e4 hS4 => ?_)
    refine gc_wid (k := 54) (n := 1064) (by decide) (by decide) ?_
    rw [← e4]
    refine gc_eq (ws' := (h0, .inr (8, [.ref (uM 0), .ref (uV 0), .ref (uC 0), .ref (uP 0), .null, .null, .null, .null, .int 0])) :: (wl 2 uM (cK2 cI uM S0) ++ (wl 3 uV (cK7 cI uV S1) ++ (wl 14 uC (cK0 cI cZ cO uC S2) ++ (wl 18 uP (cK3 cI cO uP S3) ++ (wl 17 uN (cK5 cI cO uN S4))))))) (by simp only [List.append_assoc, List.cons_append, List.nil_append, List.append_nil]) ?_
    refine gc_putF (ws' := (h0, .inr (8, [.ref (uM 0), .ref (uV 0), .ref (uC 0), .ref (uP 0), .ref (uN 0), .null, .null, .null, .int 0])) :: (wl 2 uM (cK2 cI uM S0) ++ (wl 3 uV (cK7 cI uV S1) ++ (wl 14 uC (cK0 cI cZ cO uC S2) ++ (wl 18 uP (cK3 cI cO uP S3) ++ (wl 17 uN (cK5 cI cO uN S4))))))) (C0 := RX8) (T := TX8) (M := 9) (k := 0) (ci := 8) (ty := .object "TiedFrame$Planner") hc hnm tyX8 tyX8_ok nmX8 inX8_init_X8 rfl rfl 4 (by decide) (List.mem_of_getElem? (i := 23) rfl) rfl rfl rfl (by decide +kernel) rfl rfl (Nat.le_of_ble_eq_true rfl) rfl dX8_init_56 ?_
    refine gc_aload_n (j := 0) hc dX8_init_59 rfl rfl ?_
    refine gc_new (C0 := RX4) (T := TX4) (M := 4) (ci := 4) (fs := [.int 0, .int 0, .int 0, .null]) hc hA tyX4 tyX4_ok inX8_init_X4 (List.mem_of_getElem? (i := 24) rfl) (List.mem_of_getElem? (i := 25) rfl) (List.mem_of_getElem? (i := 26) rfl) rfl (fun j hj => by rcases (show j = 0 ∨ j = 1 ∨ j = 2 ∨ j = 3 by omega) with rfl | rfl | rfl | rfl <;> rfl) (by decide) (by decide) dX8_init_60 (fun q5 => ?_)
    refine gc_wid (k := 55) (n := 1068) (by decide) (by decide) ?_
    refine gc_dup hc dX8_init_63 rfl ?_
    refine gc_ctorN (rest := [.ref q5, .ref h0]) (W0 := (h0, .inr (8, [.ref (uM 0), .ref (uV 0), .ref (uC 0), .ref (uP 0), .ref (uN 0), .null, .null, .null, .int 0])) :: (wl 2 uM (cK2 cI uM S0) ++ (wl 3 uV (cK7 cI uV S1) ++ (wl 14 uC (cK0 cI cZ cO uC S2) ++ (wl 18 uP (cK3 cI cO uP S3) ++ (wl 17 uN (cK5 cI cO uN S4))))))) hc hc.2 hn.1 hA (kX4_init q5) ⟨va_cnB 0 hc.1.2.2.2.2 gX8_init_X4_init_n46 rfl rfl rfl hn.2.2.2.2.1 (hc.1.2.2.2.2 _ (List.mem_of_getElem? (i := 26) rfl)) (by decide +kernel) ⟨by decide, by decide⟩, rfl, hc.1.2.2.2.2 _ (List.mem_of_getElem? (i := 77) rfl)⟩ (Nat.le_of_ble_eq_true rfl) dX8_init_64 ⟨by decide, by decide⟩ (fun uH S5 e5 hS5 => ?_)
    refine gc_wid (k := 64) (n := 1268) (by decide) (by decide) ?_
    rw [← e5]
    refine gc_eq (ws' := (h0, .inr (8, [.ref (uM 0), .ref (uV 0), .ref (uC 0), .ref (uP 0), .ref (uN 0), .null, .null, .null, .int 0])) :: (wl 2 uM (cK2 cI uM S0) ++ (wl 3 uV (cK7 cI uV S1) ++ (wl 14 uC (cK0 cI cZ cO uC S2) ++ (wl 18 uP (cK3 cI cO uP S3) ++ (wl 17 uN (cK5 cI cO uN S4) ++ (wl 10 uH (cK4 cI cO uH S5)))))))) (by simp only [List.append_assoc, List.cons_append, List.nil_append, List.append_nil]) ?_
    refine gc_putF (ws' := (h0, .inr (8, [.ref (uM 0), .ref (uV 0), .ref (uC 0), .ref (uP 0), .ref (uN 0), .ref (uH 0), .null, .null, .int 0])) :: (wl 2 uM (cK2 cI uM S0) ++ (wl 3 uV (cK7 cI uV S1) ++ (wl 14 uC (cK0 cI cZ cO uC S2) ++ (wl 18 uP (cK3 cI cO uP S3) ++ (wl 17 uN (cK5 cI cO uN S4) ++ (wl 10 uH (cK4 cI cO uH S5)))))))) (C0 := RX8) (T := TX8) (M := 9) (k := 0) (ci := 8) (ty := .object "TiedFrame$Plan") hc hnm tyX8 tyX8_ok nmX8 inX8_init_X8 rfl rfl 5 (by decide) (List.mem_of_getElem? (i := 27) rfl) rfl rfl rfl (by decide +kernel) rfl rfl (Nat.le_of_ble_eq_true rfl) rfl dX8_init_67 ?_
    refine gc_aload_n (j := 0) hc dX8_init_70 rfl rfl ?_
    refine gc_new (C0 := RX6) (T := TX6) (M := 2) (ci := 6) (fs := [.null, .null]) hc hA tyX6 tyX6_ok inX8_init_X6 (List.mem_of_getElem? (i := 28) rfl) (List.mem_of_getElem? (i := 29) rfl) (List.mem_of_getElem? (i := 30) rfl) rfl (fun j hj => by rcases (show j = 0 ∨ j = 1 by omega) with rfl | rfl <;> rfl) (by decide) (by decide) dX8_init_71 (fun q6 => ?_)
    refine gc_wid (k := 65) (n := 1270) (by decide) (by decide) ?_
    refine gc_dup hc dX8_init_74 rfl ?_
    refine gc_ctorN (rest := [.ref q6, .ref h0]) (W0 := (h0, .inr (8, [.ref (uM 0), .ref (uV 0), .ref (uC 0), .ref (uP 0), .ref (uN 0), .ref (uH 0), .null, .null, .int 0])) :: (wl 2 uM (cK2 cI uM S0) ++ (wl 3 uV (cK7 cI uV S1) ++ (wl 14 uC (cK0 cI cZ cO uC S2) ++ (wl 18 uP (cK3 cI cO uP S3) ++ (wl 17 uN (cK5 cI cO uN S4) ++ (wl 10 uH (cK4 cI cO uH S5)))))))) hc hc.2 hn.1 hA (kX6_init q6) ⟨va_cnB 0 hc.1.2.2.2.2 gX8_init_X6_init_n53 rfl rfl rfl hn.2.2.2.2.2.1 (hc.1.2.2.2.2 _ (List.mem_of_getElem? (i := 30) rfl)) (by decide +kernel) ⟨by decide, by decide⟩, rfl, hc.1.2.2.2.2 _ (List.mem_of_getElem? (i := 85) rfl)⟩ (Nat.le_of_ble_eq_true rfl) dX8_init_75 ⟨by decide, by decide⟩ (fun uS S6 e6 hS6 => ?_)
    refine gc_wid (k := 67) (n := 1302) (by decide) (by decide) ?_
    rw [← e6]
    refine gc_eq (ws' := (h0, .inr (8, [.ref (uM 0), .ref (uV 0), .ref (uC 0), .ref (uP 0), .ref (uN 0), .ref (uH 0), .null, .null, .int 0])) :: (wl 2 uM (cK2 cI uM S0) ++ (wl 3 uV (cK7 cI uV S1) ++ (wl 14 uC (cK0 cI cZ cO uC S2) ++ (wl 18 uP (cK3 cI cO uP S3) ++ (wl 17 uN (cK5 cI cO uN S4) ++ (wl 10 uH (cK4 cI cO uH S5) ++ (wl 3 uS (cK6 cI uS S6))))))))) (by simp only [List.append_assoc, List.cons_append, List.nil_append, List.append_nil]) ?_
    refine gc_putF (ws' := (h0, .inr (8, [.ref (uM 0), .ref (uV 0), .ref (uC 0), .ref (uP 0), .ref (uN 0), .ref (uH 0), .ref (uS 0), .null, .int 0])) :: (wl 2 uM (cK2 cI uM S0) ++ (wl 3 uV (cK7 cI uV S1) ++ (wl 14 uC (cK0 cI cZ cO uC S2) ++ (wl 18 uP (cK3 cI cO uP S3) ++ (wl 17 uN (cK5 cI cO uN S4) ++ (wl 10 uH (cK4 cI cO uH S5) ++ (wl 3 uS (cK6 cI uS S6))))))))) (C0 := RX8) (T := TX8) (M := 9) (k := 0) (ci := 8) (ty := .object "TiedFrame$Slips") hc hnm tyX8 tyX8_ok nmX8 inX8_init_X8 rfl rfl 6 (by decide) (List.mem_of_getElem? (i := 31) rfl) rfl rfl rfl (by decide +kernel) rfl rfl (Nat.le_of_ble_eq_true rfl) rfl dX8_init_78 ?_
    refine gc_aload_n (j := 0) hc dX8_init_81 rfl rfl ?_
    refine gc_new (C0 := RX1) (T := TX1) (M := 4) (ci := 1) (fs := [.null, .null, .null, .int 0]) hc hA tyX1 tyX1_ok inX8_init_X1 (List.mem_of_getElem? (i := 32) rfl) (List.mem_of_getElem? (i := 33) rfl) (List.mem_of_getElem? (i := 34) rfl) rfl (fun j hj => by rcases (show j = 0 ∨ j = 1 ∨ j = 2 ∨ j = 3 by omega) with rfl | rfl | rfl | rfl <;> rfl) (by decide) (by decide) dX8_init_82 (fun q7 => ?_)
    refine gc_wid (k := 68) (n := 1306) (by decide) (by decide) ?_
    refine gc_dup hc dX8_init_85 rfl ?_
    refine gc_ctorN (rest := [.ref q7, .ref h0]) (W0 := (h0, .inr (8, [.ref (uM 0), .ref (uV 0), .ref (uC 0), .ref (uP 0), .ref (uN 0), .ref (uH 0), .ref (uS 0), .null, .int 0])) :: (wl 2 uM (cK2 cI uM S0) ++ (wl 3 uV (cK7 cI uV S1) ++ (wl 14 uC (cK0 cI cZ cO uC S2) ++ (wl 18 uP (cK3 cI cO uP S3) ++ (wl 17 uN (cK5 cI cO uN S4) ++ (wl 10 uH (cK4 cI cO uH S5) ++ (wl 3 uS (cK6 cI uS S6))))))))) hc hc.2 hn.1 hA (kX1_init q7) ⟨va_cnB 0 hc.1.2.2.2.2 gX8_init_X1_init_n60 rfl rfl rfl hn.2.2.2.2.2.2.1 (hc.1.2.2.2.2 _ (List.mem_of_getElem? (i := 34) rfl)) (by decide +kernel) ⟨by decide, by decide⟩, rfl, hc.1.2.2.2.2 _ (List.mem_of_getElem? (i := 90) rfl)⟩ (Nat.le_of_ble_eq_true rfl) dX8_init_86 ⟨by decide, by decide⟩ (fun uL S7 e7 hS7 => ?_)
    refine gc_wid (k := 71) (n := 1486) (by decide) (by decide) ?_
    rw [← e7]
    refine gc_eq (ws' := (h0, .inr (8, [.ref (uM 0), .ref (uV 0), .ref (uC 0), .ref (uP 0), .ref (uN 0), .ref (uH 0), .ref (uS 0), .null, .int 0])) :: (wl 2 uM (cK2 cI uM S0) ++ (wl 3 uV (cK7 cI uV S1) ++ (wl 14 uC (cK0 cI cZ cO uC S2) ++ (wl 18 uP (cK3 cI cO uP S3) ++ (wl 17 uN (cK5 cI cO uN S4) ++ (wl 10 uH (cK4 cI cO uH S5) ++ (wl 3 uS (cK6 cI uS S6) ++ (wl 4 uL (cK1 cI uL S7)))))))))) (by simp only [List.append_assoc, List.cons_append, List.nil_append, List.append_nil]) ?_
    refine gc_putF (ws' := (h0, .inr (8, [.ref (uM 0), .ref (uV 0), .ref (uC 0), .ref (uP 0), .ref (uN 0), .ref (uH 0), .ref (uS 0), .ref (uL 0), .int 0])) :: (wl 2 uM (cK2 cI uM S0) ++ (wl 3 uV (cK7 cI uV S1) ++ (wl 14 uC (cK0 cI cZ cO uC S2) ++ (wl 18 uP (cK3 cI cO uP S3) ++ (wl 17 uN (cK5 cI cO uN S4) ++ (wl 10 uH (cK4 cI cO uH S5) ++ (wl 3 uS (cK6 cI uS S6) ++ (wl 4 uL (cK1 cI uL S7)))))))))) (C0 := RX8) (T := TX8) (M := 9) (k := 0) (ci := 8) (ty := .object "TiedFrame$Laws") hc hnm tyX8 tyX8_ok nmX8 inX8_init_X8 rfl rfl 7 (by decide) (List.mem_of_getElem? (i := 35) rfl) rfl rfl rfl (by decide +kernel) rfl rfl (Nat.le_of_ble_eq_true rfl) rfl dX8_init_89 ?_
    refine gc_aload_n (j := 0) hc dX8_init_92 rfl rfl ?_
    refine gc_iconst (v := 0) hc dX8_init_93 (by decide) ?_
    refine gc_put (ws' := (h0, .inr (8, [.ref (uM 0), .ref (uV 0), .ref (uC 0), .ref (uP 0), .ref (uN 0), .ref (uH 0), .ref (uS 0), .ref (uL 0), .int 0])) :: (wl 2 uM (cK2 cI uM S0) ++ (wl 3 uV (cK7 cI uV S1) ++ (wl 14 uC (cK0 cI cZ cO uC S2) ++ (wl 18 uP (cK3 cI cO uP S3) ++ (wl 17 uN (cK5 cI cO uN S4) ++ (wl 10 uH (cK4 cI cO uH S5) ++ (wl 3 uS (cK6 cI uS S6) ++ (wl 4 uL (cK1 cI uL S7)))))))))) (C0 := RX8) (T := TX8) (M := 9) (k := 0) (ci := 8) (ty := .int) hc tyX8 tyX8_ok nmX8 inX8_init_X8 rfl rfl 8 (by decide) (List.mem_of_getElem? (i := 36) rfl) rfl rfl (by decide +kernel) rfl rfl (Nat.le_of_ble_eq_true rfl) rfl dX8_init_94 ?_
    intro H9 locs9 hP9 hD9 hS9 ls9 hl9
    have hcs : ∀ k, k < 72 → ∃ e9, ((h0, .inr (8, [.ref (uM 0), .ref (uV 0), .ref (uC 0), .ref (uP 0), .ref (uN 0), .ref (uH 0), .ref (uS 0), .ref (uL 0), .int 0])) :: (wl 2 uM (cK2 cI uM S0) ++ (wl 3 uV (cK7 cI uV S1) ++ (wl 14 uC (cK0 cI cZ cO uC S2) ++ (wl 18 uP (cK3 cI cO uP S3) ++ (wl 17 uN (cK5 cI cO uN S4) ++ (wl 10 uH (cK4 cI cO uH S5) ++ (wl 3 uS (cK6 cI uS S6) ++ (wl 4 uL (cK1 cI uL S7))))))))))[posX k]? = some ((fun k => if k < 31 then [h0, uM 0, uV 0, uC 0, uP 0, uN 0, uH 0, uS 0, uL 0, uM 1, uV 1, uV 2, uC 1, uC 2, uC 3, uC 4, uC 5, uP 1, uN 1, uN 2, uN 11, uN 12, uN 13, uN 14, uN 15, uN 16, uS 1, uS 2, uL 1, uL 2, uL 3].getD k 0 else if k < 39 then uC (k - 31 + 6) else if k < 55 then uP (k - 39 + 2) else if k < 63 then uN (k - 55 + 3) else if k < 64 then uH (k - 63 + 1) else uH (k - 64 + 2)) k, e9) ∧ eqv e9 (cX cI cZ cO (fun k => if k < 31 then [h0, uM 0, uV 0, uC 0, uP 0, uN 0, uH 0, uS 0, uL 0, uM 1, uV 1, uV 2, uC 1, uC 2, uC 3, uC 4, uC 5, uP 1, uN 1, uN 2, uN 11, uN 12, uN 13, uN 14, uN 15, uN 16, uS 1, uS 2, uL 1, uL 2, uL 3].getD k 0 else if k < 39 then uC (k - 31 + 6) else if k < 55 then uP (k - 39 + 2) else if k < 63 then uN (k - 55 + 3) else if k < 64 then uH (k - 63 + 1) else uH (k - 64 + 2)) (sX0 S0) k) := (by
        intro k hk
        match k, hk with
        | 0, _ => exact ⟨_, rfl, Or.inl rfl⟩
        | 1, _ => exact ⟨_, rfl, Or.inl rfl⟩
        | 2, _ => exact ⟨_, rfl, Or.inl rfl⟩
        | 3, _ => exact ⟨_, rfl, Or.inl rfl⟩
        | 4, _ => exact ⟨_, rfl, Or.inl rfl⟩
        | 5, _ => exact ⟨_, rfl, Or.inl rfl⟩
        | 6, _ => exact ⟨_, rfl, Or.inl rfl⟩
        | 7, _ => exact ⟨_, rfl, Or.inl rfl⟩
        | 8, _ => exact ⟨_, rfl, Or.inl rfl⟩
        | 9, _ => exact ⟨_, rfl, Or.inl rfl⟩
        | 10, _ => exact ⟨_, rfl, Or.inl rfl⟩
        | 11, _ => exact ⟨_, rfl, Or.inl rfl⟩
        | 12, _ => exact ⟨_, rfl, Or.inl rfl⟩
        | 13, _ => exact ⟨_, rfl, Or.inl rfl⟩
        | 14, _ => exact ⟨_, rfl, Or.inl rfl⟩
        | 15, _ => exact ⟨_, rfl, Or.inl rfl⟩
        | 16, _ => exact ⟨_, rfl, Or.inr ⟨_, _, _, _, rfl, rfl, fun i hi => by show some (uC (6 + i)) = some ((fun k => if k < 31 then [h0, uM 0, uV 0, uC 0, uP 0, uN 0, uH 0, uS 0, uL 0, uM 1, uV 1, uV 2, uC 1, uC 2, uC 3, uC 4, uC 5, uP 1, uN 1, uN 2, uN 11, uN 12, uN 13, uN 14, uN 15, uN 16, uS 1, uS 2, uL 1, uL 2, uL 3].getD k 0 else if k < 39 then uC (k - 31 + 6) else if k < 55 then uP (k - 39 + 2) else if k < 63 then uN (k - 55 + 3) else if k < 64 then uH (k - 63 + 1) else uH (k - 64 + 2)) (31 + i)); dsimp only; rw [if_neg (by omega), if_pos (by omega), show 31 + i - 31 + 6 = 6 + i by omega]⟩⟩
        | 17, _ => exact ⟨_, rfl, Or.inr ⟨_, _, _, _, rfl, rfl, fun i hi => by show some (uP (2 + i)) = some ((fun k => if k < 31 then [h0, uM 0, uV 0, uC 0, uP 0, uN 0, uH 0, uS 0, uL 0, uM 1, uV 1, uV 2, uC 1, uC 2, uC 3, uC 4, uC 5, uP 1, uN 1, uN 2, uN 11, uN 12, uN 13, uN 14, uN 15, uN 16, uS 1, uS 2, uL 1, uL 2, uL 3].getD k 0 else if k < 39 then uC (k - 31 + 6) else if k < 55 then uP (k - 39 + 2) else if k < 63 then uN (k - 55 + 3) else if k < 64 then uH (k - 63 + 1) else uH (k - 64 + 2)) (39 + i)); dsimp only; rw [if_neg (by omega), if_neg (by omega), if_pos (by omega), show 39 + i - 39 + 2 = 2 + i by omega]⟩⟩
        | 18, _ => exact ⟨_, rfl, Or.inl rfl⟩
        | 19, _ => exact ⟨_, rfl, Or.inr ⟨_, _, _, _, rfl, rfl, fun i hi => by show some (uN (3 + i)) = some ((fun k => if k < 31 then [h0, uM 0, uV 0, uC 0, uP 0, uN 0, uH 0, uS 0, uL 0, uM 1, uV 1, uV 2, uC 1, uC 2, uC 3, uC 4, uC 5, uP 1, uN 1, uN 2, uN 11, uN 12, uN 13, uN 14, uN 15, uN 16, uS 1, uS 2, uL 1, uL 2, uL 3].getD k 0 else if k < 39 then uC (k - 31 + 6) else if k < 55 then uP (k - 39 + 2) else if k < 63 then uN (k - 55 + 3) else if k < 64 then uH (k - 63 + 1) else uH (k - 64 + 2)) (55 + i)); dsimp only; rw [if_neg (by omega), if_neg (by omega), if_neg (by omega), if_pos (by omega), show 55 + i - 55 + 3 = 3 + i by omega]⟩⟩
        | 20, _ => exact ⟨_, rfl, Or.inl rfl⟩
        | 21, _ => exact ⟨_, rfl, Or.inl rfl⟩
        | 22, _ => exact ⟨_, rfl, Or.inl rfl⟩
        | 23, _ => exact ⟨_, rfl, Or.inl rfl⟩
        | 24, _ => exact ⟨_, rfl, Or.inl rfl⟩
        | 25, _ => exact ⟨_, rfl, Or.inl rfl⟩
        | 26, _ => exact ⟨_, rfl, Or.inl rfl⟩
        | 27, _ => exact ⟨_, rfl, Or.inl rfl⟩
        | 28, _ => exact ⟨_, rfl, Or.inl rfl⟩
        | 29, _ => exact ⟨_, rfl, Or.inl rfl⟩
        | 30, _ => exact ⟨_, rfl, Or.inl rfl⟩
        | 31, _ => exact ⟨_, rfl, Or.inl rfl⟩
        | 32, _ => exact ⟨_, rfl, Or.inl rfl⟩
        | 33, _ => exact ⟨_, rfl, Or.inl rfl⟩
        | 34, _ => exact ⟨_, rfl, Or.inl rfl⟩
        | 35, _ => exact ⟨_, rfl, Or.inl rfl⟩
        | 36, _ => exact ⟨_, rfl, Or.inl rfl⟩
        | 37, _ => exact ⟨_, rfl, Or.inl rfl⟩
        | 38, _ => exact ⟨_, rfl, Or.inl rfl⟩
        | 39, _ => exact ⟨_, rfl, Or.inl rfl⟩
        | 40, _ => exact ⟨_, rfl, Or.inl rfl⟩
        | 41, _ => exact ⟨_, rfl, Or.inl rfl⟩
        | 42, _ => exact ⟨_, rfl, Or.inl rfl⟩
        | 43, _ => exact ⟨_, rfl, Or.inl rfl⟩
        | 44, _ => exact ⟨_, rfl, Or.inl rfl⟩
        | 45, _ => exact ⟨_, rfl, Or.inl rfl⟩
        | 46, _ => exact ⟨_, rfl, Or.inl rfl⟩
        | 47, _ => exact ⟨_, rfl, Or.inl rfl⟩
        | 48, _ => exact ⟨_, rfl, Or.inl rfl⟩
        | 49, _ => exact ⟨_, rfl, Or.inl rfl⟩
        | 50, _ => exact ⟨_, rfl, Or.inl rfl⟩
        | 51, _ => exact ⟨_, rfl, Or.inl rfl⟩
        | 52, _ => exact ⟨_, rfl, Or.inl rfl⟩
        | 53, _ => exact ⟨_, rfl, Or.inl rfl⟩
        | 54, _ => exact ⟨_, rfl, Or.inl rfl⟩
        | 55, _ => exact ⟨_, rfl, Or.inl rfl⟩
        | 56, _ => exact ⟨_, rfl, Or.inl rfl⟩
        | 57, _ => exact ⟨_, rfl, Or.inl rfl⟩
        | 58, _ => exact ⟨_, rfl, Or.inl rfl⟩
        | 59, _ => exact ⟨_, rfl, Or.inl rfl⟩
        | 60, _ => exact ⟨_, rfl, Or.inl rfl⟩
        | 61, _ => exact ⟨_, rfl, Or.inl rfl⟩
        | 62, _ => exact ⟨_, rfl, Or.inl rfl⟩
        | 63, _ => exact ⟨_, rfl, Or.inr ⟨_, _, _, _, rfl, rfl, fun i hi => by show some (uH (2 + i)) = some ((fun k => if k < 31 then [h0, uM 0, uV 0, uC 0, uP 0, uN 0, uH 0, uS 0, uL 0, uM 1, uV 1, uV 2, uC 1, uC 2, uC 3, uC 4, uC 5, uP 1, uN 1, uN 2, uN 11, uN 12, uN 13, uN 14, uN 15, uN 16, uS 1, uS 2, uL 1, uL 2, uL 3].getD k 0 else if k < 39 then uC (k - 31 + 6) else if k < 55 then uP (k - 39 + 2) else if k < 63 then uN (k - 55 + 3) else if k < 64 then uH (k - 63 + 1) else uH (k - 64 + 2)) (64 + i)); dsimp only; rw [if_neg (by omega), if_neg (by omega), if_neg (by omega), if_neg (by omega), if_neg (by omega), show 64 + i - 64 + 2 = 2 + i by omega]⟩⟩
        | 64, _ => exact ⟨_, rfl, Or.inl rfl⟩
        | 65, _ => exact ⟨_, rfl, Or.inl rfl⟩
        | 66, _ => exact ⟨_, rfl, Or.inl rfl⟩
        | 67, _ => exact ⟨_, rfl, Or.inl rfl⟩
        | 68, _ => exact ⟨_, rfl, Or.inl rfl⟩
        | 69, _ => exact ⟨_, rfl, Or.inl rfl⟩
        | 70, _ => exact ⟨_, rfl, Or.inl rfl⟩
        | 71, _ => exact ⟨_, rfl, Or.inl rfl⟩
        | k + 72, hk => exact absurd hk (by omega))
    have dn : ∀ q, AA 72 (fun k => if k < 31 then [h0, uM 0, uV 0, uC 0, uP 0, uN 0, uH 0, uS 0, uL 0, uM 1, uV 1, uV 2, uC 1, uC 2, uC 3, uC 4, uC 5, uP 1, uN 1, uN 2, uN 11, uN 12, uN 13, uN 14, uN 15, uN 16, uS 1, uS 2, uL 1, uL 2, uL 3].getD k 0 else if k < 39 then uC (k - 31 + 6) else if k < 55 then uP (k - 39 + 2) else if k < 63 then uN (k - 55 + 3) else if k < 64 then uH (k - 63 + 1) else uH (k - 64 + 2)) s.heap.size q → A1 h0 s.heap.size q := by
      intro q9 hq9
      rcases hq9 with ⟨k9, hk9, e9⟩ | h9
      · rw [e9]
        exact wlD_in (conv_D posX hcs posX_inj hD9) hk9
      · exact Or.inr h9
    refine gc_loop (cells := 71) (slots := 1486) (mc := rX8_init.cells) (ms := rX8_init.slots) (n := 72) (C := cX cI cZ cO) (P := fun S => S = SF) (fun k => if k < 31 then [h0, uM 0, uV 0, uC 0, uP 0, uN 0, uH 0, uS 0, uL 0, uM 1, uV 1, uV 2, uC 1, uC 2, uC 3, uC 4, uC 5, uP 1, uN 1, uN 2, uN 11, uN 12, uN 13, uN 14, uN 15, uN 16, uS 1, uS 2, uL 1, uL 2, uL 3].getD k 0 else if k < 39 then uC (k - 31 + 6) else if k < 55 then uP (k - 39 + 2) else if k < 63 then uN (k - 55 + 3) else if k < 64 then uH (k - 63 + 1) else uH (k - 64 + 2)) (sX0 S0) SF posX hcs posX_inj (by decide) rfl hx rfl (by decide) (by decide) ?_ H9 locs9 hP9 hD9 hS9 ls9 hl9
    exact eX8_init hc hr hlk (trX.1 (A1 h0 s.heap.size) _ s s [] hE (State.WarmedH.refl s) va_S.rf dn) (sX0 S0)
  exact G s.heap [] hP hD va_S.rf ls hl
