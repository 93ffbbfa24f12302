def GC (p : Program) (l : Launch) (e : Env) (R : Room) (s : State) (m : MethodId) (args : Array Value) (below : List Frame) (meth : Method) (c : Code) (D : va_G) (A : Nat → Prop) (nL cells slots : Nat) (Q : State → Prop) (pc : Nat) (lv : List (Nat × Value)) (st : List Value) (ws : va_W) : Prop :=
  ∀ (H : Heap) (locs : List Loc), va_P D vwCl ws H → va_D A ws → va_S A s.heap H locs → ∀ ls : Array Slot, lv_has ls nL lv → W p l e R s m args below meth c H locs cells slots Q (F0 m pc ls st)
theorem arrV_congr (cA : ClassId) {n : Nat} {f g : Nat → Value} (h : ∀ i, i < n → f i = g i) : arrV cA n f = arrV cA n g := by
  unfold arrV
  congr 2
  funext j
  exact h j.val j.isLt
theorem W.mono {p : Program} {l : Launch} {e : Env} {R : Room} {s : State} {m : MethodId} {args : Array Value} {below : List Frame} {meth : Method} {c : Code} {H : Heap} {locs : List Loc} {cells slots : Nat} {Q Q' : State → Prop} {g : JFrame} (h : ∀ t, Q t → Q' t) (k : W p l e R s m args below meth c H locs cells slots Q g) : W p l e R s m args below meth c H locs cells slots Q' g := fun T hT X => by
  obtain ⟨t, a1, b1⟩ := k T hT X
  exact ⟨t, a1, h t b1⟩
theorem rows_wl {n : Nat} {r : Nat → Nat} {f : Nat → va_E} {z : va_E} : va_pl ([] ++ (List.range n).map r) (vr_up f ((List.range n).map r) z) = wl n r (fun _ => z) := by
  unfold va_pl wl
  rw [List.nil_append, List.map_map]
  apply List.map_congr_left
  intro k hk
  show (r k, vr_up f ((List.range n).map r) z (r k)) = (r k, z)
  rw [vr_up_in (List.mem_map.mpr ⟨k, hk, rfl⟩)]
theorem ty_eq {D : va_G} {cs : List vw_C} {tys : List (ClassId × FieldType)} {s : State} {i j : Nat} {c1 c2 : ClassId} {t : FieldType} (ht : ∀ x y, va_RA s x t → va_RA s y t → x = y) (h : va_K D cs tys s) (h1 : tys[i]? = some (c1, t)) (h2 : tys[j]? = some (c2, t)) : c1 = c2 := ht _ _ (h.2 i _ h1).2 (h.2 j _ h2).2
theorem ra_int {s : State} (x y : ClassId) (h : va_RA s x .int) (h2 : va_RA s y .int) : x = y := Option.some.inj (h.symm.trans h2)
theorem ra_bool {s : State} (x y : ClassId) (h : va_RA s x .boolean) (h2 : va_RA s y .boolean) : x = y := Option.some.inj (h.symm.trans h2)
theorem ra_long {s : State} (x y : ClassId) (h : va_RA s x .long) (h2 : va_RA s y .long) : x = y := Option.some.inj (h.symm.trans h2)
theorem ra_arr {s : State} (x y : ClassId) (h : va_RA s x (.array .int)) (h2 : va_RA s y (.array .int)) : x = y := Option.some.inj (h.symm.trans h2)
theorem gc_tr {ws : va_W} {q : Nat} {a b : va_E} {rows : va_W} : ∀ (i : Nat) (x : Nat × va_E), ((ws ++ [(q, a)]) ++ rows)[i]? = some x → ∃ e9, ((ws ++ [(q, b)]) ++ rows)[i]? = some (x.1, e9) := by
  intro i x hx
  rw [List.append_assoc] at hx ⊢
  rcases Nat.lt_or_ge i ws.length with h | h
  · rw [List.getElem?_append_left h] at hx ⊢
    exact ⟨x.2, hx⟩
  · rw [List.getElem?_append_right h] at hx ⊢
    cases hz : i - ws.length with
    | zero =>
      rw [hz] at hx
      cases hx
      exact ⟨b, rfl⟩
    | succ z =>
      rw [hz] at hx
      exact ⟨x.2, hx⟩
section GK
variable {p : Program} {l : Launch} {e : Env} {R : Room} {s : State} {m : MethodId} {args : Array Value} {below : List Frame} {meth : Method} {c : Code} {D : va_G} {cI cZ cO : ClassId} {A : Nat → Prop} {cc : ByteArray} {nL : Nat} {own : String} {Ts : List Cond} {cells slots : Nat} {Q : State → Prop} {pc : Nat} {lv : List (Nat × Value)} {rest : List Value} {ws ws' : va_W}
theorem gc_aload_n (hc : CT p s m args c cc nL own Ts D (tyW cI cZ cO)) {k : Fin 4} {i j v : Nat} (hdg : decode cc pc = .ok (.aload_n k, 1)) (hi : (k : Nat) = i) (hj : lv[j]? = some (i, .ref v)) (kk : GC p l e R s m args below meth c D A nL cells slots Q (pc + 1) lv (.ref v :: rest) ws) : GC p l e R s m args below meth c D A nL cells slots Q pc lv rest ws := fun H locs hP hD hS ls hl => lv_aload_n hc.1.1 hc.1.2.1 hdg hi (lv_at hl j hj) (kk H locs hP hD hS ls hl)
theorem gc_iconst (hc : CT p s m args c cc nL own Ts D (tyW cI cZ cO)) {n : Int} {v : Int32} (hdg : decode cc pc = .ok (.iconst n, 1)) (hv : Int32.ofInt n = v) (kk : GC p l e R s m args below meth c D A nL cells slots Q (pc + 1) lv (.int v :: rest) ws) : GC p l e R s m args below meth c D A nL cells slots Q pc lv rest ws := fun H locs hP hD hS ls hl => lv_iconst hc.1.1 hc.1.2.1 hdg hv (kk H locs hP hD hS ls hl)
theorem gc_bipush (hc : CT p s m args c cc nL own Ts D (tyW cI cZ cO)) {n : Int} {v : Int32} (hdg : decode cc pc = .ok (.bipush n, 2)) (hv : (Int8.ofInt n).toInt32 = v) (kk : GC p l e R s m args below meth c D A nL cells slots Q (pc + 2) lv (.int v :: rest) ws) : GC p l e R s m args below meth c D A nL cells slots Q pc lv rest ws := fun H locs hP hD hS ls hl => lv_bipush hc.1.1 hc.1.2.1 hdg hv (kk H locs hP hD hS ls hl)
theorem gc_sipush (hc : CT p s m args c cc nL own Ts D (tyW cI cZ cO)) {n : Int} {v : Int32} (hdg : decode cc pc = .ok (.sipush n, 3)) (hv : (Int16.ofInt n).toInt32 = v) (kk : GC p l e R s m args below meth c D A nL cells slots Q (pc + 3) lv (.int v :: rest) ws) : GC p l e R s m args below meth c D A nL cells slots Q pc lv rest ws := fun H locs hP hD hS ls hl => lv_sipush hc.1.1 hc.1.2.1 hdg hv (kk H locs hP hD hS ls hl)
theorem gc_dup (hc : CT p s m args c cc nL own Ts D (tyW cI cZ cO)) {v : Value} (hdg : decode cc pc = .ok (.dup, 1)) (hv : v.category = 1) (kk : GC p l e R s m args below meth c D A nL cells slots Q (pc + 1) lv (v :: v :: rest) ws) : GC p l e R s m args below meth c D A nL cells slots Q pc lv (v :: rest) ws := fun H locs hP hD hS ls hl => lv_dup hc.1.1 hc.1.2.1 hdg hv (kk H locs hP hD hS ls hl)
theorem gc_obj (hc : CT p s m args c cc nL own Ts D (tyW cI cZ cO)) {index v : Nat} (hm : Cond.methodLink own index objectInit ∈ Ts) (hm2 : Cond.instanceMethod objectInit ∈ Ts) (hm3 : Cond.code objectInit ⟨#[0xb1]⟩ 1 none ∈ Ts) (hfr : 1 ≤ R.frames) (hlo : 2 * 0 + (rest.map fun v => v.category).sum + 12 ≤ R.locals) (hdg : decode cc pc = .ok (.invokespecial index, 3)) (kk : GC p l e R s m args below meth c D A nL cells slots Q (pc + 3) lv rest ws) : GC p l e R s m args below meth c D A nL cells slots Q pc lv (.ref v :: rest) ws := fun H locs hP hD hS ls hl => W.objInit hc.1.1 hc.1.2.1 hc.1.2.2.2.1 (hc.1.2.2.2.2 _ hm) (hc.1.2.2.2.2 _ hm2) (hc.1.2.2.2.2 _ hm3) (g := F0 m pc ls (.ref v :: rest)) rfl (by rw [hc.1.2.2.1]; exact hl.1) rfl hdg hfr hlo (W.eq (g2 := F0 m (pc + 3) ls rest) rfl (kk H locs hP hD hS ls hl))
theorem gc_wid {k n : Nat} (h1 : cells ≤ k) (h2 : slots ≤ n) (kk : GC p l e R s m args below meth c D A nL k n Q pc lv rest ws) : GC p l e R s m args below meth c D A nL cells slots Q pc lv rest ws := fun H locs hP hD hS ls hl => W.widen h1 h2 (kk H locs hP hD hS ls hl)
theorem gc_eq (h : ws = ws') (kk : GC p l e R s m args below meth c D A nL cells slots Q pc lv rest ws') : GC p l e R s m args below meth c D A nL cells slots Q pc lv rest ws := by rw [h]; exact kk
theorem gc_newaI (hc : CT p s m args c cc nL own Ts D (tyW cI cZ cO)) {v : Int32} {n : Nat} (hA : ∀ q, s.heap.size ≤ q → A q) (hm : Cond.arrayClass .int ∈ Ts) (hn : ¬ v < 0) (hN : v.toNatClampNeg = n) (hby : n * componentBytes .int ≤ 536870912) (hce : cells + 1 ≤ R.cells) (hsl : slots + n ≤ R.slots) (hdg : decode cc pc = .ok (.newarray .int, 2)) (kk : ∀ q : Nat, GC p l e R s m args below meth c D A nL (cells + 1) (slots + n) Q (pc + 2) lv (.ref q :: rest) (ws ++ [(q, .inl (cI, n, .inl (fun _ => 0)))])) : GC p l e R s m args below meth c D A nL cells slots Q pc lv (.int v :: rest) ws := fun H locs hP hD hS ls hl => va_newa (atype := .int) (ty := .int) (a0 := (n, .inl (fun _ => 0))) hc.1.1 hc.1.2.1 (hc.1.2.2.2.2 _ hm) rfl hc.2 hP hD hS hA (fun _ => rfl) hn hN hby hce hsl hdg (fun q cA H1 hK1 hP1 hD1 hS1 => by
  have e : cI = cA := ty_eq (i := 0) (j := 3) ra_int hK1 rfl rfl
  subst e
  exact kk q H1 locs hP1 hD1 hS1 ls hl)
theorem gc_newaZ (hc : CT p s m args c cc nL own Ts D (tyW cI cZ cO)) {v : Int32} {n : Nat} (hA : ∀ q, s.heap.size ≤ q → A q) (hm : Cond.arrayClass .boolean ∈ Ts) (hn : ¬ v < 0) (hN : v.toNatClampNeg = n) (hby : n * componentBytes .boolean ≤ 536870912) (hce : cells + 1 ≤ R.cells) (hsl : slots + n ≤ R.slots) (hdg : decode cc pc = .ok (.newarray .boolean, 2)) (kk : ∀ q : Nat, GC p l e R s m args below meth c D A nL (cells + 1) (slots + n) Q (pc + 2) lv (.ref q :: rest) (ws ++ [(q, .inl (cZ, n, .inl (fun _ => 0)))])) : GC p l e R s m args below meth c D A nL cells slots Q pc lv (.int v :: rest) ws := fun H locs hP hD hS ls hl => va_newa (atype := .boolean) (ty := .boolean) (a0 := (n, .inl (fun _ => 0))) hc.1.1 hc.1.2.1 (hc.1.2.2.2.2 _ hm) rfl hc.2 hP hD hS hA (fun _ => rfl) hn hN hby hce hsl hdg (fun q cA H1 hK1 hP1 hD1 hS1 => by
  have e : cZ = cA := ty_eq (i := 1) (j := 3) ra_bool hK1 rfl rfl
  subst e
  exact kk q H1 locs hP1 hD1 hS1 ls hl)
theorem gc_mna (hc : CT p s m args c cc nL own Ts D (tyW cI cZ cO)) {index : Nat} {v u : Int32} {n k : Nat} (hA : ∀ q, s.heap.size ≤ q → A q) (hm : Cond.classLink own index "[[I" ∈ Ts) (hover : va_AOA .int s) (hm2 : Cond.arrayClass .int ∈ Ts) (hn : ¬ v < 0) (hk : ¬ u < 0) (hN : v.toNatClampNeg = n) (hM : u.toNatClampNeg = k) (hb1 : n * 4 ≤ 536870912) (hb2 : k * componentBytes .int ≤ 536870912) (hb3 : k ≤ 536870912) (hce : cells + (1 + n) ≤ R.cells) (hsl : slots + (n + n * k) ≤ R.slots) (hdg : decode cc pc = .ok (.multianewarray index 2, 4)) (kk : ∀ (q : Nat) (r : Nat → Nat), GC p l e R s m args below meth c D A nL (cells + 1 + n) (slots + n + n * k) Q (pc + 4) lv (.ref q :: rest) ((ws ++ [(q, .inl (cO, n, .inr (.inr (.inr (.inr (fun i => some (r i)))))))]) ++ wl n r (fun _ => .inl (cI, k, .inl (fun _ => 0))))) : GC p l e R s m args below meth c D A nL cells slots Q pc lv (.int u :: .int v :: rest) ws := fun H locs hP hD hS ls hl => by
  have hP0 : va_P D vwCl (ws ++ va_pl [] (fun _ => .inl (cI, 0, .inl (fun _ => 0)))) H := by
    rw [show va_pl [] (fun _ => (.inl (cI, 0, .inl (fun _ => 0)) : va_E)) = [] from rfl, List.append_nil]; exact hP
  have hD0 : va_D A (ws ++ va_pl [] (fun _ => .inl (cI, 0, .inl (fun _ => 0)))) := by
    rw [show va_pl [] (fun _ => (.inl (cI, 0, .inl (fun _ => 0)) : va_E)) = [] from rfl, List.append_nil]; exact hD
  refine va_mna (ty := .int) (cy := cI) (z := (k, .inl (fun _ => 0))) (N' := n) (K' := k) hc.1.1 hc.1.2.1 hc.1.2.2.2.1 (hc.1.2.2.2.2 _ hm) hover (hc.1.2.2.2.2 _ hm2) (hc.2.2 0 _ rfl).2 hc.2 hP0 hD0 hS hA hn hk hN hM hb1 hb2 hb3 rfl rfl hce hsl (fun cA => ?_) hdg (fun q r cA H1 _ _ hK1 hP1 hD1 hS1 => ?_)
  · show _ = arrV cA k (fun _ => .int 0)
    rw [← arrV_new]
    rfl
  · have e : cO = cA := ty_eq (i := 2) (j := 3) ra_arr hK1 rfl rfl
    subst e
    rw [rows_wl] at hP1 hD1
    refine kk q r H1 locs (fun k2 x hx => ?_) ⟨fun i j x y hx hy he => ?_, fun k2 x hx => ?_⟩ hS1 ls hl
    · by_cases h9 : k2 = ws.length
      · have hx2 : ((ws ++ [(q, (.inl (cO, n, .inr (.inr (.inr (.inr (fun i => if i < n then some (r i) else none)))))  : va_E))]) ++ wl n r (fun _ => .inl (cI, k, .inl (fun _ => 0))))[k2]? = some (q, .inl (cO, n, .inr (.inr (.inr (.inr (fun i => if i < n then some (r i) else none)))))) := by
          subst h9
          rw [List.append_assoc, List.getElem?_append_right (Nat.le_refl _), Nat.sub_self]; rfl
        have h0 := hP1 k2 _ hx2
        have hx3 : x = (q, .inl (cO, n, .inr (.inr (.inr (.inr (fun i => some (r i))))))) := by
          subst h9
          rw [List.append_assoc, List.getElem?_append_right (Nat.le_refl _), Nat.sub_self] at hx
          exact (Option.some.inj hx).symm
        subst hx3
        have h1 : H1[q]? = some (arrV cO n (fun j => va_rf (if j < n then some (r j) else none))) := h0
        show H1[q]? = some (arrV cO n (fun j => va_rf (some (r j))))
        rw [h1]
        exact congrArg some (arrV_congr cO (fun i hi => by rw [if_pos hi]))
      · refine hP1 k2 x ?_
        rw [← hx]
        rcases Nat.lt_or_ge k2 ws.length with q1 | q1
        · rw [List.append_assoc, List.append_assoc, List.getElem?_append_left q1, List.getElem?_append_left q1]
        · rw [List.append_assoc, List.append_assoc, List.getElem?_append_right q1, List.getElem?_append_right q1]
          obtain ⟨z, hz⟩ : ∃ z, k2 - ws.length = z + 1 := ⟨k2 - ws.length - 1, by omega⟩
          rw [hz]
          rfl
    · have tr : ∀ (i : Nat) (x : Nat × va_E), ((ws ++ [(q, (.inl (cO, n, .inr (.inr (.inr (.inr (fun i => some (r i)))))) : va_E))]) ++ wl n r (fun _ => .inl (cI, k, .inl (fun _ => 0))))[i]? = some x → ∃ e9, ((ws ++ [(q, (.inl (cO, n, .inr (.inr (.inr (.inr (fun i => if i < n then some (r i) else none))))) : va_E))]) ++ wl n r (fun _ => .inl (cI, k, .inl (fun _ => 0))))[i]? = some (x.1, e9) := gc_tr
      obtain ⟨e1, h1⟩ := tr i x hx
      obtain ⟨e2, h2⟩ := tr j y hy
      exact hD1.1 i j _ _ h1 h2 he
    · obtain ⟨e1, h1⟩ := gc_tr (b := (.inl (cO, n, .inr (.inr (.inr (.inr (fun i => if i < n then some (r i) else none))))))) k2 x hx
      exact hD1.2 k2 (x.1, e1) h1
theorem gc_put (hc : CT p s m args c cc nL own Ts D (tyW cI cZ cO)) {C0 ref : String} {T : u_T} {M k ci index a : Nat} {fs : List Value} {v : Value} {ty : FieldType} (ty0 : Nat → FieldType) (hty : ∀ k, k < M → parseFieldDescriptor (T k).2.2.1 = some (ty0 k)) (hnm : ∀ a, a < M → ∀ b, b < M → a ≠ b → (T a).2.1 ≠ (T b).2.1) (hin : ∀ w ∈ u_ws C0 T M, w ∈ Ts) (he : ws[k]? = some (a, .inr (ci, fs))) (hcl : vwCl[ci]? = some (C0, T, M)) (j : Nat) (hj : j < M) (hm : Cond.fieldLink own index ref (T j).2.1 (T j).2.2.1 ∈ Ts) (href : (T j).1 = ref) (hfin : (T j).2.2.2 = false) (hd : parseFieldDescriptor (T j).2.2.1 = some ty) (hn : narrow ty v = v) (hfit : fits ty v = true) (hl2 : j < fs.length) (hws : ws.set k (a, .inr (ci, fs.set j v)) = ws') (hdg : decode cc pc = .ok (.putfield index, 3)) (kk : GC p l e R s m args below meth c D A nL cells slots Q (pc + 3) lv rest ws') : GC p l e R s m args below meth c D A nL cells slots Q pc lv (v :: .ref a :: rest) ws := fun H locs hP hD hS ls hl => va_put (D := D) (ci := ci) hc.1.1 hc.1.2.1 hc.1.2.2.2.2 hin ty0 hty hnm hc.1.2.2.2.1 hc.2 hP hD hS k he hcl j hj (hc.1.2.2.2.2 _ hm) (fun _ h9 => by rw [← href]; exact h9) hfin hd hn hfit hl2 hdg (fun H1 locs1 hP1 hD1 hS1 => by rw [hws] at hP1 hD1; exact kk H1 locs1 hP1 hD1 hS1 ls hl)
theorem gc_putF (hc : CT p s m args c cc nL own Ts D (tyW cI cZ cO)) {C0 ref : String} {T : u_T} {M k ci index a : Nat} {fs : List Value} {v : Value} {ty : FieldType} (hin2 : meth.name = "<init>") (ty0 : Nat → FieldType) (hty : ∀ k, k < M → parseFieldDescriptor (T k).2.2.1 = some (ty0 k)) (hnm : ∀ a, a < M → ∀ b, b < M → a ≠ b → (T a).2.1 ≠ (T b).2.1) (hin : ∀ w ∈ u_ws C0 T M, w ∈ Ts) (he : ws[k]? = some (a, .inr (ci, fs))) (hcl : vwCl[ci]? = some (C0, T, M)) (j : Nat) (hj : j < M) (hm : Cond.fieldLink own index ref (T j).2.1 (T j).2.2.1 ∈ Ts) (href : (T j).1 = ref) (hfin : (T j).2.2.2 = true) (hdecl : (T j).1 = own) (hd : parseFieldDescriptor (T j).2.2.1 = some ty) (hn : narrow ty v = v) (hfit : fits ty v = true) (hl2 : j < fs.length) (hws : ws.set k (a, .inr (ci, fs.set j v)) = ws') (hdg : decode cc pc = .ok (.putfield index, 3)) (kk : GC p l e R s m args below meth c D A nL cells slots Q (pc + 3) lv rest ws') : GC p l e R s m args below meth c D A nL cells slots Q pc lv (v :: .ref a :: rest) ws := fun H locs hP hD hS ls hl => va_putF (D := D) (ci := ci) hc.1.1 hc.1.2.1 hc.1.2.2.2.2 hin ty0 hty hnm hc.1.2.2.2.1 hc.2 hP hD hS k he hcl j hj (hc.1.2.2.2.2 _ hm) (fun _ h9 => by rw [← href]; exact h9) hfin hin2 hdecl hd hn hfit hl2 hdg (fun H1 locs1 hP1 hD1 hS1 => by rw [hws] at hP1 hD1; exact kk H1 locs1 hP1 hD1 hS1 ls hl)
theorem gc_new (hc : CT p s m args c cc nL own Ts D (tyW cI cZ cO)) {C0 : String} {T : u_T} {M ci index : Nat} {fs : List Value} (hA : ∀ q, s.heap.size ≤ q → A q) (ty0 : Nat → FieldType) (hty : ∀ k, k < M → parseFieldDescriptor (T k).2.2.1 = some (ty0 k)) (hin : ∀ w ∈ u_ws C0 T M, w ∈ Ts) (hm : Cond.classLink own index C0 ∈ Ts) (hm2 : Cond.instantiable C0 M ∈ Ts) (hm3 : Cond.initialized C0 ∈ Ts) (hcl : vwCl[ci]? = some (C0, T, M)) (hfs : ∀ j, j < M → defaultValue (ty0 j) = vp_V fs j) (hce : cells + 1 ≤ R.cells) (hsl : slots + M ≤ R.slots) (hdg : decode cc pc = .ok (.new index, 3)) (kk : ∀ q : Nat, GC p l e R s m args below meth c D A nL (cells + 1) (slots + M) Q (pc + 3) lv (.ref q :: rest) (ws ++ [(q, .inr (ci, fs))])) : GC p l e R s m args below meth c D A nL cells slots Q pc lv rest ws := fun H locs hP hD hS ls hl => va_new (ci := ci) hc.1.1 hc.1.2.1 hc.1.2.2.2.2 hin ty0 hty hc.1.2.2.2.1 (hc.1.2.2.2.2 _ hm) (hc.1.2.2.2.2 _ hm2) (hc.1.2.2.2.2 _ hm3) hc.2 hP hD hS hA hcl hfs hce hsl hdg (fun q H1 hP1 hD1 hS1 => kk q H1 locs hP1 hD1 hS1 ls hl)
end GK
def oq (a : Nat → Nat) (base : Nat) (cO : ClassId) (n : Nat) : va_E := .inl (cO, n, .inr (.inr (.inr (.inr (fun i => some (a (base + i)))))))
def zI (cI : ClassId) (n : Nat) : va_E := .inl (cI, n, .inl (fun _ => 0))
def cK0 (cI cZ cO : ClassId) (a : Nat → Nat) (_ : St) (k : Nat) : va_E := if 6 ≤ k then .inl (cI, 24, .inl (fun _ => 0)) else match k with
  | 0 => .inr (0, [.int 0, .int 0, .ref (a 1), .ref (a 2), .ref (a 3), .ref (a 4), .ref (a 5)])
  | 1 => .inl (cI, 16, .inl (fun _ => 0))
  | 2 => .inl (cI, 8, .inl (fun _ => 0))
  | 3 => .inl (cZ, 8, .inl (fun _ => 0))
  | 4 => .inl (cI, 8, .inl (fun _ => 0))
  | _ => .inl (cO, 8, .inr (.inr (.inr (.inr (fun i => some (a (6 + i)))))))
def cK1 (cI : ClassId) (a : Nat → Nat) (_ : St) (k : Nat) : va_E := match k with
  | 0 => .inr (1, [.ref (a 1), .ref (a 2), .ref (a 3), .int 0])
  | _ => .inl (cI, 60, .inl (fun _ => 0))
def cK2 (cI : ClassId) (a : Nat → Nat) (S : St) (k : Nat) : va_E := match k with
  | 0 => .inr (2, [.ref (a 1)])
  | n => .inl (cI, 64, .inl (S n))
def cK3 (cI cO : ClassId) (a : Nat → Nat) (_ : St) (k : Nat) : va_E := match k with
  | 0 => .inr (3, [.ref (a 1)])
  | 1 => .inl (cO, 16, .inr (.inr (.inr (.inr (fun i => some (a (2 + i)))))))
  | _ => .inl (cI, 24, .inl (fun _ => 0))
def cK4 (cI cO : ClassId) (a : Nat → Nat) (_ : St) (k : Nat) : va_E := match k with
  | 0 => .inr (4, [.int 0, .int 0, .int 0, .ref (a 1)])
  | 1 => .inl (cO, 8, .inr (.inr (.inr (.inr (fun i => some (a (2 + i)))))))
  | _ => .inl (cI, 24, .inl (fun _ => 0))
def cK5 (cI cO : ClassId) (a : Nat → Nat) (_ : St) (k : Nat) : va_E := if 3 ≤ k ∧ k < 11 then .inl (cI, 24, .inl (fun _ => 0)) else match k with
  | 0 => .inr (5, [.ref (a 1), .ref (a 2), .int 0, .int 0, .ref (a 11), .ref (a 12), .ref (a 13), .ref (a 14), .ref (a 15), .ref (a 16)])
  | 1 => .inl (cI, 8, .inl (fun _ => 0))
  | 2 => .inl (cO, 8, .inr (.inr (.inr (.inr (fun i => some (a (3 + i)))))))
  | 11 => .inl (cI, 16, .inl (fun _ => 0))
  | 12 => .inl (cI, 16, .inl (fun _ => 0))
  | 13 => .inl (cI, 16, .inl (fun _ => 0))
  | _ => .inl (cI, 25, .inl (fun _ => 0))
def cK6 (cI : ClassId) (a : Nat → Nat) (_ : St) (k : Nat) : va_E := match k with
  | 0 => .inr (6, [.ref (a 1), .ref (a 2)])
  | _ => .inl (cI, 16, .inl (fun _ => 0))
def cK7 (cI : ClassId) (a : Nat → Nat) (_ : St) (k : Nat) : va_E := match k with
  | 0 => .inr (7, [.ref (a 1), .ref (a 2)])
  | _ => .inl (cI, 4, .inl (fun _ => 0))
def z0 : St := fun _ _ => 0
def m0 : St := fun k j => if k = 0 ∧ (j = 1 ∨ j = 2) then 1 else 0
theorem locK2 {cI : ClassId} {a : Nat → Nat} : LOC (cK2 cI a) := by
  intro S S' k h
  unfold cK2
  match k, h with
  | 0, h => rfl
  | n + 1, h => simp only [h]
/-- the same cell, seen otherwise: a row of rows whose places within its length are the same -/
def eqv (e1 e2 : va_E) : Prop := e1 = e2 ∨ ∃ (c : ClassId) (n : Nat) (f g : Nat → Option Nat), e1 = .inl (c, n, .inr (.inr (.inr (.inr f)))) ∧ e2 = .inl (c, n, .inr (.inr (.inr (.inr g)))) ∧ ∀ i, i < n → f i = g i
theorem eqv_at {D : va_G} {cs : List vw_C} {q : Nat} {e1 e2 : va_E} {H : Heap} (h : eqv e1 e2) (h1 : va_at D cs (q, e1) H) : va_at D cs (q, e2) H := by
  rcases h with h | ⟨c, n, f, g, rfl, rfl, hfg⟩
  · rw [← h]; exact h1
  · have h2 : H[q]? = some (arrV c n (fun j => va_rf (f j))) := h1
    show H[q]? = some (arrV c n (fun j => va_rf (g j)))
    rw [h2]
    exact congrArg some (arrV_congr c (fun i hi => by rw [hfg i hi]))
theorem conv_P {D : va_G} {cs : List vw_C} {ws : va_W} {N : Nat} {a : Nat → Nat} {K : Nat → va_E} {H : Heap} (pos : Nat → Nat) (h : ∀ k, k < N → ∃ e, ws[pos k]? = some (a k, e) ∧ eqv e (K k)) (hP : va_P D cs ws H) : va_P D cs (wl N a K) H := fun k q hq => by
  obtain ⟨hk, rfl⟩ := wl_of hq
  obtain ⟨e, h1, h2⟩ := h k hk
  exact eqv_at h2 (hP _ _ h1)
theorem conv_D {ws : va_W} {N : Nat} {a : Nat → Nat} {K : Nat → va_E} {A : Nat → Prop} (pos : Nat → Nat) (h : ∀ k, k < N → ∃ e, ws[pos k]? = some (a k, e) ∧ eqv e (K k)) (hi : ∀ i j, i < N → j < N → pos i = pos j → i = j) (hD : va_D A ws) : va_D A (wl N a K) := by
  refine wlD_of (fun i j h1 h2 e9 => ?_) (fun k hk => ?_)
  · obtain ⟨_, p1, -⟩ := h i h1
    obtain ⟨_, p2, -⟩ := h j h2
    exact hi i j h1 h2 (hD.1 _ _ _ _ p1 p2 e9)
  · obtain ⟨_, p1, -⟩ := h k hk
    exact hD.2 _ _ p1
def A1 (h0 sz : Nat) : Nat → Prop := fun q => q = h0 ∨ sz ≤ q
/-- a constructor: out of the bare object the whole thing, its cells by an address function -/
def Kc (l : Launch) (y : MethodName) (ws : List Cond) (rm : Room) (D : va_G) (cI cZ cO : ClassId) (ci : Nat) (fs0 : List Value) (n : Nat) (C : (Nat → Nat) → St → Nat → va_E) (P : St → Prop) (h0 : Nat) : Prop := ∀ sz, Met l y ws rm (va_Pc [.ref h0] (fun U => U.heap.size = sz ∧ va_P D vwCl [(h0, .inr (ci, fs0))] U.heap ∧ va_K D vwCl (tyW cI cZ cO) U ∧ va_D (fun _ => True) [(h0, .inr (ci, fs0))] ∧ va_AOA .int U)) (va_Qv (fun u : (Nat → Nat) × St => u.1 0 = h0 ∧ P u.2) (fun u t => va_P D vwCl (wl n u.1 (C u.1 u.2)) t.heap ∧ va_K D vwCl (tyW cI cZ cO) t ∧ va_D (A1 h0 sz) (wl n u.1 (C u.1 u.2))) (A1 h0 sz)) rm.cells rm.slots (A1 h0 sz)
theorem m_Kc {l : Launch} {y : MethodName} {ws ws' : List Cond} {rm : Room} {D : va_G} {cI cZ cO : ClassId} {ci : Nat} {fs0 : List Value} {n : Nat} {C : (Nat → Nat) → St → Nat → va_E} {P : St → Prop} {h0 : Nat} {cc : ByteArray} {nL : Nat} (hy : plainName y.cls = true) (hyn : y.name = "<init>") (hw : ws = Cond.code y cc nL none :: ws') (hlen : 1 ≤ nL)
    (h : ∀ (p : Program) (e : Env) (s : State) (m : MethodId) (args : Array Value) (below : List Frame) (meth : Method) (c : Code), CT p s m args c cc nL y.cls ws D (tyW cI cZ cO) → meth.sig.returnType = none → meth.locks = false → meth.name = "<init>" → va_AOA .int s → GC p l e rm s m args below meth c D (A1 h0 s.heap.size) nL 0 0 (MQ below (va_Qv (fun u : (Nat → Nat) × St => u.1 0 = h0 ∧ P u.2) (fun u t => va_P D vwCl (wl n u.1 (C u.1 u.2)) t.heap ∧ va_K D vwCl (tyW cI cZ cO) t ∧ va_D (A1 h0 s.heap.size) (wl n u.1 (C u.1 u.2))) (A1 h0 s.heap.size)) args s rm.cells rm.slots (A1 h0 s.heap.size)) 0 [(0, .ref h0)] [] [(h0, .inr (ci, fs0))]) : Kc l y ws rm D cI cZ cO ci fs0 n C P h0 := by
  intro sz
  refine Met.ofW (cc := cc) (maxL := nL) (ret := none) hy hw ?_
  intro p e s m args below meth c s₁ B hml hv
  obtain ⟨rfl, hsz, hP, hK, hD0, hE⟩ := hv
  subst hsz
  have hl := lv_entry [.ref h0] (n := nL) (by show 1 ≤ nL; exact hlen)
  rw [lg_entry_eq]
  generalize (lg_sl [Value.ref h0] ++ List.replicate (nL - (lg_sl [Value.ref h0]).length) Slot.unset).toArray = ls at hl ⊢
  have hD : va_D (A1 h0 s.heap.size) [(h0, .inr (ci, fs0))] := ⟨hD0.1, fun k q hq => by
    have hk : k < 1 := (List.getElem?_eq_some_iff.mp hq).1
    have : k = 0 := by omega
    subst this
    cases hq
    exact Or.inl rfl⟩
  exact h p e s m [Value.ref h0].toArray below meth c ⟨⟨B.exec, B.bytes, hml, findClass_of_methodNamed B.named, atoms_spec (ws := ws) B.pre⟩, hK⟩ B.returns B.notSynchronized ((name_of_methodNamed B.named B.method).1.trans hyn) hE s.heap [] hP hD va_S.rf ls hl
section GKE
variable {p : Program} {l : Launch} {e : Env} {R : Room} {s : State} {m : MethodId} {args : Array Value} {below : List Frame} {meth : Method} {c : Code} {D : va_G} {cI cZ cO : ClassId} {cc : ByteArray} {nL : Nat} {own : String} {Ts : List Cond} {cells slots : Nat} {pc : Nat} {lv : List (Nat × Value)} {rest : List Value} {ws : va_W} {h0 n : Nat} {C : (Nat → Nat) → St → Nat → va_E} {P : St → Prop} {mc ms : Nat}
/-- its end, no loop behind -/
theorem gc_ret (hc : CT p s m args c cc nL own Ts D (tyW cI cZ cO)) (hr : meth.sig.returnType = none) (hlocks : meth.locks = false) (a : Nat → Nat) (S : St) (pos : Nat → Nat) (h : ∀ k, k < n → ∃ e, ws[pos k]? = some (a k, e) ∧ eqv e (C a S k)) (hi : ∀ i j, i < n → j < n → pos i = pos j → i = j) (h1 : a 0 = h0) (h2 : P S) (hmc : cells ≤ mc) (hms : slots ≤ ms) (hdg : decode cc pc = .ok (.return_, 1)) : GC p l e R s m args below meth c D (A1 h0 s.heap.size) nL cells slots (MQ below (va_Qv (fun u : (Nat → Nat) × St => u.1 0 = h0 ∧ P u.2) (fun u t => va_P D vwCl (wl n u.1 (C u.1 u.2)) t.heap ∧ va_K D vwCl (tyW cI cZ cO) t ∧ va_D (A1 h0 s.heap.size) (wl n u.1 (C u.1 u.2))) (A1 h0 s.heap.size)) args s mc ms (A1 h0 s.heap.size)) pc lv [] ws :=
  fun H locs hP hD hS ls hl => W.widen hmc hms (W.vret hc.1.1 hc.1.2.1 hr (fun t ht hW => ⟨⟨(a, S), rfl, ⟨h1, h2⟩, by rw [ht]; exact conv_P pos h hP, va_K.moved hW.alike hc.2, conv_D pos h hi hD⟩, hS.F ht⟩) hS.2.2 hdg hlocks)
/-- its loop, walked over the state -/
theorem gc_loop (a : Nat → Nat) (S S1 : St) (pos : Nat → Nat) (h : ∀ k, k < n → ∃ e, ws[pos k]? = some (a k, e) ∧ eqv e (C a S k)) (hi : ∀ i j, i < n → j < n → pos i = pos j → i = j) (hn : 0 < n) (h1 : a 0 = h0) {x : Option (Int32 × St)} (hx : x = some (0, S1)) (h2 : P S1) (hmc : cells ≤ mc) (hms : slots ≤ ms)
    (kk : GF p l e R s m args below meth c D n a (C a) (AA n a s.heap.size) nL mc ms (fun res => MQ below (va_Qv (fun u => ((0 : Int32), u) = res) (Bw D (tyW cI cZ cO) n a (C a) (AA n a s.heap.size)) (AA n a s.heap.size)) args s mc ms (AA n a s.heap.size)) x pc lv rest S) : GC p l e R s m args below meth c D (A1 h0 s.heap.size) nL cells slots (MQ below (va_Qv (fun u : (Nat → Nat) × St => u.1 0 = h0 ∧ P u.2) (fun u t => va_P D vwCl (wl n u.1 (C u.1 u.2)) t.heap ∧ va_K D vwCl (tyW cI cZ cO) t ∧ va_D (A1 h0 s.heap.size) (wl n u.1 (C u.1 u.2))) (A1 h0 s.heap.size)) args s mc ms (A1 h0 s.heap.size)) pc lv rest ws := by
  intro H locs hP hD hS ls hl
  have hP' := conv_P (K := C a S) pos h hP
  have hD' := conv_D (K := C a S) pos h hi hD
  have up : ∀ q, A1 h0 s.heap.size q → AA n a s.heap.size q := fun q hq => hq.elim (fun e9 => Or.inl ⟨0, hn, by rw [h1]; exact e9⟩) Or.inr
  have dn : ∀ q, AA n a s.heap.size q → A1 h0 s.heap.size q := fun q hq => hq.elim (fun ⟨k, hk, e9⟩ => by rw [e9]; exact wlD_in hD' hk) Or.inr
  have hS' : va_S (AA n a s.heap.size) s.heap H locs := ⟨hS.1, fun q h3 h4 => hS.2.1 q h3 (fun z => h4 (up q z)), fun z hz => up _ (hS.2.2 z hz)⟩
  refine W.widen hmc hms (W.mono (fun t ht => ?_) (kk _ hx H locs hP' (hD'.weaken (fun _ _ _ z => up _ z)) hS' ls hl))
  obtain ⟨o, q1, q2, ⟨⟨u, ho, hu, hB⟩, hF⟩, L, q3, q4⟩ := ht
  have e2 : u = S1 := congrArg Prod.snd hu
  subst e2
  exact ⟨o, q1, q2, ⟨⟨(a, u), ho, ⟨h1, h2⟩, hB.1, hB.2.1, hB.2.2.weaken (fun _ _ _ z => dn _ z)⟩, hF.1, fun q h3 h4 => hF.2 q h3 (fun z => h4 (dn q z))⟩, L, q3, fun z hz => dn _ (q4 z hz)⟩
theorem g_cret {N : Nat} {a : Nat → Nat} {C : St → Nat → va_E} {A : Nat → Prop} {S : St} (hc : CT p s m args c cc nL own Ts D (tyW cI cZ cO)) (hr : meth.sig.returnType = none) (hlocks : meth.locks = false) (hdg : decode cc pc = .ok (.return_, 1)) : GF p l e R s m args below meth c D N a C A nL mc ms (fun res => MQ below (va_Qv (fun u => ((0 : Int32), u) = res) (Bw D (tyW cI cZ cO) N a C A) A) args s mc ms A) (some ((0 : Int32), S)) pc lv [] S := by
  intro res h H locs hP hD hS ls hl
  cases h
  exact W.vret hc.1.1 hc.1.2.1 hr (fun t ht hW => ⟨⟨S, rfl, rfl, by rw [ht]; exact hP, va_K.moved hW.alike hc.2, hD⟩, hS.F ht⟩) hS.2.2 hdg hlocks
end GKE
