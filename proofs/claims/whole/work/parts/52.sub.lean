theorem wl_congr {N : Nat} {a a' : Nat → Nat} {K K' : Nat → va_E} (ha : ∀ j, j < N → a j = a' j) (h : ∀ j, j < N → K j = K' j) : wl N a K = wl N a' K' := by
  unfold wl
  apply List.map_congr_left
  intro k hk
  rw [ha k (List.mem_range.mp hk), h k (List.mem_range.mp hk)]
theorem wlD_inj {N : Nat} {a : Nat → Nat} {K : Nat → va_E} {A : Nat → Prop} (h : va_D A (wl N a K)) {i j : Nat} (hi : i < N) (hj : j < N) (e : a i = a j) : i = j := h.1 i j _ _ (wl_at hi) (wl_at hj) e
theorem wlD_in {N : Nat} {a : Nat → Nat} {K : Nat → va_E} {A : Nat → Prop} (h : va_D A (wl N a K)) {k : Nat} (hk : k < N) : A (a k) := h.2 k _ (wl_at hk)
theorem wlD_of {N : Nat} {a : Nat → Nat} {K : Nat → va_E} {A : Nat → Prop} (h1 : ∀ i j, i < N → j < N → a i = a j → i = j) (h2 : ∀ k, k < N → A (a k)) : va_D A (wl N a K) := by
  refine ⟨fun i j x y hx hy e => ?_, fun k x hx => ?_⟩
  · obtain ⟨i1, rfl⟩ := wl_of hx
    obtain ⟨j1, rfl⟩ := wl_of hy
    exact h1 i j i1 j1 e
  · obtain ⟨k1, rfl⟩ := wl_of hx
    exact h2 k k1
theorem wlD_cont {N : Nat} {a : Nat → Nat} {K K' : Nat → va_E} {A : Nat → Prop} (h : va_D A (wl N a K)) : va_D A (wl N a K') := wlD_of (fun _ _ hi hj e => wlD_inj h hi hj e) (fun _ hk => wlD_in h hk)
theorem sub_P {D : va_G} {cs : List vw_C} {N o N' : Nat} {a a' : Nat → Nat} {K K' : Nat → va_E} {H : Heap} (ho : o + N' ≤ N) (ha : ∀ j, j < N' → a' j = a (o + j)) (hK : ∀ j, j < N' → K' j = K (o + j)) (hP : va_P D cs (wl N a K) H) : va_P D cs (wl N' a' K') H := fun k q hq => by
  obtain ⟨h1, h2⟩ := wl_of hq
  subst h2
  rw [ha k h1, hK k h1]
  exact hP (o + k) _ (wl_at (by omega))
theorem sub_D {N o N' : Nat} {a a' : Nat → Nat} {K K' : Nat → va_E} {A : Nat → Prop} (ho : o + N' ≤ N) (ha : ∀ j, j < N' → a' j = a (o + j)) (hD : va_D A (wl N a K)) : va_D A (wl N' a' K') := by
  refine wlD_of (fun i j hi hj e => ?_) (fun k hk => ?_)
  · rw [ha i hi, ha j hj] at e
    have := wlD_inj hD (show o + i < N by omega) (show o + j < N by omega) e
    omega
  · rw [ha k hk]
    exact wlD_in hD (by omega)
theorem sub_AA {N o N' : Nat} {a a' : Nat → Nat} {sz sz' : Nat} (ho : o + N' ≤ N) (ha : ∀ j, j < N' → a' j = a (o + j)) (hz : sz ≤ sz') : ∀ q, AA N' a' sz' q → AA N a sz q := fun q h => by
  rcases h with ⟨k, hk, rfl⟩ | h
  · exact Or.inl ⟨o + k, by omega, ha k hk⟩
  · exact Or.inr (Nat.le_trans hz h)
theorem sub_back {D : va_G} {cs : List vw_C} {N o N' : Nat} {a a' : Nat → Nat} {K K1 K2 : Nat → va_E} {H H1 : Heap} {A : Nat → Prop} (ho : o + N' ≤ N) (ha : ∀ j, j < N' → a' j = a (o + j)) (hP : va_P D cs (wl N a K) H) (hD : va_D A (wl N a K)) (hP1 : va_P D cs (wl N' a' K1) H1) (hk : ∀ q : Nat, q < H.size → ¬ AA N' a' H.size q → H1[q]? = H[q]?) (h2 : ∀ j, j < N' → K2 (o + j) = K1 j) (h3 : ∀ k, k < N → (k < o ∨ o + N' ≤ k) → K2 k = K k) : va_P D cs (wl N a K2) H1 := fun k q hq => by
  obtain ⟨hkN, rfl⟩ := wl_of hq
  by_cases hin : o ≤ k ∧ k < o + N'
  · obtain ⟨j, rfl⟩ : ∃ j, k = o + j := ⟨k - o, by omega⟩
    have hj : j < N' := by omega
    rw [h2 j hj, ← ha j hj]
    exact hP1 j _ (wl_at hj)
  · rw [h3 k hkN (by omega)]
    have h0 := hP k _ (wl_at hkN)
    refine h0.kept (hk _ h0.lt (fun hA => ?_))
    rcases hA with ⟨j, hj, e⟩ | hA
    · rw [ha j hj] at e
      have := wlD_inj hD hkN (show o + j < N by omega) e
      omega
    · exact absurd h0.lt (by
        show ¬ a k < H.size
        have : H.size ≤ a k := hA
        omega)
/-- the law's methods: the class's cells and the law's row of one long (72), which holds an int widened -/
def cY (cI cZ cO cJ : ClassId) (a : Nat → Nat) (S : St) (k : Nat) : va_E := if k = 72 then .inl (cJ, 1, .inr (.inl (fun j => (S 72 j).toInt64))) else cX cI cZ cO a S k
def tyY (cI cZ cO cJ : ClassId) : List (ClassId × FieldType) := [(cI, .int), (cZ, .boolean), (cO, .array .int), (cJ, .long)]
theorem locY {cI cZ cO cJ : ClassId} {a : Nat → Nat} : LOC (cY cI cZ cO cJ a) := by
  intro S S' k h
  unfold cY
  by_cases hk : k = 72
  · subst hk
    rw [if_pos rfl, if_pos rfl, h]
  · rw [if_neg hk, if_neg hk]
    exact locX S S' k h
theorem cY_X {cI cZ cO cJ : ClassId} {a : Nat → Nat} {S : St} {k : Nat} (h : k < 72) : cY cI cZ cO cJ a S k = cX cI cZ cO a S k := if_neg (by omega)
def EvY (tF : Nat) (A : Nat → Prop) (U : State) : Prop := EvX tF A U ∧ va_Nc "java/lang/IllegalArgumentException" "java/lang/IndexOutOfBoundsException" U
theorem trY {tF : Nat} : TR (EvY tF) := ⟨fun A A' s U locs h hW hS hsub => ⟨trX.1 A A' s U locs h.1 hW hS hsub, h.2.moved hW.alike⟩, fun A U g mk v h => ⟨trX.2 A U g mk v h.1, h.2.moved (u := U) (U := U.calling g mk v) (Vm.Alike.refl U.vm)⟩⟩
/-- the class's rows out of S2, row 72 as it was -/
def gl (S S2 : St) : St := fun k => if k = 72 then S 72 else S2 k
def cy {α : Type} (y : Option RX) (f : Int32 → St → Option α) (fx : String → St → Option α) (S : St) : Option α := y.bind (fun q => match q.1 with | .inl E => fx E (gl S q.2) | .inr r => f r (gl S q.2))
def Kw (l : Launch) (y : MethodName) (ws : List Cond) (rm : Room) (D : va_G) (tys : List (ClassId × FieldType)) (N : Nat) (a : Nat → Nat) (C : St → Nat → va_E) (Ev : (Nat → Prop) → State → Prop) (av : List Value) (S : St) (res : Int32 × St) : Prop := ∀ sz, Met l y ws rm (va_Pc av (Pw D tys N a C Ev sz S)) (va_Qi (fun r u => (r, u) = res) (Bw D tys N a C (AA N a sz)) (AA N a sz)) rm.cells rm.slots (AA N a sz)
/-- the walk with E thrown over the frame -/
def GX (p : Program) (l : Launch) (e : Env) (R : Room) (s : State) (m : MethodId) (args : Array Value) (below : List Frame) (meth : Method) (c : Code) (D : va_G) (N : Nat) (a : Nat → Nat) (C : St → Nat → va_E) (A : Nat → Prop) (nL cells slots : Nat) {α : Type} (Q : α → State → Prop) (x : Option α) (E : String) (pc : Nat) (lv : List (Nat × Value)) (st : List Value) (S : St) : Prop :=
  ∀ res, x = some res → ∀ (H : Heap) (locs : List Loc), va_P D vwCl (wl N a (C S)) H → va_D A (wl N a (C S)) → va_S A s.heap H locs → ∀ ls : Array Slot, lv_has ls nL lv → ∀ (q : Addr) (ce : Cell), H[q]? = some ce → ce.vm = .none → s.vm.findClass E = some ce.cls → vx_W p l e R s m args below meth c H locs cells slots (Q res) (F0 m pc ls st) q
section GL
variable {p : Program} {l : Launch} {e : Env} {R : Room} {s : State} {m : MethodId} {args : Array Value} {below : List Frame} {meth : Method} {c : Code} {D : va_G} {tys : List (ClassId × FieldType)} {N : Nat} {a : Nat → Nat} {C : St → Nat → va_E} {Ev : (Nat → Prop) → State → Prop} {A : Nat → Prop} {cc : ByteArray} {nL : Nat} {own : String} {Ts : List Cond} {cells slots : Nat} {α : Type} {Q : α → State → Prop} {x z : Option α} {pc : Nat} {lv lv' : List (Nat × Value)} {rest : List Value} {S : St}
theorem g_xnone {E : String} : GX p l e R s m args below meth c D N a C A nL cells slots Q none E pc lv rest S := fun res h => by cases h
theorem g_xwid {E : String} {k n : Nat} (h1 : cells ≤ k) (h2 : slots ≤ n) (kk : GX p l e R s m args below meth c D N a C A nL k n Q x E pc lv rest S) : GX p l e R s m args below meth c D N a C A nL cells slots Q x E pc lv rest S := fun res h H locs hP hD hS ls hl q ce h5 h6 h7 => vx_widen h1 h2 (kk res h H locs hP hD hS ls hl q ce h5 h6 h7)
theorem g_xif {E B : String} (k1 : GX p l e R s m args below meth c D N a C A nL cells slots Q x B pc lv rest S) (k2 : GX p l e R s m args below meth c D N a C A nL cells slots Q z E pc lv rest S) : GX p l e R s m args below meth c D N a C A nL cells slots Q (if E = B then x else z) E pc lv rest S := by
  by_cases h : E = B
  · subst h
    rw [if_pos rfl]
    exact k1
  · rw [if_neg h]
    exact k2
theorem g_catch (hc : CT p s m args c cc nL own Ts D tys) {E : String} (pre : List ExceptionTableEntry) (y : ExceptionTableEntry) (suf : List ExceptionTableEntry) (htab : c.exceptionTable.toList = pre ++ y :: suf) (hpass : ∀ z ∈ pre, covers z pc = false ∨ (z.catchType ≠ 0 ∧ ∃ nm : String, (Cond.classLink own z.catchType nm).before args s = true ∧ va_Nc E nm s)) (hx : covers y pc = true) (h0 : y.catchType ≠ 0) (hlink : Cond.classLink own y.catchType E ∈ Ts) (hcast : va_Nw (.castable E E) s) (kk : ∀ q : Addr, GF p l e R s m args below meth c D N a C A nL cells slots Q x y.handlerPc lv [.ref q] S) : GX p l e R s m args below meth c D N a C A nL cells slots Q x E pc lv rest S :=
  fun res h H locs hP hD hS ls hl q ce h5 h6 h7 => vx_catch hc.1.2.2.2.1 pre y suf htab hpass hx h0 (hc.1.2.2.2.2 _ hlink) (hcast.use rfl) h5 h6 h7 (kk q res h H locs hP hD hS ls hl)
theorem g_i2l (hc : CT p s m args c cc nL own Ts D tys) {x1 : Int32} (hdg : decode cc pc = .ok (.i2l, 1)) (kk : GF p l e R s m args below meth c D N a C A nL cells slots Q x (pc + 1) lv (.long x1.toInt64 :: rest) S) : GF p l e R s m args below meth c D N a C A nL cells slots Q x pc lv (.int x1 :: rest) S :=
  fun res h H locs hP hD hS ls hl => lv_i2l hc.1.1 hc.1.2.1 hdg rfl (kk res h H locs hP hD hS ls hl)
theorem g_lconst (hc : CT p s m args c cc nL own Ts D tys) {n : Fin 2} {v : Int32} (hdg : decode cc pc = .ok (.lconst n, 1)) (hv : Int64.ofNat (n : Nat) = v.toInt64) (kk : GF p l e R s m args below meth c D N a C A nL cells slots Q x (pc + 1) lv (.long v.toInt64 :: rest) S) : GF p l e R s m args below meth c D N a C A nL cells slots Q x pc lv rest S :=
  fun res h H locs hP hD hS ls hl => lv_lconst hc.1.1 hc.1.2.1 hdg hv (kk res h H locs hP hD hS ls hl)
theorem g_lastore (hc : CT p s m args c cc nL own Ts D tys) {f : St → Option α} {cJ : ClassId} {t0 k : Nat} {i v : Int32} (hLOC : LOC C) (hk : k < N) (he : ∀ S : St, C S k = .inl (cJ, 1, .inr (.inl (fun j => (S k j).toInt64)))) (ht : tys[t0]? = some (cJ, .long)) (hdg : decode cc pc = .ok (.lastore, 1)) (kk : ∀ S2 : St, GF p l e R s m args below meth c D N a C A nL cells slots Q (f S2) (pc + 1) lv rest S2) : GF p l e R s m args below meth c D N a C A nL cells slots Q (ck i 1 (lz (s2 S k i.toNatClampNeg v) f)) pc lv (.long v.toInt64 :: .int i :: .ref (a k) :: rest) S :=
  fun res h H locs hP hD hS ls hl => va_last hc.1.1 hc.1.2.1 hc.2 hP hD hS k t0 (by rw [wl_at hk, he]) ht (ck_some h).1 hdg (fun H1 locs1 hP1 hD1 hS1 => by
    have e : vp_updL (fun j => (S k j).toInt64) i.toNatClampNeg v.toInt64 = (fun j => (s2 S k i.toNatClampNeg v k j).toInt64) := by
      funext j
      rw [s2_at]
      unfold vp_updL upd
      by_cases hj : j = i.toNatClampNeg
      · rw [if_pos hj, if_pos hj]
      · rw [if_neg hj, if_neg hj]
    rw [e, wl_set (C' := C (s2 S k i.toNatClampNeg v)) hk (by rw [he]) (fun j hj => hLOC _ _ j (s2_ne S i.toNatClampNeg v hj))] at hP1 hD1
    exact kk _ res (ck_some h).2 H1 locs1 hP1 hD1 hS1 ls hl)
theorem g_laload (hc : CT p s m args c cc nL own Ts D tys) {cJ : ClassId} {t0 k : Nat} (hk : k < N) (he : ∀ S : St, C S k = .inl (cJ, 1, .inr (.inl (fun j => (S k j).toInt64)))) (ht : tys[t0]? = some (cJ, .long)) (hdg : decode cc pc = .ok (.laload, 1)) (kk : GF p l e R s m args below meth c D N a C A nL cells slots Q x (pc + 1) lv (.long (S k 0).toInt64 :: rest) S) : GF p l e R s m args below meth c D N a C A nL cells slots Q x pc lv (.int 0 :: .ref (a k) :: rest) S :=
  fun res h H locs hP hD hS ls hl => va_lald hc.1.1 hc.1.2.1 hc.2 hP k t0 (by rw [wl_at hk, he]) ht (show vp_in (nI 0) 1 from vp_in_nI (by decide) (by decide)) hdg (kk res h H locs hP hD hS ls hl)
end GL
section GLR
variable {p : Program} {l : Launch} {e : Env} {R : Room} {s : State} {m : MethodId} {args : Array Value} {below : List Frame} {meth : Method} {c : Code} {D : va_G} {tys : List (ClassId × FieldType)} {N : Nat} {a : Nat → Nat} {C : St → Nat → va_E} {Ev : (Nat → Prop) → State → Prop} {A : Nat → Prop} {cc : ByteArray} {nL : Nat} {own : String} {Ts : List Cond} {cells slots : Nat} {mc ms : Nat} {pc : Nat} {lv lv' : List (Nat × Value)} {rest : List Value} {S : St}
theorem g_wret (hc : CT p s m args c cc nL own Ts D tys) {v : Int32} (hr : meth.sig.returnType = some .int) (hlocks : meth.locks = false) (hmc : cells ≤ mc) (hms : slots ≤ ms) (hdg : decode cc pc = .ok (.ireturn, 1)) : GF p l e R s m args below meth c D N a C A nL cells slots (fun res => MQ below (va_Qi (fun r u => (r, u) = res) (Bw D tys N a C A) A) args s mc ms A) (some (v, S)) pc lv [.int v] S :=
  by
  intro res h H locs hP hD hS ls hl
  cases h
  refine W.widen hmc hms ?_
  exact W.iret hc.1.1 hc.1.2.1 hr (fun t ht hW => ⟨⟨v, S, rfl, rfl, by rw [ht]; exact hP, va_K.moved hW.alike hc.2, hD⟩, hS.F ht⟩) hS.2.2 hdg hlocks
end GLR
section GCC
variable {p : Program} {l : Launch} {e : Env} {R : Room} {s : State} {m : MethodId} {args : Array Value} {below : List Frame} {meth : Method} {c : Code} {D : va_G} {cI cZ cO cJ : ClassId} {a : Nat → Nat} {tF : Nat} {A : Nat → Prop} {cc : ByteArray} {nL : Nat} {own : String} {Ts : List Cond} {cells slots : Nat} {α : Type} {Q : α → State → Prop} {pc : Nat} {lv : List (Nat × Value)} {rest : List Value} {S : St}
theorem g_cci (hc : CT p s m args c cc nL own Ts D (tyY cI cZ cO cJ)) {y0 : Option RX} {f : Int32 → St → Option α} {fx : String → St → Option α} {st As : List Value} {y : MethodName} {ws : List Cond} {rm : Room} {index n maxL : Nat} {bytes : ByteArray} {ret : Option FieldType} (hE : EvY tF A s) (hA : A = AA 73 a s.heap.size) (hM : ∀ q, y0 = some q → Xi l y ws rm D (tyW cI cZ cO) 72 a (cX cI cZ cO a) (EvX tF) (.ref (a 0) :: As) S q) (cw : CallW R s args own RX8 index y bytes maxL ret ws rm rm.cells rm.slots n) (hn : As.length = n) (hst : st = As.reverse ++ .ref (a 0) :: rest) (hcat : (rest.map fun v => v.category).sum ≤ 8) (hdg : decode cc pc = .ok (.invokevirtual index, 3)) (hf : cells + rm.cells ≤ R.cells ∧ slots + rm.slots ≤ R.slots)
    (kx : ∀ (E : String) (S2 : St), GX p l e R s m args below meth c D 73 a (cY cI cZ cO cJ a) A nL (cells + rm.cells) (slots + rm.slots) Q (fx E S2) E pc lv rest S2) (kk : ∀ (r : Int32) (S2 : St), GF p l e R s m args below meth c D 73 a (cY cI cZ cO cJ a) A nL (cells + rm.cells) (slots + rm.slots) Q (f r S2) (pc + 3) lv (.int r :: rest) S2) : GF p l e R s m args below meth c D 73 a (cY cI cZ cO cJ a) A nL cells slots Q (cy y0 f fx S) pc lv st S := by
  intro res h H locs hP hD hS ls hl
  have hKw : va_K D vwCl (tyW cI cZ cO) s := hc.2.sub [0, 1, 2] rfl
  have ha : ∀ j, j < 72 → a j = a (0 + j) := fun j _ => by rw [Nat.zero_add]
  have hPs : va_P D vwCl (wl 72 a (cX cI cZ cO a S)) H := sub_P (o := 0) (by decide) ha (fun j hj => by rw [Nat.zero_add, cY_X hj]) hP
  have hDs : va_D A (wl 72 a (cX cI cZ cO a S)) := sub_D (o := 0) (by decide) ha hD
  have hsub : ∀ z, AA 72 a H.size z → A z := fun z h => by rw [hA]; exact sub_AA (o := 0) (by decide) ha hS.1 z h
  cases hy : y0 with
  | none => rw [hy] at h; cases h
  | some q =>
    rw [hy] at h
    have hrun := vx_runV (C := RX8) (rest := rest) (g := F0 m pc ls st) (locs := locs) (cells := cells) (slots := slots) (below := below) (meth := meth) (e := e) (H := H) hc.1 (hM q hy H.size) cw ⟨pw_blind trX, va_recv hKw hPs (ci := 8) (q := (RX8, TX8, 9)) (q0 := 0) rfl (by rw [wl_at (by decide)]; rfl), fun U hU hW => by
      subst hU
      exact ⟨rfl, rfl, hPs, va_K.moved hW.alike hKw, hDs.weaken (fun _ _ _ _ => trivial), trX.1 A _ s U locs hE.1 hW hS hsub⟩⟩ rfl hn hl.1 hst (lv_room (ls := ls) (rest := st) hcat) hdg hf
    have back : ∀ (u : St) (H1 : Heap), va_P D vwCl (wl 72 a (cX cI cZ cO a u)) H1 → (∀ q : Nat, q < H.size → ¬ AA 72 a H.size q → H1[q]? = H[q]?) → va_P D vwCl (wl 73 a (cY cI cZ cO cJ a (gl S u))) H1 := fun u H1 hP1 hk => by
      refine sub_back (o := 0) (by decide) ha hP hD hP1 hk (fun j hj => ?_) (fun k hk9 h9 => ?_)
      · rw [Nat.zero_add, cY_X hj]
        exact locX _ _ j (if_neg (by omega))
      · have : k = 72 := by omega
        subst this
        exact locY _ _ 72 (if_pos rfl)
    refine vx_calli hrun hS (fun z _ h => hsub z h) hsub (fun z _ h => hsub z h) (fun E ce q9 u t H1 locs1 ht hvm _ hB hz hk hS1 hce hcv hcl => ?_) (fun r u t H1 locs1 ht hvm hpost hB hz hk hS1 => ?_)
    · obtain ⟨hpost, hP1, hK1, hD1⟩ := hB
      subst hpost
      rw [ht] at hP1
      exact kx E (gl S u) res h H1 locs1 (back u H1 hP1 hk) (wlD_cont hD) hS1 ls hl q9 ce hce hcv hcl
    · subst hpost
      obtain ⟨hP1, hK1, hD1⟩ := hB
      rw [ht] at hP1
      exact kk r (gl S u) res h H1 locs1 (back u H1 hP1 hk) (wlD_cont hD) hS1 ls hl
theorem g_ccv (hc : CT p s m args c cc nL own Ts D (tyY cI cZ cO cJ)) {y0 : Option RX} {f : Int32 → St → Option α} {fx : String → St → Option α} {st As : List Value} {y : MethodName} {ws : List Cond} {rm : Room} {index n maxL : Nat} {bytes : ByteArray} {ret : Option FieldType} (hE : EvY tF A s) (hA : A = AA 73 a s.heap.size) (hM : ∀ q, y0 = some q → Xv l y ws rm D (tyW cI cZ cO) 72 a (cX cI cZ cO a) (EvX tF) (.ref (a 0) :: As) S q) (cw : CallW R s args own RX8 index y bytes maxL ret ws rm rm.cells rm.slots n) (hn : As.length = n) (hst : st = As.reverse ++ .ref (a 0) :: rest) (hcat : (rest.map fun v => v.category).sum ≤ 8) (hdg : decode cc pc = .ok (.invokevirtual index, 3)) (hf : cells + rm.cells ≤ R.cells ∧ slots + rm.slots ≤ R.slots)
    (kx : ∀ (E : String) (S2 : St), GX p l e R s m args below meth c D 73 a (cY cI cZ cO cJ a) A nL (cells + rm.cells) (slots + rm.slots) Q (fx E S2) E pc lv rest S2) (kk : ∀ (S2 : St), GF p l e R s m args below meth c D 73 a (cY cI cZ cO cJ a) A nL (cells + rm.cells) (slots + rm.slots) Q (f 0 S2) (pc + 3) lv rest S2) : GF p l e R s m args below meth c D 73 a (cY cI cZ cO cJ a) A nL cells slots Q (cy y0 f fx S) pc lv st S := by
  intro res h H locs hP hD hS ls hl
  have hKw : va_K D vwCl (tyW cI cZ cO) s := hc.2.sub [0, 1, 2] rfl
  have ha : ∀ j, j < 72 → a j = a (0 + j) := fun j _ => by rw [Nat.zero_add]
  have hPs : va_P D vwCl (wl 72 a (cX cI cZ cO a S)) H := sub_P (o := 0) (by decide) ha (fun j hj => by rw [Nat.zero_add, cY_X hj]) hP
  have hDs : va_D A (wl 72 a (cX cI cZ cO a S)) := sub_D (o := 0) (by decide) ha hD
  have hsub : ∀ z, AA 72 a H.size z → A z := fun z h => by rw [hA]; exact sub_AA (o := 0) (by decide) ha hS.1 z h
  cases hy : y0 with
  | none => rw [hy] at h; cases h
  | some q =>
    rw [hy] at h
    have hrun := vx_runV (C := RX8) (rest := rest) (g := F0 m pc ls st) (locs := locs) (cells := cells) (slots := slots) (below := below) (meth := meth) (e := e) (H := H) hc.1 (hM q hy H.size) cw ⟨pw_blind trX, va_recv hKw hPs (ci := 8) (q := (RX8, TX8, 9)) (q0 := 0) rfl (by rw [wl_at (by decide)]; rfl), fun U hU hW => by
      subst hU
      exact ⟨rfl, rfl, hPs, va_K.moved hW.alike hKw, hDs.weaken (fun _ _ _ _ => trivial), trX.1 A _ s U locs hE.1 hW hS hsub⟩⟩ rfl hn hl.1 hst (lv_room (ls := ls) (rest := st) hcat) hdg hf
    have back : ∀ (u : St) (H1 : Heap), va_P D vwCl (wl 72 a (cX cI cZ cO a u)) H1 → (∀ q : Nat, q < H.size → ¬ AA 72 a H.size q → H1[q]? = H[q]?) → va_P D vwCl (wl 73 a (cY cI cZ cO cJ a (gl S u))) H1 := fun u H1 hP1 hk => by
      refine sub_back (o := 0) (by decide) ha hP hD hP1 hk (fun j hj => ?_) (fun k hk9 h9 => ?_)
      · rw [Nat.zero_add, cY_X hj]
        exact locX _ _ j (if_neg (by omega))
      · have : k = 72 := by omega
        subst this
        exact locY _ _ 72 (if_pos rfl)
    refine vx_callv hrun hS (fun z _ h => hsub z h) hsub (fun z _ h => hsub z h) (fun E ce q9 u t H1 locs1 ht hvm _ hB hz hk hS1 hce hcv hcl => ?_) (fun u t H1 locs1 ht hvm hpost hB hz hk hS1 => ?_)
    · obtain ⟨hpost, hP1, hK1, hD1⟩ := hB
      subst hpost
      rw [ht] at hP1
      exact kx E (gl S u) res h H1 locs1 (back u H1 hP1 hk) (wlD_cont hD) hS1 ls hl q9 ce hce hcv hcl
    · subst hpost
      obtain ⟨hP1, hK1, hD1⟩ := hB
      rw [ht] at hP1
      exact kk (gl S u) res h H1 locs1 (back u H1 hP1 hk) (wlD_cont hD) hS1 ls hl
end GCC
theorem m_Kw {l : Launch} {y : MethodName} {ws ws' : List Cond} {rm : Room} {D : va_G} {tys : List (ClassId × FieldType)} {N : Nat} {a : Nat → Nat} {C : St → Nat → va_E} {Ev : (Nat → Prop) → State → Prop} {av : List Value} {S : St} {cc : ByteArray} {nL : Nat} {ret : Option FieldType} {hh : List (Nat × Nat × Nat × Nat)} {x : Option (Int32 × St)} {lv : List (Nat × Value)} (hy : plainName y.cls = true) (hw : ws = Cond.codeWith y cc nL ret hh :: ws') (hlen : (lg_sl av).length ≤ nL) (hlv : lv_args 0 av = lv)
    (h : ∀ (p : Program) (e : Env) (s : State) (m : MethodId) (args : Array Value) (below : List Frame) (meth : Method) (c : Code), CT p s m args c cc nL y.cls ws D tys → meth.sig.returnType = ret → meth.locks = false → c.exceptionTable.toList = tableOf hh → Ev (AA N a s.heap.size) s → GF p l e rm s m args below meth c D N a C (AA N a s.heap.size) nL 0 0 (fun res => MQ below (va_Qi (fun r u => (r, u) = res) (Bw D tys N a C (AA N a s.heap.size)) (AA N a s.heap.size)) args s rm.cells rm.slots (AA N a s.heap.size)) x 0 lv [] S) : ∀ q, x = some q → Kw l y ws rm D tys N a C Ev av S q := by
  intro q hq sz
  refine va_MetW (cc := cc) (maxL := nL) (ret := ret) (hh := hh) hy hw ?_
  intro p e s m args below meth c s₁ B hml hv
  obtain ⟨rfl, hsz, hP, hK, hD0, hE⟩ := hv
  subst hsz
  have hl := lv_entry av (n := nL) hlen
  rw [lg_entry_eq]
  generalize (lg_sl av ++ List.replicate (nL - (lg_sl av).length) Slot.unset).toArray = ls at hl ⊢
  rw [hlv] at hl
  have hts := atoms_spec (ws := ws) B.pre
  exact h p e s m av.toArray below meth c ⟨⟨B.exec, B.bytes, hml, findClass_of_methodNamed B.named, hts⟩, hK⟩ B.returns B.notSynchronized (vx_table (x := y) B (hts _ (by rw [hw]; exact List.mem_cons_self))) hE q hq s.heap [] hP (AA_D hD0) va_S.rf ls hl
