/-- the law's world: the class's cells, the row of one long, the reference's cells -/
def aM (a : Nat → Nat) : Nat → Nat := fun j => a (73 + j)
def tM (Z : St) : St := fun j => Z (73 + j)
def cL (cI cZ cO cJ : ClassId) (a : Nat → Nat) (Z : St) (k : Nat) : va_E := if k < 73 then cY cI cZ cO cJ a Z k else cM cI cZ (aM a) (tM Z) (k - 73)
def glM (Z T2 : St) : St := fun k => if k < 73 then Z k else T2 (k - 73)
def glX (Z S2 : St) : St := fun k => if k < 72 then S2 k else Z k
def glW (Z S2 : St) : St := fun k => if k < 73 then S2 k else Z k
def cg {α : Type} (y : Option (Int32 × St)) (g : St → St) (f : Int32 → St → Option α) : Option α := y.bind (fun q => f q.1 (g q.2))
def tsw {α : Type} (v : Int32) (cs : List (Option α)) (d : Option α) : Option α := if v < 0 then d else cs.getD v.toNatClampNeg d
theorem locL {cI cZ cO cJ : ClassId} {a : Nat → Nat} : LOC (cL cI cZ cO cJ a) := by
  intro S S' k h
  unfold cL
  by_cases hk : k < 73
  · rw [if_pos hk, if_pos hk]
    exact locY S S' k h
  · rw [if_neg hk, if_neg hk]
    refine locM _ _ _ ?_
    show S (73 + (k - 73)) = S' (73 + (k - 73))
    rw [show 73 + (k - 73) = k by omega, h]
theorem cL_M {cI cZ cO cJ : ClassId} {a : Nat → Nat} {Z : St} {j : Nat} : cL cI cZ cO cJ a Z (73 + j) = cM cI cZ (aM a) (tM Z) j := by
  unfold cL
  rw [if_neg (by omega), Nat.add_sub_cancel_left]
theorem cL_Y {cI cZ cO cJ : ClassId} {a : Nat → Nat} {Z : St} {k : Nat} (h : k < 73) : cL cI cZ cO cJ a Z k = cY cI cZ cO cJ a Z k := if_pos h
theorem tM_glM (Z T2 : St) : tM (glM Z T2) = T2 := by
  funext j
  show (if 73 + j < 73 then Z (73 + j) else T2 (73 + j - 73)) = T2 j
  rw [if_neg (by omega), Nat.add_sub_cancel_left]
section LS
variable {p : Program} {l : Launch} {e : Env} {R : Room} {s : State} {m : MethodId} {args : Array Value} {below : List Frame} {meth : Method} {c : Code} {D : va_G} {tys : List (ClassId × FieldType)} {N : Nat} {a : Nat → Nat} {C : St → Nat → va_E} {Ev : (Nat → Prop) → State → Prop} {A : Nat → Prop} {cc : ByteArray} {nL : Nat} {own : String} {Ts : List Cond} {cells slots : Nat} {α : Type} {Q : α → State → Prop} {x z : Option α} {pc : Nat} {lv lv' : List (Nat × Value)} {rest : List Value} {S : St}
theorem g_subi {y0 : Option (Int32 × St)} {g : St → St} {f : Int32 → St → Option α} {st : List Value} {o N' mc ms : Nat} {a' : Nat → Nat} {C' : St → Nat → va_E} {S' : St} {tys' : List (ClassId × FieldType)} (hA : A = AA N a s.heap.size) (ho : o + N' ≤ N) (ha : ∀ j, j < N' → a' j = a (o + j)) (hC : ∀ j, j < N' → C' S' j = C S (o + j)) (hg : ∀ (S2 : St) (j : Nat), j < N' → C (g S2) (o + j) = C' S2 j) (hg2 : ∀ (S2 : St) (k : Nat), k < N → (k < o ∨ o + N' ≤ k) → C (g S2) k = C S k)
    (hrun : ∀ (H : Heap) (locs : List Loc) (ls : Array Slot) (q : Int32 × St), va_P D vwCl (wl N' a' (C' S')) H → va_D A (wl N' a' (C' S')) → va_S A s.heap H locs → (∀ z, AA N' a' H.size z → A z) → lv_has ls nL lv → y0 = some q → ∃ av : Array Value, va_Run p l e R s m args below meth c H locs cells slots mc ms (F0 m pc ls st) rest (va_Qi (fun r u => (r, u) = q) (Bw D tys' N' a' C' (AA N' a' H.size)) (AA N' a' H.size) av) (AA N' a' H.size)) (kk : ∀ (r : Int32) (S2 : St), GF p l e R s m args below meth c D N a C A nL (cells + mc) (slots + ms) Q (f r S2) (pc + 3) lv (.int r :: rest) S2) : GF p l e R s m args below meth c D N a C A nL cells slots Q (cg y0 g f) pc lv st S := by
  intro res h H locs hP hD hS ls hl
  have hPs : va_P D vwCl (wl N' a' (C' S')) H := sub_P ho ha hC hP
  have hDs : va_D A (wl N' a' (C' S')) := sub_D ho ha hD
  have hsub : ∀ z, AA N' a' H.size z → A z := fun z h => by rw [hA]; exact sub_AA ho ha hS.1 z h
  cases hy : y0 with
  | none => rw [hy] at h; cases h
  | some q =>
    rw [hy] at h
    obtain ⟨av, hr⟩ := hrun H locs ls q hPs hDs hS hsub hl hy
    refine va_calli hr hS (fun z _ h => hsub z h) hsub (fun r u t H1 locs1 ht hvm hpost hB hz hk hS1 => ?_)
    subst hpost
    obtain ⟨hP1, hK1, hD1⟩ := hB
    rw [ht] at hP1
    exact kk r (g u) res h H1 locs1 (sub_back ho ha hP hD hP1 hk (fun j hj => hg u j hj) (fun k hk9 h9 => hg2 u k hk9 h9)) (wlD_cont hD) hS1 ls hl
theorem g_subv {y0 : Option (Int32 × St)} {g : St → St} {f : Int32 → St → Option α} {st : List Value} {o N' mc ms : Nat} {a' : Nat → Nat} {C' : St → Nat → va_E} {S' : St} {tys' : List (ClassId × FieldType)} (hA : A = AA N a s.heap.size) (ho : o + N' ≤ N) (ha : ∀ j, j < N' → a' j = a (o + j)) (hC : ∀ j, j < N' → C' S' j = C S (o + j)) (hg : ∀ (S2 : St) (j : Nat), j < N' → C (g S2) (o + j) = C' S2 j) (hg2 : ∀ (S2 : St) (k : Nat), k < N → (k < o ∨ o + N' ≤ k) → C (g S2) k = C S k)
    (hrun : ∀ (H : Heap) (locs : List Loc) (ls : Array Slot) (q : Int32 × St), va_P D vwCl (wl N' a' (C' S')) H → va_D A (wl N' a' (C' S')) → va_S A s.heap H locs → (∀ z, AA N' a' H.size z → A z) → lv_has ls nL lv → y0 = some q → ∃ av : Array Value, va_Run p l e R s m args below meth c H locs cells slots mc ms (F0 m pc ls st) rest (va_Qv (fun u => ((0 : Int32), u) = q) (Bw D tys' N' a' C' (AA N' a' H.size)) (AA N' a' H.size) av) (AA N' a' H.size)) (kk : ∀ (S2 : St), GF p l e R s m args below meth c D N a C A nL (cells + mc) (slots + ms) Q (f 0 S2) (pc + 3) lv rest S2) : GF p l e R s m args below meth c D N a C A nL cells slots Q (cg y0 g f) pc lv st S := by
  intro res h H locs hP hD hS ls hl
  have hPs : va_P D vwCl (wl N' a' (C' S')) H := sub_P ho ha hC hP
  have hDs : va_D A (wl N' a' (C' S')) := sub_D ho ha hD
  have hsub : ∀ z, AA N' a' H.size z → A z := fun z h => by rw [hA]; exact sub_AA ho ha hS.1 z h
  cases hy : y0 with
  | none => rw [hy] at h; cases h
  | some q =>
    rw [hy] at h
    obtain ⟨av, hr⟩ := hrun H locs ls q hPs hDs hS hsub hl hy
    refine va_callv hr hS (fun z _ h => hsub z h) hsub (fun u t H1 locs1 ht hvm hpost hB hz hk hS1 => ?_)
    subst hpost
    obtain ⟨hP1, hK1, hD1⟩ := hB
    rw [ht] at hP1
    exact kk (g u) res h H1 locs1 (sub_back ho ha hP hD hP1 hk (fun j hj => hg u j hj) (fun k hk9 h9 => hg2 u k hk9 h9)) (wlD_cont hD) hS1 ls hl
theorem g_slen (hc : CT p s m args c cc nL own Ts D tys) {b L : Nat} {xs : Nat → Int32} (hX : va_X b L xs s s.heap) (hbl : b < s.heap.size) (hbA : ¬ A b) (hdg : decode cc pc = .ok (.arraylength, 1)) (kk : GF p l e R s m args below meth c D N a C A nL cells slots Q x (pc + 1) lv (.int (nI L) :: rest) S) : GF p l e R s m args below meth c D N a C A nL cells slots Q x pc lv (.ref b :: rest) S :=
  fun res h H locs hP hD hS ls hl => va_slen hc.1.1 hc.1.2.1 hX hbl hbA hS hdg (kk res h H locs hP hD hS ls hl)
theorem g_sld (hc : CT p s m args c cc nL own Ts D tys) {b L : Nat} {xs : Nat → Int32} {i : Int32} (hX : va_X b L xs s s.heap) (hbl : b < s.heap.size) (hbA : ¬ A b) (hdg : decode cc pc = .ok (.iaload, 1)) (kk : GF p l e R s m args below meth c D N a C A nL cells slots Q x (pc + 1) lv (.int (xs i.toNatClampNeg) :: rest) S) : GF p l e R s m args below meth c D N a C A nL cells slots Q (ck i L x) pc lv (.int i :: .ref b :: rest) S :=
  fun res h H locs hP hD hS ls hl => va_sld hc.1.1 hc.1.2.1 hX hbl hbA hS (ck_some h).1 hdg (kk res (ck_some h).2 H locs hP hD hS ls hl)
theorem g_lcmp (hc : CT p s m args c cc nL own Ts D tys) {x1 y1 : Int64} (hdg : decode cc pc = .ok (.lcmp, 1)) (kk : GF p l e R s m args below meth c D N a C A nL cells slots Q x (pc + 1) lv (.int (lg_cmp x1 y1) :: rest) S) : GF p l e R s m args below meth c D N a C A nL cells slots Q x pc lv (.long y1 :: .long x1 :: rest) S :=
  fun res h H locs hP hD hS ls hl => W.lcmp hc.1.1 hc.1.2.1 hdg (kk res h H locs hP hD hS ls hl)
theorem g_tsw (hc : CT p s m args c cc nL own Ts D tys) {v : Int32} {cs : List (Option α)} {dflt : Int} {offs : Array Int} {len n td : Nat} {tg : Nat → Nat} (hdg : decode cc pc = .ok (.tableswitch dflt 0 21 offs, len)) (hn : cs.length = 22) (ho : ∀ i, i < 22 → ∃ o, offs[i]? = some o ∧ (pc : Int) + o = (tg i : Int)) (hd : (pc : Int) + dflt = (td : Int)) (kk : ∀ i, i < 22 → GF p l e R s m args below meth c D N a C A nL cells slots Q (cs.getD i z) (tg i) lv rest S) (kd : GF p l e R s m args below meth c D N a C A nL cells slots Q z td lv rest S) : GF p l e R s m args below meth c D N a C A nL cells slots Q (tsw v cs z) pc lv (.int v :: rest) S :=
  fun res h H locs hP hD hS ls hl => by
    unfold tsw at h
    by_cases h1 : v < 0
    · rw [if_pos h1] at h
      exact lv_tableOut hc.1.1 hc.1.2.1 hdg (Or.inl (by
        have := Int32.lt_iff_toInt_lt.mp h1
        exact this)) hd (kd res h H locs hP hD hS ls hl)
    · rw [if_neg h1] at h
      obtain ⟨j, hj, rfl⟩ := nI_of h1
      rw [nI_clamp hj] at h
      have ht : (nI j).toInt = (j : Int) := nI_toInt hj
      by_cases h2 : j < 22
      · obtain ⟨o, h3, h4⟩ := ho j h2
        exact lv_tableIn hc.1.1 hc.1.2.1 hdg (by rw [ht]; omega) (by rw [ht]; omega) (by rw [ht]; simpa using h3) h4 (kk j h2 res h H locs hP hD hS ls hl)
      · have : cs.getD j z = z := by
          rw [List.getD_eq_getElem?_getD, List.getElem?_eq_none (by omega)]; rfl
        rw [this] at h
        exact lv_tableOut hc.1.1 hc.1.2.1 hdg (Or.inr (by rw [ht]; omega)) hd (kd res h H locs hP hD hS ls hl)
end LS
section LC
variable {p : Program} {l : Launch} {e : Env} {R : Room} {s : State} {m : MethodId} {args : Array Value} {below : List Frame} {meth : Method} {c : Code} {D : va_G} {cI cZ cO cJ : ClassId} {a : Nat → Nat} {tF : Nat} {A : Nat → Prop} {cc : ByteArray} {nL : Nat} {own : String} {Ts : List Cond} {cells slots : Nat} {α : Type} {Q : α → State → Prop} {pc : Nat} {lv : List (Nat × Value)} {rest : List Value} {Z : St}
theorem g_lW (hc : CT p s m args c cc nL own Ts D (tyY cI cZ cO cJ)) (hE : EvY tF A s) (hA : A = AA 90 a s.heap.size) {y0 : Option (Int32 × St)} {f : Int32 → St → Option α} {st As : List Value} {y : MethodName} {ws : List Cond} {rm : Room} {index n maxL : Nat} {bytes : ByteArray} {ret : Option FieldType} {hh : List (Nat × Nat × Nat × Nat)} (hM : ∀ q, y0 = some q → Kw l y ws rm D (tyY cI cZ cO cJ) 73 a (cY cI cZ cO cJ a) (EvY tF) As Z q) (cw : vx_CSW R s args own index y bytes maxL ret hh ws rm rm.cells rm.slots n) (hn : As.length = n) (hst : st = As.reverse ++ rest) (hcat : (rest.map fun v => v.category).sum ≤ 8) (hdg : decode cc pc = .ok (.invokestatic index, 3)) (hf : cells + rm.cells ≤ R.cells ∧ slots + rm.slots ≤ R.slots) (kk : ∀ (r : Int32) (S2 : St), GF p l e R s m args below meth c D 90 a (cL cI cZ cO cJ a) A nL (cells + rm.cells) (slots + rm.slots) Q (f r S2) (pc + 3) lv (.int r :: rest) S2) : GF p l e R s m args below meth c D 90 a (cL cI cZ cO cJ a) A nL cells slots Q (cg y0 (glW Z) f) pc lv st Z :=
  g_subi (o := 0) (N' := 73) (a' := a) (C' := cY cI cZ cO cJ a) (S' := Z) (tys' := tyY cI cZ cO cJ) hA (by decide) (fun j _ => by rw [Nat.zero_add]) (fun j hj => by rw [Nat.zero_add, cL_Y hj]) (fun S2 j hj => by rw [Nat.zero_add, cL_Y hj]; exact locY _ _ j (if_pos hj)) (fun S2 k hk h9 => by
    have h73 : 73 ≤ k := by omega
    exact locL _ _ k (if_neg (by omega)))
    (fun H locs ls q hP hD hS hsub hl hy => ⟨_, vx_runSW (g := F0 m pc ls st) hc.1 (hM q hy H.size) cw ⟨pw_blind trY, fun U hU hW => by
      subst hU
      exact ⟨rfl, rfl, hP, va_K.moved hW.alike hc.2, hD.weaken (fun _ _ _ _ => trivial), trY.1 A _ s U locs hE hW hS hsub⟩⟩ rfl hn hl.1 hst (lv_room (ls := ls) (rest := st) hcat) hdg hf⟩) kk
theorem g_lMi (hc : CT p s m args c cc nL own Ts D (tyY cI cZ cO cJ)) (hE : EvY tF A s) (hA : A = AA 90 a s.heap.size) {y0 : Option (Int32 × St)} {f : Int32 → St → Option α} {st As : List Value} {y : MethodName} {ws : List Cond} {rm : Room} {index n maxL : Nat} {bytes : ByteArray} {ret : Option FieldType} (hM : ∀ q, y0 = some q → Ki l y ws rm D (tyW cI cZ cO) 17 (aM a) (cM cI cZ (aM a)) EvM (.ref (aM a 0) :: As) (tM Z) q) (cw : CallW R s args own RX9 index y bytes maxL ret ws rm 0 0 n) (hn : As.length = n) (hst : st = As.reverse ++ .ref (aM a 0) :: rest) (hcat : (rest.map fun v => v.category).sum ≤ 8) (hdg : decode cc pc = .ok (.invokevirtual index, 3)) (hf : cells + 0 ≤ R.cells ∧ slots + 0 ≤ R.slots) (kk : ∀ (r : Int32) (S2 : St), GF p l e R s m args below meth c D 90 a (cL cI cZ cO cJ a) A nL cells slots Q (f r S2) (pc + 3) lv (.int r :: rest) S2) : GF p l e R s m args below meth c D 90 a (cL cI cZ cO cJ a) A nL cells slots Q (cg y0 (glM Z) f) pc lv st Z :=
  g_subi (o := 73) (N' := 17) (mc := 0) (ms := 0) (a' := aM a) (C' := cM cI cZ (aM a)) (S' := tM Z) (tys' := tyW cI cZ cO) hA (by decide) (fun j _ => rfl) (fun j hj => cL_M.symm) (fun S2 j hj => by rw [cL_M, tM_glM]) (fun S2 k hk h9 => locL _ _ k (if_pos (by omega)))
    (fun H locs ls q hP hD hS hsub hl hy => ⟨_, va_runV (g := F0 m pc ls st) hc.1 (hM q hy H.size) cw ⟨pw_blind trM, va_recv (hc.2.sub (tys' := tyW cI cZ cO) [0, 1, 2] rfl) hP (ci := 9) (q := (RX9, TX9, 24)) (q0 := 0) rfl (by rw [wl_at (by decide)]; rfl), fun U hU hW => by
      subst hU
      exact ⟨rfl, rfl, hP, va_K.moved hW.alike (hc.2.sub (tys' := tyW cI cZ cO) [0, 1, 2] rfl), hD.weaken (fun _ _ _ _ => trivial), trivial⟩⟩ rfl hn hl.1 hst (lv_room (ls := ls) (rest := st) hcat) hdg hf⟩) kk
theorem g_lMv (hc : CT p s m args c cc nL own Ts D (tyY cI cZ cO cJ)) (hE : EvY tF A s) (hA : A = AA 90 a s.heap.size) {y0 : Option (Int32 × St)} {f : Int32 → St → Option α} {st As : List Value} {y : MethodName} {ws : List Cond} {rm : Room} {index n maxL : Nat} {bytes : ByteArray} {ret : Option FieldType} (hM : ∀ q, y0 = some q → Kv l y ws rm D (tyW cI cZ cO) 17 (aM a) (cM cI cZ (aM a)) EvM (.ref (aM a 0) :: As) (tM Z) q) (cw : CallW R s args own RX9 index y bytes maxL ret ws rm 0 0 n) (hn : As.length = n) (hst : st = As.reverse ++ .ref (aM a 0) :: rest) (hcat : (rest.map fun v => v.category).sum ≤ 8) (hdg : decode cc pc = .ok (.invokevirtual index, 3)) (hf : cells + 0 ≤ R.cells ∧ slots + 0 ≤ R.slots) (kk : ∀ (S2 : St), GF p l e R s m args below meth c D 90 a (cL cI cZ cO cJ a) A nL cells slots Q (f 0 S2) (pc + 3) lv rest S2) : GF p l e R s m args below meth c D 90 a (cL cI cZ cO cJ a) A nL cells slots Q (cg y0 (glM Z) f) pc lv st Z :=
  g_subv (o := 73) (N' := 17) (mc := 0) (ms := 0) (a' := aM a) (C' := cM cI cZ (aM a)) (S' := tM Z) (tys' := tyW cI cZ cO) hA (by decide) (fun j _ => rfl) (fun j hj => cL_M.symm) (fun S2 j hj => by rw [cL_M, tM_glM]) (fun S2 k hk h9 => locL _ _ k (if_pos (by omega)))
    (fun H locs ls q hP hD hS hsub hl hy => ⟨_, va_runV (g := F0 m pc ls st) hc.1 (hM q hy H.size) cw ⟨pw_blind trM, va_recv (hc.2.sub (tys' := tyW cI cZ cO) [0, 1, 2] rfl) hP (ci := 9) (q := (RX9, TX9, 24)) (q0 := 0) rfl (by rw [wl_at (by decide)]; rfl), fun U hU hW => by
      subst hU
      exact ⟨rfl, rfl, hP, va_K.moved hW.alike (hc.2.sub (tys' := tyW cI cZ cO) [0, 1, 2] rfl), hD.weaken (fun _ _ _ _ => trivial), trivial⟩⟩ rfl hn hl.1 hst (lv_room (ls := ls) (rest := st) hcat) hdg hf⟩) kk
theorem g_lX (hc : CT p s m args c cc nL own Ts D (tyY cI cZ cO cJ)) (hE : EvY tF A s) (hA : A = AA 90 a s.heap.size) {y0 : Option (Int32 × St)} {f : Int32 → St → Option α} {st As : List Value} {y : MethodName} {ws : List Cond} {rm : Room} {index n maxL : Nat} {bytes : ByteArray} {ret : Option FieldType} (hM : ∀ q, y0 = some q → Ki l y ws rm D (tyW cI cZ cO) 72 a (cX cI cZ cO a) (EvX tF) (.ref (a 0) :: As) Z q) (cw : CallW R s args own RX8 index y bytes maxL ret ws rm 0 0 n) (hn : As.length = n) (hst : st = As.reverse ++ .ref (a 0) :: rest) (hcat : (rest.map fun v => v.category).sum ≤ 8) (hdg : decode cc pc = .ok (.invokevirtual index, 3)) (hf : cells + 0 ≤ R.cells ∧ slots + 0 ≤ R.slots) (kk : ∀ (r : Int32) (S2 : St), GF p l e R s m args below meth c D 90 a (cL cI cZ cO cJ a) A nL cells slots Q (f r S2) (pc + 3) lv (.int r :: rest) S2) : GF p l e R s m args below meth c D 90 a (cL cI cZ cO cJ a) A nL cells slots Q (cg y0 (glX Z) f) pc lv st Z :=
  g_subi (o := 0) (N' := 72) (mc := 0) (ms := 0) (a' := a) (C' := cX cI cZ cO a) (S' := Z) (tys' := tyW cI cZ cO) hA (by decide) (fun j _ => by rw [Nat.zero_add]) (fun j hj => by rw [Nat.zero_add, cL_Y (by omega), cY_X hj]) (fun S2 j hj => by rw [Nat.zero_add, cL_Y (by omega), cY_X hj]; exact locX _ _ j (if_pos hj)) (fun S2 k hk h9 => locL _ _ k (if_neg (by omega)))
    (fun H locs ls q hP hD hS hsub hl hy => ⟨_, va_runV (g := F0 m pc ls st) hc.1 (hM q hy H.size) cw ⟨pw_blind trX, va_recv (hc.2.sub (tys' := tyW cI cZ cO) [0, 1, 2] rfl) hP (ci := 8) (q := (RX8, TX8, 9)) (q0 := 0) rfl (by rw [wl_at (by decide)]; rfl), fun U hU hW => by
      subst hU
      exact ⟨rfl, rfl, hP, va_K.moved hW.alike (hc.2.sub (tys' := tyW cI cZ cO) [0, 1, 2] rfl), hD.weaken (fun _ _ _ _ => trivial), trX.1 A _ s U locs hE.1 hW hS hsub⟩⟩ rfl hn hl.1 hst (lv_room (ls := ls) (rest := st) hcat) hdg hf⟩) kk
end LC
