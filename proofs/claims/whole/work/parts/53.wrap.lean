-- L_frame
def rL_frame : Room := { frames := 7, cells := 1, slots := 6, locals := 122 }
def uL_frame (x1 : Int32) (x2 : Int32) (S : St) : Option (Int32 × St) :=
  cy (uX8_frame x1 x2 S) (fun _ S4 => some (0, S4)) (fun E S5 => if E = "java/lang/IllegalArgumentException" then some (1, S5) else none) S
-- L_into
def rL_into : Room := { frames := 8, cells := 2, slots := 12, locals := 144 }
def uL_into (x1 : Int32) (x2 : Int32) (S : St) : Option (Int32 × St) :=
  cy (uX8_into x1 x2 S) (fun v3 S4 => ck (0 : Int32) 1 (lz (s2 S4 72 (0 : Int32).toNatClampNeg v3) (fun S6 => some (0, S6)))) (fun E S5 => if E = "java/lang/IndexOutOfBoundsException" then some (1, S5) else none) S
-- L_fold
def rL_fold : Room := { frames := 8, cells := 1, slots := 6, locals := 143 }
def bL_fold_16 (y1 : Int32) (y2 : Int32) (S : St) : Option (Int32 × St) :=
  ck y1 1 (lz (s2 S 72 y1.toNatClampNeg y2) (fun S1 => some (0, S1)))
def uL_fold (x1 : Int32) (x2 : Int32) (S : St) : Option (Int32 × St) :=
  cy (uX8_fold x1 x2 S) (fun v3 S4 => if v3 = 0 then bL_fold_16 0 0 S4 else bL_fold_16 0 1 S4) (fun E S5 => if E = "java/lang/IndexOutOfBoundsException" then some (1, S5) else none) S
-- L_table
def rL_table : Room := { frames := 8, cells := 3, slots := 18, locals := 144 }
def uL_table (x1 : Int32) (x2 : Int32) (x3 : Int32) (S : St) : Option (Int32 × St) :=
  cy (uX8_table x1 x2 x3 S) (fun v3 S4 => ck (0 : Int32) 1 (lz (s2 S4 72 (0 : Int32).toNatClampNeg v3) (fun S6 => some (0, S6)))) (fun E S5 => if E = "java/lang/IndexOutOfBoundsException" then some (1, S5) else if E = "java/lang/IllegalArgumentException" then some (2, S5) else none) S
-- L_vat
def rL_vat : Room := { frames := 8, cells := 1, slots := 6, locals := 142 }
def uL_vat (x1 : Int32) (x2 : Int32) (S : St) : Option (Int32 × St) :=
  cy (uX8_vat x1 x2 S) (fun v3 S4 => ck (0 : Int32) 1 (lz (s2 S4 72 (0 : Int32).toNatClampNeg v3) (fun S6 => some (0, S6)))) (fun E S5 => if E = "java/lang/IndexOutOfBoundsException" then some (1, S5) else none) S
-- L_tie
def rL_tie : Room := { frames := 9, cells := 4, slots := 24, locals := 167 }
def uL_tie (x1 : Int32) (x2 : Int32) (x3 : Int32) (S : St) : Option (Int32 × St) :=
  cy (uX8_tie x1 x2 x3 S) (fun v3 S4 => ck (0 : Int32) 1 (lz (s2 S4 72 (0 : Int32).toNatClampNeg v3) (fun S6 => some (0, S6)))) (fun E S5 => if E = "java/lang/IndexOutOfBoundsException" then some (1, S5) else if E = "java/lang/IllegalArgumentException" then some (2, S5) else none) S
-- L_untie
def rL_untie : Room := { frames := 9, cells := 4, slots := 24, locals := 167 }
def uL_untie (x1 : Int32) (x2 : Int32) (x3 : Int32) (S : St) : Option (Int32 × St) :=
  cy (uX8_untie x1 x2 x3 S) (fun v3 S4 => ck (0 : Int32) 1 (lz (s2 S4 72 (0 : Int32).toNatClampNeg v3) (fun S6 => some (0, S6)))) (fun E S5 => if E = "java/lang/IndexOutOfBoundsException" then some (1, S5) else if E = "java/lang/IllegalArgumentException" then some (2, S5) else none) S
-- L_bath
def rL_bath : Room := { frames := 8, cells := 1, slots := 6, locals := 142 }
def uL_bath (x1 : Int32) (S : St) : Option (Int32 × St) :=
  cy (uX8_bath x1 S) (fun v3 S4 => ck (0 : Int32) 1 (lz (s2 S4 72 (0 : Int32).toNatClampNeg v3) (fun S6 => some (0, S6)))) (fun E S5 => if E = "java/lang/IndexOutOfBoundsException" then some (1, S5) else none) S
-- L_colour
def rL_colour : Room := { frames := 8, cells := 2, slots := 12, locals := 143 }
def uL_colour (x1 : Int32) (x2 : Int32) (S : St) : Option (Int32 × St) :=
  cy (uX8_colour x1 x2 S) (fun v3 S4 => ck (0 : Int32) 1 (lz (s2 S4 72 (0 : Int32).toNatClampNeg v3) (fun S6 => some (0, S6)))) (fun E S5 => if E = "java/lang/IndexOutOfBoundsException" then some (1, S5) else none) S
-- L_bound
def rL_bound : Room := { frames := 8, cells := 2, slots := 12, locals := 143 }
def bL_bound_16 (y1 : Int32) (y2 : Int32) (S : St) : Option (Int32 × St) :=
  ck y1 1 (lz (s2 S 72 y1.toNatClampNeg y2) (fun S1 => some (0, S1)))
def uL_bound (x1 : Int32) (x2 : Int32) (S : St) : Option (Int32 × St) :=
  cy (uX8_bound x1 x2 S) (fun v3 S4 => if v3 = 0 then bL_bound_16 0 0 S4 else bL_bound_16 0 1 S4) (fun E S5 => if E = "java/lang/IndexOutOfBoundsException" then some (1, S5) else none) S
-- L_want
def rL_want : Room := { frames := 8, cells := 3, slots := 18, locals := 145 }
def uL_want (x1 : Int32) (x2 : Int32) (x3 : Int32) (S : St) : Option (Int32 × St) :=
  cy (uX8_want x1 x2 x3 S) (fun v3 S4 => ck (0 : Int32) 1 (lz (s2 S4 72 (0 : Int32).toNatClampNeg v3) (fun S6 => some (0, S6)))) (fun E S5 => if E = "java/lang/IndexOutOfBoundsException" then some (1, S5) else if E = "java/lang/IllegalArgumentException" then some (2, S5) else none) S
-- L_plan
def rL_plan : Room := { frames := 7, cells := 1, slots := 6, locals := 121 }
def uL_plan (x1 : Int32) (S : St) : Option (Int32 × St) :=
  cy (uX8_plan x1 S) (fun v3 S4 => ck (0 : Int32) 1 (lz (s2 S4 72 (0 : Int32).toNatClampNeg v3) (fun S6 => some (0, S6)))) (fun E S5 => if E = "java/lang/IllegalArgumentException" then some (1, S5) else none) S
-- L_best
def rL_best : Room := { frames := 7, cells := 1, slots := 6, locals := 144 }
def uL_best (x1 : Int32) (S : St) : Option (Int32 × St) :=
  cy (uX8_best x1 S) (fun v3 S4 => ck (0 : Int32) 1 (lz (s2 S4 72 (0 : Int32).toNatClampNeg v3) (fun S6 => some (0, S6)))) (fun E S5 => if E = "java/lang/IllegalArgumentException" then some (1, S5) else none) S
-- L_kept
def rL_kept : Room := { frames := 7, cells := 1, slots := 6, locals := 121 }
def uL_kept (x1 : Int32) (S : St) : Option (Int32 × St) :=
  cy (uX8_kept x1 S) (fun v3 S4 => ck (0 : Int32) 1 (lz (s2 S4 72 (0 : Int32).toNatClampNeg v3) (fun S6 => some (0, S6)))) (fun E S5 => if E = "java/util/NoSuchElementException" then some (1, S5) else none) S
-- L_bits
def rL_bits : Room := { frames := 8, cells := 2, slots := 12, locals := 143 }
def uL_bits (x1 : Int32) (x2 : Int32) (S : St) : Option (Int32 × St) :=
  cy (uX8_bits x1 x2 S) (fun v3 S4 => ck (0 : Int32) 1 (lz (s2 S4 72 (0 : Int32).toNatClampNeg v3) (fun S6 => some (0, S6)))) (fun E S5 => if E = "java/lang/IndexOutOfBoundsException" then some (1, S5) else none) S
-- L_slip
def rL_slip : Room := { frames := 8, cells := 2, slots := 12, locals := 144 }
def uL_slip (x1 : Int32) (x2 : Int32) (x3 : Int32) (S : St) : Option (Int32 × St) :=
  cy (uX8_slip x1 x2 x3 S) (fun _ S4 => some (0, S4)) (fun E S5 => if E = "java/lang/IndexOutOfBoundsException" then some (1, S5) else if E = "java/lang/IllegalArgumentException" then some (2, S5) else none) S
-- L_seen
def rL_seen : Room := { frames := 8, cells := 2, slots := 12, locals := 143 }
def uL_seen (x1 : Int32) (x2 : Int32) (S : St) : Option (Int32 × St) :=
  cy (uX8_seen x1 x2 S) (fun v3 S4 => ck (0 : Int32) 1 (lz (s2 S4 72 (0 : Int32).toNatClampNeg v3) (fun S6 => some (0, S6)))) (fun E S5 => if E = "java/lang/IndexOutOfBoundsException" then some (1, S5) else none) S
-- L_rank
def rL_rank : Room := { frames := 7, cells := 1, slots := 6, locals := 124 }
def uL_rank (x1 : Int32) (S : St) : Option (Int32 × St) :=
  cy (uX8_rank x1 S) (fun v3 S4 => ck (0 : Int32) 1 (lz (s2 S4 72 (0 : Int32).toNatClampNeg v3) (fun S6 => some (0, S6)))) (fun E S5 => if E = "java/lang/IllegalArgumentException" then some (1, S5) else none) S
-- L_count
def rL_count : Room := { frames := 7, cells := 1, slots := 6, locals := 121 }
def uL_count (x1 : Int32) (S : St) : Option (Int32 × St) :=
  cy (uX8_count x1 S) (fun v3 S4 => ck (0 : Int32) 1 (lz (s2 S4 72 (0 : Int32).toNatClampNeg v3) (fun S6 => some (0, S6)))) (fun E S5 => if E = "java/util/NoSuchElementException" then some (1, S5) else none) S
section
variable {N : Nat} {C : St → Nat → va_E} {Ev : (Nat → Prop) → State → Prop} {tys : List (ClassId × FieldType)} {l : Launch} {D : va_G} {cI cZ cO cJ : ClassId} {a : Nat → Nat} {tF : Nat}
set_option maxHeartbeats 4000000 in
set_option maxRecDepth 100000 in
theorem mL_frame (hst : l.stackTraces = false) (x1 : Int32) (x2 : Int32) (S : St) : ∀ q, uL_frame x1 x2 S = some q → Kw l yL_frame wsL_frame rL_frame D (tyY cI cZ cO cJ) 73 a (cY cI cZ cO cJ a) (EvY tF) [.ref (a 0), .int x1, .int x2] S q := by
  refine m_Kw (cc := cL_frame) (nL := 4) (ret := (some .int)) (lv := [(0, .ref (a 0)), (1, .int x1), (2, .int x2)]) (by decide) rfl (Nat.le_of_ble_eq_true rfl) rfl ?_
  intro p e s m args below meth c hc hr hlk htab hE
  unfold uL_frame
  refine g_aload_n (j := 0) hc dL_frame_0 rfl rfl ?_
  refine g_iload_n (j := 1) hc dL_frame_1 rfl rfl ?_
  refine g_iload_n (j := 2) hc dL_frame_2 rfl rfl ?_
  refine g_ccv (As := [.int x1, .int x2]) (rest := []) hc hE rfl (fun _ h => mX8_frame hst x1 x2 S _ h) (cwV 2 hc.1.2.2.2.2 gL_frame_X8_frame rfl rfl rfl (by decide +kernel) ⟨by decide, by decide⟩) rfl rfl (Nat.le_of_ble_eq_true rfl) dL_frame_3 ⟨by decide, by decide⟩ (fun E S5 => ?_) (fun S4 => ?_)
  · refine g_xwid (k := 1) (n := 6) (by decide) (by decide) ?_
    refine g_xif ?_ ?_
    · refine g_catch hc [] ⟨0, 6, 9, 13⟩ [] htab (fun z hz => absurd hz List.not_mem_nil) (by decide) (by decide) (List.mem_of_getElem? (i := 1) rfl) (hE.1.2.2.2.2.2.2.1 _ (by decide +kernel)) (fun q9 => ?_)
      refine g_astore_n (lv' := [(3, .ref q9), (0, .ref (a 0)), (1, .int x1), (2, .int x2)]) hc dL_frame_9 rfl (by decide) rfl ?_
      refine g_iconst (v := 1) hc dL_frame_10 (by decide) ?_
      exact g_wret hc hr hlk (by decide) (by decide) dL_frame_11
    · exact g_xnone
  · refine g_wid (k := 1) (n := 6) (by decide) (by decide) ?_
    refine g_goto (tgt := 12) hc dL_frame_6 (by decide) ?_
    refine g_iconst (v := 0) hc dL_frame_12 (by decide) ?_
    exact g_wret hc hr hlk (by decide) (by decide) dL_frame_13
set_option maxHeartbeats 4000000 in
set_option maxRecDepth 100000 in
theorem mL_into (hst : l.stackTraces = false) (x1 : Int32) (x2 : Int32) (S : St) : ∀ q, uL_into x1 x2 S = some q → Kw l yL_into wsL_into rL_into D (tyY cI cZ cO cJ) 73 a (cY cI cZ cO cJ a) (EvY tF) [.ref (a 0), .int x1, .int x2, .ref (a 72)] S q := by
  refine m_Kw (cc := cL_into) (nL := 5) (ret := (some .int)) (lv := [(0, .ref (a 0)), (1, .int x1), (2, .int x2), (3, .ref (a 72))]) (by decide) rfl (Nat.le_of_ble_eq_true rfl) rfl ?_
  intro p e s m args below meth c hc hr hlk htab hE
  unfold uL_into
  refine g_aload_n (j := 3) hc dL_into_0 rfl rfl ?_
  refine g_iconst (v := 0) hc dL_into_1 (by decide) ?_
  refine g_aload_n (j := 0) hc dL_into_2 rfl rfl ?_
  refine g_iload_n (j := 1) hc dL_into_3 rfl rfl ?_
  refine g_iload_n (j := 2) hc dL_into_4 rfl rfl ?_
  refine g_cci (As := [.int x1, .int x2]) (rest := [.int 0, .ref (a 72)]) hc hE rfl (fun _ h => mX8_into hst x1 x2 S _ h) (cwV 2 hc.1.2.2.2.2 gL_into_X8_into rfl rfl rfl (by decide +kernel) ⟨by decide, by decide⟩) rfl rfl (Nat.le_of_ble_eq_true rfl) dL_into_5 ⟨by decide, by decide⟩ (fun E S5 => ?_) (fun v3 S4 => ?_)
  · refine g_xwid (k := 2) (n := 12) (by decide) (by decide) ?_
    refine g_xif ?_ ?_
    · refine g_catch hc [] ⟨0, 10, 13, 19⟩ [] htab (fun z hz => absurd hz List.not_mem_nil) (by decide) (by decide) (List.mem_of_getElem? (i := 1) rfl) (hE.1.2.2.2.2.2.2.1 _ (by decide +kernel)) (fun q9 => ?_)
      refine g_astore (lv' := [(4, .ref q9), (0, .ref (a 0)), (1, .int x1), (2, .int x2), (3, .ref (a 72))]) hc dL_into_13 (by decide) rfl ?_
      refine g_iconst (v := 1) hc dL_into_15 (by decide) ?_
      exact g_wret hc hr hlk (by decide) (by decide) dL_into_16
    · exact g_xnone
  · refine g_wid (k := 2) (n := 12) (by decide) (by decide) ?_
    refine g_i2l hc dL_into_8 ?_
    refine g_lastore (k := 72) (t0 := 3) hc locY (by decide) (fun _ => rfl) rfl dL_into_9 (fun S6 => ?_)
    refine g_goto (tgt := 17) hc dL_into_10 (by decide) ?_
    refine g_iconst (v := 0) hc dL_into_17 (by decide) ?_
    exact g_wret hc hr hlk (by decide) (by decide) dL_into_18
set_option maxHeartbeats 4000000 in
set_option maxRecDepth 100000 in
theorem tL_fold_16 {p : Program} {e : Env} {s : State} {m : MethodId} {args : Array Value} {below : List Frame} {meth : Method} {c : Code} (hst : l.stackTraces = false) (hc : CT p s m args c cL_fold 5 RL wsL_fold D (tyY cI cZ cO cJ)) (hr : meth.sig.returnType = (some .int)) (hlk : meth.locks = false) (htab : c.exceptionTable.toList = tableOf [(0, 17, 20, 19)]) (hE : EvY tF (AA 73 a s.heap.size) s) (y1 : Int32) (y2 : Int32) (S : St) : GF p l e rL_fold s m args below meth c D 73 a (cY cI cZ cO cJ a) (AA 73 a s.heap.size) 5 1 6 (fun res => MQ below (va_Qi (fun r u => (r, u) = res) (Bw D (tyY cI cZ cO cJ) 73 a (cY cI cZ cO cJ a) (AA 73 a s.heap.size)) (AA 73 a s.heap.size)) args s rL_fold.cells rL_fold.slots (AA 73 a s.heap.size)) (bL_fold_16 y1 y2 S) 16 [] [.long y2.toInt64, .int y1, .ref (a 72)] S := by
  unfold bL_fold_16
  refine g_lastore (k := 72) (t0 := 3) hc locY (by decide) (fun _ => rfl) rfl dL_fold_16 (fun S1 => ?_)
  refine g_goto (tgt := 24) hc dL_fold_17 (by decide) ?_
  refine g_iconst (v := 0) hc dL_fold_24 (by decide) ?_
  exact g_wret hc hr hlk (by decide) (by decide) dL_fold_25
set_option maxHeartbeats 4000000 in
set_option maxRecDepth 100000 in
theorem mL_fold (hst : l.stackTraces = false) (x1 : Int32) (x2 : Int32) (S : St) : ∀ q, uL_fold x1 x2 S = some q → Kw l yL_fold wsL_fold rL_fold D (tyY cI cZ cO cJ) 73 a (cY cI cZ cO cJ a) (EvY tF) [.ref (a 0), .int x1, .int x2, .ref (a 72)] S q := by
  refine m_Kw (cc := cL_fold) (nL := 5) (ret := (some .int)) (lv := [(0, .ref (a 0)), (1, .int x1), (2, .int x2), (3, .ref (a 72))]) (by decide) rfl (Nat.le_of_ble_eq_true rfl) rfl ?_
  intro p e s m args below meth c hc hr hlk htab hE
  unfold uL_fold
  refine g_aload_n (j := 3) hc dL_fold_0 rfl rfl ?_
  refine g_iconst (v := 0) hc dL_fold_1 (by decide) ?_
  refine g_aload_n (j := 0) hc dL_fold_2 rfl rfl ?_
  refine g_iload_n (j := 1) hc dL_fold_3 rfl rfl ?_
  refine g_iload_n (j := 2) hc dL_fold_4 rfl rfl ?_
  refine g_cci (As := [.int x1, .int x2]) (rest := [.int 0, .ref (a 72)]) hc hE rfl (fun _ h => mX8_fold hst x1 x2 S _ h) (cwV 2 hc.1.2.2.2.2 gL_fold_X8_fold rfl rfl rfl (by decide +kernel) ⟨by decide, by decide⟩) rfl rfl (Nat.le_of_ble_eq_true rfl) dL_fold_5 ⟨by decide, by decide⟩ (fun E S5 => ?_) (fun v3 S4 => ?_)
  · refine g_xwid (k := 1) (n := 6) (by decide) (by decide) ?_
    refine g_xif ?_ ?_
    · refine g_catch hc [] ⟨0, 17, 20, 19⟩ [] htab (fun z hz => absurd hz List.not_mem_nil) (by decide) (by decide) (List.mem_of_getElem? (i := 1) rfl) (hE.1.2.2.2.2.2.2.1 _ (by decide +kernel)) (fun q9 => ?_)
      refine g_astore (lv' := [(4, .ref q9), (0, .ref (a 0)), (1, .int x1), (2, .int x2), (3, .ref (a 72))]) hc dL_fold_20 (by decide) rfl ?_
      refine g_iconst (v := 1) hc dL_fold_22 (by decide) ?_
      exact g_wret hc hr hlk (by decide) (by decide) dL_fold_23
    · exact g_xnone
  · refine g_wid (k := 1) (n := 6) (by decide) (by decide) ?_
    refine g_if_eq (tgt := 15) hc dL_fold_8 (by decide) ?_ ?_
    · refine g_lconst (v := 0) hc dL_fold_15 (by decide) ?_
      refine g_lv [] rfl ?_
      exact tL_fold_16 hst hc hr hlk htab hE 0 0 S4
    · refine g_lconst (v := 1) hc dL_fold_11 (by decide) ?_
      refine g_goto (tgt := 16) hc dL_fold_12 (by decide) ?_
      refine g_lv [] rfl ?_
      exact tL_fold_16 hst hc hr hlk htab hE 0 1 S4
set_option maxHeartbeats 4000000 in
set_option maxRecDepth 100000 in
theorem mL_table (hst : l.stackTraces = false) (x1 : Int32) (x2 : Int32) (x3 : Int32) (S : St) : ∀ q, uL_table x1 x2 x3 S = some q → Kw l yL_table wsL_table rL_table D (tyY cI cZ cO cJ) 73 a (cY cI cZ cO cJ a) (EvY tF) [.ref (a 0), .int x1, .int x2, .int x3, .ref (a 72)] S q := by
  refine m_Kw (cc := cL_table) (nL := 6) (ret := (some .int)) (lv := [(0, .ref (a 0)), (1, .int x1), (2, .int x2), (3, .int x3), (4, .ref (a 72))]) (by decide) rfl (Nat.le_of_ble_eq_true rfl) rfl ?_
  intro p e s m args below meth c hc hr hlk htab hE
  unfold uL_table
  refine g_aload (j := 4) hc dL_table_0 rfl ?_
  refine g_iconst (v := 0) hc dL_table_2 (by decide) ?_
  refine g_aload_n (j := 0) hc dL_table_3 rfl rfl ?_
  refine g_iload_n (j := 1) hc dL_table_4 rfl rfl ?_
  refine g_iload_n (j := 2) hc dL_table_5 rfl rfl ?_
  refine g_iload_n (j := 3) hc dL_table_6 rfl rfl ?_
  refine g_cci (As := [.int x1, .int x2, .int x3]) (rest := [.int 0, .ref (a 72)]) hc hE rfl (fun _ h => mX8_table hst x1 x2 x3 S _ h) (cwV 3 hc.1.2.2.2.2 gL_table_X8_table rfl rfl rfl (by decide +kernel) ⟨by decide, by decide⟩) rfl rfl (Nat.le_of_ble_eq_true rfl) dL_table_7 ⟨by decide, by decide⟩ (fun E S5 => ?_) (fun v3 S4 => ?_)
  · refine g_xwid (k := 3) (n := 18) (by decide) (by decide) ?_
    refine g_xif ?_ ?_
    · refine g_catch hc [] ⟨0, 12, 15, 19⟩ [⟨0, 12, 19, 13⟩] htab (fun z hz => absurd hz List.not_mem_nil) (by decide) (by decide) (List.mem_of_getElem? (i := 1) rfl) (hE.1.2.2.2.2.2.2.1 _ (by decide +kernel)) (fun q9 => ?_)
      refine g_astore (lv' := [(5, .ref q9), (0, .ref (a 0)), (1, .int x1), (2, .int x2), (3, .int x3), (4, .ref (a 72))]) hc dL_table_15 (by decide) rfl ?_
      refine g_iconst (v := 1) hc dL_table_17 (by decide) ?_
      exact g_wret hc hr hlk (by decide) (by decide) dL_table_18
    · refine g_xif ?_ ?_
      · refine g_catch hc [⟨0, 12, 15, 19⟩] ⟨0, 12, 19, 13⟩ [] htab (fun z hz => Or.inr (by rw [List.mem_singleton.mp hz]; exact ⟨by decide, _, hc.1.2.2.2.2 _ (List.mem_of_getElem? (i := 1) rfl), hE.2⟩)) (by decide) (by decide) (List.mem_of_getElem? (i := 2) rfl) (hE.1.2.2.2.2.2.2.1 _ (by decide +kernel)) (fun q9 => ?_)
        refine g_astore (lv' := [(5, .ref q9), (0, .ref (a 0)), (1, .int x1), (2, .int x2), (3, .int x3), (4, .ref (a 72))]) hc dL_table_19 (by decide) rfl ?_
        refine g_iconst (v := 2) hc dL_table_21 (by decide) ?_
        exact g_wret hc hr hlk (by decide) (by decide) dL_table_22
      · exact g_xnone
  · refine g_wid (k := 3) (n := 18) (by decide) (by decide) ?_
    refine g_i2l hc dL_table_10 ?_
    refine g_lastore (k := 72) (t0 := 3) hc locY (by decide) (fun _ => rfl) rfl dL_table_11 (fun S6 => ?_)
    refine g_goto (tgt := 23) hc dL_table_12 (by decide) ?_
    refine g_iconst (v := 0) hc dL_table_23 (by decide) ?_
    exact g_wret hc hr hlk (by decide) (by decide) dL_table_24
set_option maxHeartbeats 4000000 in
set_option maxRecDepth 100000 in
theorem mL_vat (hst : l.stackTraces = false) (x1 : Int32) (x2 : Int32) (S : St) : ∀ q, uL_vat x1 x2 S = some q → Kw l yL_vat wsL_vat rL_vat D (tyY cI cZ cO cJ) 73 a (cY cI cZ cO cJ a) (EvY tF) [.ref (a 0), .int x1, .int x2, .ref (a 72)] S q := by
  refine m_Kw (cc := cL_vat) (nL := 5) (ret := (some .int)) (lv := [(0, .ref (a 0)), (1, .int x1), (2, .int x2), (3, .ref (a 72))]) (by decide) rfl (Nat.le_of_ble_eq_true rfl) rfl ?_
  intro p e s m args below meth c hc hr hlk htab hE
  unfold uL_vat
  refine g_aload_n (j := 3) hc dL_vat_0 rfl rfl ?_
  refine g_iconst (v := 0) hc dL_vat_1 (by decide) ?_
  refine g_aload_n (j := 0) hc dL_vat_2 rfl rfl ?_
  refine g_iload_n (j := 1) hc dL_vat_3 rfl rfl ?_
  refine g_iload_n (j := 2) hc dL_vat_4 rfl rfl ?_
  refine g_cci (As := [.int x1, .int x2]) (rest := [.int 0, .ref (a 72)]) hc hE rfl (fun _ h => mX8_vat hst x1 x2 S _ h) (cwV 2 hc.1.2.2.2.2 gL_vat_X8_vat rfl rfl rfl (by decide +kernel) ⟨by decide, by decide⟩) rfl rfl (Nat.le_of_ble_eq_true rfl) dL_vat_5 ⟨by decide, by decide⟩ (fun E S5 => ?_) (fun v3 S4 => ?_)
  · refine g_xwid (k := 1) (n := 6) (by decide) (by decide) ?_
    refine g_xif ?_ ?_
    · refine g_catch hc [] ⟨0, 10, 13, 19⟩ [] htab (fun z hz => absurd hz List.not_mem_nil) (by decide) (by decide) (List.mem_of_getElem? (i := 1) rfl) (hE.1.2.2.2.2.2.2.1 _ (by decide +kernel)) (fun q9 => ?_)
      refine g_astore (lv' := [(4, .ref q9), (0, .ref (a 0)), (1, .int x1), (2, .int x2), (3, .ref (a 72))]) hc dL_vat_13 (by decide) rfl ?_
      refine g_iconst (v := 1) hc dL_vat_15 (by decide) ?_
      exact g_wret hc hr hlk (by decide) (by decide) dL_vat_16
    · exact g_xnone
  · refine g_wid (k := 1) (n := 6) (by decide) (by decide) ?_
    refine g_i2l hc dL_vat_8 ?_
    refine g_lastore (k := 72) (t0 := 3) hc locY (by decide) (fun _ => rfl) rfl dL_vat_9 (fun S6 => ?_)
    refine g_goto (tgt := 17) hc dL_vat_10 (by decide) ?_
    refine g_iconst (v := 0) hc dL_vat_17 (by decide) ?_
    exact g_wret hc hr hlk (by decide) (by decide) dL_vat_18
set_option maxHeartbeats 4000000 in
set_option maxRecDepth 100000 in
theorem mL_tie (hst : l.stackTraces = false) (x1 : Int32) (x2 : Int32) (x3 : Int32) (S : St) : ∀ q, uL_tie x1 x2 x3 S = some q → Kw l yL_tie wsL_tie rL_tie D (tyY cI cZ cO cJ) 73 a (cY cI cZ cO cJ a) (EvY tF) [.ref (a 0), .int x1, .int x2, .int x3, .ref (a 72)] S q := by
  refine m_Kw (cc := cL_tie) (nL := 6) (ret := (some .int)) (lv := [(0, .ref (a 0)), (1, .int x1), (2, .int x2), (3, .int x3), (4, .ref (a 72))]) (by decide) rfl (Nat.le_of_ble_eq_true rfl) rfl ?_
  intro p e s m args below meth c hc hr hlk htab hE
  unfold uL_tie
  refine g_aload (j := 4) hc dL_tie_0 rfl ?_
  refine g_iconst (v := 0) hc dL_tie_2 (by decide) ?_
  refine g_aload_n (j := 0) hc dL_tie_3 rfl rfl ?_
  refine g_iload_n (j := 1) hc dL_tie_4 rfl rfl ?_
  refine g_iload_n (j := 2) hc dL_tie_5 rfl rfl ?_
  refine g_iload_n (j := 3) hc dL_tie_6 rfl rfl ?_
  refine g_cci (As := [.int x1, .int x2, .int x3]) (rest := [.int 0, .ref (a 72)]) hc hE rfl (fun _ h => mX8_tie hst x1 x2 x3 S _ h) (cwV 3 hc.1.2.2.2.2 gL_tie_X8_tie rfl rfl rfl (by decide +kernel) ⟨by decide, by decide⟩) rfl rfl (Nat.le_of_ble_eq_true rfl) dL_tie_7 ⟨by decide, by decide⟩ (fun E S5 => ?_) (fun v3 S4 => ?_)
  · refine g_xwid (k := 4) (n := 24) (by decide) (by decide) ?_
    refine g_xif ?_ ?_
    · refine g_catch hc [] ⟨0, 12, 15, 19⟩ [⟨0, 12, 19, 13⟩] htab (fun z hz => absurd hz List.not_mem_nil) (by decide) (by decide) (List.mem_of_getElem? (i := 1) rfl) (hE.1.2.2.2.2.2.2.1 _ (by decide +kernel)) (fun q9 => ?_)
      refine g_astore (lv' := [(5, .ref q9), (0, .ref (a 0)), (1, .int x1), (2, .int x2), (3, .int x3), (4, .ref (a 72))]) hc dL_tie_15 (by decide) rfl ?_
      refine g_iconst (v := 1) hc dL_tie_17 (by decide) ?_
      exact g_wret hc hr hlk (by decide) (by decide) dL_tie_18
    · refine g_xif ?_ ?_
      · refine g_catch hc [⟨0, 12, 15, 19⟩] ⟨0, 12, 19, 13⟩ [] htab (fun z hz => Or.inr (by rw [List.mem_singleton.mp hz]; exact ⟨by decide, _, hc.1.2.2.2.2 _ (List.mem_of_getElem? (i := 1) rfl), hE.2⟩)) (by decide) (by decide) (List.mem_of_getElem? (i := 2) rfl) (hE.1.2.2.2.2.2.2.1 _ (by decide +kernel)) (fun q9 => ?_)
        refine g_astore (lv' := [(5, .ref q9), (0, .ref (a 0)), (1, .int x1), (2, .int x2), (3, .int x3), (4, .ref (a 72))]) hc dL_tie_19 (by decide) rfl ?_
        refine g_iconst (v := 2) hc dL_tie_21 (by decide) ?_
        exact g_wret hc hr hlk (by decide) (by decide) dL_tie_22
      · exact g_xnone
  · refine g_wid (k := 4) (n := 24) (by decide) (by decide) ?_
    refine g_i2l hc dL_tie_10 ?_
    refine g_lastore (k := 72) (t0 := 3) hc locY (by decide) (fun _ => rfl) rfl dL_tie_11 (fun S6 => ?_)
    refine g_goto (tgt := 23) hc dL_tie_12 (by decide) ?_
    refine g_iconst (v := 0) hc dL_tie_23 (by decide) ?_
    exact g_wret hc hr hlk (by decide) (by decide) dL_tie_24
set_option maxHeartbeats 4000000 in
set_option maxRecDepth 100000 in
theorem mL_untie (hst : l.stackTraces = false) (x1 : Int32) (x2 : Int32) (x3 : Int32) (S : St) : ∀ q, uL_untie x1 x2 x3 S = some q → Kw l yL_untie wsL_untie rL_untie D (tyY cI cZ cO cJ) 73 a (cY cI cZ cO cJ a) (EvY tF) [.ref (a 0), .int x1, .int x2, .int x3, .ref (a 72)] S q := by
  refine m_Kw (cc := cL_untie) (nL := 6) (ret := (some .int)) (lv := [(0, .ref (a 0)), (1, .int x1), (2, .int x2), (3, .int x3), (4, .ref (a 72))]) (by decide) rfl (Nat.le_of_ble_eq_true rfl) rfl ?_
  intro p e s m args below meth c hc hr hlk htab hE
  unfold uL_untie
  refine g_aload (j := 4) hc dL_untie_0 rfl ?_
  refine g_iconst (v := 0) hc dL_untie_2 (by decide) ?_
  refine g_aload_n (j := 0) hc dL_untie_3 rfl rfl ?_
  refine g_iload_n (j := 1) hc dL_untie_4 rfl rfl ?_
  refine g_iload_n (j := 2) hc dL_untie_5 rfl rfl ?_
  refine g_iload_n (j := 3) hc dL_untie_6 rfl rfl ?_
  refine g_cci (As := [.int x1, .int x2, .int x3]) (rest := [.int 0, .ref (a 72)]) hc hE rfl (fun _ h => mX8_untie hst x1 x2 x3 S _ h) (cwV 3 hc.1.2.2.2.2 gL_untie_X8_untie rfl rfl rfl (by decide +kernel) ⟨by decide, by decide⟩) rfl rfl (Nat.le_of_ble_eq_true rfl) dL_untie_7 ⟨by decide, by decide⟩ (fun E S5 => ?_) (fun v3 S4 => ?_)
  · refine g_xwid (k := 4) (n := 24) (by decide) (by decide) ?_
    refine g_xif ?_ ?_
    · refine g_catch hc [] ⟨0, 12, 15, 19⟩ [⟨0, 12, 19, 13⟩] htab (fun z hz => absurd hz List.not_mem_nil) (by decide) (by decide) (List.mem_of_getElem? (i := 1) rfl) (hE.1.2.2.2.2.2.2.1 _ (by decide +kernel)) (fun q9 => ?_)
      refine g_astore (lv' := [(5, .ref q9), (0, .ref (a 0)), (1, .int x1), (2, .int x2), (3, .int x3), (4, .ref (a 72))]) hc dL_untie_15 (by decide) rfl ?_
      refine g_iconst (v := 1) hc dL_untie_17 (by decide) ?_
      exact g_wret hc hr hlk (by decide) (by decide) dL_untie_18
    · refine g_xif ?_ ?_
      · refine g_catch hc [⟨0, 12, 15, 19⟩] ⟨0, 12, 19, 13⟩ [] htab (fun z hz => Or.inr (by rw [List.mem_singleton.mp hz]; exact ⟨by decide, _, hc.1.2.2.2.2 _ (List.mem_of_getElem? (i := 1) rfl), hE.2⟩)) (by decide) (by decide) (List.mem_of_getElem? (i := 2) rfl) (hE.1.2.2.2.2.2.2.1 _ (by decide +kernel)) (fun q9 => ?_)
        refine g_astore (lv' := [(5, .ref q9), (0, .ref (a 0)), (1, .int x1), (2, .int x2), (3, .int x3), (4, .ref (a 72))]) hc dL_untie_19 (by decide) rfl ?_
        refine g_iconst (v := 2) hc dL_untie_21 (by decide) ?_
        exact g_wret hc hr hlk (by decide) (by decide) dL_untie_22
      · exact g_xnone
  · refine g_wid (k := 4) (n := 24) (by decide) (by decide) ?_
    refine g_i2l hc dL_untie_10 ?_
    refine g_lastore (k := 72) (t0 := 3) hc locY (by decide) (fun _ => rfl) rfl dL_untie_11 (fun S6 => ?_)
    refine g_goto (tgt := 23) hc dL_untie_12 (by decide) ?_
    refine g_iconst (v := 0) hc dL_untie_23 (by decide) ?_
    exact g_wret hc hr hlk (by decide) (by decide) dL_untie_24
set_option maxHeartbeats 4000000 in
set_option maxRecDepth 100000 in
theorem mL_bath (hst : l.stackTraces = false) (x1 : Int32) (S : St) : ∀ q, uL_bath x1 S = some q → Kw l yL_bath wsL_bath rL_bath D (tyY cI cZ cO cJ) 73 a (cY cI cZ cO cJ a) (EvY tF) [.ref (a 0), .int x1, .ref (a 72)] S q := by
  refine m_Kw (cc := cL_bath) (nL := 4) (ret := (some .int)) (lv := [(0, .ref (a 0)), (1, .int x1), (2, .ref (a 72))]) (by decide) rfl (Nat.le_of_ble_eq_true rfl) rfl ?_
  intro p e s m args below meth c hc hr hlk htab hE
  unfold uL_bath
  refine g_aload_n (j := 2) hc dL_bath_0 rfl rfl ?_
  refine g_iconst (v := 0) hc dL_bath_1 (by decide) ?_
  refine g_aload_n (j := 0) hc dL_bath_2 rfl rfl ?_
  refine g_iload_n (j := 1) hc dL_bath_3 rfl rfl ?_
  refine g_cci (As := [.int x1]) (rest := [.int 0, .ref (a 72)]) hc hE rfl (fun _ h => mX8_bath hst x1 S _ h) (cwV 1 hc.1.2.2.2.2 gL_bath_X8_bath rfl rfl rfl (by decide +kernel) ⟨by decide, by decide⟩) rfl rfl (Nat.le_of_ble_eq_true rfl) dL_bath_4 ⟨by decide, by decide⟩ (fun E S5 => ?_) (fun v3 S4 => ?_)
  · refine g_xwid (k := 1) (n := 6) (by decide) (by decide) ?_
    refine g_xif ?_ ?_
    · refine g_catch hc [] ⟨0, 9, 12, 19⟩ [] htab (fun z hz => absurd hz List.not_mem_nil) (by decide) (by decide) (List.mem_of_getElem? (i := 1) rfl) (hE.1.2.2.2.2.2.2.1 _ (by decide +kernel)) (fun q9 => ?_)
      refine g_astore_n (lv' := [(3, .ref q9), (0, .ref (a 0)), (1, .int x1), (2, .ref (a 72))]) hc dL_bath_12 rfl (by decide) rfl ?_
      refine g_iconst (v := 1) hc dL_bath_13 (by decide) ?_
      exact g_wret hc hr hlk (by decide) (by decide) dL_bath_14
    · exact g_xnone
  · refine g_wid (k := 1) (n := 6) (by decide) (by decide) ?_
    refine g_i2l hc dL_bath_7 ?_
    refine g_lastore (k := 72) (t0 := 3) hc locY (by decide) (fun _ => rfl) rfl dL_bath_8 (fun S6 => ?_)
    refine g_goto (tgt := 15) hc dL_bath_9 (by decide) ?_
    refine g_iconst (v := 0) hc dL_bath_15 (by decide) ?_
    exact g_wret hc hr hlk (by decide) (by decide) dL_bath_16
set_option maxHeartbeats 4000000 in
set_option maxRecDepth 100000 in
theorem mL_colour (hst : l.stackTraces = false) (x1 : Int32) (x2 : Int32) (S : St) : ∀ q, uL_colour x1 x2 S = some q → Kw l yL_colour wsL_colour rL_colour D (tyY cI cZ cO cJ) 73 a (cY cI cZ cO cJ a) (EvY tF) [.ref (a 0), .int x1, .int x2, .ref (a 72)] S q := by
  refine m_Kw (cc := cL_colour) (nL := 5) (ret := (some .int)) (lv := [(0, .ref (a 0)), (1, .int x1), (2, .int x2), (3, .ref (a 72))]) (by decide) rfl (Nat.le_of_ble_eq_true rfl) rfl ?_
  intro p e s m args below meth c hc hr hlk htab hE
  unfold uL_colour
  refine g_aload_n (j := 3) hc dL_colour_0 rfl rfl ?_
  refine g_iconst (v := 0) hc dL_colour_1 (by decide) ?_
  refine g_aload_n (j := 0) hc dL_colour_2 rfl rfl ?_
  refine g_iload_n (j := 1) hc dL_colour_3 rfl rfl ?_
  refine g_iload_n (j := 2) hc dL_colour_4 rfl rfl ?_
  refine g_cci (As := [.int x1, .int x2]) (rest := [.int 0, .ref (a 72)]) hc hE rfl (fun _ h => mX8_colour hst x1 x2 S _ h) (cwV 2 hc.1.2.2.2.2 gL_colour_X8_colour rfl rfl rfl (by decide +kernel) ⟨by decide, by decide⟩) rfl rfl (Nat.le_of_ble_eq_true rfl) dL_colour_5 ⟨by decide, by decide⟩ (fun E S5 => ?_) (fun v3 S4 => ?_)
  · refine g_xwid (k := 2) (n := 12) (by decide) (by decide) ?_
    refine g_xif ?_ ?_
    · refine g_catch hc [] ⟨0, 10, 13, 19⟩ [] htab (fun z hz => absurd hz List.not_mem_nil) (by decide) (by decide) (List.mem_of_getElem? (i := 1) rfl) (hE.1.2.2.2.2.2.2.1 _ (by decide +kernel)) (fun q9 => ?_)
      refine g_astore (lv' := [(4, .ref q9), (0, .ref (a 0)), (1, .int x1), (2, .int x2), (3, .ref (a 72))]) hc dL_colour_13 (by decide) rfl ?_
      refine g_iconst (v := 1) hc dL_colour_15 (by decide) ?_
      exact g_wret hc hr hlk (by decide) (by decide) dL_colour_16
    · exact g_xnone
  · refine g_wid (k := 2) (n := 12) (by decide) (by decide) ?_
    refine g_i2l hc dL_colour_8 ?_
    refine g_lastore (k := 72) (t0 := 3) hc locY (by decide) (fun _ => rfl) rfl dL_colour_9 (fun S6 => ?_)
    refine g_goto (tgt := 17) hc dL_colour_10 (by decide) ?_
    refine g_iconst (v := 0) hc dL_colour_17 (by decide) ?_
    exact g_wret hc hr hlk (by decide) (by decide) dL_colour_18
set_option maxHeartbeats 4000000 in
set_option maxRecDepth 100000 in
theorem tL_bound_16 {p : Program} {e : Env} {s : State} {m : MethodId} {args : Array Value} {below : List Frame} {meth : Method} {c : Code} (hst : l.stackTraces = false) (hc : CT p s m args c cL_bound 5 RL wsL_bound D (tyY cI cZ cO cJ)) (hr : meth.sig.returnType = (some .int)) (hlk : meth.locks = false) (htab : c.exceptionTable.toList = tableOf [(0, 17, 20, 19)]) (hE : EvY tF (AA 73 a s.heap.size) s) (y1 : Int32) (y2 : Int32) (S : St) : GF p l e rL_bound s m args below meth c D 73 a (cY cI cZ cO cJ a) (AA 73 a s.heap.size) 5 2 12 (fun res => MQ below (va_Qi (fun r u => (r, u) = res) (Bw D (tyY cI cZ cO cJ) 73 a (cY cI cZ cO cJ a) (AA 73 a s.heap.size)) (AA 73 a s.heap.size)) args s rL_bound.cells rL_bound.slots (AA 73 a s.heap.size)) (bL_bound_16 y1 y2 S) 16 [] [.long y2.toInt64, .int y1, .ref (a 72)] S := by
  unfold bL_bound_16
  refine g_lastore (k := 72) (t0 := 3) hc locY (by decide) (fun _ => rfl) rfl dL_bound_16 (fun S1 => ?_)
  refine g_goto (tgt := 24) hc dL_bound_17 (by decide) ?_
  refine g_iconst (v := 0) hc dL_bound_24 (by decide) ?_
  exact g_wret hc hr hlk (by decide) (by decide) dL_bound_25
set_option maxHeartbeats 4000000 in
set_option maxRecDepth 100000 in
theorem mL_bound (hst : l.stackTraces = false) (x1 : Int32) (x2 : Int32) (S : St) : ∀ q, uL_bound x1 x2 S = some q → Kw l yL_bound wsL_bound rL_bound D (tyY cI cZ cO cJ) 73 a (cY cI cZ cO cJ a) (EvY tF) [.ref (a 0), .int x1, .int x2, .ref (a 72)] S q := by
  refine m_Kw (cc := cL_bound) (nL := 5) (ret := (some .int)) (lv := [(0, .ref (a 0)), (1, .int x1), (2, .int x2), (3, .ref (a 72))]) (by decide) rfl (Nat.le_of_ble_eq_true rfl) rfl ?_
  intro p e s m args below meth c hc hr hlk htab hE
  unfold uL_bound
  refine g_aload_n (j := 3) hc dL_bound_0 rfl rfl ?_
  refine g_iconst (v := 0) hc dL_bound_1 (by decide) ?_
  refine g_aload_n (j := 0) hc dL_bound_2 rfl rfl ?_
  refine g_iload_n (j := 1) hc dL_bound_3 rfl rfl ?_
  refine g_iload_n (j := 2) hc dL_bound_4 rfl rfl ?_
  refine g_cci (As := [.int x1, .int x2]) (rest := [.int 0, .ref (a 72)]) hc hE rfl (fun _ h => mX8_bound hst x1 x2 S _ h) (cwV 2 hc.1.2.2.2.2 gL_bound_X8_bound rfl rfl rfl (by decide +kernel) ⟨by decide, by decide⟩) rfl rfl (Nat.le_of_ble_eq_true rfl) dL_bound_5 ⟨by decide, by decide⟩ (fun E S5 => ?_) (fun v3 S4 => ?_)
  · refine g_xwid (k := 2) (n := 12) (by decide) (by decide) ?_
    refine g_xif ?_ ?_
    · refine g_catch hc [] ⟨0, 17, 20, 19⟩ [] htab (fun z hz => absurd hz List.not_mem_nil) (by decide) (by decide) (List.mem_of_getElem? (i := 1) rfl) (hE.1.2.2.2.2.2.2.1 _ (by decide +kernel)) (fun q9 => ?_)
      refine g_astore (lv' := [(4, .ref q9), (0, .ref (a 0)), (1, .int x1), (2, .int x2), (3, .ref (a 72))]) hc dL_bound_20 (by decide) rfl ?_
      refine g_iconst (v := 1) hc dL_bound_22 (by decide) ?_
      exact g_wret hc hr hlk (by decide) (by decide) dL_bound_23
    · exact g_xnone
  · refine g_wid (k := 2) (n := 12) (by decide) (by decide) ?_
    refine g_if_eq (tgt := 15) hc dL_bound_8 (by decide) ?_ ?_
    · refine g_lconst (v := 0) hc dL_bound_15 (by decide) ?_
      refine g_lv [] rfl ?_
      exact tL_bound_16 hst hc hr hlk htab hE 0 0 S4
    · refine g_lconst (v := 1) hc dL_bound_11 (by decide) ?_
      refine g_goto (tgt := 16) hc dL_bound_12 (by decide) ?_
      refine g_lv [] rfl ?_
      exact tL_bound_16 hst hc hr hlk htab hE 0 1 S4
set_option maxHeartbeats 4000000 in
set_option maxRecDepth 100000 in
theorem mL_want (hst : l.stackTraces = false) (x1 : Int32) (x2 : Int32) (x3 : Int32) (S : St) : ∀ q, uL_want x1 x2 x3 S = some q → Kw l yL_want wsL_want rL_want D (tyY cI cZ cO cJ) 73 a (cY cI cZ cO cJ a) (EvY tF) [.ref (a 0), .int x1, .int x2, .int x3, .ref (a 72)] S q := by
  refine m_Kw (cc := cL_want) (nL := 6) (ret := (some .int)) (lv := [(0, .ref (a 0)), (1, .int x1), (2, .int x2), (3, .int x3), (4, .ref (a 72))]) (by decide) rfl (Nat.le_of_ble_eq_true rfl) rfl ?_
  intro p e s m args below meth c hc hr hlk htab hE
  unfold uL_want
  refine g_aload (j := 4) hc dL_want_0 rfl ?_
  refine g_iconst (v := 0) hc dL_want_2 (by decide) ?_
  refine g_aload_n (j := 0) hc dL_want_3 rfl rfl ?_
  refine g_iload_n (j := 1) hc dL_want_4 rfl rfl ?_
  refine g_iload_n (j := 2) hc dL_want_5 rfl rfl ?_
  refine g_iload_n (j := 3) hc dL_want_6 rfl rfl ?_
  refine g_cci (As := [.int x1, .int x2, .int x3]) (rest := [.int 0, .ref (a 72)]) hc hE rfl (fun _ h => mX8_want hst x1 x2 x3 S _ h) (cwV 3 hc.1.2.2.2.2 gL_want_X8_want rfl rfl rfl (by decide +kernel) ⟨by decide, by decide⟩) rfl rfl (Nat.le_of_ble_eq_true rfl) dL_want_7 ⟨by decide, by decide⟩ (fun E S5 => ?_) (fun v3 S4 => ?_)
  · refine g_xwid (k := 3) (n := 18) (by decide) (by decide) ?_
    refine g_xif ?_ ?_
    · refine g_catch hc [] ⟨0, 12, 15, 19⟩ [⟨0, 12, 19, 13⟩] htab (fun z hz => absurd hz List.not_mem_nil) (by decide) (by decide) (List.mem_of_getElem? (i := 1) rfl) (hE.1.2.2.2.2.2.2.1 _ (by decide +kernel)) (fun q9 => ?_)
      refine g_astore (lv' := [(5, .ref q9), (0, .ref (a 0)), (1, .int x1), (2, .int x2), (3, .int x3), (4, .ref (a 72))]) hc dL_want_15 (by decide) rfl ?_
      refine g_iconst (v := 1) hc dL_want_17 (by decide) ?_
      exact g_wret hc hr hlk (by decide) (by decide) dL_want_18
    · refine g_xif ?_ ?_
      · refine g_catch hc [⟨0, 12, 15, 19⟩] ⟨0, 12, 19, 13⟩ [] htab (fun z hz => Or.inr (by rw [List.mem_singleton.mp hz]; exact ⟨by decide, _, hc.1.2.2.2.2 _ (List.mem_of_getElem? (i := 1) rfl), hE.2⟩)) (by decide) (by decide) (List.mem_of_getElem? (i := 2) rfl) (hE.1.2.2.2.2.2.2.1 _ (by decide +kernel)) (fun q9 => ?_)
        refine g_astore (lv' := [(5, .ref q9), (0, .ref (a 0)), (1, .int x1), (2, .int x2), (3, .int x3), (4, .ref (a 72))]) hc dL_want_19 (by decide) rfl ?_
        refine g_iconst (v := 2) hc dL_want_21 (by decide) ?_
        exact g_wret hc hr hlk (by decide) (by decide) dL_want_22
      · exact g_xnone
  · refine g_wid (k := 3) (n := 18) (by decide) (by decide) ?_
    refine g_i2l hc dL_want_10 ?_
    refine g_lastore (k := 72) (t0 := 3) hc locY (by decide) (fun _ => rfl) rfl dL_want_11 (fun S6 => ?_)
    refine g_goto (tgt := 23) hc dL_want_12 (by decide) ?_
    refine g_iconst (v := 0) hc dL_want_23 (by decide) ?_
    exact g_wret hc hr hlk (by decide) (by decide) dL_want_24
set_option maxHeartbeats 4000000 in
set_option maxRecDepth 100000 in
theorem mL_plan (hst : l.stackTraces = false) (x1 : Int32) (S : St) : ∀ q, uL_plan x1 S = some q → Kw l yL_plan wsL_plan rL_plan D (tyY cI cZ cO cJ) 73 a (cY cI cZ cO cJ a) (EvY tF) [.ref (a 0), .int x1, .ref (a 72)] S q := by
  refine m_Kw (cc := cL_plan) (nL := 4) (ret := (some .int)) (lv := [(0, .ref (a 0)), (1, .int x1), (2, .ref (a 72))]) (by decide) rfl (Nat.le_of_ble_eq_true rfl) rfl ?_
  intro p e s m args below meth c hc hr hlk htab hE
  unfold uL_plan
  refine g_aload_n (j := 2) hc dL_plan_0 rfl rfl ?_
  refine g_iconst (v := 0) hc dL_plan_1 (by decide) ?_
  refine g_aload_n (j := 0) hc dL_plan_2 rfl rfl ?_
  refine g_iload_n (j := 1) hc dL_plan_3 rfl rfl ?_
  refine g_cci (As := [.int x1]) (rest := [.int 0, .ref (a 72)]) hc hE rfl (fun _ h => mX8_plan hst x1 S _ h) (cwV 1 hc.1.2.2.2.2 gL_plan_X8_plan rfl rfl rfl (by decide +kernel) ⟨by decide, by decide⟩) rfl rfl (Nat.le_of_ble_eq_true rfl) dL_plan_4 ⟨by decide, by decide⟩ (fun E S5 => ?_) (fun v3 S4 => ?_)
  · refine g_xwid (k := 1) (n := 6) (by decide) (by decide) ?_
    refine g_xif ?_ ?_
    · refine g_catch hc [] ⟨0, 9, 12, 13⟩ [] htab (fun z hz => absurd hz List.not_mem_nil) (by decide) (by decide) (List.mem_of_getElem? (i := 1) rfl) (hE.1.2.2.2.2.2.2.1 _ (by decide +kernel)) (fun q9 => ?_)
      refine g_astore_n (lv' := [(3, .ref q9), (0, .ref (a 0)), (1, .int x1), (2, .ref (a 72))]) hc dL_plan_12 rfl (by decide) rfl ?_
      refine g_iconst (v := 1) hc dL_plan_13 (by decide) ?_
      exact g_wret hc hr hlk (by decide) (by decide) dL_plan_14
    · exact g_xnone
  · refine g_wid (k := 1) (n := 6) (by decide) (by decide) ?_
    refine g_i2l hc dL_plan_7 ?_
    refine g_lastore (k := 72) (t0 := 3) hc locY (by decide) (fun _ => rfl) rfl dL_plan_8 (fun S6 => ?_)
    refine g_goto (tgt := 15) hc dL_plan_9 (by decide) ?_
    refine g_iconst (v := 0) hc dL_plan_15 (by decide) ?_
    exact g_wret hc hr hlk (by decide) (by decide) dL_plan_16
set_option maxHeartbeats 4000000 in
set_option maxRecDepth 100000 in
theorem mL_best (hst : l.stackTraces = false) (x1 : Int32) (S : St) : ∀ q, uL_best x1 S = some q → Kw l yL_best wsL_best rL_best D (tyY cI cZ cO cJ) 73 a (cY cI cZ cO cJ a) (EvY tF) [.ref (a 0), .int x1, .ref (a 72)] S q := by
  refine m_Kw (cc := cL_best) (nL := 4) (ret := (some .int)) (lv := [(0, .ref (a 0)), (1, .int x1), (2, .ref (a 72))]) (by decide) rfl (Nat.le_of_ble_eq_true rfl) rfl ?_
  intro p e s m args below meth c hc hr hlk htab hE
  unfold uL_best
  refine g_aload_n (j := 2) hc dL_best_0 rfl rfl ?_
  refine g_iconst (v := 0) hc dL_best_1 (by decide) ?_
  refine g_aload_n (j := 0) hc dL_best_2 rfl rfl ?_
  refine g_iload_n (j := 1) hc dL_best_3 rfl rfl ?_
  refine g_cci (As := [.int x1]) (rest := [.int 0, .ref (a 72)]) hc hE rfl (fun _ h => mX8_best hst x1 S _ h) (cwV 1 hc.1.2.2.2.2 gL_best_X8_best rfl rfl rfl (by decide +kernel) ⟨by decide, by decide⟩) rfl rfl (Nat.le_of_ble_eq_true rfl) dL_best_4 ⟨by decide, by decide⟩ (fun E S5 => ?_) (fun v3 S4 => ?_)
  · refine g_xwid (k := 1) (n := 6) (by decide) (by decide) ?_
    refine g_xif ?_ ?_
    · refine g_catch hc [] ⟨0, 9, 12, 13⟩ [] htab (fun z hz => absurd hz List.not_mem_nil) (by decide) (by decide) (List.mem_of_getElem? (i := 1) rfl) (hE.1.2.2.2.2.2.2.1 _ (by decide +kernel)) (fun q9 => ?_)
      refine g_astore_n (lv' := [(3, .ref q9), (0, .ref (a 0)), (1, .int x1), (2, .ref (a 72))]) hc dL_best_12 rfl (by decide) rfl ?_
      refine g_iconst (v := 1) hc dL_best_13 (by decide) ?_
      exact g_wret hc hr hlk (by decide) (by decide) dL_best_14
    · exact g_xnone
  · refine g_wid (k := 1) (n := 6) (by decide) (by decide) ?_
    refine g_i2l hc dL_best_7 ?_
    refine g_lastore (k := 72) (t0 := 3) hc locY (by decide) (fun _ => rfl) rfl dL_best_8 (fun S6 => ?_)
    refine g_goto (tgt := 15) hc dL_best_9 (by decide) ?_
    refine g_iconst (v := 0) hc dL_best_15 (by decide) ?_
    exact g_wret hc hr hlk (by decide) (by decide) dL_best_16
set_option maxHeartbeats 4000000 in
set_option maxRecDepth 100000 in
theorem mL_kept (hst : l.stackTraces = false) (x1 : Int32) (S : St) : ∀ q, uL_kept x1 S = some q → Kw l yL_kept wsL_kept rL_kept D (tyY cI cZ cO cJ) 73 a (cY cI cZ cO cJ a) (EvY tF) [.ref (a 0), .int x1, .ref (a 72)] S q := by
  refine m_Kw (cc := cL_kept) (nL := 4) (ret := (some .int)) (lv := [(0, .ref (a 0)), (1, .int x1), (2, .ref (a 72))]) (by decide) rfl (Nat.le_of_ble_eq_true rfl) rfl ?_
  intro p e s m args below meth c hc hr hlk htab hE
  unfold uL_kept
  refine g_aload_n (j := 2) hc dL_kept_0 rfl rfl ?_
  refine g_iconst (v := 0) hc dL_kept_1 (by decide) ?_
  refine g_aload_n (j := 0) hc dL_kept_2 rfl rfl ?_
  refine g_iload_n (j := 1) hc dL_kept_3 rfl rfl ?_
  refine g_cci (As := [.int x1]) (rest := [.int 0, .ref (a 72)]) hc hE rfl (fun _ h => mX8_kept hst x1 S _ h) (cwV 1 hc.1.2.2.2.2 gL_kept_X8_kept rfl rfl rfl (by decide +kernel) ⟨by decide, by decide⟩) rfl rfl (Nat.le_of_ble_eq_true rfl) dL_kept_4 ⟨by decide, by decide⟩ (fun E S5 => ?_) (fun v3 S4 => ?_)
  · refine g_xwid (k := 1) (n := 6) (by decide) (by decide) ?_
    refine g_xif ?_ ?_
    · refine g_catch hc [] ⟨0, 9, 12, 61⟩ [] htab (fun z hz => absurd hz List.not_mem_nil) (by decide) (by decide) (List.mem_of_getElem? (i := 1) rfl) (hE.1.2.2.2.2.2.2.1 _ (by decide +kernel)) (fun q9 => ?_)
      refine g_astore_n (lv' := [(3, .ref q9), (0, .ref (a 0)), (1, .int x1), (2, .ref (a 72))]) hc dL_kept_12 rfl (by decide) rfl ?_
      refine g_iconst (v := 1) hc dL_kept_13 (by decide) ?_
      exact g_wret hc hr hlk (by decide) (by decide) dL_kept_14
    · exact g_xnone
  · refine g_wid (k := 1) (n := 6) (by decide) (by decide) ?_
    refine g_i2l hc dL_kept_7 ?_
    refine g_lastore (k := 72) (t0 := 3) hc locY (by decide) (fun _ => rfl) rfl dL_kept_8 (fun S6 => ?_)
    refine g_goto (tgt := 15) hc dL_kept_9 (by decide) ?_
    refine g_iconst (v := 0) hc dL_kept_15 (by decide) ?_
    exact g_wret hc hr hlk (by decide) (by decide) dL_kept_16
set_option maxHeartbeats 4000000 in
set_option maxRecDepth 100000 in
theorem mL_bits (hst : l.stackTraces = false) (x1 : Int32) (x2 : Int32) (S : St) : ∀ q, uL_bits x1 x2 S = some q → Kw l yL_bits wsL_bits rL_bits D (tyY cI cZ cO cJ) 73 a (cY cI cZ cO cJ a) (EvY tF) [.ref (a 0), .int x1, .int x2, .ref (a 72)] S q := by
  refine m_Kw (cc := cL_bits) (nL := 5) (ret := (some .int)) (lv := [(0, .ref (a 0)), (1, .int x1), (2, .int x2), (3, .ref (a 72))]) (by decide) rfl (Nat.le_of_ble_eq_true rfl) rfl ?_
  intro p e s m args below meth c hc hr hlk htab hE
  unfold uL_bits
  refine g_aload_n (j := 3) hc dL_bits_0 rfl rfl ?_
  refine g_iconst (v := 0) hc dL_bits_1 (by decide) ?_
  refine g_aload_n (j := 0) hc dL_bits_2 rfl rfl ?_
  refine g_iload_n (j := 1) hc dL_bits_3 rfl rfl ?_
  refine g_iload_n (j := 2) hc dL_bits_4 rfl rfl ?_
  refine g_cci (As := [.int x1, .int x2]) (rest := [.int 0, .ref (a 72)]) hc hE rfl (fun _ h => mX8_bits hst x1 x2 S _ h) (cwV 2 hc.1.2.2.2.2 gL_bits_X8_bits rfl rfl rfl (by decide +kernel) ⟨by decide, by decide⟩) rfl rfl (Nat.le_of_ble_eq_true rfl) dL_bits_5 ⟨by decide, by decide⟩ (fun E S5 => ?_) (fun v3 S4 => ?_)
  · refine g_xwid (k := 2) (n := 12) (by decide) (by decide) ?_
    refine g_xif ?_ ?_
    · refine g_catch hc [] ⟨0, 10, 13, 19⟩ [] htab (fun z hz => absurd hz List.not_mem_nil) (by decide) (by decide) (List.mem_of_getElem? (i := 1) rfl) (hE.1.2.2.2.2.2.2.1 _ (by decide +kernel)) (fun q9 => ?_)
      refine g_astore (lv' := [(4, .ref q9), (0, .ref (a 0)), (1, .int x1), (2, .int x2), (3, .ref (a 72))]) hc dL_bits_13 (by decide) rfl ?_
      refine g_iconst (v := 1) hc dL_bits_15 (by decide) ?_
      exact g_wret hc hr hlk (by decide) (by decide) dL_bits_16
    · exact g_xnone
  · refine g_wid (k := 2) (n := 12) (by decide) (by decide) ?_
    refine g_i2l hc dL_bits_8 ?_
    refine g_lastore (k := 72) (t0 := 3) hc locY (by decide) (fun _ => rfl) rfl dL_bits_9 (fun S6 => ?_)
    refine g_goto (tgt := 17) hc dL_bits_10 (by decide) ?_
    refine g_iconst (v := 0) hc dL_bits_17 (by decide) ?_
    exact g_wret hc hr hlk (by decide) (by decide) dL_bits_18
set_option maxHeartbeats 4000000 in
set_option maxRecDepth 100000 in
theorem mL_slip (hst : l.stackTraces = false) (x1 : Int32) (x2 : Int32) (x3 : Int32) (S : St) : ∀ q, uL_slip x1 x2 x3 S = some q → Kw l yL_slip wsL_slip rL_slip D (tyY cI cZ cO cJ) 73 a (cY cI cZ cO cJ a) (EvY tF) [.ref (a 0), .int x1, .int x2, .int x3] S q := by
  refine m_Kw (cc := cL_slip) (nL := 5) (ret := (some .int)) (lv := [(0, .ref (a 0)), (1, .int x1), (2, .int x2), (3, .int x3)]) (by decide) rfl (Nat.le_of_ble_eq_true rfl) rfl ?_
  intro p e s m args below meth c hc hr hlk htab hE
  unfold uL_slip
  refine g_aload_n (j := 0) hc dL_slip_0 rfl rfl ?_
  refine g_iload_n (j := 1) hc dL_slip_1 rfl rfl ?_
  refine g_iload_n (j := 2) hc dL_slip_2 rfl rfl ?_
  refine g_iload_n (j := 3) hc dL_slip_3 rfl rfl ?_
  refine g_ccv (As := [.int x1, .int x2, .int x3]) (rest := []) hc hE rfl (fun _ h => mX8_slip hst x1 x2 x3 S _ h) (cwV 3 hc.1.2.2.2.2 gL_slip_X8_slip rfl rfl rfl (by decide +kernel) ⟨by decide, by decide⟩) rfl rfl (Nat.le_of_ble_eq_true rfl) dL_slip_4 ⟨by decide, by decide⟩ (fun E S5 => ?_) (fun S4 => ?_)
  · refine g_xwid (k := 2) (n := 12) (by decide) (by decide) ?_
    refine g_xif ?_ ?_
    · refine g_catch hc [] ⟨0, 7, 10, 19⟩ [⟨0, 7, 14, 13⟩] htab (fun z hz => absurd hz List.not_mem_nil) (by decide) (by decide) (List.mem_of_getElem? (i := 1) rfl) (hE.1.2.2.2.2.2.2.1 _ (by decide +kernel)) (fun q9 => ?_)
      refine g_astore (lv' := [(4, .ref q9), (0, .ref (a 0)), (1, .int x1), (2, .int x2), (3, .int x3)]) hc dL_slip_10 (by decide) rfl ?_
      refine g_iconst (v := 1) hc dL_slip_12 (by decide) ?_
      exact g_wret hc hr hlk (by decide) (by decide) dL_slip_13
    · refine g_xif ?_ ?_
      · refine g_catch hc [⟨0, 7, 10, 19⟩] ⟨0, 7, 14, 13⟩ [] htab (fun z hz => Or.inr (by rw [List.mem_singleton.mp hz]; exact ⟨by decide, _, hc.1.2.2.2.2 _ (List.mem_of_getElem? (i := 1) rfl), hE.2⟩)) (by decide) (by decide) (List.mem_of_getElem? (i := 2) rfl) (hE.1.2.2.2.2.2.2.1 _ (by decide +kernel)) (fun q9 => ?_)
        refine g_astore (lv' := [(4, .ref q9), (0, .ref (a 0)), (1, .int x1), (2, .int x2), (3, .int x3)]) hc dL_slip_14 (by decide) rfl ?_
        refine g_iconst (v := 2) hc dL_slip_16 (by decide) ?_
        exact g_wret hc hr hlk (by decide) (by decide) dL_slip_17
      · exact g_xnone
  · refine g_wid (k := 2) (n := 12) (by decide) (by decide) ?_
    refine g_goto (tgt := 18) hc dL_slip_7 (by decide) ?_
    refine g_iconst (v := 0) hc dL_slip_18 (by decide) ?_
    exact g_wret hc hr hlk (by decide) (by decide) dL_slip_19
set_option maxHeartbeats 4000000 in
set_option maxRecDepth 100000 in
theorem mL_seen (hst : l.stackTraces = false) (x1 : Int32) (x2 : Int32) (S : St) : ∀ q, uL_seen x1 x2 S = some q → Kw l yL_seen wsL_seen rL_seen D (tyY cI cZ cO cJ) 73 a (cY cI cZ cO cJ a) (EvY tF) [.ref (a 0), .int x1, .int x2, .ref (a 72)] S q := by
  refine m_Kw (cc := cL_seen) (nL := 5) (ret := (some .int)) (lv := [(0, .ref (a 0)), (1, .int x1), (2, .int x2), (3, .ref (a 72))]) (by decide) rfl (Nat.le_of_ble_eq_true rfl) rfl ?_
  intro p e s m args below meth c hc hr hlk htab hE
  unfold uL_seen
  refine g_aload_n (j := 3) hc dL_seen_0 rfl rfl ?_
  refine g_iconst (v := 0) hc dL_seen_1 (by decide) ?_
  refine g_aload_n (j := 0) hc dL_seen_2 rfl rfl ?_
  refine g_iload_n (j := 1) hc dL_seen_3 rfl rfl ?_
  refine g_iload_n (j := 2) hc dL_seen_4 rfl rfl ?_
  refine g_cci (As := [.int x1, .int x2]) (rest := [.int 0, .ref (a 72)]) hc hE rfl (fun _ h => mX8_seen hst x1 x2 S _ h) (cwV 2 hc.1.2.2.2.2 gL_seen_X8_seen rfl rfl rfl (by decide +kernel) ⟨by decide, by decide⟩) rfl rfl (Nat.le_of_ble_eq_true rfl) dL_seen_5 ⟨by decide, by decide⟩ (fun E S5 => ?_) (fun v3 S4 => ?_)
  · refine g_xwid (k := 2) (n := 12) (by decide) (by decide) ?_
    refine g_xif ?_ ?_
    · refine g_catch hc [] ⟨0, 10, 13, 19⟩ [] htab (fun z hz => absurd hz List.not_mem_nil) (by decide) (by decide) (List.mem_of_getElem? (i := 1) rfl) (hE.1.2.2.2.2.2.2.1 _ (by decide +kernel)) (fun q9 => ?_)
      refine g_astore (lv' := [(4, .ref q9), (0, .ref (a 0)), (1, .int x1), (2, .int x2), (3, .ref (a 72))]) hc dL_seen_13 (by decide) rfl ?_
      refine g_iconst (v := 1) hc dL_seen_15 (by decide) ?_
      exact g_wret hc hr hlk (by decide) (by decide) dL_seen_16
    · exact g_xnone
  · refine g_wid (k := 2) (n := 12) (by decide) (by decide) ?_
    refine g_i2l hc dL_seen_8 ?_
    refine g_lastore (k := 72) (t0 := 3) hc locY (by decide) (fun _ => rfl) rfl dL_seen_9 (fun S6 => ?_)
    refine g_goto (tgt := 17) hc dL_seen_10 (by decide) ?_
    refine g_iconst (v := 0) hc dL_seen_17 (by decide) ?_
    exact g_wret hc hr hlk (by decide) (by decide) dL_seen_18
set_option maxHeartbeats 4000000 in
set_option maxRecDepth 100000 in
theorem mL_rank (hst : l.stackTraces = false) (x1 : Int32) (S : St) : ∀ q, uL_rank x1 S = some q → Kw l yL_rank wsL_rank rL_rank D (tyY cI cZ cO cJ) 73 a (cY cI cZ cO cJ a) (EvY tF) [.ref (a 0), .int x1, .ref (a 72)] S q := by
  refine m_Kw (cc := cL_rank) (nL := 4) (ret := (some .int)) (lv := [(0, .ref (a 0)), (1, .int x1), (2, .ref (a 72))]) (by decide) rfl (Nat.le_of_ble_eq_true rfl) rfl ?_
  intro p e s m args below meth c hc hr hlk htab hE
  unfold uL_rank
  refine g_aload_n (j := 2) hc dL_rank_0 rfl rfl ?_
  refine g_iconst (v := 0) hc dL_rank_1 (by decide) ?_
  refine g_aload_n (j := 0) hc dL_rank_2 rfl rfl ?_
  refine g_iload_n (j := 1) hc dL_rank_3 rfl rfl ?_
  refine g_cci (As := [.int x1]) (rest := [.int 0, .ref (a 72)]) hc hE rfl (fun _ h => mX8_rank hst x1 S _ h) (cwV 1 hc.1.2.2.2.2 gL_rank_X8_rank rfl rfl rfl (by decide +kernel) ⟨by decide, by decide⟩) rfl rfl (Nat.le_of_ble_eq_true rfl) dL_rank_4 ⟨by decide, by decide⟩ (fun E S5 => ?_) (fun v3 S4 => ?_)
  · refine g_xwid (k := 1) (n := 6) (by decide) (by decide) ?_
    refine g_xif ?_ ?_
    · refine g_catch hc [] ⟨0, 9, 12, 13⟩ [] htab (fun z hz => absurd hz List.not_mem_nil) (by decide) (by decide) (List.mem_of_getElem? (i := 1) rfl) (hE.1.2.2.2.2.2.2.1 _ (by decide +kernel)) (fun q9 => ?_)
      refine g_astore_n (lv' := [(3, .ref q9), (0, .ref (a 0)), (1, .int x1), (2, .ref (a 72))]) hc dL_rank_12 rfl (by decide) rfl ?_
      refine g_iconst (v := 1) hc dL_rank_13 (by decide) ?_
      exact g_wret hc hr hlk (by decide) (by decide) dL_rank_14
    · exact g_xnone
  · refine g_wid (k := 1) (n := 6) (by decide) (by decide) ?_
    refine g_i2l hc dL_rank_7 ?_
    refine g_lastore (k := 72) (t0 := 3) hc locY (by decide) (fun _ => rfl) rfl dL_rank_8 (fun S6 => ?_)
    refine g_goto (tgt := 15) hc dL_rank_9 (by decide) ?_
    refine g_iconst (v := 0) hc dL_rank_15 (by decide) ?_
    exact g_wret hc hr hlk (by decide) (by decide) dL_rank_16
set_option maxHeartbeats 4000000 in
set_option maxRecDepth 100000 in
theorem mL_count (hst : l.stackTraces = false) (x1 : Int32) (S : St) : ∀ q, uL_count x1 S = some q → Kw l yL_count wsL_count rL_count D (tyY cI cZ cO cJ) 73 a (cY cI cZ cO cJ a) (EvY tF) [.ref (a 0), .int x1, .ref (a 72)] S q := by
  refine m_Kw (cc := cL_count) (nL := 4) (ret := (some .int)) (lv := [(0, .ref (a 0)), (1, .int x1), (2, .ref (a 72))]) (by decide) rfl (Nat.le_of_ble_eq_true rfl) rfl ?_
  intro p e s m args below meth c hc hr hlk htab hE
  unfold uL_count
  refine g_aload_n (j := 2) hc dL_count_0 rfl rfl ?_
  refine g_iconst (v := 0) hc dL_count_1 (by decide) ?_
  refine g_aload_n (j := 0) hc dL_count_2 rfl rfl ?_
  refine g_iload_n (j := 1) hc dL_count_3 rfl rfl ?_
  refine g_cci (As := [.int x1]) (rest := [.int 0, .ref (a 72)]) hc hE rfl (fun _ h => mX8_count hst x1 S _ h) (cwV 1 hc.1.2.2.2.2 gL_count_X8_count rfl rfl rfl (by decide +kernel) ⟨by decide, by decide⟩) rfl rfl (Nat.le_of_ble_eq_true rfl) dL_count_4 ⟨by decide, by decide⟩ (fun E S5 => ?_) (fun v3 S4 => ?_)
  · refine g_xwid (k := 1) (n := 6) (by decide) (by decide) ?_
    refine g_xif ?_ ?_
    · refine g_catch hc [] ⟨0, 9, 12, 61⟩ [] htab (fun z hz => absurd hz List.not_mem_nil) (by decide) (by decide) (List.mem_of_getElem? (i := 1) rfl) (hE.1.2.2.2.2.2.2.1 _ (by decide +kernel)) (fun q9 => ?_)
      refine g_astore_n (lv' := [(3, .ref q9), (0, .ref (a 0)), (1, .int x1), (2, .ref (a 72))]) hc dL_count_12 rfl (by decide) rfl ?_
      refine g_iconst (v := 1) hc dL_count_13 (by decide) ?_
      exact g_wret hc hr hlk (by decide) (by decide) dL_count_14
    · exact g_xnone
  · refine g_wid (k := 1) (n := 6) (by decide) (by decide) ?_
    refine g_i2l hc dL_count_7 ?_
    refine g_lastore (k := 72) (t0 := 3) hc locY (by decide) (fun _ => rfl) rfl dL_count_8 (fun S6 => ?_)
    refine g_goto (tgt := 15) hc dL_count_9 (by decide) ?_
    refine g_iconst (v := 0) hc dL_count_15 (by decide) ?_
    exact g_wret hc hr hlk (by decide) (by decide) dL_count_16
end
