theorem EvN.warm {s U : State} (hW : s.WarmedH U.vm) (h : EvN s) : EvN U := ⟨h.1.moved hW.alike, h.2.1.warmM hW, h.2.2.1.warmM hW, h.2.2.2.1.warmM hW, h.2.2.2.2.1.warmM hW, h.2.2.2.2.2.1.warmM hW, h.2.2.2.2.2.2.1.warmM hW, h.2.2.2.2.2.2.2.warmM hW⟩
theorem EvN.same {U : State} (g : JFrame) (mk : MethodId) (v : Array Value) (h : EvN U) : EvN (U.calling g mk v) :=
  have hv : U.vm = (U.calling g mk v).vm := rfl
  ⟨h.1.moved (u := U) (U := U.calling g mk v) (Vm.Alike.refl U.vm), h.2.1.same rfl hv, h.2.2.1.same rfl hv, h.2.2.2.1.same rfl hv, h.2.2.2.2.1.same rfl hv, h.2.2.2.2.2.1.same rfl hv, h.2.2.2.2.2.2.1.same rfl hv, h.2.2.2.2.2.2.2.same rfl hv⟩
section GKS
variable {p : Program} {l : Launch} {e : Env} {R : Room} {s : State} {m : MethodId} {args : Array Value} {below : List Frame} {meth : Method} {c : Code} {D : va_G} {cI cZ cO : ClassId} {A : Nat → Prop} {cc : ByteArray} {nL : Nat} {own : String} {Ts : List Cond} {cells slots : Nat} {Q : State → Prop} {pc : Nat} {lv : List (Nat × Value)} {rest : List Value} {W0 : va_W} {tysX : List (ClassId × FieldType)}
theorem gc_core8 {y : MethodName} {ws : List Cond} {rm : Room} {ci n q : Nat} {fs0 : List Value} {C : (Nat → Nat) → St → Nat → va_E} {P : St → Prop} {st : List Value} (hK : va_K D vwCl (tyW cI cZ cO) s) {tF : Nat} (hn : EvN s) (hE : EvX tF A s) (hA : ∀ z, s.heap.size ≤ z → A z)
    (hrun : ∀ (H : Heap) (locs : List Loc) (ls : Array Slot), lv_has ls nL lv → FrameBlind (va_Pc [.ref q] (fun U => U.heap.size = H.size ∧ va_P D vwCl [(q, .inr (ci, fs0))] U.heap ∧ va_K D vwCl (tyW cI cZ cO) U ∧ va_D (fun _ => True) [(q, .inr (ci, fs0))] ∧ EvN U ∧ EvX tF (A1 q H.size) U)) → (∀ U : State, U.heap = H → s.WarmedH U.vm → va_Pc [.ref q] (fun U => U.heap.size = H.size ∧ va_P D vwCl [(q, .inr (ci, fs0))] U.heap ∧ va_K D vwCl (tyW cI cZ cO) U ∧ va_D (fun _ => True) [(q, .inr (ci, fs0))] ∧ EvN U ∧ EvX tF (A1 q H.size) U) [Value.ref q].toArray U) → ∃ av : Array Value, va_Run p l e R s m args below meth c H locs cells slots rm.cells rm.slots (F0 m pc ls st) rest (va_Qv (fun u : (Nat → Nat) × St => u.1 0 = q ∧ P u.2) (fun u t => va_P D vwCl (wl n u.1 (C u.1 u.2)) t.heap ∧ va_K D vwCl (tyW cI cZ cO) t ∧ va_D (A1 q H.size) (wl n u.1 (C u.1 u.2))) (A1 q H.size) av) (A1 q H.size))
    (kk : ∀ (u : Nat → Nat) (S1 : St), u 0 = q → P S1 → GC p l e R s m args below meth c D A nL (cells + rm.cells) (slots + rm.slots) Q (pc + 3) lv rest (W0 ++ wl n u (C u S1))) : GC p l e R s m args below meth c D A nL cells slots Q pc lv st (W0 ++ [(q, .inr (ci, fs0))]) := by
  intro H locs hP hD hS ls hl
  have hlast : (W0 ++ [(q, (.inr (ci, fs0) : va_E))])[W0.length]? = some (q, .inr (ci, fs0)) := by
    rw [List.getElem?_append_right (Nat.le_refl _), Nat.sub_self]; rfl
  have hP1 : va_P D vwCl [(q, .inr (ci, fs0))] H := fun k x hx => by
    have hk : k < 1 := (List.getElem?_eq_some_iff.mp hx).1
    have : k = 0 := by omega
    subst this
    cases hx
    exact hP _ _ hlast
  have hD1 : va_D (fun _ => True) [(q, (.inr (ci, fs0) : va_E))] := ⟨fun i j x y hx hy _ => by
    have h1 : i < 1 := (List.getElem?_eq_some_iff.mp hx).1
    have h2 : j < 1 := (List.getElem?_eq_some_iff.mp hy).1
    omega, fun _ _ _ => trivial⟩
  have hAq : A q := hD.2 _ _ hlast
  have hsub : ∀ z, A1 q H.size z → A z := fun z hz => hz.elim (fun e9 => by rw [e9]; exact hAq) (fun h9 => hA z (Nat.le_trans hS.1 h9))
  obtain ⟨av, hr⟩ := hrun H locs ls hl (fun v U g mk z => by
    obtain ⟨z0, z1, zP, zK, zD, zN, zE⟩ := z
    exact ⟨z0, z1, zP, va_K.moved (u := U) (U := U.calling g mk v) (Vm.Alike.refl U.vm) zK, zD, EvN.same g mk v zN, trX.2 _ U g mk v zE⟩) (fun U hU hW => by
    subst hU
    exact ⟨rfl, rfl, hP1, va_K.moved hW.alike hK, hD1, hn.warm hW, trX.1 A _ s U locs hE hW hS hsub⟩)
  refine va_callv hr hS (fun z _ h => hsub z h) hsub (fun u t H1 locs1 ht hvm hpost hB hz hk hS1 => ?_)
  obtain ⟨hP2, hK2, hD2⟩ := hB
  rw [ht] at hP2
  have hW0 : ∀ (i : Nat) (x : Nat × va_E), W0[i]? = some x → x.1 < H.size ∧ ¬ A1 q H.size x.1 := fun i x hx => by
    have hi : i < W0.length := (List.getElem?_eq_some_iff.mp hx).1
    have hx2 : (W0 ++ [(q, (.inr (ci, fs0) : va_E))])[i]? = some x := by rw [List.getElem?_append_left hi]; exact hx
    have hlt := (hP i x hx2).lt
    refine ⟨hlt, fun h => ?_⟩
    rcases h with h | h
    · have := hD.1 i W0.length x _ hx2 hlast h
      omega
    · exact absurd hlt (by omega)
  refine kk u.1 u.2 hpost.1 hpost.2 H1 locs1 ?_ ?_ hS1 ls hl
  · refine va_P.app (fun i x hx => ?_) hP2
    have hi : i < W0.length := (List.getElem?_eq_some_iff.mp hx).1
    have hx2 : (W0 ++ [(q, (.inr (ci, fs0) : va_E))])[i]? = some x := by rw [List.getElem?_append_left hi]; exact hx
    exact (hP i x hx2).kept (hk _ (hW0 i x hx).1 (hW0 i x hx).2)
  · refine va_D.app ⟨fun i j x y hx hy e9 => ?_, fun i x hx => ?_⟩ (hD2.weaken (fun _ _ _ h => hsub _ h)) (fun i j x y hx hy e9 => ?_)
    · have hi : i < W0.length := (List.getElem?_eq_some_iff.mp hx).1
      have hj : j < W0.length := (List.getElem?_eq_some_iff.mp hy).1
      exact hD.1 i j x y (by rw [List.getElem?_append_left hi]; exact hx) (by rw [List.getElem?_append_left hj]; exact hy) e9
    · have hi : i < W0.length := (List.getElem?_eq_some_iff.mp hx).1
      exact hD.2 i x (by rw [List.getElem?_append_left hi]; exact hx)
    · exact (hW0 i x hx).2 (by rw [e9]; exact hD2.2 j y hy)
theorem gc_astore_n (hc : CT p s m args c cc nL own Ts D tysX) {k : Fin 4} {i v : Nat} {lv' : List (Nat × Value)} {ws : va_W} (hdg : decode cc pc = .ok (.astore_n k, 1)) (hi : (k : Nat) = i) (hn : i < nL) (hl : (i, Value.ref v) :: lv.filter (fun q => !(q.1 == i) && !(q.1 + 1 == i && q.2.category == 2)) = lv') (kk : GC p l e R s m args below meth c D A nL cells slots Q (pc + 1) lv' rest ws) : GC p l e R s m args below meth c D A nL cells slots Q pc lv (.ref v :: rest) ws := fun H locs hP hD hS ls h => lv_astore_n hc.1.1 hc.1.2.1 hdg hi h hn hl (fun ls' h' => kk H locs hP hD hS ls' h')
theorem gc_istore (hc : CT p s m args c cc nL own Ts D tysX) {i : Nat} {v : Int32} {lv' : List (Nat × Value)} {ws : va_W} (hdg : decode cc pc = .ok (.istore i, 2)) (hn : i < nL) (hl : (i, Value.int v) :: lv.filter (fun q => !(q.1 == i) && !(q.1 + 1 == i && q.2.category == 2)) = lv') (kk : GC p l e R s m args below meth c D A nL cells slots Q (pc + 2) lv' rest ws) : GC p l e R s m args below meth c D A nL cells slots Q pc lv (.int v :: rest) ws := fun H locs hP hD hS ls h => lv_istore hc.1.1 hc.1.2.1 hdg h hn hl (fun ls' h' => kk H locs hP hD hS ls' h')
theorem gc_newaJ {cJ : ClassId} {ws : va_W} (hc : CT p s m args c cc nL own Ts D (tyY cI cZ cO cJ)) (hA : ∀ q, s.heap.size ≤ q → A q) (hm : Cond.arrayClass .long ∈ Ts) (hce : cells + 1 ≤ R.cells) (hsl : slots + 1 ≤ R.slots) (hdg : decode cc pc = .ok (.newarray .long, 2)) (kk : ∀ q : Nat, GC p l e R s m args below meth c D A nL (cells + 1) (slots + 1) Q (pc + 2) lv (.ref q :: rest) (ws ++ [(q, .inl (cJ, 1, .inr (.inl (fun _ => 0))))])) : GC p l e R s m args below meth c D A nL cells slots Q pc lv (.int 1 :: rest) ws := fun H locs hP hD hS ls hl => va_newa (atype := .long) (ty := .long) (a0 := (1, .inr (.inl (fun _ => 0)))) hc.1.1 hc.1.2.1 (hc.1.2.2.2.2 _ hm) rfl hc.2 hP hD hS hA (fun _ => rfl) (by decide) (by decide) (by decide) hce hsl hdg (fun q cA H1 hK1 hP1 hD1 hS1 => by
  have e : cJ = cA := ty_eq (i := 3) (j := 4) ra_long hK1 rfl rfl
  subst e
  exact kk q H1 locs hP1 hD1 hS1 ls hl)
end GKS
def zLaw (S1 T1 : St) : St := fun k => if k < 72 then S1 k else if k = 72 then fun _ => 0 else T1 (k - 73)
def aLaw (u v : Nat → Nat) (q : Nat) : Nat → Nat := fun k => if k < 72 then u k else if k = 72 then q else v (k - 73)
def pLaw : Nat → Nat := fun k => if k < 72 then k else if k = 72 then 89 else k - 1
theorem pLaw_inj : ∀ i j, i < 90 → j < 90 → pLaw i = pLaw j → i = j := by
  intro i j hi hj h
  unfold pLaw at h
  split at h <;> split at h <;> (try split at h) <;> (try split at h) <;> omega
theorem aM_aLaw (u v : Nat → Nat) (q : Nat) : aM (aLaw u v q) = v := by
  funext j
  show (if 73 + j < 72 then u (73 + j) else if 73 + j = 72 then q else v (73 + j - 73)) = v j
  rw [if_neg (by omega), if_neg (by omega), Nat.add_sub_cancel_left]
theorem tM_zLaw (S1 T1 : St) : tM (zLaw S1 T1) = T1 := by
  funext j
  show (if 73 + j < 72 then S1 (73 + j) else if 73 + j = 72 then fun _ => 0 else T1 (73 + j - 73)) = T1 j
  rw [if_neg (by omega), if_neg (by omega), Nat.add_sub_cancel_left]
theorem cX_eqv {cI cZ cO : ClassId} {u a : Nat → Nat} {S S' : St} {k : Nat} (hk : k < 72) (h : ∀ j, j < 72 → a j = u j) (hS : S' k = S k) : eqv (cX cI cZ cO u S k) (cX cI cZ cO a S' k) := by
  unfold cX
  by_cases h1 : 31 ≤ k
  · rw [if_pos h1, if_pos h1]
    by_cases h2 : k = 63
    · rw [if_pos h2, if_pos h2]
      exact Or.inr ⟨_, _, _, _, rfl, rfl, fun i hi => by rw [h _ (by omega)]⟩
    · rw [if_neg h2, if_neg h2, hS]
      exact Or.inl rfl
  · rw [if_neg h1, if_neg h1]
    match k, h1, hS with
    | 0, _, hS => exact Or.inl (by simp only [hS, h 1 (by decide), h 2 (by decide), h 3 (by decide), h 4 (by decide), h 5 (by decide), h 6 (by decide), h 7 (by decide), h 8 (by decide)])
    | 1, _, hS => exact Or.inl (by simp only [hS, h 9 (by decide)])
    | 2, _, hS => exact Or.inl (by simp only [hS, h 10 (by decide), h 11 (by decide)])
    | 3, _, hS => exact Or.inl (by simp only [hS, h 12 (by decide), h 13 (by decide), h 14 (by decide), h 15 (by decide), h 16 (by decide)])
    | 4, _, hS => exact Or.inl (by simp only [hS, h 17 (by decide)])
    | 5, _, hS => exact Or.inl (by simp only [hS, h 18 (by decide), h 19 (by decide), h 20 (by decide), h 21 (by decide), h 22 (by decide), h 23 (by decide), h 24 (by decide), h 25 (by decide)])
    | 6, _, hS => exact Or.inl (by simp only [hS, h 63 (by decide)])
    | 7, _, hS => exact Or.inl (by simp only [hS, h 26 (by decide), h 27 (by decide)])
    | 8, _, hS => exact Or.inl (by simp only [hS, h 28 (by decide), h 29 (by decide), h 30 (by decide)])
    | 9, _, hS => exact Or.inl (by simp only [hS])
    | 10, _, hS => exact Or.inl (by simp only [hS])
    | 11, _, hS => exact Or.inl (by simp only [hS])
    | 12, _, hS => exact Or.inl (by simp only [hS])
    | 13, _, hS => exact Or.inl (by simp only [hS])
    | 14, _, hS => exact Or.inl (by simp only [hS])
    | 15, _, hS => exact Or.inl (by simp only [hS])
    | 16, _, hS => exact Or.inr ⟨_, _, _, _, rfl, rfl, fun i hi => by rw [h _ (by omega)]⟩
    | 17, _, hS => exact Or.inr ⟨_, _, _, _, rfl, rfl, fun i hi => by rw [h _ (by omega)]⟩
    | 18, _, hS => exact Or.inl (by simp only [hS])
    | 19, _, hS => exact Or.inr ⟨_, _, _, _, rfl, rfl, fun i hi => by rw [h _ (by omega)]⟩
    | 20, _, hS => exact Or.inl (by simp only [hS])
    | 21, _, hS => exact Or.inl (by simp only [hS])
    | 22, _, hS => exact Or.inl (by simp only [hS])
    | 23, _, hS => exact Or.inl (by simp only [hS])
    | 24, _, hS => exact Or.inl (by simp only [hS])
    | 25, _, hS => exact Or.inl (by simp only [hS])
    | 26, _, hS => exact Or.inl (by simp only [hS])
    | 27, _, hS => exact Or.inl (by simp only [hS])
    | 28, _, hS => exact Or.inl (by simp only [hS])
    | 29, _, hS => exact Or.inl (by simp only [hS])
    | 30, _, hS => exact Or.inl (by simp only [hS])
    | n + 31, h1, _ => exact absurd (by omega) h1
theorem law_conv {cI cZ cO cJ : ClassId} {u v : Nat → Nat} {q : Nat} {S1 T1 : St} : ∀ k, k < 90 → ∃ e, ((([] ++ wl 72 u (cX cI cZ cO u S1)) ++ wl 17 v (cM cI cZ v T1)) ++ [(q, (.inl (cJ, 1, .inr (.inl (fun _ => 0))) : va_E))])[pLaw k]? = some (aLaw u v q k, e) ∧ eqv e (cL cI cZ cO cJ (aLaw u v q) (zLaw S1 T1) k) := by
  intro k hk
  have l1 : ([] ++ wl 72 u (cX cI cZ cO u S1)).length = 72 := by simp [wl]
  have l2 : (wl 17 v (cM cI cZ v T1)).length = 17 := by simp [wl]
  by_cases h1 : k < 72
  · refine ⟨cX cI cZ cO u S1 k, ?_, ?_⟩
    · rw [show pLaw k = k from if_pos h1, show aLaw u v q k = u k from if_pos h1, List.append_assoc, List.getElem?_append_left (by rw [l1]; exact h1), List.nil_append, wl_at h1]
    · rw [cL_Y (by omega)]
      unfold cY
      rw [if_neg (by omega)]
      exact cX_eqv h1 (fun j hj => if_pos hj) (if_pos h1)
  · by_cases h2 : k = 72
    · subst h2
      refine ⟨_, ?_, Or.inl rfl⟩
      rw [show pLaw 72 = 89 from rfl, List.getElem?_append_right (by rw [List.length_append, l1, l2]; decide), List.length_append, l1, l2]
      rfl
    · refine ⟨cM cI cZ v T1 (k - 73), ?_, Or.inl ?_⟩
      · rw [show pLaw k = k - 1 from by unfold pLaw; rw [if_neg h1, if_neg h2], show aLaw u v q k = v (k - 73) from by unfold aLaw; rw [if_neg h1, if_neg h2], List.getElem?_append_left (by rw [List.length_append, l1, l2]; omega), List.getElem?_append_right (by rw [l1]; omega), l1, show k - 1 - 72 = k - 73 by omega, wl_at (by omega)]
      · rw [show k = 73 + (k - 73) by omega, cL_M, aM_aLaw, tM_zLaw, Nat.add_sub_cancel_left]
set_option maxHeartbeats 4000000 in
set_option maxRecDepth 100000 in
theorem whole_walk {p : Program} {e : Env} {s : State} {m : MethodId} {below : List Frame} {meth : Method} {c : Code} (l : Launch) (hst : l.stackTraces = false) {b L : Nat} {xs : Nat → Int32} (C0 : lw_At p s m meth c b L xs) {SM S1 T1 : St} (hM : uX2_init z0 = some (0, SM)) (h8 : uX8_init (sX0 SM) = some (0, S1)) (h9 : uX9_init m0 = some (0, T1)) (hlaw : uLaw xs L 513 0 (zLaw S1 T1) = some ()) : W p l e room_1 s m #[Value.ref b] below meth c s.heap [] 0 0 (lw_Z below #[Value.ref b] s) (entryFrame m ([Value.ref b] : List Value).toArray 7) := by
  obtain ⟨D, cI, cZ, cO, cJ, tF, hK, hE, hn⟩ := st_env C0
  obtain ⟨hx, hb, hr, hml, hown, hts, hX, hbl, hlocks, hgv⟩ := id C0
  have hA : ∀ q : Nat, s.heap.size ≤ q → (fun q : Nat => s.heap.size ≤ q) q := fun _ h => h
  have hl := lv_entry [.ref b] (n := 7) (Nat.le_of_ble_eq_true rfl)
  rw [lg_entry_eq]
  generalize (lg_sl [Value.ref b] ++ List.replicate (7 - (lg_sl [Value.ref b]).length) Slot.unset).toArray = ls at hl ⊢
  have hl : lv_has ls 7 [(0, .ref b)] := hl
  have hcY : CT p s m #[Value.ref b] c code 7 RL lw_tbl D (tyY cI cZ cO cJ) := ⟨⟨hx, hb, hml, hown, hts⟩, hK⟩
  have hc : CT p s m #[Value.ref b] c code 7 RL lw_tbl D (tyW cI cZ cO) := ⟨hcY.1, hK.sub (tys' := tyW cI cZ cO) [0, 1, 2] rfl⟩
  have G : GC p l e room_1 s m #[Value.ref b] below meth c D (fun q : Nat => s.heap.size ≤ q) 7 0 0 (lw_Z below #[Value.ref b] s) 0 [(0, .ref b)] [] [] := by
    refine gc_new (C0 := RX8) (T := TX8) (M := 9) (ci := 8) (fs := [.null, .null, .null, .null, .null, .null, .null, .null, .int 0]) hc hA tyX8 tyX8_ok ltw_X8 (stW_in _ (List.mem_of_getElem? (i := 47) rfl)) (stW_in _ (List.mem_of_getElem? (i := 8) rfl)) (stW_in _ (List.mem_of_getElem? (i := 49) rfl)) rfl (fun j hj => by
    rcases (show j = 0 ∨ j = 1 ∨ j = 2 ∨ j = 3 ∨ j = 4 ∨ j = 5 ∨ j = 6 ∨ j = 7 ∨ j = 8 by omega) with rfl | rfl | rfl | rfl | rfl | rfl | rfl | rfl | rfl <;> rfl) (by decide) (by decide) dL_law_0 (fun q8 => ?_)
    refine gc_wid (k := 1) (n := 9) (by decide) (by decide) ?_
    refine gc_dup hc dL_law_3 rfl ?_
    refine gc_core8 (y := yX8_init) (ws := wsX8_init) (rm := rX8_init) (n := 72) (C := cX cI cZ cO) (P := fun S => S = S1) (rest := [.ref q8]) hc.2 hn hE.1 hA (fun H locs ls hl hbl hp => ⟨_, va_runI (As := []) (g := F0 m 4 ls (.ref q8 :: [.ref q8])) hc.1 (kX8_init SM S1 hM h8 q8 H.size) (cwI 0 hts ltl_X8_init rfl rfl rfl (hts _ (stW_in _ (List.mem_of_getElem? (i := 49) rfl))) (hts _ (stW_in _ (List.mem_of_getElem? (i := 51) rfl))) (hts _ (stW_in _ (List.mem_of_getElem? (i := 53) rfl))) rfl (by decide +kernel) ⟨by decide, by decide⟩) ⟨hbl, hp⟩ rfl rfl hl.1 rfl (lv_room (ls := ls) (rest := .ref q8 :: [.ref q8]) (Nat.le_of_ble_eq_true rfl)) dL_law_4 ⟨by decide, by decide⟩⟩) (fun u S e0 hS0 => ?_)
    subst hS0
    refine gc_wid (k := 72) (n := 2116) (by decide) (by decide) ?_
    refine gc_astore_n (lv' := [(1, .ref q8), (0, .ref b)]) hc dL_law_7 rfl (by decide) rfl ?_
    refine gc_new (C0 := RX9) (T := TX9) (M := 24) (ci := 9) (fs := [.int 0, .int 0, .int 0, .int 0, .int 0, .null, .null, .null, .null, .null, .null, .null, .null, .null, .null, .null, .null, .int 0, .int 0, .int 0, .null, .null, .null, .null]) hc hA tyX9 tyX9_ok ltw_X9 (stW_in _ (List.mem_of_getElem? (i := 48) rfl)) (stW_in _ (List.mem_of_getElem? (i := 9) rfl)) (stW_in _ (List.mem_of_getElem? (i := 50) rfl)) rfl (fun j hj => by
    rcases (show j = 0 ∨ j = 1 ∨ j = 2 ∨ j = 3 ∨ j = 4 ∨ j = 5 ∨ j = 6 ∨ j = 7 ∨ j = 8 ∨ j = 9 ∨ j = 10 ∨ j = 11 ∨ j = 12 ∨ j = 13 ∨ j = 14 ∨ j = 15 ∨ j = 16 ∨ j = 17 ∨ j = 18 ∨ j = 19 ∨ j = 20 ∨ j = 21 ∨ j = 22 ∨ j = 23 by omega) with rfl | rfl | rfl | rfl | rfl | rfl | rfl | rfl | rfl | rfl | rfl | rfl | rfl | rfl | rfl | rfl | rfl | rfl | rfl | rfl | rfl | rfl | rfl | rfl <;> rfl) (by decide) (by decide) dL_law_8 (fun q9 => ?_)
    refine gc_wid (k := 73) (n := 2140) (by decide) (by decide) ?_
    refine gc_dup hc dL_law_11 rfl ?_
    refine gc_ctorI (rest := [.ref q9]) hc hc.2 hn.1 hA (kX9_init T1 h9 q9) (cwI 0 hts ltl_X9_init rfl rfl rfl (hts _ (stW_in _ (List.mem_of_getElem? (i := 50) rfl))) (hts _ (stW_in _ (List.mem_of_getElem? (i := 52) rfl))) (hts _ (stW_in _ (List.mem_of_getElem? (i := 54) rfl))) rfl (by decide +kernel) ⟨by decide, by decide⟩) (Nat.le_of_ble_eq_true rfl) dL_law_12 ⟨by decide, by decide⟩ (fun v T e9 hT0 => ?_)
    subst hT0
    refine gc_wid (k := 89) (n := 4000) (by decide) (by decide) ?_
    refine gc_astore_n (lv' := [(2, .ref q9), (1, .ref q8), (0, .ref b)]) hc dL_law_15 rfl (by decide) rfl ?_
    refine gc_iconst hc dL_law_16 rfl ?_
    refine gc_newaJ hcY hA (stW_in _ (List.mem_of_getElem? (i := 12) rfl)) (by decide) (by decide) dL_law_17 (fun qJ => ?_)
    refine gc_astore_n (lv' := [(3, .ref qJ), (2, .ref q9), (1, .ref q8), (0, .ref b)]) hc dL_law_19 rfl (by decide) rfl ?_
    refine gc_iconst hc dL_law_20 rfl ?_
    refine gc_istore (lv' := [(4, .int 0), (3, .ref qJ), (2, .ref q9), (1, .ref q8), (0, .ref b)]) hc dL_law_21 (by decide) rfl ?_
    intro H locs hP hD hS ls hl
    have hP' := conv_P (K := cL cI cZ cO cJ (aLaw u v qJ) (zLaw S T)) pLaw law_conv hP
    have hD' := conv_D (K := cL cI cZ cO cJ (aLaw u v qJ) (zLaw S T)) pLaw law_conv pLaw_inj hD
    have hAA : (fun q : Nat => s.heap.size ≤ q) = AA 90 (aLaw u v qJ) s.heap.size := funext fun q => propext ⟨Or.inr, fun h => h.elim (fun ⟨k, hk, e1⟩ => by rw [e1]; exact wlD_in hD' hk) id⟩
    have ev : aM (aLaw u v qJ) 0 = q9 := by rw [aM_aLaw]; exact e9
    have eu : aLaw u v qJ 0 = q8 := e0
    have eJ : aLaw u v qJ 72 = qJ := rfl
    refine tLaw_loop hst hcY hE hAA hX hbl (Nat.not_le.mpr hbl) hr hlocks (fun _ h => h) 513 90 4001 (by decide) (by decide) 0 (zLaw S T) () hlaw H locs hP' hD' hS ls ?_
    rw [ev, eu, eJ]
    exact lv_sub hl [4, 3, 2, 1, 0] rfl
  exact G s.heap [] (fun k q h => by simp at h) ⟨fun i j p q h => by simp at h, fun k q h => by simp at h⟩ va_S.rf ls hl
