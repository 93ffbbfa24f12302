def FU : Nat := 1000
def lp {β : Type} (b : β → β) (z : β) : Nat → β
  | 0 => z
  | n + 1 => b (lp b z n)
theorem lp_ind {β : Type} {P : β → Prop} {b : β → β} {z : β} (hz : P z) (hs : ∀ k, P k → P (b k)) : ∀ n, P (lp b z n)
  | 0 => hz
  | n + 1 => hs _ (lp_ind hz hs n)
/-- the class's cells: 0 TiedFrame, 1 Mixing, 2 Vats, 3 Cloth, 4 Picture, 5 Planner, 6 Plan, 7 Slips, 8 Laws; 9 to, 10 strength, 11 due, 12 home, 13 crowd, 14 folded, 15 knots, 16 colours, 17 wanted, 18 span, 19 aim, 20 outcome, 21 ways, 22 freshWays, 23 fewestFrom, 24 keepFewest, 25 addOneAtMost, 26 lows, 27 highs, 28 days, 29 colours, 30 ranks; rows: 31 colours, 39 wanted, 55 aim, 64 bits; 63 bits itself -/
def gq (a : Nat → Nat) (base : Nat) : Nat → Option Nat := fun i => some (a (base + i))
def cX (cI cZ cO : ClassId) (a : Nat → Nat) (S : St) (k : Nat) : va_E :=
  if 31 ≤ k then (if k = 63 then .inl (cO, 8, .inr (.inr (.inr (.inr (fun i => some (a (64 + i))))))) else .inl (cI, 24, .inl (S k))) else
  match k with
  | 0 => .inr (8, [.ref (a 1), .ref (a 2), .ref (a 3), .ref (a 4), .ref (a 5), .ref (a 6), .ref (a 7), .ref (a 8), .int (S 0 8)])
  | 1 => .inr (2, [.ref (a 9)])
  | 2 => .inr (7, [.ref (a 10), .ref (a 11)])
  | 3 => .inr (0, [.int (S 3 0), .int (S 3 1), .ref (a 12), .ref (a 13), .ref (a 14), .ref (a 15), .ref (a 16)])
  | 4 => .inr (3, [.ref (a 17)])
  | 5 => .inr (5, [.ref (a 18), .ref (a 19), .int (S 5 2), .int (S 5 3), .ref (a 20), .ref (a 21), .ref (a 22), .ref (a 23), .ref (a 24), .ref (a 25)])
  | 6 => .inr (4, [.int (S 6 0), .int (S 6 1), .int (S 6 2), .ref (a 63)])
  | 7 => .inr (6, [.ref (a 26), .ref (a 27)])
  | 8 => .inr (1, [.ref (a 28), .ref (a 29), .ref (a 30), .int (S 8 3)])
  | 9 => .inl (cI, 64, .inl (S 9))
  | 10 => .inl (cI, 4, .inl (S 10))
  | 11 => .inl (cI, 4, .inl (S 11))
  | 12 => .inl (cI, 16, .inl (S 12))
  | 13 => .inl (cI, 8, .inl (S 13))
  | 14 => .inl (cZ, 8, .inl (S 14))
  | 15 => .inl (cI, 8, .inl (S 15))
  | 16 => .inl (cO, 8, .inr (.inr (.inr (.inr (fun i => some (a (31 + i)))))))
  | 17 => .inl (cO, 16, .inr (.inr (.inr (.inr (fun i => some (a (39 + i)))))))
  | 18 => .inl (cI, 8, .inl (S 18))
  | 19 => .inl (cO, 8, .inr (.inr (.inr (.inr (fun i => some (a (55 + i)))))))
  | 20 => .inl (cI, 16, .inl (S 20))
  | 21 => .inl (cI, 16, .inl (S 21))
  | 22 => .inl (cI, 16, .inl (S 22))
  | 23 => .inl (cI, 25, .inl (S 23))
  | 24 => .inl (cI, 25, .inl (S 24))
  | 25 => .inl (cI, 25, .inl (S 25))
  | 26 => .inl (cI, 16, .inl (S 26))
  | 27 => .inl (cI, 16, .inl (S 27))
  | 28 => .inl (cI, 60, .inl (S 28))
  | 29 => .inl (cI, 60, .inl (S 29))
  | _ => .inl (cI, 60, .inl (S 30))
/-- the reference's: 0 itself; 1 bundleOf, 2 colours, 3 table, 4 vats, 5 wanted, 6 low, 7 high, 8 isFolded, 9 isBound, 10 lawDay, 11 lawColour, 12 lawRank, 13 planBits, 14 bits, 15 rest, 16 needs -/
def cM (cI cZ : ClassId) (a : Nat → Nat) (S : St) (k : Nat) : va_E :=
  match k with
  | 0 => .inr (9, [.int (S 0 0), .int (S 0 1), .int (S 0 2), .int (S 0 3), .int (S 0 4), .ref (a 1), .ref (a 2), .ref (a 3), .ref (a 4), .ref (a 5), .ref (a 6), .ref (a 7), .ref (a 8), .ref (a 9), .ref (a 10), .ref (a 11), .ref (a 12), .int (S 0 17), .int (S 0 18), .int (S 0 19), .ref (a 13), .ref (a 14), .ref (a 15), .ref (a 16)])
  | 1 => .inl (cI, 16, .inl (S 1))
  | 2 => .inl (cI, 192, .inl (S 2))
  | 3 => .inl (cI, 64, .inl (S 3))
  | 4 => .inl (cI, 4, .inl (S 4))
  | 5 => .inl (cI, 384, .inl (S 5))
  | 6 => .inl (cI, 16, .inl (S 6))
  | 7 => .inl (cI, 16, .inl (S 7))
  | 8 => .inl (cZ, 8, .inl (S 8))
  | 9 => .inl (cZ, 192, .inl (S 9))
  | 10 => .inl (cI, 60, .inl (S 10))
  | 11 => .inl (cI, 60, .inl (S 11))
  | 12 => .inl (cI, 60, .inl (S 12))
  | 13 => .inl (cI, 192, .inl (S 13))
  | 14 => .inl (cI, 192, .inl (S 14))
  | 15 => .inl (cI, 400, .inl (S 15))
  | n => .inl (cI, 4, .inl (S n))
def tyW (cI cZ cO : ClassId) : List (ClassId × FieldType) := [(cI, .int), (cZ, .boolean), (cO, .array .int)]
theorem locX {cI cZ cO : ClassId} {a : Nat → Nat} : LOC (cX cI cZ cO a) := by
  intro S S' k h
  unfold cX
  by_cases hk : 31 ≤ k
  · rw [if_pos hk, if_pos hk, h]
  · rw [if_neg hk, if_neg hk]
    match k, h, hk with
    | 0, h, _ => simp only [h]
    | 1, h, _ => simp only [h]
    | 2, h, _ => simp only [h]
    | 3, h, _ => simp only [h]
    | 4, h, _ => simp only [h]
    | 5, h, _ => simp only [h]
    | 6, h, _ => simp only [h]
    | 7, h, _ => simp only [h]
    | 8, h, _ => simp only [h]
    | 9, h, _ => simp only [h]
    | 10, h, _ => simp only [h]
    | 11, h, _ => simp only [h]
    | 12, h, _ => simp only [h]
    | 13, h, _ => simp only [h]
    | 14, h, _ => simp only [h]
    | 15, h, _ => simp only [h]
    | 16, h, _ => simp only [h]
    | 17, h, _ => simp only [h]
    | 18, h, _ => simp only [h]
    | 19, h, _ => simp only [h]
    | 20, h, _ => simp only [h]
    | 21, h, _ => simp only [h]
    | 22, h, _ => simp only [h]
    | 23, h, _ => simp only [h]
    | 24, h, _ => simp only [h]
    | 25, h, _ => simp only [h]
    | 26, h, _ => simp only [h]
    | 27, h, _ => simp only [h]
    | 28, h, _ => simp only [h]
    | 29, h, _ => simp only [h]
    | 30, h, _ => simp only [h]
    | n + 31, _, hk => exact absurd (by omega) hk
theorem locM {cI cZ : ClassId} {a : Nat → Nat} : LOC (cM cI cZ a) := by
  intro S S' k h
  unfold cM
  match k, h with
  | 0, h => simp only [h]
  | 1, h => simp only [h]
  | 2, h => simp only [h]
  | 3, h => simp only [h]
  | 4, h => simp only [h]
  | 5, h => simp only [h]
  | 6, h => simp only [h]
  | 7, h => simp only [h]
  | 8, h => simp only [h]
  | 9, h => simp only [h]
  | 10, h => simp only [h]
  | 11, h => simp only [h]
  | 12, h => simp only [h]
  | 13, h => simp only [h]
  | 14, h => simp only [h]
  | 15, h => simp only [h]
  | 16, h => simp only [h]
  | n + 17, h => simp only [h]

theorem rowX_31 {cI cZ cO : ClassId} {a : Nat → Nat} (S : St) {r : Nat} (h : r < 8) : cX cI cZ cO a S (31 + r) = .inl (cI, 24, .inl (S (31 + r))) := by
  unfold cX
  rw [if_pos (by omega), if_neg (by omega)]
theorem rowX_39 {cI cZ cO : ClassId} {a : Nat → Nat} (S : St) {r : Nat} (h : r < 16) : cX cI cZ cO a S (39 + r) = .inl (cI, 24, .inl (S (39 + r))) := by
  unfold cX
  rw [if_pos (by omega), if_neg (by omega)]
theorem rowX_55 {cI cZ cO : ClassId} {a : Nat → Nat} (S : St) {r : Nat} (h : r < 8) : cX cI cZ cO a S (55 + r) = .inl (cI, 24, .inl (S (55 + r))) := by
  unfold cX
  rw [if_pos (by omega), if_neg (by omega)]
theorem rowX_64 {cI cZ cO : ClassId} {a : Nat → Nat} (S : St) {r : Nat} (h : r < 8) : cX cI cZ cO a S (64 + r) = .inl (cI, 24, .inl (S (64 + r))) := by
  unfold cX
  rw [if_pos (by omega), if_neg (by omega)]
def strX : List (Nat × String) := [(75, "threads or places"), (271, "thread"), (275, "bundle"), (114, "colour"), (277, "dye"), (120, "to"), (273, "place"), (279, "from is above to"), (177, "row"), (194, "most"), (202, "what"), (231, "low or high"), (255, "day")]
def xbC : List String := ["java/lang/IllegalArgumentException", "java/lang/IndexOutOfBoundsException", "java/util/NoSuchElementException"]
def xbD : List MethodName := ["java/lang/RuntimeException", "java/lang/Exception", "java/lang/Throwable"].map Bundle.initS
def xbW : List Cond := xbC.map (fun q => .castable q q) ++ xbD.map .declares
def EvX (_ : Nat) (A : Nat → Prop) (U : State) : Prop := True ∧ True ∧
  (va_Nw (.methodLinkNest RX7 24 yX8_bathsOf RX8) U ∧ va_Nw (.methodLinkNest RX7 28 yX8_dyeOf RX8) U ∧ va_Nw (.methodLinkNest RX5 73 yX8_bathsOf RX8) U ∧ va_Nw (.methodLinkNest RX5 76 yX8_dyeOf RX8) U) ∧
  vx_Zq Bundle.tN "UNASSIGNED_STACK" Bundle.steD A U U.heap ∧ vx_Zq Bundle.tN "SUPPRESSED_SENTINEL" Bundle.listD A U U.heap ∧
  (∀ q ∈ strX, ∃ sa, vk_R RX8 q.1 q.2 sa U) ∧ (∀ x ∈ xbC, va_Nw (.castable x x) U) ∧ (∀ x ∈ xbD, va_Nw (.declares x) U)
def EvM (_ : Nat → Prop) (_ : State) : Prop := True
theorem trM : TR EvM := ⟨fun _ _ _ _ _ _ _ _ _ => trivial, fun _ _ _ _ _ _ => trivial⟩
theorem trX {tF : Nat} : TR (EvX tF) := by
  refine ⟨fun A A' s U locs h hW hS hsub => ?_, fun A U g mk v h => ?_⟩
  · obtain ⟨h1, h2, ⟨n1, n2, n3, n4⟩, h4, h5, h6, h7, h8⟩ := h
    exact ⟨h1, h2, ⟨n1.warmM hW, n2.warmM hW, n3.warmM hW, n4.warmM hW⟩, ((h4.moved hW.alike).kept hS.2.1).narrow hsub, ((h5.moved hW.alike).kept hS.2.1).narrow hsub, fun q hq => (h6 q hq).elim (fun sa hs => ⟨sa, hs.warm hW⟩), fun x hx => (h7 x hx).warmC hW, fun x hx => (h8 x hx).warmD hW⟩
  · obtain ⟨h1, h2, ⟨n1, n2, n3, n4⟩, h4, h5, h6, h7, h8⟩ := h
    have hv : U.vm = (U.calling g mk v).vm := rfl
    exact ⟨h1, h2, ⟨n1.same rfl hv, n2.same rfl hv, n3.same rfl hv, n4.same rfl hv⟩, h4.moved (u := U) (U := U.calling g mk v) (Vm.Alike.refl U.vm), h5.moved (u := U) (U := U.calling g mk v) (Vm.Alike.refl U.vm), fun q hq => (h6 q hq).elim (fun sa hs => ⟨sa, hs.same hv.symm⟩), fun x hx => (h7 x hx).same rfl hv, fun x hx => (h8 x hx).same rfl hv⟩
section GW
variable {p : Program} {l : Launch} {e : Env} {R : Room} {s : State} {m : MethodId} {args : Array Value} {below : List Frame} {meth : Method} {c : Code} {D : va_G} {tys : List (ClassId × FieldType)} {N : Nat} {a : Nat → Nat} {C : St → Nat → va_E} {Ev : (Nat → Prop) → State → Prop} {A : Nat → Prop} {cc : ByteArray} {nL : Nat} {own : String} {Ts : List Cond} {cells slots : Nat} {α : Type} {Q : α → State → Prop} {x z : Option α} {pc : Nat} {lv lv' : List (Nat × Value)} {rest : List Value} {S : St}
theorem g_none : GF p l e R s m args below meth c D N a C A nL cells slots Q none pc lv rest S := fun res h => by cases h
theorem g_wid {k n : Nat} (h1 : cells ≤ k) (h2 : slots ≤ n) (kk : GF p l e R s m args below meth c D N a C A nL k n Q x pc lv rest S) : GF p l e R s m args below meth c D N a C A nL cells slots Q x pc lv rest S := fun res h H locs hP hD hS ls hl => W.widen h1 h2 (kk res h H locs hP hD hS ls hl)
theorem g_max (hc : CT p s m args c cc nL own Ts D tys) {index : Nat} {x1 y1 : Int32} (hm : Cond.methodLink own index Lib.Math.max.name ∈ Ts) (hm2 : Cond.static Lib.Math.max.name ∈ Ts) (hm3 : Cond.initialized "java/lang/Math" ∈ Ts) (hm4 : Cond.code Lib.Math.max.name Lib.Math.max.code 2 (some .int) ∈ Ts) (hfr : 1 ≤ R.frames) (hlo : (rest.map fun v => v.category).sum + 13 ≤ R.locals) (hce : cells ≤ R.cells) (hsl : slots ≤ R.slots) (hdg : decode cc pc = .ok (.invokestatic index, 3)) (kk : GF p l e R s m args below meth c D N a C A nL cells slots Q x (pc + 3) lv (.int (if x1 < y1 then y1 else x1) :: rest) S) : GF p l e R s m args below meth c D N a C A nL cells slots Q x pc lv (.int y1 :: .int x1 :: rest) S :=
  fun res h H locs hP hD hS ls hl => va_mmax hc.1.1 hc.1.2.1 (by rw [hc.1.2.2.1]; exact hl.1.symm) hc.1.2.2.2.1 (hc.1.2.2.2.2 _ hm) (hc.1.2.2.2.2 _ hm2) (hc.1.2.2.2.2 _ hm3) (hc.1.2.2.2.2 _ hm4) hfr hlo hce hsl hdg (kk res h H locs hP hD hS ls hl)
theorem i32_012 {x : Int32} (h1 : ¬ x.toInt < 0) (h2 : ¬ 2 < x.toInt) : x = 0 ∨ x = 1 ∨ x = 2 := by
  have h : x.toInt = 0 ∨ x.toInt = 1 ∨ x.toInt = 2 := by omega
  rcases h with h | h | h
  · exact Or.inl (Int32.toInt_inj.mp (by rw [h]; rfl))
  · exact Or.inr (Or.inl (Int32.toInt_inj.mp (by rw [h]; rfl)))
  · exact Or.inr (Or.inr (Int32.toInt_inj.mp (by rw [h]; rfl)))
theorem g_tsw3 (hc : CT p s m args c cc nL own Ts D tys) {x0 x2 x3 : Option α} {v : Int32} {dflt o0 o1 o2 : Int} {len t0 t1 t2 t3 : Nat} (hdg : decode cc pc = .ok (.tableswitch dflt 0 2 #[o0, o1, o2], len)) (e0 : (pc : Int) + o0 = (t0 : Int)) (e1 : (pc : Int) + o1 = (t1 : Int)) (e2 : (pc : Int) + o2 = (t2 : Int)) (e3 : (pc : Int) + dflt = (t3 : Int)) (k0 : GF p l e R s m args below meth c D N a C A nL cells slots Q x0 t0 lv rest S) (k1 : GF p l e R s m args below meth c D N a C A nL cells slots Q x t1 lv rest S) (k2 : GF p l e R s m args below meth c D N a C A nL cells slots Q x2 t2 lv rest S) (k3 : GF p l e R s m args below meth c D N a C A nL cells slots Q x3 t3 lv rest S) : GF p l e R s m args below meth c D N a C A nL cells slots Q (if v = 0 then x0 else if v = 1 then x else if v = 2 then x2 else x3) pc lv (.int v :: rest) S :=
  fun res h H locs hP hD hS ls hl => by
    by_cases hlo : v.toInt < 0 ∨ 2 < v.toInt
    · have n0 : ¬ v = 0 := fun q => by subst q; revert hlo; decide
      have n1 : ¬ v = 1 := fun q => by subst q; revert hlo; decide
      have n2 : ¬ v = 2 := fun q => by subst q; revert hlo; decide
      rw [if_neg n0, if_neg n1, if_neg n2] at h
      exact lv_tableOut hc.1.1 hc.1.2.1 hdg hlo e3 (k3 res h H locs hP hD hS ls hl)
    · have h1 : ¬ v.toInt < 0 := fun q => hlo (Or.inl q)
      have h2 : ¬ 2 < v.toInt := fun q => hlo (Or.inr q)
      rcases i32_012 h1 h2 with rfl | rfl | rfl
      · exact lv_tableIn hc.1.1 hc.1.2.1 hdg h1 h2 rfl e0 (k0 res h H locs hP hD hS ls hl)
      · exact lv_tableIn hc.1.1 hc.1.2.1 hdg h1 h2 rfl e1 (k1 res h H locs hP hD hS ls hl)
      · exact lv_tableIn hc.1.1 hc.1.2.1 hdg h1 h2 rfl e2 (k2 res h H locs hP hD hS ls hl)
end GW
