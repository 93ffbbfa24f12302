section GT
variable {p : Program} {l : Launch} {e : Env} {R : Room} {s : State} {m : MethodId} {args : Array Value} {below : List Frame} {meth : Method} {c : Code} {D : va_G} {tys : List (ClassId × FieldType)} {N : Nat} {a : Nat → Nat} {C : St → Nat → va_E} {Ev : (Nat → Prop) → State → Prop} {A : Nat → Prop} {cc : ByteArray} {nL : Nat} {own : String} {Ts : List Cond} {cells slots : Nat} {mc ms : Nat} {pc : Nat} {lv lv' : List (Nat × Value)} {rest : List Value} {S : St}
theorem g_throwSI (hc : CT p s m args c cc nL own Ts D tys) (hout : ∀ z ∈ c.exceptionTable.toList, False) (hlocks : meth.locks = false) (hst : l.stackTraces = false) {tF : Nat} (hE : EvX tF A s) {cls text : String} {names : List String} {ik is ic : Nat} (hk : Cond.classLink own ik cls ∈ Ts) (hini : Cond.initialized cls ∈ Ts) (hstr : ∃ sa, vk_R own is text sa s) (hat : ∀ w ∈ (vx_atS own ic cls names).filter goodWord, w.before args s = true) (hb : ∀ w ∈ (vx_atS own ic cls names).filter (fun w => !goodWord w), w ∈ xbW) (hcls : Bundle.fit cls = true) (hnames : ∀ n ∈ names, Bundle.fit n = true) (hgood : ∀ w ∈ Cond.classLink own ik cls :: Cond.initialized cls :: vx_atS own ic cls names, vx_ot w = true) (d0 : decode cc pc = .ok (.new ik, 3)) (d3 : decode cc (pc + 3) = .ok (.dup, 1)) (d4 : decode cc (pc + 4) = .ok (.ldc is, 2)) (d6 : decode cc (pc + 6) = .ok (.invokespecial ic, 3)) (d9 : decode cc (pc + 9) = .ok (.athrow, 1)) (hRf : names.length + 3 < R.frames) (hRl : (rest.map fun v => v.category).sum + (13 * (names.length + 1) + 43) ≤ R.locals) (hRc : cells + 1 ≤ R.cells) (hRs : slots + 6 ≤ R.slots) (hmc : cells + 1 ≤ mc) (hms : slots + 6 ≤ ms) : GF p l e R s m args below meth c D N a C A nL cells slots (fun res : RX => vx_MQ below (QXi D tys N a C A res) (XXc D tys N a C A res) args s mc ms A) (some (.inl cls, S)) pc lv rest S := by
  intro res h H locs hP hD hS ls hl
  cases h
  obtain ⟨sa, hstr⟩ := hstr
  have hx7 : ∀ w ∈ xbW, w.before args s = true := fun w hw => by
    rcases List.mem_append.mp hw with h | h
    · obtain ⟨z, hz, rfl⟩ := List.mem_map.mp h
      exact (hE.2.2.2.2.2.2.1 z hz).use rfl
    · obtain ⟨z, hz, rfl⟩ := List.mem_map.mp h
      exact (hE.2.2.2.2.2.2.2 z hz).use rfl
  refine vx_throwS hc.1.1 hc.1.2.1 hst hc.1.2.2.2.1 hcls hnames (hc.1.2.2.2.2 _ hk) (hc.1.2.2.2.2 _ hini) hstr (vx_hat hat hb hx7) hgood hE.2.2.2.1 hE.2.2.2.2.1 hS (by rw [hc.1.2.2.1]; exact hl.1) d0 d3 d4 d6 d9 (fun z hz => (hout z hz).elim) hRf hRl hRc hRs hlocks (fun t hvm hz hk => ?_) hS.2.2 hmc hms
  refine ⟨S, trivial, ⟨rfl, hP.kept (fun k q hq => hk q.1 ((hP k q hq).lt)), va_K.moved hvm hc.2, hD⟩, Nat.le_trans hS.1 hz, fun q h1 h2 => ?_⟩
  rw [hk q (Nat.lt_of_lt_of_le h1 hS.1)]
  exact hS.2.1 q h1 h2
theorem g_throwSWI (hc : CT p s m args c cc nL own Ts D tys) (hout : ∀ z ∈ c.exceptionTable.toList, False) (hlocks : meth.locks = false) (hst : l.stackTraces = false) {tF : Nat} (hE : EvX tF A s) {cls text : String} {names : List String} {ik is ic : Nat} (hk : Cond.classLink own ik cls ∈ Ts) (hini : Cond.initialized cls ∈ Ts) (hstr : ∃ sa, vk_R own is text sa s) (hat : ∀ w ∈ (vx_atS own ic cls names).filter goodWord, w.before args s = true) (hb : ∀ w ∈ (vx_atS own ic cls names).filter (fun w => !goodWord w), w ∈ xbW) (hcls : Bundle.fit cls = true) (hnames : ∀ n ∈ names, Bundle.fit n = true) (hgood : ∀ w ∈ Cond.classLink own ik cls :: Cond.initialized cls :: vx_atS own ic cls names, vx_ot w = true) (d0 : decode cc pc = .ok (.new ik, 3)) (d3 : decode cc (pc + 3) = .ok (.dup, 1)) (d4 : decode cc (pc + 4) = .ok (.ldc_w is, 3)) (d7 : decode cc (pc + 7) = .ok (.invokespecial ic, 3)) (d10 : decode cc (pc + 10) = .ok (.athrow, 1)) (hRf : names.length + 3 < R.frames) (hRl : (rest.map fun v => v.category).sum + (13 * (names.length + 1) + 43) ≤ R.locals) (hRc : cells + 1 ≤ R.cells) (hRs : slots + 6 ≤ R.slots) (hmc : cells + 1 ≤ mc) (hms : slots + 6 ≤ ms) : GF p l e R s m args below meth c D N a C A nL cells slots (fun res : RX => vx_MQ below (QXi D tys N a C A res) (XXc D tys N a C A res) args s mc ms A) (some (.inl cls, S)) pc lv rest S := by
  intro res h H locs hP hD hS ls hl
  cases h
  obtain ⟨sa, hstr⟩ := hstr
  have hx7 : ∀ w ∈ xbW, w.before args s = true := fun w hw => by
    rcases List.mem_append.mp hw with h | h
    · obtain ⟨z, hz, rfl⟩ := List.mem_map.mp h
      exact (hE.2.2.2.2.2.2.1 z hz).use rfl
    · obtain ⟨z, hz, rfl⟩ := List.mem_map.mp h
      exact (hE.2.2.2.2.2.2.2 z hz).use rfl
  refine vx_throwSW hc.1.1 hc.1.2.1 hst hc.1.2.2.2.1 hcls hnames (hc.1.2.2.2.2 _ hk) (hc.1.2.2.2.2 _ hini) hstr (vx_hat hat hb hx7) hgood hE.2.2.2.1 hE.2.2.2.2.1 hS (by rw [hc.1.2.2.1]; exact hl.1) d0 d3 d4 d7 d10 (fun z hz => (hout z hz).elim) hRf hRl hRc hRs hlocks (fun t hvm hz hk => ?_) hS.2.2 hmc hms
  refine ⟨S, trivial, ⟨rfl, hP.kept (fun k q hq => hk q.1 ((hP k q hq).lt)), va_K.moved hvm hc.2, hD⟩, Nat.le_trans hS.1 hz, fun q h1 h2 => ?_⟩
  rw [hk q (Nat.lt_of_lt_of_le h1 hS.1)]
  exact hS.2.1 q h1 h2
theorem g_throwSV (hc : CT p s m args c cc nL own Ts D tys) (hout : ∀ z ∈ c.exceptionTable.toList, False) (hlocks : meth.locks = false) (hst : l.stackTraces = false) {tF : Nat} (hE : EvX tF A s) {cls text : String} {names : List String} {ik is ic : Nat} (hk : Cond.classLink own ik cls ∈ Ts) (hini : Cond.initialized cls ∈ Ts) (hstr : ∃ sa, vk_R own is text sa s) (hat : ∀ w ∈ (vx_atS own ic cls names).filter goodWord, w.before args s = true) (hb : ∀ w ∈ (vx_atS own ic cls names).filter (fun w => !goodWord w), w ∈ xbW) (hcls : Bundle.fit cls = true) (hnames : ∀ n ∈ names, Bundle.fit n = true) (hgood : ∀ w ∈ Cond.classLink own ik cls :: Cond.initialized cls :: vx_atS own ic cls names, vx_ot w = true) (d0 : decode cc pc = .ok (.new ik, 3)) (d3 : decode cc (pc + 3) = .ok (.dup, 1)) (d4 : decode cc (pc + 4) = .ok (.ldc is, 2)) (d6 : decode cc (pc + 6) = .ok (.invokespecial ic, 3)) (d9 : decode cc (pc + 9) = .ok (.athrow, 1)) (hRf : names.length + 3 < R.frames) (hRl : (rest.map fun v => v.category).sum + (13 * (names.length + 1) + 43) ≤ R.locals) (hRc : cells + 1 ≤ R.cells) (hRs : slots + 6 ≤ R.slots) (hmc : cells + 1 ≤ mc) (hms : slots + 6 ≤ ms) : GF p l e R s m args below meth c D N a C A nL cells slots (fun res : RX => vx_MQ below (QXv D tys N a C A res) (XXc D tys N a C A res) args s mc ms A) (some (.inl cls, S)) pc lv rest S := by
  intro res h H locs hP hD hS ls hl
  cases h
  obtain ⟨sa, hstr⟩ := hstr
  have hx7 : ∀ w ∈ xbW, w.before args s = true := fun w hw => by
    rcases List.mem_append.mp hw with h | h
    · obtain ⟨z, hz, rfl⟩ := List.mem_map.mp h
      exact (hE.2.2.2.2.2.2.1 z hz).use rfl
    · obtain ⟨z, hz, rfl⟩ := List.mem_map.mp h
      exact (hE.2.2.2.2.2.2.2 z hz).use rfl
  refine vx_throwS hc.1.1 hc.1.2.1 hst hc.1.2.2.2.1 hcls hnames (hc.1.2.2.2.2 _ hk) (hc.1.2.2.2.2 _ hini) hstr (vx_hat hat hb hx7) hgood hE.2.2.2.1 hE.2.2.2.2.1 hS (by rw [hc.1.2.2.1]; exact hl.1) d0 d3 d4 d6 d9 (fun z hz => (hout z hz).elim) hRf hRl hRc hRs hlocks (fun t hvm hz hk => ?_) hS.2.2 hmc hms
  refine ⟨S, trivial, ⟨rfl, hP.kept (fun k q hq => hk q.1 ((hP k q hq).lt)), va_K.moved hvm hc.2, hD⟩, Nat.le_trans hS.1 hz, fun q h1 h2 => ?_⟩
  rw [hk q (Nat.lt_of_lt_of_le h1 hS.1)]
  exact hS.2.1 q h1 h2
theorem g_throwSWV (hc : CT p s m args c cc nL own Ts D tys) (hout : ∀ z ∈ c.exceptionTable.toList, False) (hlocks : meth.locks = false) (hst : l.stackTraces = false) {tF : Nat} (hE : EvX tF A s) {cls text : String} {names : List String} {ik is ic : Nat} (hk : Cond.classLink own ik cls ∈ Ts) (hini : Cond.initialized cls ∈ Ts) (hstr : ∃ sa, vk_R own is text sa s) (hat : ∀ w ∈ (vx_atS own ic cls names).filter goodWord, w.before args s = true) (hb : ∀ w ∈ (vx_atS own ic cls names).filter (fun w => !goodWord w), w ∈ xbW) (hcls : Bundle.fit cls = true) (hnames : ∀ n ∈ names, Bundle.fit n = true) (hgood : ∀ w ∈ Cond.classLink own ik cls :: Cond.initialized cls :: vx_atS own ic cls names, vx_ot w = true) (d0 : decode cc pc = .ok (.new ik, 3)) (d3 : decode cc (pc + 3) = .ok (.dup, 1)) (d4 : decode cc (pc + 4) = .ok (.ldc_w is, 3)) (d7 : decode cc (pc + 7) = .ok (.invokespecial ic, 3)) (d10 : decode cc (pc + 10) = .ok (.athrow, 1)) (hRf : names.length + 3 < R.frames) (hRl : (rest.map fun v => v.category).sum + (13 * (names.length + 1) + 43) ≤ R.locals) (hRc : cells + 1 ≤ R.cells) (hRs : slots + 6 ≤ R.slots) (hmc : cells + 1 ≤ mc) (hms : slots + 6 ≤ ms) : GF p l e R s m args below meth c D N a C A nL cells slots (fun res : RX => vx_MQ below (QXv D tys N a C A res) (XXc D tys N a C A res) args s mc ms A) (some (.inl cls, S)) pc lv rest S := by
  intro res h H locs hP hD hS ls hl
  cases h
  obtain ⟨sa, hstr⟩ := hstr
  have hx7 : ∀ w ∈ xbW, w.before args s = true := fun w hw => by
    rcases List.mem_append.mp hw with h | h
    · obtain ⟨z, hz, rfl⟩ := List.mem_map.mp h
      exact (hE.2.2.2.2.2.2.1 z hz).use rfl
    · obtain ⟨z, hz, rfl⟩ := List.mem_map.mp h
      exact (hE.2.2.2.2.2.2.2 z hz).use rfl
  refine vx_throwSW hc.1.1 hc.1.2.1 hst hc.1.2.2.2.1 hcls hnames (hc.1.2.2.2.2 _ hk) (hc.1.2.2.2.2 _ hini) hstr (vx_hat hat hb hx7) hgood hE.2.2.2.1 hE.2.2.2.2.1 hS (by rw [hc.1.2.2.1]; exact hl.1) d0 d3 d4 d7 d10 (fun z hz => (hout z hz).elim) hRf hRl hRc hRs hlocks (fun t hvm hz hk => ?_) hS.2.2 hmc hms
  refine ⟨S, trivial, ⟨rfl, hP.kept (fun k q hq => hk q.1 ((hP k q hq).lt)), va_K.moved hvm hc.2, hD⟩, Nat.le_trans hS.1 hz, fun q h1 h2 => ?_⟩
  rw [hk q (Nat.lt_of_lt_of_le h1 hS.1)]
  exact hS.2.1 q h1 h2
end GT
