/-! pure rows: sets of sets of baths as bits of a number (the class's masks) -/
def ws1 (x : Nat) : Nat := x ||| (x &&& 21845) * 2 ^ 1
def ws2 (x : Nat) : Nat := x ||| (x &&& 13107) * 2 ^ 2
def ws4 (x : Nat) : Nat := x ||| (x &&& 3855) * 2 ^ 4
def ws8 (x : Nat) : Nat := x ||| (x &&& 255) * 2 ^ 8
def wsN (x : Nat) : Nat := ws8 (ws4 (ws2 (ws1 x)))
def loN (x : Nat) : Nat := (((x &&& 43690) / 2 ^ 1 ||| (x &&& 52428) / 2 ^ 2) ||| (x &&& 61680) / 2 ^ 4) ||| (x &&& 65280) / 2 ^ 8
theorem wb1 (x i : Nat) : (ws1 x).testBit i = (x.testBit i || (decide (1 ≤ i) && (x.testBit (i - 1) && decide (21845 / 2 ^ (i - 1) % 2 = 1)))) := by
  unfold ws1
  rw [Nat.testBit_or, ← Nat.shiftLeft_eq, Nat.testBit_shiftLeft, Nat.testBit_and]
  rw [← Nat.testBit_eq_decide_div_mod_eq]
theorem wb2 (x i : Nat) : (ws2 x).testBit i = (x.testBit i || (decide (2 ≤ i) && (x.testBit (i - 2) && decide (13107 / 2 ^ (i - 2) % 2 = 1)))) := by
  unfold ws2
  rw [Nat.testBit_or, ← Nat.shiftLeft_eq, Nat.testBit_shiftLeft, Nat.testBit_and]
  rw [← Nat.testBit_eq_decide_div_mod_eq]
theorem wb4 (x i : Nat) : (ws4 x).testBit i = (x.testBit i || (decide (4 ≤ i) && (x.testBit (i - 4) && decide (3855 / 2 ^ (i - 4) % 2 = 1)))) := by
  unfold ws4
  rw [Nat.testBit_or, ← Nat.shiftLeft_eq, Nat.testBit_shiftLeft, Nat.testBit_and]
  rw [← Nat.testBit_eq_decide_div_mod_eq]
theorem wb8 (x i : Nat) : (ws8 x).testBit i = (x.testBit i || (decide (8 ≤ i) && (x.testBit (i - 8) && decide (255 / 2 ^ (i - 8) % 2 = 1)))) := by
  unfold ws8
  rw [Nat.testBit_or, ← Nat.shiftLeft_eq, Nat.testBit_shiftLeft, Nat.testBit_and]
  rw [← Nat.testBit_eq_decide_div_mod_eq]
theorem lob (x i : Nat) : (loN x).testBit i = ((((x.testBit (i + 1) && decide (43690 / 2 ^ (i + 1) % 2 = 1)) || (x.testBit (i + 2) && decide (52428 / 2 ^ (i + 2) % 2 = 1))) || (x.testBit (i + 4) && decide (61680 / 2 ^ (i + 4) % 2 = 1))) || (x.testBit (i + 8) && decide (65280 / 2 ^ (i + 8) % 2 = 1))) := by
  unfold loN
  simp only [Nat.testBit_or, Nat.testBit_div_two_pow, Nat.testBit_and, ← Nat.testBit_eq_decide_div_mod_eq]
/-- the places of the sets within g -/
def subL (g : Nat) : List Nat := (List.range 16).filter (fun f => stN f g == 0)
def supB (x : Nat) (g : Nat) : Bool := (subL g).any x.testBit
theorem ws_b (x : Nat) : ∀ g, g < 16 → (wsN x).testBit g = supB x g := by
  intro g hg
  unfold wsN supB
  rw [wb8, wb4, wb4, wb2, wb2, wb2, wb2, wb1, wb1, wb1, wb1, wb1, wb1, wb1, wb1]
  rcases (show g = 0 ∨ g = 1 ∨ g = 2 ∨ g = 3 ∨ g = 4 ∨ g = 5 ∨ g = 6 ∨ g = 7 ∨ g = 8 ∨ g = 9 ∨ g = 10 ∨ g = 11 ∨ g = 12 ∨ g = 13 ∨ g = 14 ∨ g = 15 by omega) with h | h | h | h | h | h | h | h | h | h | h | h | h | h | h | h
  all_goals subst h
  all_goals generalize x.testBit = b
  · rw [show subL 0 = [0] by decide +kernel]; simp [Bool.or_comm, Bool.or_left_comm, Bool.or_assoc]
  · rw [show subL 1 = [0, 1] by decide +kernel]; simp [Bool.or_comm, Bool.or_left_comm, Bool.or_assoc]
  · rw [show subL 2 = [0, 2] by decide +kernel]; simp [Bool.or_comm, Bool.or_left_comm, Bool.or_assoc]
  · rw [show subL 3 = [0, 1, 2, 3] by decide +kernel]; simp [Bool.or_comm, Bool.or_left_comm, Bool.or_assoc]
  · rw [show subL 4 = [0, 4] by decide +kernel]; simp [Bool.or_comm, Bool.or_left_comm, Bool.or_assoc]
  · rw [show subL 5 = [0, 1, 4, 5] by decide +kernel]; simp [Bool.or_comm, Bool.or_left_comm, Bool.or_assoc]
  · rw [show subL 6 = [0, 2, 4, 6] by decide +kernel]; simp [Bool.or_comm, Bool.or_left_comm, Bool.or_assoc]
  · rw [show subL 7 = [0, 1, 2, 3, 4, 5, 6, 7] by decide +kernel]; simp [Bool.or_comm, Bool.or_left_comm, Bool.or_assoc]
  · rw [show subL 8 = [0, 8] by decide +kernel]; simp [Bool.or_comm, Bool.or_left_comm, Bool.or_assoc]
  · rw [show subL 9 = [0, 1, 8, 9] by decide +kernel]; simp [Bool.or_comm, Bool.or_left_comm, Bool.or_assoc]
  · rw [show subL 10 = [0, 2, 8, 10] by decide +kernel]; simp [Bool.or_comm, Bool.or_left_comm, Bool.or_assoc]
  · rw [show subL 11 = [0, 1, 2, 3, 8, 9, 10, 11] by decide +kernel]; simp [Bool.or_comm, Bool.or_left_comm, Bool.or_assoc]
  · rw [show subL 12 = [0, 4, 8, 12] by decide +kernel]; simp [Bool.or_comm, Bool.or_left_comm, Bool.or_assoc]
  · rw [show subL 13 = [0, 1, 4, 5, 8, 9, 12, 13] by decide +kernel]; simp [Bool.or_comm, Bool.or_left_comm, Bool.or_assoc]
  · rw [show subL 14 = [0, 2, 4, 6, 8, 10, 12, 14] by decide +kernel]; simp [Bool.or_comm, Bool.or_left_comm, Bool.or_assoc]
  · rw [show subL 15 = [0, 1, 2, 3, 4, 5, 6, 7, 8, 9, 10, 11, 12, 13, 14, 15] by decide +kernel]; simp [Bool.or_comm, Bool.or_left_comm, Bool.or_assoc]
def losL (g : Nat) : List Nat := (List.range 16).filter (fun f => (f &&& g == g) && (stN f g == 1))
theorem lo_b (x : Nat) : ∀ g, g < 16 → (loN x).testBit g = (losL g).any x.testBit := by
  intro g hg
  rw [lob]
  rcases (show g = 0 ∨ g = 1 ∨ g = 2 ∨ g = 3 ∨ g = 4 ∨ g = 5 ∨ g = 6 ∨ g = 7 ∨ g = 8 ∨ g = 9 ∨ g = 10 ∨ g = 11 ∨ g = 12 ∨ g = 13 ∨ g = 14 ∨ g = 15 by omega) with h | h | h | h | h | h | h | h | h | h | h | h | h | h | h | h
  all_goals subst h
  all_goals generalize x.testBit = b
  · rw [show losL 0 = [1, 2, 4, 8] by decide +kernel]; simp [Bool.or_comm, Bool.or_left_comm, Bool.or_assoc]
  · rw [show losL 1 = [3, 5, 9] by decide +kernel]; simp [Bool.or_comm, Bool.or_left_comm, Bool.or_assoc]
  · rw [show losL 2 = [3, 6, 10] by decide +kernel]; simp [Bool.or_comm, Bool.or_left_comm, Bool.or_assoc]
  · rw [show losL 3 = [7, 11] by decide +kernel]; simp [Bool.or_comm, Bool.or_left_comm, Bool.or_assoc]
  · rw [show losL 4 = [5, 6, 12] by decide +kernel]; simp [Bool.or_comm, Bool.or_left_comm, Bool.or_assoc]
  · rw [show losL 5 = [7, 13] by decide +kernel]; simp [Bool.or_comm, Bool.or_left_comm, Bool.or_assoc]
  · rw [show losL 6 = [7, 14] by decide +kernel]; simp [Bool.or_comm, Bool.or_left_comm, Bool.or_assoc]
  · rw [show losL 7 = [15] by decide +kernel]; simp [Bool.or_comm, Bool.or_left_comm, Bool.or_assoc]
  · rw [show losL 8 = [9, 10, 12] by decide +kernel]; simp [Bool.or_comm, Bool.or_left_comm, Bool.or_assoc]
  · rw [show losL 9 = [11, 13] by decide +kernel]; simp [Bool.or_comm, Bool.or_left_comm, Bool.or_assoc]
  · rw [show losL 10 = [11, 14] by decide +kernel]; simp [Bool.or_comm, Bool.or_left_comm, Bool.or_assoc]
  · rw [show losL 11 = [15] by decide +kernel]; simp [Bool.or_comm, Bool.or_left_comm, Bool.or_assoc]
  · rw [show losL 12 = [13, 14] by decide +kernel]; simp [Bool.or_comm, Bool.or_left_comm, Bool.or_assoc]
  · rw [show losL 13 = [15] by decide +kernel]; simp [Bool.or_comm, Bool.or_left_comm, Bool.or_assoc]
  · rw [show losL 14 = [15] by decide +kernel]; simp [Bool.or_comm, Bool.or_left_comm, Bool.or_assoc]
  · rw [show losL 15 = [] by decide +kernel]; simp [Bool.or_comm, Bool.or_left_comm, Bool.or_assoc]
theorem ws_iff {x g : Nat} (hg : g < 16) : (wsN x).testBit g = true ↔ ∃ f, f < 16 ∧ stN f g = 0 ∧ x.testBit f = true := by
  rw [ws_b x g hg]
  unfold supB subL
  simp only [List.any_eq_true, List.mem_filter, List.mem_range, beq_iff_eq]
  constructor
  · intro ⟨f, ⟨h1, h2⟩, h3⟩; exact ⟨f, h1, h2, h3⟩
  · intro ⟨f, h1, h2, h3⟩; exact ⟨f, ⟨h1, h2⟩, h3⟩
theorem lo_iff {x g : Nat} (hg : g < 16) : (loN x).testBit g = true ↔ ∃ f, f < 16 ∧ f &&& g = g ∧ stN f g = 1 ∧ x.testBit f = true := by
  rw [lo_b x g hg]
  unfold losL
  simp only [List.any_eq_true, List.mem_filter, List.mem_range, beq_iff_eq, Bool.and_eq_true]
  constructor
  · intro ⟨f, ⟨h1, h2⟩, h3⟩; exact ⟨f, h1, h2.1, h2.2, h3⟩
  · intro ⟨f, h1, h2, h3, h4⟩; exact ⟨f, ⟨h1, h2, h3⟩, h4⟩
theorem ws1_lt {x : Nat} (h : x < 65536) : ws1 x < 65536 := Nat.or_lt_two_pow (n := 16) h (by
  have := Nat.and_le_right (n := x) (m := 21845)
  omega)
theorem ws2_lt {x : Nat} (h : x < 65536) : ws2 x < 65536 := Nat.or_lt_two_pow (n := 16) h (by
  have := Nat.and_le_right (n := x) (m := 13107)
  omega)
theorem ws4_lt {x : Nat} (h : x < 65536) : ws4 x < 65536 := Nat.or_lt_two_pow (n := 16) h (by
  have := Nat.and_le_right (n := x) (m := 3855)
  omega)
theorem ws8_lt {x : Nat} (h : x < 65536) : ws8 x < 65536 := Nat.or_lt_two_pow (n := 16) h (by
  have := Nat.and_le_right (n := x) (m := 255)
  omega)
theorem ws_lt {x : Nat} (h : x < 65536) : wsN x < 65536 := ws8_lt (ws4_lt (ws2_lt (ws1_lt h)))
theorem lo_lt (x : Nat) : loN x < 65536 := by
  have h1 := Nat.and_le_right (n := x) (m := 43690)
  have h2 := Nat.and_le_right (n := x) (m := 52428)
  have h3 := Nat.and_le_right (n := x) (m := 61680)
  have h4 := Nat.and_le_right (n := x) (m := 65280)
  exact Nat.or_lt_two_pow (n := 16) (Nat.or_lt_two_pow (n := 16) (Nat.or_lt_two_pow (n := 16) (by omega) (by omega)) (by omega)) (by omega)
/-- the values V of a place: the fewest F, which sets ahead keep to it, which add one at most -/
def MkI (V : Nat → Nat) (F K O : Nat) : Prop := K < 65536 ∧ O < 65536 ∧ ∀ g, g < 16 → (F ≤ V g ∧ V g ≤ F + 2) ∧ (K.testBit g = true ↔ V g = F) ∧ (O.testBit g = true ↔ V g ≤ F + 1)
theorem st_cut : ∀ f, f < 16 → ∀ g, g < 16 → f &&& g < 16 ∧ f &&& (f &&& g) = f &&& g ∧ stN f (f &&& g) = stN f g ∧ stN (f &&& g) g = 0 := by decide +kernel
theorem st_fre2 : ∀ m, m < 16 → ∀ g, g < 16 → stN (freN m) g ≤ 2 := by decide +kernel
theorem all16 : ∀ g, g < 16 → Nat.testBit 65535 g = true := by decide +kernel
theorem MkI.end {V : Nat → Nat} (h : ∀ g, V g = 0) : MkI V 0 65535 65535 := ⟨by decide, by decide, fun g hg => by
  rw [h g, all16 g hg]
  exact ⟨by omega, by simp, by simp⟩⟩
/-- where the loop of weigh ends: of the sets that are allowed the cheapest, and those one dearer at most -/
def MkL (V : Nat → Nat) (fw F c o : Nat) : Prop := c < 65536 ∧ o < 65536 ∧ c ≠ 0 ∧ ∀ f, f < 16 → (fw.testBit f = true → F ≤ V f) ∧ (c.testBit f = true ↔ fw.testBit f = true ∧ V f = F) ∧ (o.testBit f = true ↔ fw.testBit f = true ∧ V f ≤ F + 1)
theorem no_bit {x : Nat} (h : x = 0) (f : Nat) : ¬ x.testBit f = true := by rw [h, Nat.zero_testBit]; exact Bool.false_ne_true
section
variable {V V' : Nat → Nat} {F K O fw : Nat}
theorem MkL.s0 (h : MkI V F K O) (hfw : fw < 65536) (hc : fw &&& K ≠ 0) : MkL V fw F (fw &&& K) (fw &&& O) := ⟨Nat.and_lt_two_pow (n := 16) _ h.1, Nat.and_lt_two_pow (n := 16) _ h.2.1, hc, fun f hf => by
  obtain ⟨h1, h2, h3⟩ := h.2.2 f hf
  rw [Nat.testBit_and, Nat.testBit_and, Bool.and_eq_true, Bool.and_eq_true, h2, h3]
  exact ⟨fun _ => h1.1, Iff.rfl, Iff.rfl⟩⟩
theorem MkL.s1 (h : MkI V F K O) (hfw : fw < 65536) (hk : fw &&& K = 0) (hc : fw &&& O ≠ 0) : MkL V fw (F + 1) (fw &&& O) fw := ⟨Nat.and_lt_two_pow (n := 16) _ h.2.1, hfw, hc, fun f hf => by
  obtain ⟨h1, h2, h3⟩ := h.2.2 f hf
  have hn : fw.testBit f = true → ¬ V f = F := fun q z => no_bit hk f (by rw [Nat.testBit_and, q, h2.mpr z]; rfl)
  rw [Nat.testBit_and, Bool.and_eq_true, h3]
  refine ⟨fun q => ?_, ⟨fun q => ⟨q.1, ?_⟩, fun q => ⟨q.1, by omega⟩⟩, ⟨fun q => ⟨q, by omega⟩, fun q => q.1⟩⟩
  · have := hn q; omega
  · have := hn q.1; omega⟩
theorem MkL.s2 (h : MkI V F K O) (hfw : fw < 65536) (ho : fw &&& O = 0) (hc : fw ≠ 0) : MkL V fw (F + 2) fw fw := ⟨hfw, hfw, hc, fun f hf => by
  obtain ⟨h1, h2, h3⟩ := h.2.2 f hf
  have hn : fw.testBit f = true → ¬ V f ≤ F + 1 := fun q z => no_bit ho f (by rw [Nat.testBit_and, q, h3.mpr z]; rfl)
  refine ⟨fun q => ?_, ⟨fun q => ⟨q, ?_⟩, fun q => q.1⟩, ⟨fun q => ⟨q, by omega⟩, fun q => q.1⟩⟩
  · have := hn q; omega
  · have := hn q; omega⟩
theorem MkI.step {c o : Nat} (h : MkL V' fw F c o) (hfr : ∀ f, fw.testBit f = true → f < 16 ∧ ∀ g, g < 16 → stN f g ≤ 2) (hle : ∀ f g, fw.testBit f = true → g < 16 → V g ≤ stN f g + V' f) (hat : ∀ g, g < 16 → ∃ f, fw.testBit f = true ∧ stN f g + V' f = V g) : MkI V F (wsN c) (wsN (o ||| loN c)) := by
  obtain ⟨h1, h2, h3, h4⟩ := h
  refine ⟨ws_lt h1, ws_lt (Nat.or_lt_two_pow (n := 16) h2 (lo_lt c)), fun g hg => ?_⟩
  obtain ⟨f, f1, f2⟩ := hat g hg
  have f3 := (hfr f f1).1
  obtain ⟨a1, a2, a3⟩ := h4 f f3
  have a1 := a1 f1
  refine ⟨⟨by omega, ?_⟩, ?_, ?_⟩
  · obtain ⟨q, hq⟩ := Nat.exists_testBit_of_ne_zero h3
    by_cases q16 : q < 16
    · obtain ⟨b1, b2⟩ := (h4 q q16).2.1.mp hq
      have := hle q g b1 hg
      have := (hfr q b1).2 g hg
      omega
    · have : c.testBit q = false := Nat.testBit_lt_two_pow (Nat.lt_of_lt_of_le h1 (Nat.pow_le_pow_right (n := 2) (by decide) (show 16 ≤ q by omega)))
      rw [this] at hq
      cases hq
  · rw [ws_iff hg]
    constructor
    · intro ⟨q, q1, q2, q3⟩
      obtain ⟨b1, b2⟩ := (h4 q q1).2.1.mp q3
      have := hle q g b1 hg
      omega
    · intro e
      exact ⟨f, f3, by omega, a2.mpr ⟨f1, by omega⟩⟩
  · rw [ws_iff hg]
    constructor
    · intro ⟨q, q1, q2, q3⟩
      rw [Nat.testBit_or, Bool.or_eq_true, lo_iff q1] at q3
      rcases q3 with q3 | ⟨r, r1, r2, r3, r4⟩
      · obtain ⟨b1, b2⟩ := (h4 q q1).2.2.mp q3
        have := hle q g b1 hg
        omega
      · obtain ⟨b1, b2⟩ := (h4 r r1).2.1.mp r4
        have := hle r g b1 hg
        have := st_tri g hg q q1 r r1
        omega
    · intro e
      by_cases z : stN f g = 0
      · exact ⟨f, f3, z, by rw [Nat.testBit_or, a3.mpr ⟨f1, by omega⟩]; rfl⟩
      · obtain ⟨c1, c2, c3, c4⟩ := st_cut f f3 g hg
        refine ⟨f &&& g, c1, c4, ?_⟩
        rw [Nat.testBit_or, Bool.or_eq_true, lo_iff c1]
        exact Or.inr ⟨f, f3, c2, by omega, a2.mpr ⟨f1, by omega⟩⟩
end
section
variable {A : Nat → Nat → Bool} {al e : Nat}
/-- the least ties of a place out of those of the next, by masks -/
theorem vv_mask {k fw F c o : Nat} (hal : al ≤ 16) (hk : k < e) (he : e ≤ 24) (hf : ∀ p, p < e → ∃ m, m < al ∧ A p m = true) (hfw : ∀ f, fw.testBit f = true ↔ ∃ m, m < al ∧ A (e - (k + 1)) m = true ∧ freN m = f) (h : MkL (vvN A al e k) fw F c o) : MkI (vvN A al e (k + 1)) F (wsN c) (wsN (o ||| loN c)) := by
  refine MkI.step h (fun f q => ?_) (fun f g q hg => ?_) (fun g hg => ?_)
  · obtain ⟨m, m1, m2, rfl⟩ := (hfw f).mp q
    exact ⟨fre_lt m (by omega), fun g hg => st_fre2 m (by omega) g hg⟩
  · obtain ⟨m, m1, m2, rfl⟩ := (hfw f).mp q
    exact vv_le m1 m2
  · have := vv_small hf (k + 1) g (by omega)
    obtain ⟨m, m1, m2, m3⟩ := vv_at (A := A) (al := al) (e := e) (k := k) (g := g) (by omega)
    exact ⟨freN m, (hfw _).mpr ⟨m, m1, m2, rfl⟩, m3⟩
theorem fw_ne {k fw : Nat} (hk : k < e) (hf : ∀ p, p < e → ∃ m, m < al ∧ A p m = true) (hfw : ∀ f, fw.testBit f = true ↔ ∃ m, m < al ∧ A (e - (k + 1)) m = true ∧ freN m = f) : fw ≠ 0 := fun z => by
  obtain ⟨m, m1, m2⟩ := hf (e - (k + 1)) (by omega)
  exact no_bit z _ ((hfw _).mpr ⟨m, m1, m2, rfl⟩)
end
