/-! pure rows: the checks of arguments, and the methods without loops -/
abbrev eIO : String := "java/lang/IndexOutOfBoundsException"
abbrev eIA : String := "java/lang/IllegalArgumentException"
abbrev eNS : String := "java/util/NoSuchElementException"
theorem rightT {T : St} (h : T 0 0 = 0) (w : Int32) : uX9_right 1 w T = some (1, T) := by
  unfold uX9_right bX9_right_16 bX9_right_28
  rw [if_pos h, if_neg (by decide), if_pos h, rz1]
theorem rightF {T : St} (h : T 0 0 = 0) {w : Int32} (hw : w ≠ 0) : uX9_right 0 w T = some (0, s2 T 0 0 w) := by
  unfold uX9_right bX9_right_16 bX9_right_28
  rw [if_pos h, if_pos rfl]
  show (if s2 T 0 0 w 0 0 = 0 then _ else _) = _
  rw [if_neg (by exact hw), rz0]
theorem n8 {x c : Int32} (n : Nat) (hn : n < 2147483648) (hc : c = nI n) : x < 0 ∨ (¬ x < 0 ∧ c ≤ x ∧ ¬ x < c) ∨ ∃ j : Nat, j < n ∧ x = nI j ∧ ¬ x < 0 ∧ ¬ c ≤ x ∧ x < c := by
  subst hc
  by_cases h0 : x < 0
  · exact Or.inl h0
  · rcases pk_ix x (n := n) (by omega) with h | h | ⟨j, hj, e⟩
    · exact absurd h h0
    · exact Or.inr (Or.inl ⟨h0, h, fun q => by
        rw [fa_lt] at q; rw [fa_le] at h; omega⟩)
    · refine Or.inr (Or.inr ⟨j, hj, e, h0, ?_, ?_⟩)
      · rw [e]; exact nI_ge hj (by omega)
      · rw [e]; exact nI_lt hj (by omega)
theorem x_thr {S : St} {th : Nat} (h : S 3 0 = nI th) (hth : th ≤ 16) (x : Int32) : (∃ t, t < th ∧ x = nI t ∧ uX8_needThread x S = some (.inr 0, S) ∧ ∀ T : St, T 0 1 = nI th → T 0 0 = 0 → uX9_isThread x T = some (1, T)) ∨ (uX8_needThread x S = some (.inl eIO, S) ∧ ∀ T : St, T 0 1 = nI th → T 0 0 = 0 → uX9_isThread x T = some (0, s2 T 0 0 1)) := by
  unfold uX8_needThread uX9_isThread bX9_isThread_17 bX9_isThread_18 bX8_needThread_15 uX0_threads
  rcases n8 (x := x) th (by omega) rfl with h0 | ⟨h0, h1, h2⟩ | ⟨t, ht, e, h0, h1, h2⟩
  · refine Or.inr ⟨if_pos h0, fun T hT hz => ?_⟩
    rw [if_pos h0, rightF hz (by decide), cl_some, rz0]
  · refine Or.inr ⟨?_, fun T hT hz => ?_⟩
    · rw [if_neg h0, cl_some, h, if_neg h2]
    · rw [if_neg h0, hT, if_pos h1, rightF hz (by decide), cl_some, rz0]
  · refine Or.inl ⟨t, ht, e, ?_, fun T hT hz => ?_⟩
    · rw [if_neg h0, cl_some, h, if_pos h2]
    · rw [if_neg h0, hT, if_neg h1, rightT hz, cl_some, rz1]
theorem x_plc {S : St} {pl : Nat} (h : S 3 1 = nI pl) (hpl : pl ≤ 24) (x : Int32) : (∃ p, p < pl ∧ x = nI p ∧ uX8_needPlace x S = some (.inr 0, S) ∧ ∀ T : St, T 0 2 = nI pl → T 0 0 = 0 → uX9_isPlace x T = some (1, T)) ∨ (uX8_needPlace x S = some (.inl eIO, S) ∧ ∀ T : St, T 0 2 = nI pl → T 0 0 = 0 → uX9_isPlace x T = some (0, s2 T 0 0 1)) := by
  unfold uX8_needPlace uX9_isPlace bX9_isPlace_17 bX9_isPlace_18 bX8_needPlace_15 uX0_places
  rcases n8 (x := x) pl (by omega) rfl with h0 | ⟨h0, h1, h2⟩ | ⟨t, ht, e, h0, h1, h2⟩
  · refine Or.inr ⟨if_pos h0, fun T hT hz => ?_⟩
    rw [if_pos h0, rightF hz (by decide), cl_some, rz0]
  · refine Or.inr ⟨?_, fun T hT hz => ?_⟩
    · rw [if_neg h0, cl_some, h, if_neg h2]
    · rw [if_neg h0, hT, if_pos h1, rightF hz (by decide), cl_some, rz0]
  · refine Or.inl ⟨t, ht, e, ?_, fun T hT hz => ?_⟩
    · rw [if_neg h0, cl_some, h, if_pos h2]
    · rw [if_neg h0, hT, if_neg h1, rightT hz, cl_some, rz1]
theorem x_bun {S : St} (x : Int32) : (∃ b, b < 8 ∧ x = nI b ∧ uX8_needBundle x S = some (.inr 0, S) ∧ ∀ T : St, T 0 0 = 0 → uX9_isBundle x T = some (1, T)) ∨ (uX8_needBundle x S = some (.inl eIO, S) ∧ ∀ T : St, T 0 0 = 0 → uX9_isBundle x T = some (0, s2 T 0 0 1)) := by
  unfold uX8_needBundle uX9_isBundle bX9_isBundle_15 bX9_isBundle_16 bX8_needBundle_10
  rcases n8 (x := x) (c := 8) 8 (by omega) rfl with h0 | ⟨h0, h1, h2⟩ | ⟨t, ht, e, h0, h1, h2⟩
  · refine Or.inr ⟨if_pos h0, fun T hz => ?_⟩
    rw [if_pos h0, rightF hz (by decide), cl_some, rz0]
  · refine Or.inr ⟨?_, fun T hz => ?_⟩
    · rw [if_neg h0, if_neg h2]
    · rw [if_neg h0, if_pos h1, rightF hz (by decide), cl_some, rz0]
  · refine Or.inl ⟨t, ht, e, ?_, fun T hz => ?_⟩
    · rw [if_neg h0, if_pos h2]
    · rw [if_neg h0, if_neg h1, rightT hz, cl_some, rz1]
theorem x_dye {S : St} (x : Int32) : (∃ d, d < 4 ∧ x = nI d ∧ uX8_needDye x S = some (.inr 0, S) ∧ ¬ x < 0 ∧ ¬ 4 ≤ x) ∨ (uX8_needDye x S = some (.inl eIO, S) ∧ (x < 0 ∨ (¬ x < 0 ∧ 4 ≤ x))) := by
  unfold uX8_needDye bX8_needDye_9
  rcases n8 (x := x) (c := 4) 4 (by omega) rfl with h0 | ⟨h0, h1, h2⟩ | ⟨t, ht, e, h0, h1, h2⟩
  · exact Or.inr ⟨if_pos h0, Or.inl h0⟩
  · exact Or.inr ⟨by rw [if_neg h0, if_neg h2], Or.inr ⟨h0, h1⟩⟩
  · exact Or.inl ⟨t, ht, e, by rw [if_neg h0, if_pos h2], h0, h1⟩
theorem x_col (x : Int32) : (∃ c, c < 16 ∧ x = nI c ∧ (∀ S : St, uX8_isColour x S = some (1, S)) ∧ ¬ x < 0 ∧ ¬ 16 ≤ x) ∨ ((∀ S : St, uX8_isColour x S = some (0, S)) ∧ (x < 0 ∨ (¬ x < 0 ∧ 16 ≤ x))) := by
  unfold uX8_isColour bX8_isColour_14 bX8_isColour_15
  rcases n8 (x := x) (c := 16) 16 (by omega) rfl with h0 | ⟨h0, h1, h2⟩ | ⟨t, ht, e, h0, h1, h2⟩
  · exact Or.inr ⟨fun S => by rw [if_pos h0, rz0], Or.inl h0⟩
  · exact Or.inr ⟨fun S => by rw [if_neg h0, if_pos h1, rz0], Or.inr ⟨h0, h1⟩⟩
  · exact Or.inl ⟨t, ht, e, fun S => by rw [if_neg h0, if_neg h1, rz1], h0, h1⟩
theorem agx {cs : List (String × Int32)} {S T : St} {E : String} {n : Int32} {y : Option RX} {v : Int32} (h : Rel S T) (hy : y = some (.inl E, S)) {w : Option (Int32 × St)} (hw : w = some (v, s2 T 0 0 n)) (hm : (E, n) ∈ cs) : Agr cs y w := Or.inr ⟨E, n, S, v, _, hy, hw, hm, rfl, h⟩
/-- where the place's colour lies -/
theorem colX {S : St} {hm : Nat → Nat} {co : Nat → Nat → Nat} (h1 : rA 16 hm (S 12)) (h2 : ∀ b, b < 8 → rA 24 (co b) (S (31 + b))) (hb : ∀ t, hm t < 8) {t p : Nat} (ht : t < 16) (hp : p < 24) : uX0_colourAt (nI t) (nI p) S = some (nI (co (hm t) p), S) := by
  have hb := hb t
  unfold uX0_colourAt
  simp (disch := omega) only [ckI, clI, cknI, h1 t ht, h2 (hm t) hb p hp]
theorem colM {T : St} {hm : Nat → Nat} {co : Nat → Nat → Nat} (h1 : rA 16 hm (T 1)) (h2 : rM 8 co (T 2)) (hb : ∀ t, hm t < 8) {t p : Nat} (ht : t < 16) (hp : p < 24) : uX9_colourOf (nI t) (nI p) T = some (nI (co (hm t) p), T) := by
  have hb := hb t
  unfold uX9_colourOf
  simp (disch := omega) only [li, ckI, clI, h1 t ht, pk_mul, nI_add, h2 (hm t) hb p hp]
theorem q_colour {S T : St} (h : Rel S T) (x y : Int32) : Agr [(eIO, 1)] (uX8_colour x y S) (uX9_colour x y T) := by
  unfold uX8_colour uX9_colour bX9_colour_30 bX9_colour_31
  simp only [lzE]
  obtain ⟨T1, eT, hz, h⟩ : ∃ T1, T1 = s2 T 0 0 0 ∧ T1 0 0 = 0 ∧ Rel S T1 := ⟨_, rfl, rfl, h⟩
  rw [← eT]
  obtain ⟨th, pl, hm, fo, kn, co, ta, va, wa, lo, hi, la, ld, lc, lr, n3, hp, pr, pt, pb, B, X, M⟩ := id h
  have B1 := B.1
  rcases x_thr X.1.1 B1.2.1 x with ⟨t, ht, rfl, e1, m1⟩ | ⟨e1, m1⟩
  · rcases x_plc X.1.2 B1.2.2.2 y with ⟨p, hp, rfl, e2, m2⟩ | ⟨e2, m2⟩
    · refine Or.inl ⟨nI (co (hm t) p), S, T1, ?_, ?_, hz, h⟩
      · rw [e1, cx_ok, e2, cx_ok, colX X.2.1 X.2.2.2.2.2.1 B.2.1 (by omega) (by omega), cl_some]
      · rw [m1 _ M.1.1 hz, cl_some, if_neg (by decide), m2 _ M.1.2 hz, cl_some, if_neg (by decide), colM M.2.1 M.2.2.2.2.1 B.2.1 (by omega) (by omega), cl_some]
    · refine agx h (by rw [e1, cx_ok, e2, cx_ex]) (v := 0) (n := 1) (by rw [m1 _ M.1.1 hz, cl_some, if_neg (by decide), m2 _ M.1.2 hz, cl_some, if_pos rfl]) (by simp)
  · exact agx h (by rw [e1, cx_ex]) (v := 0) (n := 1) (by rw [m1 _ M.1.1 hz, cl_some, if_pos rfl]) (by simp)
