/-! pure rows: the class's tryRow, gatherWays -/
theorem be_cong {ta : Nat → Nat} {row m m' : Nat} : ∀ {k}, (∀ q, q < k → m.testBit q = m'.testBit q) → beN ta row m k = beN ta row m' k
  | 0, _ => rfl
  | k + 1, h => by rw [be_s, be_s, h k (by omega), be_cong (fun q hq => h q (by omega))]
theorem be_hi {ta : Nat → Nat} {row i j : Nat} (hi : i < 2 ^ j) : beN ta row (2 ^ j + i) (j + 1) = beN ta row i j := by
  rw [be_s, Nat.testBit_two_pow_add_eq, Nat.testBit_lt_two_pow hi, if_pos (show (!false) = true from rfl)]
  exact be_cong (fun q hq => Nat.testBit_two_pow_add_gt hq i)
theorem be_lo {ta : Nat → Nat} {row i j : Nat} (hi : i < 2 ^ j) : beN ta row i (j + 1) = ta (4 * beN ta row i j + dyN row j - 1) := by
  rw [be_s, Nat.testBit_lt_two_pow hi, if_neg (by decide)]
theorem or_add {i j : Nat} (hi : i < 2 ^ j) : i ||| 2 ^ j = 2 ^ j + i := by
  have := Nat.two_pow_add_eq_or_of_lt hi 1
  rw [Nat.mul_one] at this
  rw [this, Nat.or_comm]
def wyOk (ta : Nat → Nat) (row : Nat) (wy fy : Nat → Nat) (S : St) : Prop := (∀ c, c < 16 → S 21 c = nI (wy c) ∧ S 22 c = nI (fy c) ∧ wy c < 65536 ∧ fy c < 65536) ∧ (∀ c m, (wy c).testBit m = true ↔ m < 2 ^ btN row ∧ beN ta row m (btN row) = c) ∧ ∀ c f, (fy c).testBit f = true ↔ ∃ m, m < 2 ^ btN row ∧ beN ta row m (btN row) = c ∧ freN m = f
section
variable {th pl : Nat} {hm fo kn : Nat → Nat} {co : Nat → Nat → Nat} {ta va : Nat → Nat} {wa : Nat → Nat → Nat} {lo hi : Nat → Int32} {la : Nat} {ld lc lr : Nat → Nat} {n3 hp pr pt : Nat} {pb : Nat → Nat → Nat} {S S0 S' : St} {row : Nat}
theorem gatherX {be : Nat → Nat} {nb am : Nat} (hnb : nb ≤ 4) (hbe : ∀ m, be m < 16) (h20 : ∀ m, m < 2 ^ nb → S0 20 m = nI (be m)) (h52 : S0 5 2 = nI am) (ham : am < 65536) : ∃ (r : Nat) (S2 : St) (wy fy : Nat → Nat), uX5_gatherWays (nI (2 ^ nb)) S0 = some (nI r, S2) ∧ r < 2 ∧ (∀ k, k ≠ 21 → k ≠ 22 → S2 k = S0 k) ∧ (∀ c, c < 16 → S2 21 c = nI (wy c) ∧ S2 22 c = nI (fy c) ∧ wy c < 65536 ∧ fy c < 65536) ∧ (∀ c m, (wy c).testBit m = true ↔ m < 2 ^ nb ∧ be m = c) ∧ (∀ c f, (fy c).testBit f = true ↔ ∃ m, m < 2 ^ nb ∧ be m = c ∧ freN m = f) ∧ (r = 1 ↔ ∀ c, am.testBit c = true → ∃ m, m < 2 ^ nb ∧ be m = c) := by
  have h16 := p16 hnb
  unfold uX5_gatherWays lX5_gatherWays_2
  simp only [ltE, li]
  refine lpF (β := K2) 16 (by decide) (fun i k2 => ∀ S, (∀ k, k ≠ 21 → k ≠ 22 → S k = S0 k) → (∀ c, c < i → S 21 c = nI 0 ∧ S 22 c = nI 0) → ∃ (r : Nat) (S2 : St) (wy fy : Nat → Nat), k2 (nI (2 ^ nb)) (nI i) S = some (nI r, S2) ∧ r < 2 ∧ (∀ k, k ≠ 21 → k ≠ 22 → S2 k = S0 k) ∧ (∀ c, c < 16 → S2 21 c = nI (wy c) ∧ S2 22 c = nI (fy c) ∧ wy c < 65536 ∧ fy c < 65536) ∧ (∀ c m, (wy c).testBit m = true ↔ m < 2 ^ nb ∧ be m = c) ∧ (∀ c f, (fy c).testBit f = true ↔ ∃ m, m < 2 ^ nb ∧ be m = c ∧ freN m = f) ∧ (r = 1 ↔ ∀ c, am.testBit c = true → ∃ m, m < 2 ^ nb ∧ be m = c)) (fun k2 S hS h21 => ?_) (fun i k2 hi1 ih S hS h21 => ?_) S0 (fun _ _ _ => rfl) (fun c hc => by omega)
  · unfold bX5_gatherWays_2 lX5_gatherWays_32
    simp only [li]
    rw [iLeT (by omega) (by omega)]
    simp only [ltE]
    refine lpF (β := K3) (2 ^ nb) (by omega) (fun i k32 => ∀ (S : St) (wy fy : Nat → Nat) (re : Nat), (∀ k, k ≠ 21 → k ≠ 22 → S k = S0 k) → (∀ c, c < 16 → S 21 c = nI (wy c) ∧ S 22 c = nI (fy c)) → (∀ c, wy c < 65536 ∧ fy c < 65536) → re < 65536 → (∀ c m, (wy c).testBit m = true ↔ m < i ∧ be m = c) → (∀ c f, (fy c).testBit f = true ↔ ∃ m, m < i ∧ be m = c ∧ freN m = f) → (∀ c, re.testBit c = true ↔ ∃ m, m < i ∧ be m = c) → ∃ (r : Nat) (S2 : St) (wy fy : Nat → Nat), k32 (nI (2 ^ nb)) (nI re) (nI i) S = some (nI r, S2) ∧ r < 2 ∧ (∀ k, k ≠ 21 → k ≠ 22 → S2 k = S0 k) ∧ (∀ c, c < 16 → S2 21 c = nI (wy c) ∧ S2 22 c = nI (fy c) ∧ wy c < 65536 ∧ fy c < 65536) ∧ (∀ c m, (wy c).testBit m = true ↔ m < 2 ^ nb ∧ be m = c) ∧ (∀ c f, (fy c).testBit f = true ↔ ∃ m, m < 2 ^ nb ∧ be m = c ∧ freN m = f) ∧ (r = 1 ↔ ∀ c, am.testBit c = true → ∃ m, m < 2 ^ nb ∧ be m = c)) (fun k32 S wy fy re hS g1 g2 g3 g4 g5 g6 => ?_) (fun i k32 hi1 ih S wy fy re hS g1 g2 g3 g4 g5 g6 => ?_) S (fun _ => 0) (fun _ => 0) 0 hS (fun c hc => h21 c hc) (fun _ => ⟨by decide, by decide⟩) (by decide) (fun c m => by rw [Nat.zero_testBit]; exact ⟨fun h => (by cases h), fun h => by omega⟩) (fun c f => by rw [Nat.zero_testBit]; exact ⟨fun h => (by cases h), fun ⟨m, h, _⟩ => by omega⟩) (fun c => by rw [Nat.zero_testBit]; exact ⟨fun h => (by cases h), fun ⟨m, h, _⟩ => by omega⟩)
    · unfold bX5_gatherWays_32 bX5_gatherWays_103
      simp only [li]
      rw [iLeT (Nat.le_refl _) (by omega), hS 5 (by decide) (by decide), h52, andn]
      have hx : am ^^^ (am &&& re) < 65536 := Nat.xor_lt_two_pow (n := 16) ham (Nat.lt_of_le_of_lt Nat.and_le_left ham)
      have bx : ∀ c, (am ^^^ (am &&& re)).testBit c = (am.testBit c && !re.testBit c) := fun c => by
        rw [Nat.testBit_xor, Nat.testBit_and]
        cases am.testBit c <;> cases re.testBit c <;> rfl
      by_cases q : am ^^^ (am &&& re) = 0
      · rw [iEqT q, rzI (by decide)]
        refine ⟨1, S, wy, fy, rfl, by decide, hS, fun c hc => ⟨(g1 c hc).1, (g1 c hc).2, (g2 c).1, (g2 c).2⟩, g4, g5, fun _ c hc => ?_, fun _ => rfl⟩
        have := bx c
        rw [q, Nat.zero_testBit, hc] at this
        cases hre : re.testBit c
        · rw [hre] at this; cases this
        · exact (g6 c).mp hre
      · rw [iEqF q (by omega) (by omega), rzI (by decide)]
        refine ⟨0, S, wy, fy, rfl, by decide, hS, fun c hc => ⟨(g1 c hc).1, (g1 c hc).2, (g2 c).1, (g2 c).2⟩, g4, g5, fun h => by omega, fun h => ?_⟩
        exfalso
        apply q
        apply Nat.eq_of_testBit_eq
        intro c
        rw [bx, Nat.zero_testBit]
        cases hc : am.testBit c
        · rfl
        · rw [(g6 c).mpr (h c hc)]; rfl
    · unfold bX5_gatherWays_32
      have hb := hbe i
      have e20 : S 20 i = nI (be i) := by rw [hS 20 (by decide) (by decide)]; exact h20 i hi1
      have e21 := (g1 (be i) hb).1
      have e22 := (g1 (be i) hb).2
      have hf := fre_lt i (by omega)
      simp (disch := omega) only [li, iLeF, ckI, clI, e20, ltE, e21, lzE, shl1I, fa_or, nI_add]
      rw [freshX (by omega), cl_some]
      simp (disch := omega) only [ckI, clI, lzE, shl1I, ltE]
      rw [s2_row _ _ _ _ (show 22 ≠ 21 by decide), e22, fa_or]
      refine ih _ (up1 wy (be i) (wy (be i) ||| 2 ^ i)) (up1 fy (be i) (fy (be i) ||| 2 ^ freN i)) (re ||| 2 ^ be i) (fun k h1 h2 => by rw [s2_row _ _ _ _ h2, s2_row _ _ _ _ h1]; exact hS k h1 h2) (fun c hc => ⟨?_, ?_⟩) (fun c => ?_) (Nat.or_lt_two_pow (n := 16) g3 (Nat.pow_lt_pow_right (by decide) hb)) (fun c m => ?_) (fun c f => ?_) (fun c => ?_)
      · rw [s2_row _ _ _ _ (show 21 ≠ 22 by decide), s2_hit, upd_get]
        unfold up1
        by_cases e : c = be i
        · rw [if_pos e, if_pos e]
        · rw [if_neg e, if_neg e]; exact (g1 c hc).1
      · rw [s2_hit, upd_get, s2_row _ _ _ _ (show 22 ≠ 21 by decide)]
        unfold up1
        by_cases e : c = be i
        · rw [if_pos e, if_pos e]
        · rw [if_neg e, if_neg e]; exact (g1 c hc).2
      · unfold up1
        by_cases e : c = be i
        · rw [if_pos e, if_pos e]
          exact ⟨Nat.or_lt_two_pow (n := 16) (g2 _).1 (Nat.pow_lt_pow_right (by decide) (by omega)), Nat.or_lt_two_pow (n := 16) (g2 _).2 (Nat.pow_lt_pow_right (by decide) hf)⟩
        · rw [if_neg e, if_neg e]; exact g2 c
      · unfold up1
        by_cases e : c = be i
        · rw [if_pos e, Nat.testBit_or, Bool.or_eq_true, g4, Nat.testBit_two_pow, decide_eq_true_iff]
          constructor
          · rintro (⟨h1, h2⟩ | h)
            · exact ⟨by omega, by rw [h2, e]⟩
            · subst h; exact ⟨by omega, e.symm⟩
          · intro ⟨h1, h2⟩
            by_cases e2 : m = i
            · exact Or.inr e2.symm
            · exact Or.inl ⟨by omega, by rw [h2, e]⟩
        · rw [if_neg e, g4]
          constructor
          · intro ⟨h1, h2⟩; exact ⟨by omega, h2⟩
          · intro ⟨h1, h2⟩
            refine ⟨?_, h2⟩
            by_cases e2 : m = i
            · rw [e2] at h2; exact absurd h2.symm e
            · omega
      · unfold up1
        by_cases e : c = be i
        · rw [if_pos e, Nat.testBit_or, Bool.or_eq_true, g5, Nat.testBit_two_pow, decide_eq_true_iff]
          constructor
          · rintro (⟨m, h1, h2, h3⟩ | h)
            · exact ⟨m, by omega, by rw [h2, e], h3⟩
            · exact ⟨i, by omega, e.symm, h⟩
          · intro ⟨m, h1, h2, h3⟩
            by_cases e2 : m = i
            · exact Or.inr (by rw [← e2]; exact h3)
            · exact Or.inl ⟨m, by omega, by rw [h2, e], h3⟩
        · rw [if_neg e, g5]
          constructor
          · intro ⟨m, h1, h2⟩; exact ⟨m, by omega, h2⟩
          · intro ⟨m, h1, h2⟩
            refine ⟨m, ?_, h2⟩
            by_cases e2 : m = i
            · rw [e2] at h2; exact absurd h2.1.symm e
            · omega
      · rw [Nat.testBit_or, Bool.or_eq_true, g6, Nat.testBit_two_pow, decide_eq_true_iff]
        constructor
        · rintro (⟨m, h1, h2⟩ | h)
          · exact ⟨m, by omega, h2⟩
          · exact ⟨i, by omega, h⟩
        · intro ⟨m, h1, h2⟩
          by_cases e2 : m = i
          · exact Or.inr (by rw [← e2]; exact h2)
          · exact Or.inl ⟨m, by omega, h2⟩
  · unfold bX5_gatherWays_2
    simp (disch := omega) only [li, iLeF, ckI, clI, lzE, ltE, nI_add]
    refine ih _ (fun k h1 h2 => by rw [s2_row _ _ _ _ h2, s2_row _ _ _ _ h1]; exact hS k h1 h2) (fun c hc => ⟨?_, ?_⟩)
    · rw [s2_row _ _ _ _ (by decide), s2_hit, upd_get]
      by_cases e : c = i
      · rw [if_pos e]
      · rw [if_neg e]; exact (h21 c (by omega)).1
    · rw [s2_hit, upd_get]
      by_cases e : c = i
      · rw [if_pos e]
      · rw [if_neg e, s2_row _ _ _ _ (by decide)]; exact (h21 c (by omega)).2
theorem tryX (h9 : rA 64 ta (S0 9)) (hta : ∀ i, ta i < 16) (hr : okR row) {am : Nat} (h52 : S0 5 2 = nI am) (ham : am < 65536) : ∃ (r : Nat) (S2 : St) (wy fy : Nat → Nat), uX5_tryRow (nI row) S0 = some (nI r, S2) ∧ r < 2 ∧ (∀ k, k ≠ 5 → (k < 20 ∨ 22 < k) → S2 k = S0 k) ∧ S2 5 3 = nI row ∧ S2 5 2 = nI am ∧ wyOk ta row wy fy S2 ∧ (r = 1 ↔ ∀ c, am.testBit c = true → ∃ m, m < 2 ^ btN row ∧ beN ta row m (btN row) = c) := by
  have hnb := btN_le row
  have h16 := p16 hnb
  have hr1 := hr.1
  unfold uX5_tryRow lX5_tryRow_23
  simp only [lzE, ltE, li]
  rw [show s2 S0 5 3 (nI row) 5 3 = nI row from rfl, bathsX (by omega), cl_some, ckI (by decide) (by decide), clI (by decide)]
  refine lpF (β := K2) (btN row) (by omega) (fun j k23 => ∀ S, (∀ k, k ≠ 5 → (k < 20 ∨ 22 < k) → S k = S0 k) → S 5 3 = nI row → S 5 2 = nI am → (∀ i, i < 2 ^ j → S 20 i = nI (beN ta row i j)) → ∃ (r : Nat) (S2 : St) (wy fy : Nat → Nat), k23 (nI (btN row)) (nI j) S = some (nI r, S2) ∧ r < 2 ∧ (∀ k, k ≠ 5 → (k < 20 ∨ 22 < k) → S2 k = S0 k) ∧ S2 5 3 = nI row ∧ S2 5 2 = nI am ∧ wyOk ta row wy fy S2 ∧ (r = 1 ↔ ∀ c, am.testBit c = true → ∃ m, m < 2 ^ btN row ∧ beN ta row m (btN row) = c)) (fun k23 S hS h53 h52 h20 => ?_) (fun j k23 hj ih S hS h53 h52 h20 => ?_) _ (fun k h1 h2 => by rw [s2_row _ _ _ _ (by omega), s2_row _ _ _ _ h1]) rfl h52 (fun i hi => by
    have : i = 0 := by rw [Nat.pow_zero] at hi; omega
    subst this
    rw [s2_get, if_pos ⟨rfl, rfl⟩]; rfl)
  · unfold bX5_tryRow_23
    simp only [li]
    rw [iLeT (Nat.le_refl _) (by omega), shl1I (by omega)]
    obtain ⟨r, S2, wy, fy, e1, e2, e3, e4, e5, e6, e7⟩ := gatherX (be := fun m => beN ta row m (btN row)) hnb (fun m => be_lt hta row m _) h20 h52 ham
    rw [e1, cl_some, rzI e2]
    exact ⟨r, S2, wy, fy, rfl, e2, fun k h1 h2 => by rw [e3 k (by omega) (by omega)]; exact hS k h1 h2, by rw [e3 5 (by decide) (by decide)]; exact h53, by rw [e3 5 (by decide) (by decide)]; exact h52, ⟨e4, e5, e6⟩, e7⟩
  · unfold bX5_tryRow_23 lX5_tryRow_49
    have d1 := btN_nz hj
    have d2 := hr.2.2 j hj
    have hpj : 2 ^ (j + 1) ≤ 16 := p16 (by omega)
    have hp2 : 2 ^ (j + 1) = 2 * 2 ^ j := by rw [Nat.pow_succ, Nat.mul_comm]
    simp only [li]
    rw [iLeF (by omega) (by omega), shl1I (by omega), h53, ltE, dyeX (by omega) (by omega), cl_some, pk_sub (by omega)]
    simp only [ltE]
    refine lpF (β := K5) (2 ^ j) (by omega) (fun i k49 => ∀ S, (∀ k, k ≠ 5 → (k < 20 ∨ 22 < k) → S k = S0 k) → S 5 3 = nI row → S 5 2 = nI am → (∀ i', i' < i → S 20 i' = nI (beN ta row i' (j + 1)) ∧ S 20 (2 ^ j + i') = nI (beN ta row (2 ^ j + i') (j + 1))) → (∀ i', i ≤ i' → i' < 2 ^ j → S 20 i' = nI (beN ta row i' j)) → ∃ (r : Nat) (S2 : St) (wy fy : Nat → Nat), k49 (nI (btN row)) (nI j) (nI (2 ^ j)) (nI (dyN row j - 1)) (nI i) S = some (nI r, S2) ∧ r < 2 ∧ (∀ k, k ≠ 5 → (k < 20 ∨ 22 < k) → S2 k = S0 k) ∧ S2 5 3 = nI row ∧ S2 5 2 = nI am ∧ wyOk ta row wy fy S2 ∧ (r = 1 ↔ ∀ c, am.testBit c = true → ∃ m, m < 2 ^ btN row ∧ beN ta row m (btN row) = c)) (fun k49 S hS h53 h52 g1 g2 => ?_) (fun i k49 hi1 ih2 S hS h53 h52 g1 g2 => ?_) S hS h53 h52 (fun i' hi' => by omega) (fun i' _ hi' => h20 i' hi')
    · unfold bX5_tryRow_49
      simp only [li]
      rw [iLeT (Nat.le_refl _) (by omega)]
      simp only [ltE, nI_add]
      refine ih S hS h53 h52 (fun i hi => ?_)
      by_cases q : i < 2 ^ j
      · exact (g1 i q).1
      · have := (g1 (i - 2 ^ j) (by omega)).2
        rw [show 2 ^ j + (i - 2 ^ j) = i by omega] at this
        exact this
    · unfold bX5_tryRow_49
      have e20 := g2 i (Nat.le_refl _) hi1
      have hb := be_lt hta row i j
      simp only [li]
      rw [iLeF (by omega) (by omega), fa_or, or_add hi1, ckI (by omega) (by omega), ckI (by omega) (by omega), lzE, ckI (by omega) (by omega), clI (by omega), clI (by omega), e20, s2_get, if_neg (by omega), e20]
      have h9' : rA 64 ta (s2 S 20 (2 ^ j + i) (nI (beN ta row i j)) 9) := by rw [s2_row _ _ _ _ (by decide), hS 9 (by decide) (by decide)]; exact h9
      rw [cmX h9' hb (by omega), cl_some, ckI (by omega) (by omega), lzE]
      simp only [ltE, nI_add]
      have gg : ∀ q, s2 (s2 S 20 (2 ^ j + i) (nI (beN ta row i j))) 20 i (nI (ta (4 * beN ta row i j + (dyN row j - 1)))) 20 q = if q = i then nI (ta (4 * beN ta row i j + (dyN row j - 1))) else if q = 2 ^ j + i then nI (beN ta row i j) else S 20 q := fun q => by rw [s2_hit, upd_get, s2_hit, upd_get]
      refine ih2 _ (fun k h1 h2 => by rw [s2_row _ _ _ _ (by omega), s2_row _ _ _ _ (by omega)]; exact hS k h1 h2) h53 h52 (fun i' hi' => ⟨?_, ?_⟩) (fun i' h1 h2 => ?_)
      · rw [gg]
        by_cases e : i' = i
        · rw [if_pos e, e, be_lo hi1, show 4 * beN ta row i j + dyN row j - 1 = 4 * beN ta row i j + (dyN row j - 1) by omega]
        · rw [if_neg e, if_neg (by omega)]; exact (g1 i' (by omega)).1
      · rw [gg, if_neg (by omega)]
        by_cases e : i' = i
        · rw [if_pos (by omega), e, be_hi hi1]
        · rw [if_neg (by omega)]; exact (g1 i' (by omega)).2
      · rw [gg, if_neg (by omega), if_neg (by omega)]; exact g2 i' (by omega) h2
end
