/-! pure rows: stretch, frame -/
def s33I (S : St) (b : Nat) (S' : St) : Prop := (∀ k, k ≠ 13 → k ≠ 14 → S' k = S k) ∧ ∀ j, j < b → S' 13 j = nI 0 ∧ S' 14 j = nI 0
def strP (S S' : St) : Prop := (∀ k, k ≠ 13 → k ≠ 14 → k ≠ 15 → (k < 31 ∨ 39 ≤ k) → S' k = S k) ∧ S' 13 0 = S 3 0 ∧ (∀ j, 0 < j → j < 8 → S' 13 j = nI 0) ∧ (∀ j, j < 8 → S' 14 j = nI 0 ∧ S' 15 j = nI 0 ∧ ∀ p, p < 24 → S' (31 + j) p = nI 0)
theorem w_str33 (S : St) : ∃ S', lX0_stretch_33 FU (nI 0) S = some (nI 0, S') ∧ strP S S' := by
  unfold lX0_stretch_33
  refine lpG (b := fun k2 => bX0_stretch_33 k2) (z := fun _ _ => none) (fun m k => ∀ (b : Nat) (S' : St), b ≤ 8 → 8 - b < m → s33I S b S' → ∃ S2, k (nI b) S' = some (nI 0, S2) ∧ strP S S2) (fun k b S' _ h => by omega) (fun m k ih b S' hb hm hI => ?_) FU 0 S (by omega) (by unfold FU; omega) ⟨fun _ _ _ => rfl, fun j hj => by omega⟩
  unfold bX0_stretch_33
  simp only [li]
  by_cases hb8 : b = 8
  · subst hb8
    rw [iLeT (by omega) (by omega)]
    simp (disch := omega) only [ckI, clI, lzE, ltE]
    obtain ⟨S2, h1, h2⟩ := w_wash (s2 S' 13 0 (S' 3 0))
    rw [h1, cl_some]
    refine ⟨S2, rfl, fun k a1 a2 a3 a4 => ?_, ?_, fun j a1 a2 => ?_, fun j a1 => ⟨?_, (h2.2 j a1).1, (h2.2 j a1).2⟩⟩
    · rw [h2.1 k a3 a4, s2_row _ _ _ _ a1, hI.1 k a1 a2]
    · rw [h2.1 13 (by decide) (by decide), s2_get, if_pos ⟨rfl, rfl⟩, hI.1 3 (by decide) (by decide)]
    · rw [h2.1 13 (by decide) (by decide), s2_get, if_neg (fun z => by omega)]; exact (hI.2 j a2).1
    · rw [h2.1 14 (by decide) (by decide), s2_row _ _ _ _ (by decide)]; exact (hI.2 j a1).2
  · rw [iLeF (by omega) (by omega)]
    simp (disch := omega) only [ckI, clI, lzE, ltE, nI_add, and00]
    refine ih (b + 1) _ (by omega) (by omega) ⟨fun k h1 h2 => ?_, fun j hj => ⟨?_, ?_⟩⟩
    · rw [s2_row _ _ _ _ h2, s2_row _ _ _ _ h1]; exact hI.1 k h1 h2
    · rw [s2_row _ _ _ _ (by decide), s2_get]
      by_cases e : j = b
      · rw [if_pos ⟨rfl, e⟩]
      · rw [if_neg (fun z => e z.2)]; exact (hI.2 j (by omega)).1
    · rw [s2_get]
      by_cases e : j = b
      · rw [if_pos ⟨rfl, e⟩]
      · rw [if_neg (fun z => e z.2), s2_row _ _ _ _ (by decide)]; exact (hI.2 j (by omega)).2
def s12I (S : St) (b : Nat) (S' : St) : Prop := (∀ k, k ≠ 12 → S' k = S k) ∧ ∀ j, j < b → S' 12 j = nI 0
theorem w_str12 (S : St) : ∃ S', lX0_stretch_12 FU (nI 0) S = some (nI 0, S') ∧ ∃ S1, s12I S 16 S1 ∧ strP S1 S' := by
  unfold lX0_stretch_12
  refine lpG (b := fun k2 => bX0_stretch_12 k2) (z := fun _ _ => none) (fun m k => ∀ (b : Nat) (S' : St), b ≤ 16 → 16 - b < m → s12I S b S' → ∃ S2, k (nI b) S' = some (nI 0, S2) ∧ ∃ S1, s12I S 16 S1 ∧ strP S1 S2) (fun k b S' _ h => by omega) (fun m k ih b S' hb hm hI => ?_) FU 0 S (by omega) (by unfold FU; omega) ⟨fun _ _ => rfl, fun j hj => by omega⟩
  unfold bX0_stretch_12
  simp only [li]
  by_cases hb8 : b = 16
  · subst hb8
    rw [iLeT (by omega) (by omega)]
    simp (disch := omega) only [ckI, clI, lzE, ltE]
    obtain ⟨S2, h1, h2⟩ := w_str33 S'
    exact ⟨S2, h1, S', hI, h2⟩
  · rw [iLeF (by omega) (by omega)]
    simp (disch := omega) only [ckI, clI, lzE, ltE, nI_add]
    refine ih (b + 1) _ (by omega) (by omega) ⟨fun k h1 => ?_, fun j hj => ?_⟩
    · rw [s2_row _ _ _ _ h1]; exact hI.1 k h1
    · rw [s2_get]
      by_cases e : j = b
      · rw [if_pos ⟨rfl, e⟩]
      · rw [if_neg (fun z => e z.2)]; exact hI.2 j (by omega)
/-- what stretch leaves -/
def stP (x y : Int32) (S S' : St) : Prop := (∀ k, k ≠ 3 → k ≠ 12 → k ≠ 13 → k ≠ 14 → k ≠ 15 → (k < 31 ∨ 39 ≤ k) → S' k = S k) ∧ S' 3 0 = x ∧ S' 3 1 = y ∧ (∀ j, j < 16 → S' 12 j = nI 0) ∧ S' 13 0 = x ∧ (∀ j, 0 < j → j < 8 → S' 13 j = nI 0) ∧ ∀ j, j < 8 → S' 14 j = nI 0 ∧ S' 15 j = nI 0 ∧ ∀ p, p < 24 → S' (31 + j) p = nI 0
theorem w_stretch (x y : Int32) (S : St) : ∃ S', uX0_stretch x y S = some (nI 0, S') ∧ stP x y S S' := by
  unfold uX0_stretch
  simp only [lzE, ltE, li]
  obtain ⟨S2, h1, S1, h2, h3⟩ := w_str12 (s2 (s2 S 3 0 x) 3 1 y)
  refine ⟨S2, h1, fun k a1 a2 a3 a4 a5 a6 => ?_, ?_, ?_, fun j hj => ?_, ?_, h3.2.2.1, h3.2.2.2⟩
  · rw [h3.1 k a3 a4 a5 a6, h2.1 k a2, s2_row _ _ _ _ a1, s2_row _ _ _ _ a1]
  · rw [h3.1 3 (by decide) (by decide) (by decide) (by decide), h2.1 3 (by decide)]; rfl
  · rw [h3.1 3 (by decide) (by decide) (by decide) (by decide), h2.1 3 (by decide)]; rfl
  · rw [h3.1 12 (by decide) (by decide) (by decide) (by decide)]; exact h2.2 j hj
  · rw [h3.2.1, h2.1 3 (by decide)]; rfl
def f110I (S : St) (b : Nat) (S' : St) : Prop := (∀ k, k ≠ 8 → S' k = S k) ∧ ∀ j, j < b → S' 8 j = nI 0
def f110P (S S' : St) : Prop := ∃ S1, f110I S 8 S1 ∧ udI (s2 S1 0 17 (nI 0)) 192 S'
theorem w_f110 (S : St) : ∃ S', lX9_frame_110 FU (nI 0) S = some (nI 0, S') ∧ f110P S S' := by
  unfold lX9_frame_110
  refine lpG (b := fun k2 => bX9_frame_110 k2) (z := fun _ _ => none) (fun m k => ∀ (b : Nat) (S' : St), b ≤ 8 → 8 - b < m → f110I S b S' → ∃ S2, k (nI b) S' = some (nI 0, S2) ∧ f110P S S2) (fun k b S' _ h => by omega) (fun m k ih b S' hb hm hI => ?_) FU 0 S (by omega) (by unfold FU; omega) ⟨fun _ _ => rfl, fun j hj => by omega⟩
  unfold bX9_frame_110
  simp only [li]
  by_cases hb8 : b = 8
  · subst hb8
    rw [iLeT (by omega) (by omega)]
    simp only [lzE, ltE]
    obtain ⟨S2, h1, h2⟩ := w_undyed (s2 S' 0 17 (nI 0))
    rw [h1, cl_some]
    exact ⟨S2, rfl, S', hI, h2⟩
  · rw [iLeF (by omega) (by omega)]
    simp (disch := omega) only [ckI, clI, lzE, ltE, nI_add, and00]
    refine ih (b + 1) _ (by omega) (by omega) ⟨fun k h1 => ?_, fun j hj => ?_⟩
    · rw [s2_row _ _ _ _ h1]; exact hI.1 k h1
    · rw [s2_get]
      by_cases e : j = b
      · rw [if_pos ⟨rfl, e⟩]
      · rw [if_neg (fun z => e z.2)]; exact hI.2 j (by omega)
def f75I (S : St) (b : Nat) (S' : St) : Prop := (∀ k, k ≠ 1 → k ≠ 6 → k ≠ 7 → S' k = S k) ∧ ∀ j, j < b → S' 1 j = nI 0 ∧ S' 6 j = nI 0 ∧ S' 7 j = nI 0
theorem w_f75 (S : St) : ∃ S', lX9_frame_75 FU (nI 0) S = some (nI 0, S') ∧ ∃ S1, f75I S 16 S1 ∧ f110P S1 S' := by
  unfold lX9_frame_75
  refine lpG (b := fun k2 => bX9_frame_75 k2) (z := fun _ _ => none) (fun m k => ∀ (b : Nat) (S' : St), b ≤ 16 → 16 - b < m → f75I S b S' → ∃ S2, k (nI b) S' = some (nI 0, S2) ∧ ∃ S1, f75I S 16 S1 ∧ f110P S1 S2) (fun k b S' _ h => by omega) (fun m k ih b S' hb hm hI => ?_) FU 0 S (by omega) (by unfold FU; omega) ⟨fun _ _ _ _ => rfl, fun j hj => by omega⟩
  unfold bX9_frame_75
  simp only [li]
  by_cases hb8 : b = 16
  · subst hb8
    rw [iLeT (by omega) (by omega)]
    simp only [lzE, ltE]
    obtain ⟨S2, h1, h2⟩ := w_f110 S'
    exact ⟨S2, h1, S', hI, h2⟩
  · rw [iLeF (by omega) (by omega)]
    simp (disch := omega) only [ckI, clI, lzE, ltE, nI_add]
    refine ih (b + 1) _ (by omega) (by omega) ⟨fun k h1 h2 h3 => ?_, fun j hj => ⟨?_, ?_, ?_⟩⟩
    · rw [s2_row _ _ _ _ h3, s2_row _ _ _ _ h2, s2_row _ _ _ _ h1]; exact hI.1 k h1 h2 h3
    · rw [s2_row _ _ _ _ (by decide), s2_row _ _ _ _ (by decide), s2_get]
      by_cases e : j = b
      · rw [if_pos ⟨rfl, e⟩]
      · rw [if_neg (fun z => e z.2)]; exact (hI.2 j (by omega)).1
    · rw [s2_row _ _ _ _ (by decide), s2_get]
      by_cases e : j = b
      · rw [if_pos ⟨rfl, e⟩]
      · rw [if_neg (fun z => e z.2), s2_row _ _ _ _ (by decide)]; exact (hI.2 j (by omega)).2.1
    · rw [s2_get]
      by_cases e : j = b
      · rw [if_pos ⟨rfl, e⟩]
      · rw [if_neg (fun z => e z.2), s2_row _ _ _ _ (by decide), s2_row _ _ _ _ (by decide)]; exact (hI.2 j (by omega)).2.2
def f53I (S : St) (b : Nat) (S' : St) : Prop := (∀ k, k ≠ 5 → S' k = S k) ∧ ∀ j, j < b → S' 5 j = nI 0
theorem w_f53 (S : St) : ∃ S', lX9_frame_53 FU (nI 0) S = some (nI 0, S') ∧ ∃ S0 S1, f53I S 384 S0 ∧ f75I S0 16 S1 ∧ f110P S1 S' := by
  unfold lX9_frame_53
  refine lpG (b := fun k2 => bX9_frame_53 k2) (z := fun _ _ => none) (fun m k => ∀ (b : Nat) (S' : St), b ≤ 384 → 384 - b < m → f53I S b S' → ∃ S2, k (nI b) S' = some (nI 0, S2) ∧ ∃ S0 S1, f53I S 384 S0 ∧ f75I S0 16 S1 ∧ f110P S1 S2) (fun k b S' _ h => by omega) (fun m k ih b S' hb hm hI => ?_) FU 0 S (by omega) (by unfold FU; omega) ⟨fun _ _ => rfl, fun j hj => by omega⟩
  unfold bX9_frame_53
  simp only [li]
  by_cases hb8 : b = 384
  · subst hb8
    rw [iLeT (by omega) (by omega)]
    simp only [lzE, ltE]
    obtain ⟨S2, h1, S1, h2, h3⟩ := w_f75 S'
    exact ⟨S2, h1, S', S1, hI, h2, h3⟩
  · rw [iLeF (by omega) (by omega)]
    simp (disch := omega) only [ckI, clI, lzE, ltE, nI_add]
    refine ih (b + 1) _ (by omega) (by omega) ⟨fun k h1 => ?_, fun j hj => ?_⟩
    · rw [s2_row _ _ _ _ h1]; exact hI.1 k h1
    · rw [s2_get]
      by_cases e : j = b
      · rw [if_pos ⟨rfl, e⟩]
      · rw [if_neg (fun z => e z.2)]; exact hI.2 j (by omega)
theorem cr0 (th b : Nat) : crN th (fun _ => 0) b = if b = 0 then th else 0 := by
  unfold crN
  by_cases h : b = 0
  · subst h
    rw [if_pos rfl]
    exact fb_ct_all.mpr (fun k _ => rfl)
  · rw [if_neg h]
    exact fb_ct_zero.mpr (fun k _ => by simpa using fun q => h q.symm)
theorem two0 : ∀ n : Nat, (0 : Nat) < 2 ^ n := fun n => Nat.two_pow_pos n
theorem bN0 (p : Nat) : bN 0 p = 0 := by unfold bN; rw [Nat.zero_testBit]; rfl
theorem fr1 (x : Int32) (n : Nat) (hn : n < 1000) (c : Int32) (hc : c = nI n) : (x < 1 ∨ (¬ x < 1 ∧ c < x ∧ ¬ x ≤ c)) ∨ ∃ k, 1 ≤ k ∧ k ≤ n ∧ x = nI k ∧ ¬ x < 1 ∧ ¬ c < x ∧ x ≤ c := by
  subst hc
  by_cases h1 : x < 1
  · exact Or.inl (Or.inl h1)
  · by_cases h2 : nI n < x
    · exact Or.inl (Or.inr ⟨h1, h2, fun q => by rw [fa_lt] at h2; rw [fa_le] at q; omega⟩)
    · right
      have e1 : (1 : Int32).toInt = 1 := rfl
      have e2 : (nI n).toInt = (n : Int) := nI_toInt (by omega)
      rw [fa_lt, e1] at h1
      rw [fa_lt, e2] at h2
      obtain ⟨k, hk, e⟩ := nI_of (x := x) (fun q => by rw [fa_lt] at q; have : (0 : Int32).toInt = 0 := rfl; omega)
      have e3 : x.toInt = (k : Int) := by rw [e]; exact nI_toInt hk
      refine ⟨k, by omega, by omega, e, fun q => by rw [fa_lt, e1] at q; omega, fun q => by rw [fa_lt, e2] at q; omega, by rw [fa_le, e2]; omega⟩
theorem q_frame {S T : St} (h : Rel S T) (x y : Int32) : Agr [(eIA, 1)] (uX8_frame x y S) (uX9_frame x y T) := by
  unfold uX8_frame uX9_frame bX9_frame_32 bX9_frame_33 bX8_frame_22
  simp only [lzE]
  obtain ⟨T1, eT, hz, h⟩ : ∃ T1, T1 = s2 T 0 0 0 ∧ T1 0 0 = 0 ∧ Rel S T1 := ⟨_, rfl, rfl, h⟩
  rw [← eT]
  obtain ⟨th, pl, hm, fo, kn, co, ta, va, wa, lo, hi, la, ld, lc, lr, n3, hp, pr, pt, pb, B, X, M⟩ := id h
  have bad : Agr [(eIA, 1)] (some (.inl eIA, S)) (some ((0 : Int32), s2 T1 0 0 1)) := agx h rfl rfl (by simp)
  have hF : ∀ f, cl (uX9_right 0 1 T1) f = (f 0 (s2 T1 0 0 1) : Option (Int32 × St)) := fun f => by rw [rightF hz (by decide), cl_some]
  have hT : ∀ f, cl (uX9_right 1 1 T1) f = (f 1 T1 : Option (Int32 × St)) := fun f => by rw [rightT hz, cl_some]
  simp only [hF, hT, if_pos, ltE]
  rcases fr1 x 16 (by omega) 16 rfl with (a1 | ⟨a1, a2, a3⟩) | ⟨t, t1, t2, e, a1, a2, a3⟩
  · rw [if_pos a1, if_pos a1]; exact bad
  · rw [if_neg a1, if_pos a2, if_neg a1, if_pos a2]; exact bad
  rcases fr1 y 24 (by omega) 24 rfl with (c1 | ⟨c1, c2, c3⟩) | ⟨p, p1, p2, e2, c1, c2, c3⟩
  · rw [if_neg a1, if_neg a2, if_pos c1, if_neg a1, if_neg a2, if_pos c1]; exact bad
  · rw [if_neg a1, if_neg a2, if_neg c1, if_neg c3, if_neg a1, if_neg a2, if_neg c1, if_pos c2]; exact bad
  rw [if_neg a1, if_neg a2, if_neg c1, if_pos c3, if_neg a1, if_neg a2, if_neg c1, if_neg c2, if_neg (by decide)]
  subst e e2
  obtain ⟨S1, h1, g1⟩ := w_stretch (nI t) (nI p) S
  obtain ⟨S2, h2, g2⟩ := w_pclear S1
  obtain ⟨S3, h3, g3⟩ := w_sclear S2
  obtain ⟨T4, h4, T2, T3, g4, g5, T5, g6, g7⟩ := w_f53 (s2 (s2 T1 0 1 (nI t)) 0 2 (nI p))
  have e0 : (0 : Int32) = nI 0 := nI_0.symm
  rw [h1, cl_some, h2, cl_some, h3, cl_some]
  unfold uX4_drop
  simp only [lzE]
  rw [cl_some]
  rw [e0, h4]
  have TT : ∀ k, k ≠ 1 → k ≠ 2 → k ≠ 5 → k ≠ 6 → k ≠ 7 → k ≠ 8 → k ≠ 9 → T4 k = s2 (s2 (s2 T1 0 1 (nI t)) 0 2 (nI p)) 0 17 (nI 0) k := fun k z1 z2 z5 z6 z7 z8 z9 => by
    rw [g7.1 k z2 z9]
    by_cases zk : k = 0
    · subst zk
      funext j
      rw [s2_get, s2_get (s2 (s2 T1 0 1 (nI t)) 0 2 (nI p)), g6.1 0 z8, g5.1 0 z1 z6 z7, g4.1 0 z5]
    · rw [s2_row _ _ _ _ zk, s2_row _ _ _ _ zk, g6.1 k z8, g5.1 k z1 z6 z7, g4.1 k z5]
  refine Or.inl ⟨nI 0, _, T4, rfl, rfl, ?_, t, p, fun _ => 0, fun _ => 0, fun _ => 0, fun _ _ => 0, ta, va, fun _ _ => 0, fun _ => 0, fun _ => 0, la, ld, lc, lr, n3, 0, pr, pt, pb, ?_, ?_, ?_⟩
  · rw [TT 0 (by decide) (by decide) (by decide) (by decide) (by decide) (by decide) (by decide)]; exact hz
  · obtain ⟨-, -, -, -, -, b6, b7, -, -, b10, -, -⟩ := B
    exact ⟨⟨t1, t2, p1, p2⟩, fun _ => Nat.succ_pos _, fun _ => Nat.succ_pos _, fun _ => two0 _, fun _ _ => Nat.succ_pos _, b6, b7, fun _ _ => Nat.succ_pos _, fun _ => (by decide : -3 ≤ (0 : Int32).toInt ∧ (0 : Int32).toInt ≤ 3 ∧ -3 ≤ (0 : Int32).toInt ∧ (0 : Int32).toInt ≤ 3), b10, by decide, fun q => by omega⟩
  · obtain ⟨-, -, -, -, -, -, x7, x8, -, -, x11, x12, -, -⟩ := X
    have SS : ∀ k, k ≠ 3 → k ≠ 12 → k ≠ 13 → k ≠ 14 → k ≠ 15 → (k < 31 ∨ 55 ≤ k) → k ≠ 26 → k ≠ 27 → S3 k = S k := fun k z1 z2 z3 z4 z5 z6 z7 z8 => by
      rw [g3.1 k z7 z8, g2.1 k (by omega), g1.1 k z1 z2 z3 z4 z5 (by omega)]
    have S1' : ∀ k, k < 39 → k ≠ 26 → k ≠ 27 → S3 k = S1 k := fun k z6 z7 z8 => by
      rw [g3.1 k z7 z8, g2.1 k (by omega)]
    refine ⟨⟨?_, ?_⟩, fun i hi => ?_, fun i hi => ?_, fun i hi => ?_, fun i hi => ?_, fun b hb i hi => ?_, ?_, ?_, fun b hb i hi => ?_, fun i hi => ⟨?_, ?_⟩, ?_, ?_, rfl, fun q => by omega⟩
    · show S3 3 0 = _; rw [S1' 3 (by decide) (by decide) (by decide)]; exact g1.2.1
    · show S3 3 1 = _; rw [S1' 3 (by decide) (by decide) (by decide)]; exact g1.2.2.1
    · show S3 12 i = _; rw [S1' 12 (by decide) (by decide) (by decide)]; exact g1.2.2.2.1 i hi
    · show S3 13 i = _
      rw [S1' 13 (by decide) (by decide) (by decide), cr0]
      by_cases z : i = 0
      · subst z; rw [if_pos rfl]; exact g1.2.2.2.2.1
      · rw [if_neg z]; exact g1.2.2.2.2.2.1 i (by omega) hi
    · show S3 14 i = _; rw [S1' 14 (by decide) (by decide) (by decide)]; exact (g1.2.2.2.2.2.2 i hi).1
    · show S3 15 i = _; rw [S1' 15 (by decide) (by decide) (by decide)]; exact (g1.2.2.2.2.2.2 i hi).2.1
    · rw [s2_row _ _ _ _ (by omega), S1' _ (by omega) (by omega) (by omega)]; exact (g1.2.2.2.2.2.2 b hb).2.2 i hi
    · show rA 64 ta (S3 9); rw [SS 9 (by decide) (by decide) (by decide) (by decide) (by decide) (by decide) (by decide) (by decide)]; exact x7
    · show rA 4 va (S3 10); rw [SS 10 (by decide) (by decide) (by decide) (by decide) (by decide) (by decide) (by decide) (by decide)]; exact x8
    · rw [s2_row _ _ _ _ (by omega), g3.1 _ (by omega) (by omega)]; exact g2.2 b hb i hi
    · show S3 26 i = _; exact (g3.2 i hi).1
    · show S3 27 i = _; exact (g3.2 i hi).2
    · show S3 8 3 = _ ∧ rA la ld (S3 28) ∧ rA la lc (S3 29) ∧ rA la lr (S3 30)
      rw [SS 8 (by decide) (by decide) (by decide) (by decide) (by decide) (by decide) (by decide) (by decide), SS 28 (by decide) (by decide) (by decide) (by decide) (by decide) (by decide) (by decide) (by decide), SS 29 (by decide) (by decide) (by decide) (by decide) (by decide) (by decide) (by decide) (by decide), SS 30 (by decide) (by decide) (by decide) (by decide) (by decide) (by decide) (by decide) (by decide)]; exact x11
    · show S3 0 8 = _; rw [SS 0 (by decide) (by decide) (by decide) (by decide) (by decide) (by decide) (by decide) (by decide)]; exact x12
  · obtain ⟨-, -, -, -, -, m6, m7, -, -, ⟨m10, m11, m12, m13⟩, m14, -, -⟩ := M
    have T0 := TT 0 (by decide) (by decide) (by decide) (by decide) (by decide) (by decide) (by decide)
    refine ⟨⟨?_, ?_⟩, fun i hi => ?_, fun i hi => ?_, fun b hb i hi => ?_, fun b hb i hi => ?_, ?_, ?_, fun b hb i hi => ?_, fun i hi => ⟨?_, ?_⟩, ⟨?_, ?_, ?_, ?_⟩, ?_, ?_, fun q => by omega⟩
    · rw [T0]; rfl
    · rw [T0]; rfl
    · rw [g7.1 1 (by decide) (by decide), s2_row _ _ _ _ (by decide), g6.1 1 (by decide)]; exact (g5.2 i hi).1
    · rw [g7.1 8 (by decide) (by decide), s2_row _ _ _ _ (by decide)]; exact g6.2 i hi
    · show T4 9 (24 * b + i) = nI (bN 0 i); rw [bN0]; exact (g7.2 _ (by omega)).2
    · exact (g7.2 _ (by omega)).1
    · rw [TT 3 (by decide) (by decide) (by decide) (by decide) (by decide) (by decide) (by decide)]; exact m6
    · rw [TT 4 (by decide) (by decide) (by decide) (by decide) (by decide) (by decide) (by decide)]; exact m7
    · rw [g7.1 5 (by decide) (by decide), s2_row _ _ _ _ (by decide), g6.1 5 (by decide), g5.1 5 (by decide) (by decide) (by decide)]; exact g4.2 _ (by omega)
    · rw [g7.1 6 (by decide) (by decide), s2_row _ _ _ _ (by decide), g6.1 6 (by decide)]; exact (g5.2 i hi).2.1
    · rw [g7.1 7 (by decide) (by decide), s2_row _ _ _ _ (by decide), g6.1 7 (by decide)]; exact (g5.2 i hi).2.2
    · rw [T0]; exact m10
    · rw [TT 10 (by decide) (by decide) (by decide) (by decide) (by decide) (by decide) (by decide)]; exact m11
    · rw [TT 11 (by decide) (by decide) (by decide) (by decide) (by decide) (by decide) (by decide)]; exact m12
    · rw [TT 12 (by decide) (by decide) (by decide) (by decide) (by decide) (by decide) (by decide)]; exact m13
    · rw [T0]; exact m14
    · rw [T0]; rfl
