/-! pure rows: loops that clear -/
theorem lpG {β : Type} {b : β → β} {z : β} (G : Nat → β → Prop) (h0 : ∀ k, G 0 k) (hs : ∀ m k, G m k → G (m + 1) (b k)) : ∀ n, G n (lp b z n) := by
  intro n
  induction n with
  | zero => exact h0 _
  | succ n ih => exact hs n _ ih
theorem and00 : nI 0 &&& nI 1 = nI 0 := by decide
theorem and11 : nI 1 &&& nI 1 = nI 1 := by decide
def wsI (S : St) (b : Nat) (S' : St) : Prop := (∀ k, k ≠ 15 → (k < 31 ∨ 39 ≤ k) → S' k = S k) ∧ ∀ j, j < b → S' 15 j = nI 0 ∧ ∀ p, p < 24 → S' (31 + j) p = nI 0
theorem w_wash (S : St) : ∃ S', uX0_wash S = some (nI 0, S') ∧ wsI S 8 S' := by
  unfold uX0_wash lX0_wash_2
  simp only [ltE, li]
  have H := lpG (b := fun k2 => bX0_wash_2 k2) (z := fun _ _ => none) (fun m k => ∀ (b : Nat) (S' : St), b ≤ 8 → 8 - b < m → wsI S b S' → ∃ S2, k (nI b) S' = some (nI 0, S2) ∧ wsI S 8 S2) (fun k b S' _ h => by omega) (fun m k ih b S' hb hm hI => by
    unfold bX0_wash_2 lX0_wash_17
    simp only [li]
    by_cases hb8 : b = 8
    · subst hb8
      exact ⟨S', by rw [iLeT (by omega) (by omega)], hI⟩
    · have hb : b < 8 := by omega
      rw [iLeF (by omega) (by omega)]
      simp (disch := omega) only [ckI, clI, lzE, ltE]
      have H2 := lpG (b := fun k17 => bX0_wash_17 k k17) (z := fun _ _ _ => none) (fun m2 k17 => ∀ (p : Nat) (S' : St), p ≤ 24 → 24 - p < m2 → (wsI S b S' ∧ S' 15 b = nI 0 ∧ ∀ q, q < p → S' (31 + b) q = nI 0) → ∃ S2, k17 (nI b) (nI p) S' = some (nI 0, S2) ∧ wsI S 8 S2) (fun k p S' _ h => by omega) (fun m2 k17 ih2 p S' hp hm2 hI => by
        unfold bX0_wash_17
        simp only [li]
        by_cases hp24 : p = 24
        · subst hp24
          rw [iLeT (by omega) (by omega)]
          simp only [ltE, nI_add]
          refine ih (b + 1) S' (by omega) (by omega) ⟨hI.1.1, fun j hj => ?_⟩
          by_cases e : j = b
          · subst e; exact ⟨hI.2.1, hI.2.2⟩
          · exact hI.1.2 j (by omega)
        · rw [iLeF (by omega) (by omega)]
          simp (disch := omega) only [ckI, cknI, clI, lzE, ltE, nI_add]
          refine ih2 (p + 1) _ (by omega) (by omega) ⟨⟨fun k h1 h2 => ?_, fun j hj => ⟨?_, fun q hq => ?_⟩⟩, ?_, fun q hq => ?_⟩
          · rw [s2_row _ _ _ _ (by omega)]; exact hI.1.1 k h1 h2
          · rw [s2_row _ _ _ _ (by omega)]; exact (hI.1.2 j hj).1
          · rw [s2_row _ _ _ _ (by omega)]; exact (hI.1.2 j hj).2 q hq
          · rw [s2_row _ _ _ _ (by omega)]; exact hI.2.1
          · rw [s2_get]
            by_cases e : q = p
            · rw [if_pos ⟨rfl, e⟩]
            · rw [if_neg (fun z => e z.2)]; exact hI.2.2 q (by omega))
      refine H2 FU 0 _ (by omega) (by unfold FU; omega) ⟨⟨fun k h1 h2 => ?_, fun j hj => ⟨?_, fun q hq => ?_⟩⟩, ?_, fun q hq => by omega⟩
      · rw [s2_row _ _ _ _ h1]; exact hI.1 k h1 h2
      · rw [s2_get, if_neg (fun z => by omega)]; exact (hI.2 j hj).1
      · rw [s2_row _ _ _ _ (by omega)]; exact (hI.2 j hj).2 q hq
      · rw [s2_get, if_pos ⟨rfl, rfl⟩])
  exact H FU 0 S (by omega) (by unfold FU; omega) ⟨fun _ _ _ => rfl, fun j hj => by omega⟩
def udI (S : St) (b : Nat) (S' : St) : Prop := (∀ k, k ≠ 2 → k ≠ 9 → S' k = S k) ∧ ∀ j, j < b → S' 2 j = nI 0 ∧ S' 9 j = nI 0
theorem w_undyed (S : St) : ∃ S', uX9_undyed S = some (nI 0, S') ∧ udI S 192 S' := by
  unfold uX9_undyed lX9_undyed_2
  simp only [ltE, li]
  have H := lpG (b := fun k2 => bX9_undyed_2 k2) (z := fun _ _ => none) (fun m k => ∀ (b : Nat) (S' : St), b ≤ 192 → 192 - b < m → udI S b S' → ∃ S2, k (nI b) S' = some (nI 0, S2) ∧ udI S 192 S2) (fun k b S' _ h => by omega) (fun m k ih b S' hb hm hI => by
    unfold bX9_undyed_2
    simp only [li]
    by_cases hb8 : b = 192
    · subst hb8
      exact ⟨S', by rw [iLeT (by omega) (by omega)], hI⟩
    · rw [iLeF (by omega) (by omega)]
      simp (disch := omega) only [ckI, clI, lzE, ltE, nI_add]
      refine ih (b + 1) _ (by omega) (by omega) ⟨fun k h1 h2 => ?_, fun j hj => ⟨?_, ?_⟩⟩
      · rw [s2_row _ _ _ _ h2, s2_row _ _ _ _ h1]; exact hI.1 k h1 h2
      · rw [s2_row _ _ _ _ (by omega), s2_get]
        by_cases e : j = b
        · rw [if_pos ⟨rfl, e⟩]
        · rw [if_neg (fun z => e z.2)]; exact (hI.2 j (by omega)).1
      · rw [s2_get]
        by_cases e : j = b
        · rw [if_pos ⟨rfl, e⟩, and00]
        · rw [if_neg (fun z => e z.2), s2_row _ _ _ _ (by omega)]; exact (hI.2 j (by omega)).2)
  exact H FU 0 S (by omega) (by unfold FU; omega) ⟨fun _ _ _ => rfl, fun j hj => by omega⟩
def pcI (S : St) (b : Nat) (S' : St) : Prop := (∀ k, (k < 39 ∨ 55 ≤ k) → S' k = S k) ∧ ∀ j, j < b → ∀ p, p < 24 → S' (39 + j) p = nI 0
theorem w_pclear (S : St) : ∃ S', uX3_clear S = some (nI 0, S') ∧ pcI S 16 S' := by
  unfold uX3_clear lX3_clear_2
  simp only [ltE, li]
  have H := lpG (b := fun k2 => bX3_clear_2 k2) (z := fun _ _ => none) (fun m k => ∀ (b : Nat) (S' : St), b ≤ 16 → 16 - b < m → pcI S b S' → ∃ S2, k (nI b) S' = some (nI 0, S2) ∧ pcI S 16 S2) (fun k b S' _ h => by omega) (fun m k ih b S' hb hm hI => by
    unfold bX3_clear_2 lX3_clear_10
    simp only [li]
    by_cases hb8 : b = 16
    · subst hb8
      exact ⟨S', by rw [iLeT (by omega) (by omega)], hI⟩
    · have hb : b < 16 := by omega
      rw [iLeF (by omega) (by omega)]
      simp (disch := omega) only [ckI, clI, lzE, ltE]
      have H2 := lpG (b := fun k17 => bX3_clear_10 k k17) (z := fun _ _ _ => none) (fun m2 k17 => ∀ (p : Nat) (S' : St), p ≤ 24 → 24 - p < m2 → (pcI S b S' ∧ ∀ q, q < p → S' (39 + b) q = nI 0) → ∃ S2, k17 (nI b) (nI p) S' = some (nI 0, S2) ∧ pcI S 16 S2) (fun k p S' _ h => by omega) (fun m2 k17 ih2 p S' hp hm2 hI => by
        unfold bX3_clear_10
        simp only [li]
        by_cases hp24 : p = 24
        · subst hp24
          rw [iLeT (by omega) (by omega)]
          simp only [ltE, nI_add]
          refine ih (b + 1) S' (by omega) (by omega) ⟨hI.1.1, fun j hj => ?_⟩
          by_cases e : j = b
          · subst e; exact hI.2
          · exact hI.1.2 j (by omega)
        · rw [iLeF (by omega) (by omega)]
          simp (disch := omega) only [ckI, cknI, clI, lzE, ltE, nI_add]
          refine ih2 (p + 1) _ (by omega) (by omega) ⟨⟨fun k h1 => ?_, fun j hj q hq => ?_⟩, fun q hq => ?_⟩
          · rw [s2_row _ _ _ _ (by omega)]; exact hI.1.1 k h1
          · rw [s2_row _ _ _ _ (by omega)]; exact hI.1.2 j hj q hq
          · rw [s2_get]
            by_cases e : q = p
            · rw [if_pos ⟨rfl, e⟩]
            · rw [if_neg (fun z => e z.2)]; exact hI.2 q (by omega))
      exact H2 FU 0 S' (by omega) (by unfold FU; omega) ⟨hI, fun q hq => by omega⟩)
  exact H FU 0 S (by omega) (by unfold FU; omega) ⟨fun _ _ => rfl, fun j hj => by omega⟩
def scI (S : St) (b : Nat) (S' : St) : Prop := (∀ k, k ≠ 26 → k ≠ 27 → S' k = S k) ∧ ∀ j, j < b → S' 26 j = nI 0 ∧ S' 27 j = nI 0
theorem w_sclear (S : St) : ∃ S', uX6_clear S = some (nI 0, S') ∧ scI S 16 S' := by
  unfold uX6_clear lX6_clear_2
  simp only [ltE, li]
  have H := lpG (b := fun k2 => bX6_clear_2 k2) (z := fun _ _ => none) (fun m k => ∀ (b : Nat) (S' : St), b ≤ 16 → 16 - b < m → scI S b S' → ∃ S2, k (nI b) S' = some (nI 0, S2) ∧ scI S 16 S2) (fun k b S' _ h => by omega) (fun m k ih b S' hb hm hI => by
    unfold bX6_clear_2 uX6_let
    simp only [li]
    by_cases hb8 : b = 16
    · subst hb8
      exact ⟨S', by rw [iLeT (by omega) (by omega)], hI⟩
    · rw [iLeF (by omega) (by omega)]
      simp (disch := omega) only [ckI, clI, lzE, ltE, nI_add, cl_some]
      refine ih (b + 1) _ (by omega) (by omega) ⟨fun k h1 h2 => ?_, fun j hj => ⟨?_, ?_⟩⟩
      · rw [s2_row _ _ _ _ h2, s2_row _ _ _ _ h1]; exact hI.1 k h1 h2
      · rw [s2_row _ _ _ _ (by omega), s2_get]
        by_cases e : j = b
        · rw [if_pos ⟨rfl, e⟩]
        · rw [if_neg (fun z => e z.2)]; exact (hI.2 j (by omega)).1
      · rw [s2_get]
        by_cases e : j = b
        · rw [if_pos ⟨rfl, e⟩]
        · rw [if_neg (fun z => e z.2), s2_row _ _ _ _ (by omega)]; exact (hI.2 j (by omega)).2)
  exact H FU 0 S (by omega) (by unfold FU; omega) ⟨fun _ _ _ => rfl, fun j hj => by omega⟩
