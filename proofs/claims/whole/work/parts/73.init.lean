/-! pure rows: the two new objects stand in the relation -/
def ta0 (i : Nat) : Nat := if i < 64 then (i / 4) ||| 2 ^ (i % 4) else 0
theorem ta0_lt (i : Nat) : ta0 i < 16 := by
  have h : ∀ i, i < 64 → ta0 i < 16 := by decide +kernel
  by_cases q : i < 64
  · exact h i q
  · unfold ta0; rw [if_neg q]; decide
theorem ta0_at {c d : Nat} (hc : c < 16) (hd : d < 4) : ta0 (4 * c + d) = c ||| 2 ^ d := by
  unfold ta0
  rw [if_pos (by omega), show (4 * c + d) / 4 = c by omega, show (4 * c + d) % 4 = d by omega]
theorem st_eq : ∀ f, f < 16 → ∀ g, g < 16 → pcn (f ^^^ (f &&& g)) 24 = stN f g := by decide +kernel
theorem i_X2 : ∃ SM, uX2_init z0 = some (nI 0, SM) ∧ rA 64 ta0 (SM 1) := by
  unfold uX2_init lX2_init_14
  simp only [ltE, li]
  refine lpF (β := K1) 16 (by decide) (fun c k => ∀ S : St, rA (4 * c) ta0 (S 1) → ∃ SM, k (nI c) S = some (nI 0, SM) ∧ rA 64 ta0 (SM 1)) (fun k S h => ?_) (fun c k hc ih S h => ?_) z0 (fun i hi => by omega)
  · unfold bX2_init_14
    simp only [li]
    rw [iLeT (by omega) (by omega)]
    exact ⟨S, rfl, h⟩
  · unfold bX2_init_14 lX2_init_22
    simp only [li]
    rw [iLeF (by omega) (by omega)]
    simp only [ltE]
    refine lpF (β := K2) 4 (by decide) (fun d k22 => ∀ S : St, rA (4 * c + d) ta0 (S 1) → ∃ SM, k22 (nI c) (nI d) S = some (nI 0, SM) ∧ rA 64 ta0 (SM 1)) (fun k22 S h => ?_) (fun d k22 hd ih2 S h => ?_) S h
    · unfold bX2_init_22
      simp only [li]
      rw [iLeT (by omega) (by omega)]
      simp only [ltE, nI_add]
      exact ih S h
    · unfold bX2_init_22
      simp (disch := omega) only [li, iLeF, pk_mul, nI_add, ckI, clI, shl1I, fa_or, lzE, ltE]
      refine ih2 _ (fun i hi => ?_)
      rw [s2_hit, upd_get]
      by_cases e : i = c * 4 + d
      · rw [if_pos e, e, Nat.mul_comm c 4, ta0_at hc hd]
      · rw [if_neg e]; exact h i (by omega)
theorem i_X9 : ∃ T1, uX9_init m0 = some (nI 0, T1) ∧ rA 64 ta0 (T1 3) ∧ ∀ k, k ≠ 3 → T1 k = m0 k := by
  unfold uX9_init lX9_init_148
  simp only [ltE, li]
  refine lpF (β := K1) 16 (by decide) (fun c k => ∀ S : St, rA (4 * c) ta0 (S 3) → (∀ k, k ≠ 3 → S k = m0 k) → ∃ SM, k (nI c) S = some (nI 0, SM) ∧ rA 64 ta0 (SM 3) ∧ ∀ k, k ≠ 3 → SM k = m0 k) (fun k S h h2 => ?_) (fun c k hc ih S h h2 => ?_) m0 (fun i hi => by omega) (fun _ _ => rfl)
  · unfold bX9_init_148
    simp only [li]
    rw [iLeT (by omega) (by omega)]
    exact ⟨S, rfl, h, h2⟩
  · unfold bX9_init_148 lX9_init_156
    simp only [li]
    rw [iLeF (by omega) (by omega)]
    simp only [ltE]
    refine lpF (β := K2) 4 (by decide) (fun d k22 => ∀ S : St, rA (4 * c + d) ta0 (S 3) → (∀ k, k ≠ 3 → S k = m0 k) → ∃ SM, k22 (nI c) (nI d) S = some (nI 0, SM) ∧ rA 64 ta0 (SM 3) ∧ ∀ k, k ≠ 3 → SM k = m0 k) (fun k22 S h h2 => ?_) (fun d k22 hd ih2 S h h2 => ?_) S h h2
    · unfold bX9_init_156
      simp only [li]
      rw [iLeT (by omega) (by omega)]
      simp only [ltE, nI_add]
      exact ih S h h2
    · unfold bX9_init_156
      simp (disch := omega) only [li, iLeF, pk_mul, nI_add, ckI, clI, shl1I, fa_or, lzE, ltE]
      refine ih2 _ (fun i hi => ?_) (fun k hk => by rw [s2_row _ _ _ _ hk]; exact h2 k hk)
      rw [s2_hit, upd_get]
      by_cases e : i = 4 * c + d
      · rw [if_pos e, e, ta0_at hc hd]
      · rw [if_neg e]; exact h i (by omega)
theorem start_rel : ∃ SM S1 T1, uX2_init z0 = some (0, SM) ∧ uX8_init (sX0 SM) = some (0, S1) ∧ uX9_init m0 = some (0, T1) ∧ Rel S1 T1 := by
  obtain ⟨SM, a1, a2⟩ := i_X2
  obtain ⟨T1, c1, c2, c3⟩ := i_X9
  obtain ⟨S1, d1, d2, d3, d4, d5, d6, d7, d8⟩ := w_stretch (nI 1) (nI 1) (sX0 SM)
  refine ⟨SM, S1, T1, a1, ?_, c1, 1, 1, fun _ => 0, fun _ => 0, fun _ => 0, fun _ _ => 0, ta0, fun _ => 0, fun _ _ => 0, fun _ => 0, fun _ => 0, 0, fun _ => 0, fun _ => 0, fun _ => 0, 0, 0, 0, 0, fun _ _ => 0, ?_, ?_, ?_⟩
  · unfold uX8_init
    have d1' : uX0_stretch 1 1 (sX0 SM) = some (nI 0, S1) := d1
    rw [d1', cl_some]
  · exact ⟨by omega, fun _ => Nat.succ_pos _, fun _ => Nat.succ_pos _, fun _ => two0 _, fun _ _ => Nat.succ_pos _, ta0_lt, fun _ => Nat.zero_le _, fun _ _ => Nat.succ_pos _, fun _ => (by decide : -3 ≤ (0 : Int32).toInt ∧ (0 : Int32).toInt ≤ 3 ∧ -3 ≤ (0 : Int32).toInt ∧ (0 : Int32).toInt ≤ 3), ⟨by decide, fun _ => Nat.zero_le _, fun _ => Nat.succ_pos _, fun _ => Nat.zero_le _⟩, by decide, fun q => by omega⟩
  · have zz : ∀ k, k < 72 → k ≠ 3 → k ≠ 12 → k ≠ 13 → k ≠ 14 → k ≠ 15 → (k < 31 ∨ 39 ≤ k) → k ≠ 9 → S1 k = fun _ => 0 := fun k q0 q1 q2 q3 q4 q5 q6 q7 => by
      rw [d2 k q1 q2 q3 q4 q5 q6]
      unfold sX0
      rw [if_neg q7]
    refine ⟨⟨d3, d4⟩, d5, fun b hb => ?_, fun b hb => (d8 b hb).1, fun b hb => (d8 b hb).2.1, fun b hb => (d8 b hb).2.2, ?_, ?_, fun t ht => ?_, fun t ht => ⟨?_, ?_⟩, ⟨?_, fun i hi => by omega, fun i hi => by omega, fun i hi => by omega⟩, ?_, ?_, fun q => by omega⟩
    · rw [cr0]
      by_cases e : b = 0
      · rw [if_pos e, e]; exact d6
      · rw [if_neg e]; exact d7 b (by omega) hb
    · rw [d2 9 (by decide) (by decide) (by decide) (by decide) (by decide) (by decide)]; exact a2
    · rw [zz 10 (by decide) (by decide) (by decide) (by decide) (by decide) (by decide) (by decide) (by decide)]; exact fun _ _ => rfl
    · rw [zz (39 + t) (by omega) (by omega) (by omega) (by omega) (by omega) (by omega) (by omega) (by omega)]; exact fun _ _ => rfl
    · rw [zz 26 (by decide) (by decide) (by decide) (by decide) (by decide) (by decide) (by decide) (by decide)]
    · rw [zz 27 (by decide) (by decide) (by decide) (by decide) (by decide) (by decide) (by decide) (by decide)]
    · rw [zz 8 (by decide) (by decide) (by decide) (by decide) (by decide) (by decide) (by decide) (by decide)]; rfl
    · rw [zz 0 (by decide) (by decide) (by decide) (by decide) (by decide) (by decide) (by decide) (by decide)]; rfl
    · rw [zz 6 (by decide) (by decide) (by decide) (by decide) (by decide) (by decide) (by decide) (by decide)]; rfl
  · have zz : ∀ k, k ≠ 3 → k ≠ 0 → T1 k = fun _ => 0 := fun k q1 q2 => by
      rw [c3 k q1]
      funext j
      unfold m0
      rw [if_neg (fun z => q2 z.1)]
    have z0' : ∀ j, j ≠ 1 → j ≠ 2 → T1 0 j = nI 0 := fun j q1 q2 => by
      rw [c3 0 (by decide)]
      unfold m0
      rw [if_neg (fun z => by omega)]; rfl
    refine ⟨⟨?_, ?_⟩, ?_, ?_, fun b hb p hp => ?_, ?_, c2, ?_, ?_, fun t ht => ⟨?_, ?_⟩, ⟨z0' 4 (by decide) (by decide), fun i hi => by omega, fun i hi => by omega, fun i hi => by omega⟩, z0' 3 (by decide) (by decide), z0' 17 (by decide) (by decide), fun q => by omega⟩
    · rw [c3 0 (by decide)]; rfl
    · rw [c3 0 (by decide)]; rfl
    · rw [zz 1 (by decide) (by decide)]; exact fun _ _ => rfl
    · rw [zz 8 (by decide) (by decide)]; exact fun _ _ => rfl
    · show _ = nI (bN 0 p)
      rw [bN0, zz 9 (by decide) (by decide)]; rfl
    · rw [zz 2 (by decide) (by decide)]; exact fun _ _ _ _ => rfl
    · rw [zz 4 (by decide) (by decide)]; exact fun _ _ => rfl
    · rw [zz 5 (by decide) (by decide)]; exact fun _ _ _ _ => rfl
    · rw [zz 6 (by decide) (by decide)]
    · rw [zz 7 (by decide) (by decide)]
