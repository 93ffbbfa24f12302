/-! pure rows: the class's weigh, tiesOf -/
abbrev KW5 : Type := Int32 → Nat → Nat → Int32 → Int32 → St → Option (Int32 × St)
abbrev KW9 : Type := Int32 → Nat → Nat → Int32 → Int32 → Nat → Int32 → Int32 → Int32 → St → Option (Int32 × St)
theorem wg_s (fw : Nat) (nx : Nat → Nat) (g i : Nat) : wgN fw nx g (i + 1) = min (wgN fw nx g i) (if fw.testBit (frN i) then stN (frN i) g + nx (frN i) else 1000000) := rfl
theorem wg_far (fw : Nat) (nx : Nat → Nat) (g i : Nat) : wgN fw nx g i ≤ 1000000 := mn_far _ _
section
variable {S S0 : St}
theorem weighX {p fw : Nat} {nx : Nat → Nat} (hp : p < 24) (hfw : fw < 65536) (h88 : ∀ f, f < 16 → rA 16 (stN f) (S0 (88 + f))) (hn : ∀ j, j < 8 → S0 (63 + (p + 1)) (frN j) = nI (nx (frN j))) (hnx : ∀ g, nx g ≤ 1000000) : ∃ S2, uX5_weigh (nI p) (nI fw) S0 = some (nI 0, S2) ∧ (∀ k, k ≠ 63 + p → S2 k = S0 k) ∧ ∀ j, j < 8 → S2 (63 + p) (frN j) = nI (wgN fw nx (frN j) 8) := by
  unfold uX5_weigh lX5_weigh_30
  simp (disch := omega) only [ltE, li, nI_add, ckI, clI]
  refine lpF (β := KW5) 8 (by decide) (fun i k30 => ∀ S, (∀ k, k ≠ 63 + p → S k = S0 k) → (∀ j, j < i → S (63 + p) (frN j) = nI 1000000) → ∃ S2, k30 (nI fw) p (p + 1) (nI 8) (nI i) S = some (nI 0, S2) ∧ (∀ k, k ≠ 63 + p → S2 k = S0 k) ∧ ∀ j, j < 8 → S2 (63 + p) (frN j) = nI (wgN fw nx (frN j) 8)) (fun k30 S hS h63 => ?_) (fun i k30 hi ih S hS h63 => ?_) S0 (fun _ _ => rfl) (fun j hj => by omega)
  · unfold bX5_weigh_30 lX5_weigh_69
    rw [iLeT (by omega) (by omega)]
    simp only [ltE, li]
    refine lpF (β := KW5) 8 (by decide) (fun i k69 => ∀ S, (∀ k, k ≠ 63 + p → S k = S0 k) → (∀ j, j < 8 → S (63 + p) (frN j) = nI (wgN fw nx (frN j) i)) → ∃ S2, k69 (nI fw) p (p + 1) (nI 8) (nI i) S = some (nI 0, S2) ∧ (∀ k, k ≠ 63 + p → S2 k = S0 k) ∧ ∀ j, j < 8 → S2 (63 + p) (frN j) = nI (wgN fw nx (frN j) 8)) (fun k69 S hS h63 => ?_) (fun i k69 hi ih S hS h63 => ?_) S hS (fun j hj => h63 j hj)
    · unfold bX5_weigh_69
      rw [iLeT (by omega) (by omega)]
      simp only [li]
      exact ⟨S, rfl, hS, h63⟩
    · have hf := frN_lt i hi
      have e63 : S (63 + (p + 1)) (frN i) = nI (nx (frN i)) := by rw [hS _ (by omega)]; exact hn i hi
      unfold bX5_weigh_69 bX5_weigh_166 lX5_weigh_121
      rw [iLeF (by omega) (by omega), ckI (by omega) (by omega), clI (by omega), frs_eq i hi]
      simp only [ltE, li]
      rw [shrb (by omega) (by omega), ckI (by omega) (by omega), cknI (by omega), ckI (by omega) (by omega), clI (by omega), e63]
      simp only [nI_add]
      cases q : fw.testBit (frN i)
      · rw [bN00 q, jf00]
        refine ih S hS (fun j hj => ?_)
        rw [wg_s, q, if_neg (by decide), Nat.min_eq_left (wg_far _ _ _ _)]
        exact h63 j hj
      · rw [bN1 q, jf10]
        refine lpF (β := KW9) 8 (by decide) (fun j k121 => ∀ S, (∀ k, k ≠ 63 + p → S k = S0 k) → (∀ j', j' < j → S (63 + p) (frN j') = nI (wgN fw nx (frN j') (i + 1))) → (∀ j', j ≤ j' → j' < 8 → S (63 + p) (frN j') = nI (wgN fw nx (frN j') i)) → ∃ S2, k121 (nI fw) p (p + 1) (nI 8) (nI i) (frN i) (nI (nx (frN i))) (nI 8) (nI j) S = some (nI 0, S2) ∧ (∀ k, k ≠ 63 + p → S2 k = S0 k) ∧ ∀ j, j < 8 → S2 (63 + p) (frN j) = nI (wgN fw nx (frN j) 8)) (fun k121 S hS g1 g2 => ?_) (fun j k121 hj ih2 S hS g1 g2 => ?_) S hS (fun j' hj' => by omega) (fun j' _ hj' => h63 j' hj')
        · unfold bX5_weigh_121 bX5_weigh_166
          rw [iLeT (by omega) (by omega)]
          simp only [ltE, li, nI_add]
          exact ih S hS g1
        · have hfj := frN_lt j hj
          have e88 : S (88 + frN i) (frN j) = nI (stN (frN i) (frN j)) := by rw [hS _ (by omega)]; exact h88 _ hf _ hfj
          have b1 := wg_far fw nx (frN j) i
          have b2 := hnx (frN i)
          have b3 := st_le (frN i) (frN j)
          have eo := g2 j (Nat.le_refl _) hj
          have es : wgN fw nx (frN j) (i + 1) = min (wgN fw nx (frN j) i) (stN (frN i) (frN j) + nx (frN i)) := by rw [wg_s, q, if_pos rfl]
          unfold bX5_weigh_121 bX5_weigh_160
          rw [iLeF (by omega) (by omega), ckI (by omega) (by omega), clI (by omega), frs_eq j hj]
          simp only [ltE, li]
          rw [cknI (by omega), ckI (by omega) (by omega), cknI (by omega), ckI (by omega) (by omega), cknI (by omega), ckI (by omega) (by omega), clI (by omega), e88, eo]
          simp only [nI_add, lzE]
          by_cases q2 : wgN fw nx (frN j) i ≤ stN (frN i) (frN j) + nx (frN i)
          · rw [iLeT q2 (by omega)]
            refine ih2 S hS (fun j' hj' => ?_) (fun j' h1 h2 => g2 j' (by omega) h2)
            by_cases e : j' = j
            · rw [e, es, Nat.min_eq_left q2]; exact eo
            · exact g1 j' (by omega)
          · rw [iLeF (by omega) (by omega)]
            refine ih2 _ (fun k hk => by rw [s2_row _ _ _ _ hk]; exact hS k hk) (fun j' hj' => ?_) (fun j' h1 h2 => ?_)
            · rw [s2_hit, upd_get]
              by_cases e : j' = j
              · rw [e, if_pos rfl, es, Nat.min_eq_right (by omega)]
              · rw [if_neg (fun z => e (frN_inj j' (by omega) j hj z))]; exact g1 j' (by omega)
            · rw [s2_hit, upd_get, if_neg (fun z => by have := frN_inj j' h2 j hj z; omega)]; exact g2 j' (by omega) h2
  · have hf := frN_lt i hi
    unfold bX5_weigh_30
    rw [iLeF (by omega) (by omega), ckI (by omega) (by omega), clI (by omega), frs_eq i hi]
    simp only [ltE, li]
    rw [cknI (by omega), ckI (by omega) (by omega), clI (by omega)]
    simp only [lzE, nI_add]
    refine ih _ (fun k hk => by rw [s2_row _ _ _ _ hk]; exact hS k hk) (fun j hj => ?_)
    rw [s2_hit, upd_get]
    by_cases e : j = i
    · rw [e, if_pos rfl]
    · rw [if_neg (fun z => e (frN_inj j (by omega) i hi z))]; exact h63 j (by omega)
theorem tiesX {A : Nat → Nat → Bool} {al e b : Nat} {ai fw : Nat → Nat} (hb : b < 8) (he : e ≤ 24) (hal : al ≤ 16) (h18 : S0 18 b = nI e) (h55 : ∀ w, w < e → S0 (55 + b) w = nI (ai w) ∧ ai w < 16) (h22 : ∀ w, w < e → S0 22 (ai w) = nI (fw w) ∧ fw w < 65536 ∧ ∀ f, (fw w).testBit f = true ↔ ∃ m, m < al ∧ A w m = true ∧ freN m = f) (halike : ∀ w, w + 1 < e → ai w = ai (w + 1) → ∀ m, m < al → A w m = A (w + 1) m) (h88 : ∀ f, f < 16 → rA 16 (stN f) (S0 (88 + f))) : ∃ S2, uX5_tiesOf (nI b) S0 = some (nI (vvN A al e e 0), S2) ∧ (∀ k, (k < 63 ∨ 88 ≤ k) → S2 k = S0 k) ∧ ∀ p, p ≤ e → ∀ j, j < 8 → S2 (63 + p) (frN j) = nI (vvN A al e (e - p) (frN j)) := by
  unfold uX5_tiesOf lX5_tiesOf_18
  simp (disch := omega) only [ltE, li, ckI, clI, h18]
  refine lpF (β := K4) 8 (by decide) (fun i k18 => ∀ S, (∀ k, k ≠ 63 + e → S k = S0 k) → (∀ j, j < i → S (63 + e) (frN j) = nI 0) → ∃ S2, k18 (nI b) (nI e) (nI 8) (nI i) S = some (nI (vvN A al e e 0), S2) ∧ (∀ k, (k < 63 ∨ 88 ≤ k) → S2 k = S0 k) ∧ ∀ p, p ≤ e → ∀ j, j < 8 → S2 (63 + p) (frN j) = nI (vvN A al e (e - p) (frN j))) (fun k18 S hS h63 => ?_) (fun i k18 hi ih S hS h63 => ?_) S0 (fun _ _ => rfl) (fun j hj => by omega)
  · unfold bX5_tiesOf_18 lX5_tiesOf_51
    rw [iLeT (by omega) (by omega)]
    simp only [ltE, li]
    rw [subm]
    refine lpDF (β := K3) e (by omega) (fun i k51 => i ≤ e → ∀ S, (∀ k, (k < 63 ∨ 88 ≤ k) → S k = S0 k) → (∀ p, i ≤ p → p ≤ e → ∀ j, j < 8 → S (63 + p) (frN j) = nI (vvN A al e (e - p) (frN j))) → ∃ S2, k51 (nI b) (nI e) (nI i + -nI 1) S = some (nI (vvN A al e e 0), S2) ∧ (∀ k, (k < 63 ∨ 88 ≤ k) → S2 k = S0 k) ∧ ∀ p, p ≤ e → ∀ j, j < 8 → S2 (63 + p) (frN j) = nI (vvN A al e (e - p) (frN j))) (fun k51 _ S hS h63 => ?_) (fun i k51 ih hi S hS h63 => ?_) (Nat.le_refl _) S (fun k hk => hS k (by omega)) (fun p h1 h2 j hj => by
      have : p = e := by omega
      subst this
      rw [Nat.sub_self]
      exact h63 j hj)
    · unfold bX5_tiesOf_51
      simp only [li]
      rw [if_pos neg0, ckI (by decide) (by decide), cknI (by rw [clI (by decide)]; decide), ckI (by decide) (by decide), clI (by decide)]
      refine ⟨S, ?_, hS, fun p hp => h63 p (by omega) hp⟩
      have := h63 0 (by omega) (by omega) 0 (by decide)
      rw [show frN 0 = 0 from rfl, Nat.sub_zero] at this
      rw [this]
    · unfold bX5_tiesOf_51 bX5_tiesOf_87 bX5_tiesOf_88 bX5_tiesOf_137
      obtain ⟨a1, a2⟩ := h55 i (by omega)
      obtain ⟨f1, f2, f3⟩ := h22 i (by omega)
      have s55 : S (55 + b) i = nI (ai i) := by rw [hS _ (by omega)]; exact a1
      have s22 : S 22 (ai i) = nI (fw i) := by rw [hS _ (by omega)]; exact f1
      have s88 : ∀ f, f < 16 → rA 16 (stN f) (S (88 + f)) := fun f hf => by rw [hS _ (by omega)]; exact h88 f hf
      obtain ⟨S2, w1, w2, w3⟩ := weighX (S0 := S) (p := i) (fw := fw i) (nx := vvN A al e (e - (i + 1))) (by omega) f2 s88 (h63 (i + 1) (by omega) (by omega)) (fun g => vv_far _ _)
      have weighed : ∃ S3, k51 (nI b) (nI e) (nI i + -nI 1) S2 = some (nI (vvN A al e e 0), S3) ∧ (∀ k, (k < 63 ∨ 88 ≤ k) → S3 k = S0 k) ∧ ∀ p, p ≤ e → ∀ j, j < 8 → S3 (63 + p) (frN j) = nI (vvN A al e (e - p) (frN j)) := by
        refine ih (by omega) S2 (fun k hk => by rw [w2 k (by omega)]; exact hS k hk) (fun p h1 h2 j hj => ?_)
        by_cases q : p = i
        · rw [q, w3 j hj, wg_eq hal (by rw [show e - (e - (i + 1) + 1) = i by omega]; exact f3), show e - (i + 1) + 1 = e - i by omega]
        · rw [w2 _ (by omega)]; exact h63 p (by omega) h2 j hj
      simp only [li]
      rw [pm1, iLtF (by omega) (by omega), nI_add]
      simp only [ltE]
      rw [if_pos (c := True) trivial, jf10]
      have ew : ck (nI b) 8 (ckn (nI b).toNatClampNeg 8 (ck (nI i) 24 (ck (S (55 + (nI b).toNatClampNeg) (nI i).toNatClampNeg) 16 (cl (uX5_weigh (nI i) (S 22 (S (55 + (nI b).toNatClampNeg) (nI i).toNatClampNeg).toNatClampNeg) S) (fun _ S3 => k51 (nI b) (nI e) (nI i + -nI 1) S3))))) = k51 (nI b) (nI e) (nI i + -nI 1) S2 := by
        simp (disch := omega) only [ckI, cknI, clI, s55, s22]
        rw [w1, cl_some]
      rw [ew]
      by_cases q1 : e ≤ i + 1
      · rw [iLeT q1 (by omega)]
        exact weighed
      · obtain ⟨c1, c2⟩ := h55 (i + 1) (by omega)
        have s56 : S (55 + b) (i + 1) = nI (ai (i + 1)) := by rw [hS _ (by omega)]; exact c1
        simp (disch := omega) only [iLeF, ckI, cknI, clI, s55, s56, lzE]
        by_cases q2 : ai i = ai (i + 1)
        · rw [iEqT q2]
          refine ih (by omega) _ (fun k hk => by rw [s3_get, if_neg (by omega)]; exact hS k hk) (fun p h1 h2 j hj => ?_)
          have hf := frN_lt j hj
          rw [s3_get]
          by_cases q : p = i
          · rw [q, if_pos rfl, pk_cpy_in (by omega) (by omega), Nat.sub_zero, Nat.zero_add, h63 (i + 1) (by omega) (by omega) j hj]
            have := vv_alike (A := A) (al := al) (e := e) (k := e - (i + 2)) (g := frN j) hal hf (fun m hm => by
              rw [show e - (e - (i + 2) + 2) = i by omega, show e - (e - (i + 2) + 1) = i + 1 by omega]
              exact halike i (by omega) q2 m hm)
            rw [show e - (i + 2) + 2 = e - i by omega, show e - (i + 2) + 1 = e - (i + 1) by omega] at this
            rw [this]
          · rw [if_neg (by omega)]; exact h63 p (by omega) h2 j hj
        · rw [iEqF q2 (by omega) (by omega)]
          exact weighed
  · have hf := frN_lt i hi
    unfold bX5_tiesOf_18
    rw [iLeF (by omega) (by omega), ckI (by omega) (by omega), clI (by omega), frs_eq i hi]
    simp only [ltE, li]
    rw [ckI (by omega) (by omega), clI (by omega), cknI (by omega), ckI (by omega) (by omega), clI (by omega)]
    simp only [lzE, nI_add]
    refine ih _ (fun k hk => by rw [s2_row _ _ _ _ hk]; exact hS k hk) (fun j hj => ?_)
    rw [s2_hit, upd_get]
    by_cases e : j = i
    · rw [e, if_pos rfl]
    · rw [if_neg (fun z => e (frN_inj j (by omega) i hi z))]; exact h63 j (by omega)
end
