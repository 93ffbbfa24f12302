/-! pure rows: the class's aimAt -/
def PrN (pl t p t' p' : Nat) : Prop := (t' < t ∨ (t' = t ∧ p' < p)) ∧ p' < pl
theorem Pr_s {pl t p t' p' : Nat} (hp : p < pl) : PrN pl t (p + 1) t' p' ↔ PrN pl t p t' p' ∨ (t' = t ∧ p' = p) := by
  unfold PrN
  omega
theorem Pr_row {pl t t' p' : Nat} : PrN pl t pl t' p' ↔ PrN pl (t + 1) 0 t' p' := by
  unfold PrN
  omega
def stI (pl : Nat) (hm fo : Nat → Nat) (wa : Nat → Nat → Nat) (b w : Nat) (v : Int32) (t p : Nat) : Prop := (v = -nI 1 ∧ ∀ t' p', PrN pl t p t' p' → hm t' = b → unN fo pl b p' = w → False) ∨ ∃ c, c < 16 ∧ v = nI c ∧ (∃ t' p', PrN pl t p t' p' ∧ hm t' = b ∧ unN fo pl b p' = w) ∧ ∀ t' p', PrN pl t p t' p' → hm t' = b → unN fo pl b p' = w → wa t' p' = c
def wOk (th pl : Nat) (hm fo : Nat → Nat) (wa : Nat → Nat → Nat) (b w c : Nat) : Prop := wtF hm wa b w c th = 1 ∧ (fo b = 0 ∨ wtF hm wa b (pl - 1 - w) c th = 1)
def aimOk (th pl : Nat) (hm fo : Nat → Nat) (wa ai : Nat → Nat → Nat) (am : Nat) (S : St) : Prop := (∀ b, b < 8 → S 18 b = nI (if crN th hm b = 0 then 0 else enN fo pl b)) ∧ (∀ b, b < 8 → crN th hm b ≠ 0 → ∀ w, w < enN fo pl b → S (55 + b) w = nI (ai b w) ∧ ai b w < 16 ∧ ∀ c, wOk th pl hm fo wa b w c ↔ c = ai b w) ∧ S 5 2 = nI am ∧ am < 65536 ∧ ∀ c, am.testBit c = true ↔ ∃ t, t < th ∧ ∃ p, p < pl ∧ wa t p = c
section
variable {th pl : Nat} {hm fo kn : Nat → Nat} {co : Nat → Nat → Nat} {ta va : Nat → Nat} {wa : Nat → Nat → Nat} {lo hi : Nat → Int32} {la : Nat} {ld lc lr : Nat → Nat} {n3 hp pr pt : Nat} {pb : Nat → Nat → Nat} {S S0 S' : St}
theorem un_self {b w : Nat} (h : w < enN fo pl b) : unN fo pl b w = w := if_pos h
theorem un_mir (hfo : ∀ b, fo b < 2) {b w : Nat} (hf : fo b = 1) (h : w < enN fo pl b) : unN fo pl b (pl - 1 - w) = w := by
  unfold unN
  unfold enN at h ⊢
  rw [if_pos hf] at h ⊢
  by_cases q : pl - 1 - w < (pl + 1) / 2
  · rw [if_pos q]; omega
  · rw [if_neg q]; omega
theorem un_cas (hfo : ∀ b, fo b < 2) {b p : Nat} (h : p < pl) : unN fo pl b p = p ∨ (fo b = 1 ∧ pl - 1 - unN fo pl b p = p) := by
  have := hfo b
  unfold unN
  by_cases q : p < enN fo pl b
  · rw [if_pos q]; exact Or.inl rfl
  · rw [if_neg q]
    unfold enN at q
    by_cases q2 : fo b = 1
    · exact Or.inr ⟨q2, by omega⟩
    · rw [if_neg q2] at q; omega
theorem freeX (h1 : S 3 1 = nI pl) (hpl : pl ≤ 24) (h4 : rA 8 fo (S 14)) (hfo : ∀ b, fo b < 2) {b : Nat} (hb : b < 8) : uX0_freePlaces (nI b) S = some (nI (enN fo pl b), S) := by
  unfold uX0_freePlaces bX0_freePlaces_24 enN
  have h2 := h4 b hb
  have h3 := hfo b
  simp (disch := omega) only [li, ckI, clI, h2, h1, nI_add]
  by_cases q : fo b = 0
  · rw [iEqT q, if_neg (by omega)]
  · rw [iEqF q (by omega) (by omega), pk_div (by omega) (by decide) (by decide), if_pos (by omega)]
theorem underX (h1 : S 3 1 = nI pl) (hpl : pl ≤ 24) (h4 : rA 8 fo (S 14)) (hfo : ∀ b, fo b < 2) {b p : Nat} (hb : b < 8) (hp1 : p < pl) : uX0_underFold (nI b) (nI p) S = some (nI (unN fo pl b p), S) := by
  unfold uX0_underFold bX0_underFold_21 unN
  have he : enN fo pl b ≤ pl := by unfold enN; split <;> omega
  rw [freeX h1 hpl h4 hfo hb, cl_some, h1]
  simp only [li]
  by_cases q : p < enN fo pl b
  · rw [iLeF q (by omega), if_pos q]
  · rw [iLeT (by omega) (by omega), if_neg q, pk_sub (by omega), pk_sub (by omega)]
theorem st_fin (hfo : ∀ b, fo b < 2) {b w : Nat} {v : Int32} (hc : crN th hm b ≠ 0) (hw : w < enN fo pl b) (hen : enN fo pl b ≤ pl) (h : stI pl hm fo wa b w v th 0) : ∃ a, a < 16 ∧ v = nI a ∧ ∀ c, wOk th pl hm fo wa b w c ↔ c = a := by
  obtain ⟨t0, t1, t2⟩ := fb_ct_pos.mp (show 0 < crN th hm b by omega)
  have t2 : hm t0 = b := by simpa using t2
  have pr0 : PrN pl th 0 t0 w := ⟨Or.inl t1, by omega⟩
  rcases h with ⟨-, h⟩ | ⟨a, ha, hv, -, hall⟩
  · exact absurd (un_self hw) (fun z => h t0 w pr0 t2 z)
  · refine ⟨a, ha, hv, fun c => ⟨fun hc => ?_, fun hc => ?_⟩⟩
    · rw [← wt_1.mp hc.1 t0 t1 t2]
      exact hall t0 w pr0 t2 (un_self hw)
    · subst hc
      refine ⟨wt_1.mpr (fun t ht hb => hall t w ⟨Or.inl ht, by omega⟩ hb (un_self hw)), ?_⟩
      by_cases q : fo b = 0
      · exact Or.inl q
      · have hf1 : fo b = 1 := by have := hfo b; omega
        exact Or.inr (wt_1.mpr (fun t ht hb => hall t (pl - 1 - w) ⟨Or.inl ht, by omega⟩ hb (un_mir hfo hf1 hw)))
theorem st_clash (hfo : ∀ b, fo b < 2) {b w c t0 p0 t1 p1 : Nat} (a0 : t0 < th) (a1 : p0 < pl) (a2 : hm t0 = b) (a3 : unN fo pl b p0 = w) (b0 : t1 < th) (b1 : p1 < pl) (b2 : hm t1 = b) (b3 : unN fo pl b p1 = w) (hne : wa t0 p0 ≠ wa t1 p1) : ¬ wOk th pl hm fo wa b w c := by
  intro hc
  have get : ∀ t p, t < th → p < pl → hm t = b → unN fo pl b p = w → wa t p = c := fun t p ht hp1 hb hu => by
    rcases un_cas hfo (b := b) hp1 with q | ⟨q1, q2⟩
    · have : p = w := by omega
      subst this
      exact wt_1.mp hc.1 t ht hb
    · rw [hu] at q2
      subst q2
      exact wt_1.mp (hc.2.resolve_left (by omega)) t ht hb
  exact hne (by rw [get t0 p0 a0 a1 a2 a3, get t1 p1 b0 b1 b2 b3])
theorem aimX (X : XR th pl hm fo kn co ta va wa lo hi la ld lc lr n3 hp pr pt pb S0) (hth : th ≤ 16) (hpl : 1 ≤ pl ∧ pl ≤ 24) (hb8 : ∀ t, hm t < 8) (hfo : ∀ b, fo b < 2) (hwa : ∀ t p, wa t p < 16) : ∃ S2, (∀ k, k ≠ 5 → k ≠ 18 → (k < 55 ∨ 63 ≤ k) → S2 k = S0 k) ∧ ((uX5_aimAt S0 = some (nI 1, S2) ∧ ∃ ai am, aimOk th pl hm fo wa ai am S2) ∨ (uX5_aimAt S0 = some (nI 0, S2) ∧ ∃ b, b < 8 ∧ crN th hm b ≠ 0 ∧ ∃ w, w < enN fo pl b ∧ ∀ c, ¬ wOk th pl hm fo wa b w c)) := by
  suffices H : ∀ P : Option (Int32 × St) → Prop, (∀ S2, (∀ k, k ≠ 5 → k ≠ 18 → (k < 55 ∨ 63 ≤ k) → S2 k = S0 k) → (∃ ai am, aimOk th pl hm fo wa ai am S2) → P (some (nI 1, S2))) → (∀ S2, (∀ k, k ≠ 5 → k ≠ 18 → (k < 55 ∨ 63 ≤ k) → S2 k = S0 k) → (∃ b, b < 8 ∧ crN th hm b ≠ 0 ∧ ∃ w, w < enN fo pl b ∧ ∀ c, ¬ wOk th pl hm fo wa b w c) → P (some (nI 0, S2))) → P (uX5_aimAt S0) by
    refine H (fun y => ∃ S2, (∀ k, k ≠ 5 → k ≠ 18 → (k < 55 ∨ 63 ≤ k) → S2 k = S0 k) ∧ ((y = some (nI 1, S2) ∧ ∃ ai am, aimOk th pl hm fo wa ai am S2) ∨ (y = some (nI 0, S2) ∧ ∃ b, b < 8 ∧ crN th hm b ≠ 0 ∧ ∃ w, w < enN fo pl b ∧ ∀ c, ¬ wOk th pl hm fo wa b w c))) (fun S2 h1 h2 => ⟨S2, h1, Or.inl ⟨rfl, h2⟩⟩) (fun S2 h1 h2 => ⟨S2, h1, Or.inr ⟨rfl, h2⟩⟩)
  intro P p1 p0
  have hen : ∀ b, enN fo pl b ≤ pl := fun b => (en_pos (fo := fo) hpl.1 b).2
  unfold uX5_aimAt lX5_aimAt_2
  simp only [ltE, li]
  refine lpF (β := K1) 8 (by decide) (fun b k2 => ∀ S, (∀ k, k ≠ 5 → k ≠ 18 → (k < 55 ∨ 63 ≤ k) → S k = S0 k) → (∀ b', b' < b → S 18 b' = nI (if crN th hm b' = 0 then 0 else enN fo pl b') ∧ ∀ w, w < 24 → S (55 + b') w = -nI 1) → P (k2 (nI b) S)) (fun k2 S hS h18 => ?_) (fun b k2 hb ih S hS h18 => ?_) S0 (fun _ _ _ _ => rfl) (fun b' hb' => by omega)
  · unfold bX5_aimAt_2 lX5_aimAt_70
    simp only [li]
    rw [iLeT (by omega) (by omega)]
    simp only [lzE, ltE]
    refine lpF (β := K1) th (by omega) (fun t k70 => ∀ S am, (∀ k, k ≠ 5 → k ≠ 18 → (k < 55 ∨ 63 ≤ k) → S k = S0 k) → (∀ b', b' < 8 → S 18 b' = nI (if crN th hm b' = 0 then 0 else enN fo pl b') ∧ ∀ w, w < 24 → stI pl hm fo wa b' w (S (55 + b') w) t 0) → S 5 2 = nI am → am < 65536 → (∀ c, am.testBit c = true ↔ ∃ t' p', PrN pl t 0 t' p' ∧ wa t' p' = c) → P (k70 (nI t) S)) (fun k70 S am hS h18 h52 ham hb => ?_) (fun t k70 ht ih S am hS h18 h52 ham hb => ?_) (s2 S 5 2 (nI 0)) 0 (fun k h1 h2 h3 => by rw [s2_row _ _ _ _ h1]; exact hS k h1 h2 h3) (fun b' hb' => ⟨by rw [s2_row _ _ _ _ (by decide)]; exact (h18 b' hb').1, fun w hw => Or.inl ⟨by rw [s2_row _ _ _ _ (by omega)]; exact (h18 b' hb').2 w hw, fun t' p' hP => by unfold PrN at hP; omega⟩⟩) rfl (by decide) (fun c => by rw [Nat.zero_testBit]; exact ⟨fun h => (by cases h), fun ⟨t', p', hP, _⟩ => by unfold PrN at hP; omega⟩)
    · unfold bX5_aimAt_70 uX0_threads
      rw [cl_some, hS 3 (by decide) (by decide) (by decide), X.1.1, iLeT (Nat.le_refl _) (by omega)]
      simp only [li]
      rw [rzI (by decide)]
      refine p1 S hS ?_
      have hch : ∀ b w, ∃ a, (b < 8 → crN th hm b ≠ 0 → w < enN fo pl b → S (55 + b) w = nI a ∧ a < 16 ∧ ∀ c, wOk th pl hm fo wa b w c ↔ c = a) := fun b w => by
        by_cases q : b < 8 ∧ crN th hm b ≠ 0 ∧ w < enN fo pl b
        · obtain ⟨q1, q2, q3⟩ := q
          have := hen b
          obtain ⟨a, a1, a2, a3⟩ := st_fin hfo q2 q3 (hen b) ((h18 b q1).2 w (by omega))
          exact ⟨a, fun _ _ _ => ⟨a2, a1, a3⟩⟩
        · exact ⟨0, fun z1 z2 z3 => absurd ⟨z1, z2, z3⟩ q⟩
      refine ⟨fun b w => (hch b w).choose, am, fun b hb => (h18 b hb).1, fun b h1 h2 w h3 => (hch b w).choose_spec h1 h2 h3, h52, ham, fun c => ?_⟩
      rw [hb c]
      constructor
      · intro ⟨t', p', hP, hc⟩
        exact ⟨t', by unfold PrN at hP; omega, p', hP.2, hc⟩
      · intro ⟨t', ht', p', hp', hc⟩
        exact ⟨t', p', ⟨Or.inl ht', hp'⟩, hc⟩
    · unfold bX5_aimAt_70 uX0_threads uX0_bundleOf lX5_aimAt_88
      rw [cl_some, hS 3 (by decide) (by decide) (by decide), X.1.1, iLeF (by omega) (by omega), hS 12 (by decide) (by decide) (by decide)]
      have hbt := hb8 t
      have e12 := X.2.1 t (by omega)
      simp (disch := omega) only [li, ckI, clI, cl_some, ltE, e12]
      refine lpF (β := K3) pl (by omega) (fun p k88 => ∀ S am, (∀ k, k ≠ 5 → k ≠ 18 → (k < 55 ∨ 63 ≤ k) → S k = S0 k) → (∀ b', b' < 8 → S 18 b' = nI (if crN th hm b' = 0 then 0 else enN fo pl b') ∧ ∀ w, w < 24 → stI pl hm fo wa b' w (S (55 + b') w) t p) → S 5 2 = nI am → am < 65536 → (∀ c, am.testBit c = true ↔ ∃ t' p', PrN pl t p t' p' ∧ wa t' p' = c) → P (k88 (nI t) (nI (hm t)) (nI p) S)) (fun k88 S am hS h18 h52 ham hb => ?_) (fun p k88 hp1 ih2 S am hS h18 h52 ham hb => ?_) S am hS h18 h52 ham hb
      · unfold bX5_aimAt_88 uX0_places
        rw [cl_some, hS 3 (by decide) (by decide) (by decide), X.1.2, iLeT (Nat.le_refl _) (by omega)]
        simp only [li, ltE, nI_add]
        refine ih S am hS (fun b' hb' => ⟨(h18 b' hb').1, fun w hw => ?_⟩) h52 ham (fun c => ?_)
        · have := (h18 b' hb').2 w hw
          unfold stI at this ⊢
          simp only [Pr_row] at this
          exact this
        · rw [hb c]
          simp only [Pr_row]
      · unfold bX5_aimAt_88 uX0_places uX3_wantedAt bX5_aimAt_147
        have e39 := X.2.2.2.2.2.2.2.2.1 t (by omega) p (by omega)
        have hw16 := hwa t p
        have hun := un_lt hfo hp1 (hm t) (fo := fo)
        have hen1 := hen (hm t)
        have s31 : S 3 1 = nI pl := by rw [hS 3 (by decide) (by decide) (by decide)]; exact X.1.2
        have s14 : rA 8 fo (S 14) := by rw [hS 14 (by decide) (by decide) (by decide)]; exact X.2.2.2.1
        rw [cl_some, s31, iLeF (by omega) (by omega), ckI (by omega) (by omega), cknI (by rw [clI (by omega)]; omega), ckI (by omega) (by omega), clI (by omega), clI (by omega), hS (39 + t) (by omega) (by omega) (by omega), e39, cl_some, ltE, underX s31 hpl.2 s14 hfo hbt hp1, cl_some]
        simp (disch := omega) only [li, ltE, ckI, cknI, clI, lzE, nI_add]
        have wr : ∀ b' w', s2 (s2 S (55 + hm t) (unN fo pl (hm t) p) (nI (wa t p))) 5 2 (s2 S (55 + hm t) (unN fo pl (hm t) p) (nI (wa t p)) 5 2 ||| nI 1 <<< (nI (wa t p) &&& nI 31)) (55 + b') w' = if b' = hm t ∧ w' = unN fo pl (hm t) p then nI (wa t p) else S (55 + b') w' := fun b' w' => by
          rw [s2_row _ _ _ _ (by omega), s2_get]
          by_cases e : b' = hm t ∧ w' = unN fo pl (hm t) p
          · rw [if_pos e, if_pos ⟨by omega, e.2⟩]
          · rw [if_neg e, if_neg (fun z => e ⟨by omega, z.2⟩)]
        have go : (∀ t' p', PrN pl t p t' p' → hm t' = hm t → unN fo pl (hm t) p' = unN fo pl (hm t) p → wa t' p' = wa t p) → P (k88 (nI t) (nI (hm t)) (nI (p + 1)) (s2 (s2 S (55 + hm t) (unN fo pl (hm t) p) (nI (wa t p))) 5 2 (s2 S (55 + hm t) (unN fo pl (hm t) p) (nI (wa t p)) 5 2 ||| nI 1 <<< (nI (wa t p) &&& nI 31)))) := fun hall => by
          refine ih2 _ (am ||| 2 ^ wa t p) (fun k h1 h2 h3 => by rw [s2_row _ _ _ _ h1, s2_row _ _ _ _ (by omega)]; exact hS k h1 h2 h3) (fun b' hb' => ⟨by rw [s2_row _ _ _ _ (by decide), s2_row _ _ _ _ (by omega)]; exact (h18 b' hb').1, fun w hw => ?_⟩) ?_ (Nat.or_lt_two_pow (n := 16) ham (Nat.pow_lt_pow_right (by decide) hw16)) (fun c => ?_)
          · rw [wr]
            by_cases e : b' = hm t ∧ w = unN fo pl (hm t) p
            · rw [if_pos e]
              obtain ⟨rfl, rfl⟩ := e
              refine Or.inr ⟨wa t p, hw16, rfl, ⟨t, p, (Pr_s hp1).mpr (Or.inr ⟨rfl, rfl⟩), rfl, rfl⟩, fun t' p' hP h1 h2 => ?_⟩
              rcases (Pr_s hp1).mp hP with hP | ⟨rfl, rfl⟩
              · exact hall t' p' hP h1 h2
              · rfl
            · rw [if_neg e]
              have old := (h18 b' hb').2 w hw
              have nn : ∀ t' p', t' = t ∧ p' = p → hm t' = b' → unN fo pl b' p' = w → False := fun t' p' ⟨z1, z2⟩ h1 h2 => by
                subst z1 z2
                exact e ⟨h1.symm, by rw [← h2, h1]⟩
              rcases old with ⟨o1, o2⟩ | ⟨c, o1, o2, ⟨t', p', o3, o4⟩, o5⟩
              · refine Or.inl ⟨o1, fun t' p' hP h1 h2 => ?_⟩
                rcases (Pr_s hp1).mp hP with hP | hP
                · exact o2 t' p' hP h1 h2
                · exact nn t' p' hP h1 h2
              · refine Or.inr ⟨c, o1, o2, ⟨t', p', (Pr_s hp1).mpr (Or.inl o3), o4⟩, fun t' p' hP h1 h2 => ?_⟩
                rcases (Pr_s hp1).mp hP with hP | hP
                · exact o5 t' p' hP h1 h2
                · exact absurd h2 (fun z => nn t' p' hP h1 z)
          · rw [s2_get, if_pos ⟨rfl, rfl⟩, s2_row _ _ _ _ (by omega), h52, shl1I (by omega), fa_or]
          · rw [Nat.testBit_or, Bool.or_eq_true, hb c, Nat.testBit_two_pow, decide_eq_true_iff]
            constructor
            · rintro (⟨t', p', hP, hc⟩ | hc)
              · exact ⟨t', p', (Pr_s hp1).mpr (Or.inl hP), hc⟩
              · exact ⟨t, p, (Pr_s hp1).mpr (Or.inr ⟨rfl, rfl⟩), hc⟩
            · intro ⟨t', p', hP, hc⟩
              rcases (Pr_s hp1).mp hP with hP | ⟨rfl, rfl⟩
              · exact Or.inl ⟨t', p', hP, hc⟩
              · exact Or.inr hc
        rcases (h18 (hm t) hbt).2 (unN fo pl (hm t) p) (by omega) with ⟨o1, o2⟩ | ⟨c, o1, o2, ⟨t', p', o3, o4, o6⟩, o5⟩
        · rw [o1, eqm1T]
          exact go (fun t' p' hP h1 h2 => (o2 t' p' hP h1 h2).elim)
        · rw [o2, eqm1F (by omega)]
          by_cases q : c = wa t p
          · rw [iEqT q]
            exact go (fun t' p' hP h1 h2 => by rw [o5 t' p' hP h1 h2]; exact q)
          · rw [iEqF q (by omega) (by omega), rzI (by decide)]
            refine p0 S hS ⟨hm t, hbt, ?_, unN fo pl (hm t) p, hun, fun c' => ?_⟩
            · have : 0 < crN th hm (hm t) := fb_ct_pos.mpr ⟨t, ht, by simp⟩
              omega
            · have h1 := o5 t' p' o3 o4 o6
              unfold PrN at o3
              exact st_clash hfo (by omega) o3.2 o4 o6 ht hp1 rfl rfl (by rw [h1]; exact q)
  · unfold bX5_aimAt_2 bX5_aimAt_30 uX0_threadsIn lX5_aimAt_34
    have s31 : S 3 1 = nI pl := by rw [hS 3 (by decide) (by decide) (by decide)]; exact X.1.2
    have s14 : rA 8 fo (S 14) := by rw [hS 14 (by decide) (by decide) (by decide)]; exact X.2.2.2.1
    have s13 : S 13 b = nI (crN th hm b) := by rw [hS 13 (by decide) (by decide) (by decide)]; exact X.2.2.1 b hb
    have hcr : crN th hm b ≤ 16 := Nat.le_trans (fb_ct_le _ _) hth
    have inner : P (lX5_aimAt_34 k2 FU (nI b) (nI 0) (s2 S 18 b (nI (if crN th hm b = 0 then 0 else enN fo pl b)))) := by
      unfold lX5_aimAt_34
      refine lpF (β := K2) 24 (by decide) (fun w k34 => ∀ S1, (∀ k, k ≠ 55 + b → S1 k = s2 S 18 b (nI (if crN th hm b = 0 then 0 else enN fo pl b)) k) → (∀ w', w' < w → S1 (55 + b) w' = -nI 1) → P (k34 (nI b) (nI w) S1)) (fun k34 S1 hS1 h55 => ?_) (fun w k34 hw ih2 S1 hS1 h55 => ?_) _ (fun _ _ => rfl) (fun w' hw' => by omega)
      · unfold bX5_aimAt_34
        simp only [li]
        rw [iLeT (by omega) (by omega)]
        simp only [ltE, nI_add]
        refine ih S1 (fun k h1 h2 h3 => by rw [hS1 k (by omega), s2_row _ _ _ _ h2]; exact hS k h1 h2 h3) (fun b' hb' => ?_)
        by_cases e : b' = b
        · subst e
          exact ⟨by rw [hS1 18 (by omega), s2_get, if_pos ⟨rfl, rfl⟩], h55⟩
        · refine ⟨by rw [hS1 18 (by omega), s2_get, if_neg (fun z => e z.2)]; exact (h18 b' (by omega)).1, fun w hw => ?_⟩
          rw [hS1 (55 + b') (by omega), s2_row _ _ _ _ (by omega)]
          exact (h18 b' (by omega)).2 w hw
      · unfold bX5_aimAt_34
        simp (disch := omega) only [li, iLeF, ckI, cknI, clI, lzE, ltE, nI_add]
        refine ih2 _ (fun k hk => by rw [s2_row _ _ _ _ hk]; exact hS1 k hk) (fun w' hw' => ?_)
        rw [s2_hit, upd_get]
        by_cases e : w' = w
        · rw [if_pos e]
        · rw [if_neg e]; exact h55 w' (by omega)
    unfold lX5_aimAt_34 at inner
    simp (disch := omega) only [li, iLeF, ckI, clI, cl_some, s13, lzE, ltE]
    by_cases q : crN th hm b = 0
    · rw [iLeT (by omega) (by omega)]
      rw [if_pos q] at inner
      exact inner
    · rw [iLeF (by omega) (by omega), freeX s31 hpl.2 s14 hfo hb, cl_some]
      rw [if_neg q] at inner
      exact inner
end
