/-! pure rows: the reference's find, a bundle -/
theorem subm (a : Nat) : nI a - nI 1 = nI a + -nI 1 := by
  rw [fa_eq]
  have : ∀ x y : Int32, (x - y) = x + -y := fun x y => Int32.sub_eq_add_neg x y
  rw [this]
theorem pm1 (a : Nat) : nI (a + 1) + -nI 1 = nI a := pk_m1 a
theorem neg0 : nI 0 + -nI 1 < nI 0 := by decide +kernel
section
variable {k37 : K4} {k91 : K6} {k99 : K7} {T T0 T1 : St} {row nb b e p m : Nat} {x3 : Int32} {A : Nat → Nat → Bool}
theorem f195 (hnb : nb ≤ 4) (hm : m < 2 ^ nb) (hp : p < e) (he : e ≤ 24) {r : Nat → Nat} (hr : p + 1 < e → ∀ h, h < 2 ^ nb → T 15 (16 * p + 16 + h) = nI (r h)) (hr1 : ∀ h, r h ≤ 1000000) : lX9_find_195 k37 k91 k99 FU (nI row) (nI (2 ^ nb)) x3 (nI b) (nI e) (nI p) (nI m) (nI (if p + 1 = e then 0 else 1000000)) (nI 0) T = k99 (nI row) (nI (2 ^ nb)) x3 (nI b) (nI e) (nI p) (nI (m + 1)) (s2 T 15 (16 * p + m) (nI (if p + 1 = e then 0 else mnN (fun h => r h + stN (freN h) (freN m)) (2 ^ nb)))) := by
  have h16 := p16 hnb
  have hx : ∀ v, bX9_find_271 k37 k91 k99 (nI row) (nI (2 ^ nb)) x3 (nI b) (nI e) (nI p) (nI m) v T = k99 (nI row) (nI (2 ^ nb)) x3 (nI b) (nI e) (nI p) (nI (m + 1)) (s2 T 15 (16 * p + m) v) := fun v => by
    unfold bX9_find_271 bX9_find_286
    simp (disch := omega) only [li, pk_mul, nI_add, ckI, clI, lzE, ltE]
  by_cases q : p + 1 = e
  · rw [if_pos q, if_pos q]
    unfold lX9_find_195
    rw [FU_eq]
    show bX9_find_195 k37 k91 k99 _ (nI row) (nI (2 ^ nb)) x3 (nI b) (nI e) (nI p) (nI m) (nI 0) (nI 0) T = _
    unfold bX9_find_195
    simp only [li]
    rw [pk_sub (by omega), iLeT (by omega) (by omega), hx]
  · rw [if_neg q, if_neg q]
    unfold lX9_find_195
    refine lpF (β := K9) (2 ^ nb) (by omega) (fun h k195 => k195 (nI row) (nI (2 ^ nb)) x3 (nI b) (nI e) (nI p) (nI m) (nI (mnN (fun h => r h + stN (freN h) (freN m)) h)) (nI h) T = k99 (nI row) (nI (2 ^ nb)) x3 (nI b) (nI e) (nI p) (nI (m + 1)) (s2 T 15 (16 * p + m) (nI (mnN (fun h => r h + stN (freN h) (freN m)) (2 ^ nb))))) (fun k195 => ?_) (fun h k195 hh ih => ?_)
    · unfold bX9_find_195
      simp only [li]
      rw [pk_sub (by omega), iLeF (by omega) (by omega), iLeT (Nat.le_refl _) (by omega), hx]
    · unfold bX9_find_195 bX9_find_263
      have b1 := mn_far (fun h => r h + stN (freN h) (freN m)) h
      have b2 := hr1 h
      have b3 := st_le (freN h) (freN m)
      have e15 := hr (by omega) h hh
      simp only [li]
      rw [pk_sub (by omega), iLeF (by omega) (by omega), iLeF (by omega) (by omega), pk_mul, nI_add, nI_add, ckI (by omega) (by omega), clI (by omega), newlyM (by omega), cl_some, newlyM (by omega), cl_some, stM hnb hh (by omega), cl_some, e15]
      simp only [ltE, nI_add]
      rw [mnN_s] at ih
      by_cases q2 : mnN (fun h => r h + stN (freN h) (freN m)) h ≤ r h + stN (freN h) (freN m)
      · rw [iLeT q2 (by omega)]
        rw [Nat.min_eq_left q2] at ih
        exact ih
      · rw [iLeF (by omega) (by omega)]
        rw [Nat.min_eq_right (by omega)] at ih
        exact ih
def rvN (A : Nat → Nat → Bool) (al e q m : Nat) : Nat := if A q m then vvN A al e (e - 1 - q) (freN m) else 1000000
theorem rv_le (al q m : Nat) : rvN A al e q m ≤ 1000000 := by
  unfold rvN
  split
  · exact vv_far _ _
  · exact Nat.le_refl _
theorem rv_mn {nbb k g : Nat} (hk : k < e) : mnN (fun h => rvN A nbb e (e - (k + 1)) h + stN (freN h) g) nbb = vvN A nbb e (k + 1) g := by
  rw [vv_s]
  refine mn_min (fun h _ => ?_)
  unfold rvN
  cases q : A (e - (k + 1)) h
  · right
    simp
  · left
    simp only [if_true]
    rw [show e - 1 - (e - (k + 1)) = k by omega, Nat.add_comm]
variable {th pl : Nat} {hm fo kn : Nat → Nat} {co : Nat → Nat → Nat} {ta va : Nat → Nat} {wa : Nat → Nat → Nat} {lo hi : Nat → Int32} {la : Nat} {ld lc lr : Nat → Nat} {n3 hp pr pt : Nat} {pb : Nat → Nat → Nat}
def AN (th pl : Nat) (hm fo : Nat → Nat) (wa : Nat → Nat → Nat) (ta : Nat → Nat) (row b p m : Nat) : Bool := decide (wtF hm wa b p (beN ta row m (btN row)) th = 1) && (decide (fo b = 0) || decide (wtF hm wa b (pl - 1 - p) (beN ta row m (btN row)) th = 1))
def enN (fo : Nat → Nat) (pl b : Nat) : Nat := if fo b = 1 then (pl + 1) / 2 else pl
theorem f99 (M : MR th pl hm fo kn co ta va wa lo hi la ld lc lr n3 hp pr pt pb T0) (hth : th ≤ 16) (hpl : 1 ≤ pl ∧ pl ≤ 24) (hb8 : ∀ t, hm t < 8) (hfo : ∀ b, fo b < 2) (hta : ∀ i, ta i < 16) (hwa : ∀ t p, wa t p < 16) (hr : okR row) (hnb : nb = btN row) (hb : b < 8) (he : e = enN fo pl b) (hpe : p < e) (hA : A = AN th pl hm fo wa ta row b) (P : Option (Int32 × St) → Prop) (hk : ∀ T, (∀ k, k ≠ 15 → T k = T0 k) → (∀ q, p ≤ q → q < e → ∀ m, m < 2 ^ nb → T 15 (16 * q + m) = nI (rvN A (2 ^ nb) e q m)) → P (k91 (nI row) (nI (2 ^ nb)) x3 (nI b) (nI e) (nI p + -nI 1) T)) (T : St) (hT : ∀ k, k ≠ 15 → T k = T0 k) (h15 : ∀ q, p < q → q < e → ∀ m, m < 2 ^ nb → T 15 (16 * q + m) = nI (rvN A (2 ^ nb) e q m)) : P (lX9_find_99 k37 k91 FU (nI row) (nI (2 ^ nb)) x3 (nI b) (nI e) (nI p) (nI 0) T) := by
  have hnb4 : nb ≤ 4 := by rw [hnb]; exact btN_le row
  have h16 := p16 hnb4
  have hfb := hfo b
  have hee : e ≤ pl := by rw [he]; unfold enN; split <;> omega
  unfold lX9_find_99
  refine lpF (β := K7) (2 ^ nb) (by omega) (fun m k99 => ∀ T, (∀ k, k ≠ 15 → T k = T0 k) → (∀ q, p < q → q < e → ∀ m, m < 2 ^ nb → T 15 (16 * q + m) = nI (rvN A (2 ^ nb) e q m)) → (∀ m', m' < m → T 15 (16 * p + m') = nI (rvN A (2 ^ nb) e p m')) → P (k99 (nI row) (nI (2 ^ nb)) x3 (nI b) (nI e) (nI p) (nI m) T)) (fun k99 T hT h15 h15m => ?_) (fun m k99 hm1 ih T hT h15 h15m => ?_) T hT h15 (fun m' h => by omega)
  · unfold bX9_find_99
    rw [iLeT (Nat.le_refl _) (by omega)]
    simp only [ltE, li]
    refine hk T hT (fun q h1 h2 m hm => ?_)
    by_cases e1 : q = p
    · rw [e1]; exact h15m m hm
    · exact h15 q (by omega) h2 m hm
  · unfold bX9_find_99 bX9_find_175 bX9_find_190
    have M1 : MR th pl hm fo kn co ta va wa lo hi la ld lc lr n3 hp pr pt pb T := M.fr (fun k hk => hT k (by omega))
    have hbe := be_lt hta row m (btN row)
    obtain ⟨S5, eS5⟩ : ∃ S5, S5 = s2 T 15 (16 * p + m) (nI 1000000) := ⟨_, rfl⟩
    have M5 : MR th pl hm fo kn co ta va wa lo hi la ld lc lr n3 hp pr pt pb S5 := M1.fr (fun k hk => by rw [eS5]; exact s2_row _ _ _ _ (by omega))
    have hS5 : ∀ k, k ≠ 15 → S5 k = T0 k := fun k hk => by rw [eS5, s2_row _ _ _ _ hk]; exact hT k hk
    have g15 : ∀ i, S5 15 i = if i = 16 * p + m then nI 1000000 else T 15 i := fun i => by rw [eS5, s2_hit, upd_get]
    rw [iLeF (by omega) (by omega), becomesM M1.2.2.2.2.2.1 hta hr (by omega), cl_some]
    simp (disch := omega) only [li, pk_mul, nI_add, ckI, clI, lzE, ltE]
    rw [← eS5, wantsM M5.1.1 M5.2.1 M5.2.2.2.2.2.2.2.1 hth hb8 hwa hb (by omega) hbe, cl_some]
    have w1 := wt_lt hm wa b p (beN ta row m (btN row)) th
    have w2 := wt_lt hm wa b (pl - 1 - p) (beN ta row m (btN row)) th
    -- the case that the place may not have these bits
    have no : A p m = false → P (bX9_find_286 k37 k91 k99 (nI row) (nI (2 ^ nb)) x3 (nI b) (nI e) (nI p) (nI m) S5) := fun hf => by
      unfold bX9_find_286
      simp only [li, nI_add, ltE]
      refine ih S5 hS5 (fun q h1 h2 m' hm' => ?_) (fun m' hm' => ?_)
      · rw [g15, if_neg (by omega)]; exact h15 q h1 h2 m' hm'
      · rw [g15]
        by_cases e1 : m' = m
        · rw [e1, if_pos rfl]
          unfold rvN
          rw [hf]
          rfl
        · rw [if_neg (by omega)]; exact h15m m' (by omega)
    have yes : A p m = true → P (if nI p = nI e - nI 1 then lX9_find_195 k37 k91 k99 FU (nI row) (nI (2 ^ nb)) x3 (nI b) (nI e) (nI p) (nI m) (nI 0) (nI 0) S5 else lX9_find_195 k37 k91 k99 FU (nI row) (nI (2 ^ nb)) x3 (nI b) (nI e) (nI p) (nI m) (nI 1000000) (nI 0) S5) := fun ht => by
      have key := f195 (k37 := k37) (k91 := k91) (k99 := k99) (T := S5) (row := row) (b := b) (x3 := x3) hnb4 hm1 hpe (by omega) (r := fun h => rvN A (2 ^ nb) e (p + 1) h) (fun h1 h hh => by
        rw [g15, if_neg (by omega), show 16 * p + 16 + h = 16 * (p + 1) + h by omega]
        exact h15 (p + 1) (by omega) h1 h hh) (fun h => rv_le _ _ _)
      have goal : P (k99 (nI row) (nI (2 ^ nb)) x3 (nI b) (nI e) (nI p) (nI (m + 1)) (s2 S5 15 (16 * p + m) (nI (if p + 1 = e then 0 else mnN (fun h => rvN A (2 ^ nb) e (p + 1) h + stN (freN h) (freN m)) (2 ^ nb))))) := by
        refine ih _ (fun k hk => by rw [s2_row _ _ _ _ hk]; exact hS5 k hk) (fun q h1 h2 m' hm' => ?_) (fun m' hm' => ?_)
        · rw [s2_hit, upd_get, if_neg (by omega), g15, if_neg (by omega)]; exact h15 q h1 h2 m' hm'
        · rw [s2_hit, upd_get]
          by_cases e1 : m' = m
          · rw [e1, if_pos rfl]
            congr 1
            unfold rvN
            rw [ht, if_pos rfl]
            by_cases e2 : p + 1 = e
            · rw [if_pos e2, show e - 1 - p = 0 by omega]
              rfl
            · rw [if_neg e2, show e - 1 - p = (e - 2 - p) + 1 by omega, ← rv_mn (by omega), show e - (e - 2 - p + 1) = p + 1 by omega]
              rfl
          · rw [if_neg (by omega), g15, if_neg (by omega)]; exact h15m m' (by omega)
      rw [pk_sub (by omega)]
      by_cases e2 : p + 1 = e
      · rw [iEqT (by omega)]
        rw [if_pos e2] at key
        rw [key]
        exact goal
      · rw [iEqF (by omega) (by omega) (by omega)]
        rw [if_neg e2] at key
        rw [key]
        exact goal
    by_cases q1 : wtF hm wa b p (beN ta row m (btN row)) th = 0
    · rw [iEqT q1]
      exact no (by rw [hA]; unfold AN; rw [q1]; rfl)
    · have q1' : wtF hm wa b p (beN ta row m (btN row)) th = 1 := by omega
      rw [iEqF q1 (by omega) (by omega), M5.2.2.1 b hb]
      by_cases q2 : fo b = 0
      · rw [iEqT q2]
        exact yes (by rw [hA]; unfold AN; rw [q1', q2]; rfl)
      · rw [iEqF q2 (by omega) (by omega), M5.1.2, pk_sub (by omega), pk_sub (by omega), wantsM M5.1.1 M5.2.1 M5.2.2.2.2.2.2.2.1 hth hb8 hwa hb (by omega) hbe, cl_some]
        by_cases q3 : wtF hm wa b (pl - 1 - p) (beN ta row m (btN row)) th = 0
        · rw [iEqT q3]
          exact no (by rw [hA]; unfold AN; rw [q1', q3]; simp [q2])
        · rw [iEqF q3 (by omega) (by omega)]
          exact yes (by rw [hA]; unfold AN; rw [q1', show wtF hm wa b (pl - 1 - p) (beN ta row m (btN row)) th = 1 by omega]; simp)
theorem f91 (M : MR th pl hm fo kn co ta va wa lo hi la ld lc lr n3 hp pr pt pb T0) (hth : th ≤ 16) (hpl : 1 ≤ pl ∧ pl ≤ 24) (hb8 : ∀ t, hm t < 8) (hfo : ∀ b, fo b < 2) (hta : ∀ i, ta i < 16) (hwa : ∀ t p, wa t p < 16) (hr : okR row) (hnb : nb = btN row) (hb : b < 8) (he : e = enN fo pl b) (hA : A = AN th pl hm fo wa ta row b) (P : Option (Int32 × St) → Prop) (hk : ∀ T, (∀ k, k ≠ 15 → T k = T0 k) → (∀ q, q < e → ∀ m, m < 2 ^ nb → T 15 (16 * q + m) = nI (rvN A (2 ^ nb) e q m)) → P (lX9_find_308 k37 FU (nI row) (nI (2 ^ nb)) x3 (nI b) (nI e) (nI 0) (nI 1000000) (nI 0) T)) : P (lX9_find_91 k37 FU (nI row) (nI (2 ^ nb)) x3 (nI b) (nI e) (nI e - nI 1) T0) := by
  have hee : e ≤ pl := by rw [he]; unfold enN; split <;> omega
  rw [subm]
  unfold lX9_find_91
  refine lpDF (β := K6) e (by omega) (fun i k91 => i ≤ e → ∀ T, (∀ k, k ≠ 15 → T k = T0 k) → (∀ q, i ≤ q → q < e → ∀ m, m < 2 ^ nb → T 15 (16 * q + m) = nI (rvN A (2 ^ nb) e q m)) → P (k91 (nI row) (nI (2 ^ nb)) x3 (nI b) (nI e) (nI i + -nI 1) T)) (fun k91 _ T hT h15 => ?_) (fun i k91 ih hi T hT h15 => ?_) (Nat.le_refl _) T0 (fun _ _ => rfl) (fun q h1 h2 => by omega)
  · unfold bX9_find_91
    simp only [li]
    rw [if_pos neg0]
    exact hk T hT (fun q hq => h15 q (by omega) hq)
  · unfold bX9_find_91
    simp only [li]
    rw [pm1, iLtF (by omega) (by omega)]
    simp only [ltE]
    exact f99 M hth hpl hb8 hfo hta hwa hr hnb hb he (by omega) hA P (fun T hT h => ih (by omega) T hT h) T hT (fun q h1 h2 => h15 q (by omega) h2)
theorem f308 (hnb : nb ≤ 4) (he1 : 1 ≤ e) (he : e ≤ 24) (h15 : ∀ m, m < 2 ^ nb → T 15 m = nI (rvN A (2 ^ nb) e 0 m)) : lX9_find_308 k37 FU (nI row) (nI (2 ^ nb)) x3 (nI b) (nI e) (nI 0) (nI 1000000) (nI 0) T = if vvN A (2 ^ nb) e e 0 < 1000000 then lX9_find_375 k37 FU (nI row) (nI (2 ^ nb)) (x3 + nI (vvN A (2 ^ nb) e e 0)) (nI b) (nI e) (nI 0) (nI (vvN A (2 ^ nb) e e 0)) (nI 0) T else some (-nI 1, T) := by
  have h16 := p16 hnb
  unfold lX9_find_308
  have eq : mnN (fun m => rvN A (2 ^ nb) e 0 m + stN (freN m) 0) (2 ^ nb) = vvN A (2 ^ nb) e e 0 := by
    have := rv_mn (A := A) (nbb := 2 ^ nb) (k := e - 1) (g := 0) (e := e) (by omega)
    rw [show e - (e - 1 + 1) = 0 by omega, show e - 1 + 1 = e by omega] at this
    exact this
  refine lpF (β := K8) (2 ^ nb) (by omega) (fun m k308 => k308 (nI row) (nI (2 ^ nb)) x3 (nI b) (nI e) (nI 0) (nI (mnN (fun m => rvN A (2 ^ nb) e 0 m + stN (freN m) 0) m)) (nI m) T = if vvN A (2 ^ nb) e e 0 < 1000000 then lX9_find_375 k37 FU (nI row) (nI (2 ^ nb)) (x3 + nI (vvN A (2 ^ nb) e e 0)) (nI b) (nI e) (nI 0) (nI (vvN A (2 ^ nb) e e 0)) (nI 0) T else some (-nI 1, T)) (fun k308 => ?_) (fun m k308 hm1 ih => ?_)
  · unfold bX9_find_308
    simp only [li]
    rw [iLeT (Nat.le_refl _) (by omega), eq]
    have b1 := vv_far (A := A) (al := 2 ^ nb) (e := e) e 0
    by_cases q : vvN A (2 ^ nb) e e 0 < 1000000
    · rw [iLtT q (by omega), if_pos q]
      rfl
    · rw [iLtF (by omega) (by omega), if_neg q]
  · unfold bX9_find_308 bX9_find_350
    have b1 := mn_far (fun m => rvN A (2 ^ nb) e 0 m + stN (freN m) 0) m
    have b2 := rv_le (A := A) (e := e) (2 ^ nb) 0 m
    have b3 := st_le (freN m) 0
    simp only [li]
    rw [iLeF (by omega) (by omega), ckI (by omega) (by omega), clI (by omega), newlyM (by omega), cl_some, stM0 hnb hm1, cl_some, h15 m hm1]
    simp only [ltE, nI_add]
    rw [mnN_s] at ih
    by_cases q2 : mnN (fun m => rvN A (2 ^ nb) e 0 m + stN (freN m) 0) m ≤ rvN A (2 ^ nb) e 0 m + stN (freN m) 0
    · rw [iLeT q2 (by omega)]
      rw [Nat.min_eq_left q2] at ih
      exact ih
    · rw [iLeF (by omega) (by omega)]
      rw [Nat.min_eq_right (by omega)] at ih
      exact ih
def amN (A : Nat → Nat → Bool) (al e : Nat) : Nat → Nat
  | 0 => 0
  | p + 1 => mpN A al e p
theorem am_fre (hal : 2 ^ nb ≤ 16) (p : Nat) : freN (amN A (2 ^ nb) e p) = ahN A (2 ^ nb) e p := by
  cases p with
  | zero => show freN 0 = 0; decide
  | succ p => exact (ah_s (A := A) (al := 2 ^ nb) (e := e) p).symm
def unN (fo : Nat → Nat) (pl b p : Nat) : Nat := if p < enN fo pl b then p else pl - 1 - p
theorem f375 (M : MR th pl hm fo kn co ta va wa lo hi la ld lc lr n3 hp pr pt pb T1) (hpl : 1 ≤ pl ∧ pl ≤ 24) (hfo : ∀ b, fo b < 2) (hnb : nb ≤ 4) (hb : b < 8) (he : e = enN fo pl b) (h0 : vvN A (2 ^ nb) e e 0 < 1000000) (h15 : ∀ q, q < e → ∀ m, m < 2 ^ nb → T1 15 (16 * q + m) = nI (rvN A (2 ^ nb) e q m)) (P : Option (Int32 × St) → Prop) (hk : ∀ T, (∀ k, k ≠ 14 → T k = T1 k) → (∀ q, q < pl → T 14 (24 * b + q) = nI (mpN A (2 ^ nb) e (unN fo pl b q))) → (∀ b', b' ≠ b → ∀ q, q < 24 → T 14 (24 * b' + q) = T1 14 (24 * b' + q)) → P (k37 (nI row) (nI (2 ^ nb)) x3 (nI (b + 1)) T)) : P (lX9_find_375 k37 FU (nI row) (nI (2 ^ nb)) x3 (nI b) (nI e) (nI 0) (nI (vvN A (2 ^ nb) e e 0)) (nI 0) T1) := by
  have h16 := p16 hnb
  have hfb := hfo b
  have hee : e ≤ pl := by rw [he]; unfold enN; split <;> omega
  unfold lX9_find_375
  refine lpF (β := K8) e (by omega) (fun p k375 => ∀ T, (∀ k, k ≠ 14 → T k = T1 k) → (∀ q, q < p → T 14 (24 * b + q) = nI (mpN A (2 ^ nb) e q)) → (fo b = 1 → ∀ q, q < p → T 14 (24 * b + (pl - 1 - q)) = nI (mpN A (2 ^ nb) e q)) → (∀ b', b' ≠ b → ∀ q, q < 24 → T 14 (24 * b' + q) = T1 14 (24 * b' + q)) → P (k375 (nI row) (nI (2 ^ nb)) x3 (nI b) (nI e) (nI (amN A (2 ^ nb) e p)) (nI (vvN A (2 ^ nb) e (e - p) (ahN A (2 ^ nb) e p))) (nI p) T)) (fun k375 T hT g1 g2 g3 => ?_) (fun p k375 hp1 ih T hT g1 g2 g3 => ?_) T1 (fun _ _ => rfl) (fun q hq => by omega) (fun _ q hq => by omega) (fun _ _ _ _ => rfl)
  · unfold bX9_find_375 bX9_find_502
    simp only [li]
    rw [iLeT (Nat.le_refl _) (by omega)]
    simp only [ltE, nI_add]
    refine hk T hT (fun q hq => ?_) g3
    unfold unN
    rw [← he]
    by_cases q1 : q < e
    · rw [if_pos q1]; exact g1 q q1
    · rw [if_neg q1]
      have hf1 : fo b = 1 := by
        rcases (show fo b = 0 ∨ fo b = 1 by omega) with z | z
        · unfold enN at he; rw [if_neg (by omega)] at he; omega
        · exact z
      have := g2 hf1 (pl - 1 - q) (by unfold enN at he; rw [if_pos hf1] at he; omega)
      rw [show pl - 1 - (pl - 1 - q) = q by omega] at this
      exact this
  · obtain ⟨⟨m1, m2, m3⟩, m4, m5⟩ := mp_ok (A := A) (e := e) h16 h0 hp1
    have ha : amN A (2 ^ nb) e p < 16 := by
      cases p with
      | zero => show 0 < 16; decide
      | succ p => exact (mp_ok (A := A) (e := e) h16 h0 (p := p) (by omega)).2.1
    have hah := ah_lt (A := A) (e := e) h16 h0 p (by omega)
    have hv := mp_all (A := A) (e := e) h16 h0 p (by omega)
    have hT15 : ∀ m, m < 2 ^ nb → T 15 (16 * p + m) = nI (rvN A (2 ^ nb) e p m) := fun m hm => by rw [hT 15 (by decide)]; exact h15 p hp1 m hm
    have M1 : T 8 = T1 8 ∧ T 0 = T1 0 := ⟨hT 8 (by decide), hT 0 (by decide)⟩
    unfold bX9_find_375 lX9_find_385
    rw [iLeF (by omega) (by omega)]
    simp only [ltE, li]
    refine lpF (β := K9) (mpN A (2 ^ nb) e p) (by omega) (fun m k385 => P (k385 (nI row) (nI (2 ^ nb)) x3 (nI b) (nI e) (nI (amN A (2 ^ nb) e p)) (nI (vvN A (2 ^ nb) e (e - p) (ahN A (2 ^ nb) e p))) (nI p) (nI m) T)) (fun k385 => ?_) (fun m k385 hm1 ih2 => ?_)
    · have b1 := vv_far (A := A) (al := 2 ^ nb) (e := e) (e - 1 - p) (freN (mpN A (2 ^ nb) e p))
      have erv : rvN A (2 ^ nb) e p (mpN A (2 ^ nb) e p) = vvN A (2 ^ nb) e (e - 1 - p) (freN (mpN A (2 ^ nb) e p)) := by
        unfold rvN
        rw [m2, if_pos rfl]
      unfold bX9_find_385 bX9_find_496
      simp only [li]
      rw [pk_mul, nI_add, ckI (by omega) (by omega), clI (by omega), newlyM (by omega), cl_some, newlyM ha, cl_some, stM hnb m1 ha, cl_some, hT15 _ m1, erv, am_fre h16, nI_add, iEqT (by omega)]
      simp (disch := omega) only [ltE, pk_mul, nI_add, ckI, clI, lzE]
      rw [s2_row _ _ _ _ (show 8 ≠ 14 by decide), M1.1, M.2.2.1 b hb]
      have enext : vvN A (2 ^ nb) e (e - (p + 1)) (ahN A (2 ^ nb) e (p + 1)) = vvN A (2 ^ nb) e (e - 1 - p) (freN (mpN A (2 ^ nb) e p)) := by
        rw [ah_s, show e - (p + 1) = e - 1 - p by omega]
      rw [enext] at ih
      have wr : ∀ (U : St) (i : Nat) (v : Int32) (j : Nat), s2 U 14 i v 14 j = if j = i then v else U 14 j := fun U i v j => by rw [s2_hit, upd_get]
      by_cases q : fo b = 0
      · rw [iEqT q]
        refine ih _ (fun k hk => by rw [s2_row _ _ _ _ hk]; exact hT k hk) (fun q1 hq1 => ?_) (fun z => by omega) (fun b' hb' q1 hq1 => ?_)
        · rw [wr]
          by_cases e1 : q1 = p
          · rw [e1, if_pos rfl]
          · rw [if_neg (by omega)]; exact g1 q1 (by omega)
        · rw [wr, if_neg (by omega)]; exact g3 b' hb' q1 hq1
      · have hf1 : fo b = 1 := by omega
        have he2 : e = (pl + 1) / 2 := by rw [he]; unfold enN; rw [if_pos hf1]
        rw [iEqF q (by omega) (by omega), s2_row _ _ _ _ (show 0 ≠ 14 by decide), M1.2, M.1.2, nI_add, pk_sub (by omega), pk_sub (by omega), ckI (by omega) (by omega), clI (by omega)]
        refine ih _ (fun k hk => by rw [s2_row _ _ _ _ hk, s2_row _ _ _ _ hk]; exact hT k hk) (fun q1 hq1 => ?_) (fun _ q1 hq1 => ?_) (fun b' hb' q1 hq1 => ?_)
        · rw [wr, wr]
          by_cases e1 : q1 = p
          · rw [e1]
            by_cases e3 : 24 * b + p = 24 * b + pl - 1 - p
            · rw [if_pos e3]
            · rw [if_neg e3, if_pos rfl]
          · rw [if_neg (by omega), if_neg (by omega)]; exact g1 q1 (by omega)
        · rw [wr, wr]
          by_cases e1 : q1 = p
          · rw [e1, if_pos (by omega)]
          · rw [if_neg (by omega), if_neg (by omega)]; exact g2 hf1 q1 (by omega)
        · rw [wr, wr, if_neg (by omega), if_neg (by omega)]; exact g3 b' hb' q1 hq1
    · have hno := m5 m hm1
      have hne : ¬ rvN A (2 ^ nb) e p m + stN (freN m) (ahN A (2 ^ nb) e p) = vvN A (2 ^ nb) e (e - p) (ahN A (2 ^ nb) e p) := fun z => by
        unfold rvN at z
        cases qa : A p m
        · rw [qa, if_neg (by decide)] at z
          omega
        · rw [qa, if_pos rfl] at z
          have := okM_iff.mpr (show m < 2 ^ nb ∧ A p m = true ∧ stN (freN m) (ahN A (2 ^ nb) e p) + vvN A (2 ^ nb) e (e - 1 - p) (freN m) = vvN A (2 ^ nb) e (e - p) (ahN A (2 ^ nb) e p) from ⟨by omega, qa, by omega⟩)
          rw [hno] at this
          cases this
      have b2 := rv_le (A := A) (e := e) (2 ^ nb) p m
      have b3 := st_le (freN m) (ahN A (2 ^ nb) e p)
      unfold bX9_find_385
      simp only [li]
      rw [pk_mul, nI_add, ckI (by omega) (by omega), clI (by omega), newlyM (by omega), cl_some, newlyM ha, cl_some, stM hnb (by omega) ha, cl_some, hT15 _ (by omega), am_fre h16, nI_add, iEqF hne (by omega) (by omega)]
      simp only [ltE, nI_add]
      exact ih2
end
