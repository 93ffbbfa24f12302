/-! pure rows: the reference's find, keeps, plan, best -/
def dueN (th pl : Nat) (hm fo : Nat → Nat) (wa : Nat → Nat → Nat) (ta : Nat → Nat) (row b : Nat) : Nat := vvN (AN th pl hm fo wa ta row b) (2 ^ btN row) (enN fo pl b) (enN fo pl b) 0
def suN (th pl : Nat) (hm fo : Nat → Nat) (wa : Nat → Nat → Nat) (ta : Nat → Nat) (row n : Nat) : Nat := fb_sm (fun b => if crN th hm b = 0 then 0 else dueN th pl hm fo wa ta row b) n
def pbN (th pl : Nat) (hm fo : Nat → Nat) (wa : Nat → Nat → Nat) (ta : Nat → Nat) (row b p : Nat) : Nat := (if crN th hm b = 0 then 0 else mpN (AN th pl hm fo wa ta row b) (2 ^ btN row) (enN fo pl b) (unN fo pl b p)) % 16
def feN (th pl : Nat) (hm fo : Nat → Nat) (wa : Nat → Nat → Nat) (ta : Nat → Nat) (row : Nat) : Prop := ∀ b, b < 8 → crN th hm b ≠ 0 → dueN th pl hm fo wa ta row b < 1000000
section
variable {th pl : Nat} {hm fo kn : Nat → Nat} {co : Nat → Nat → Nat} {ta va : Nat → Nat} {wa : Nat → Nat → Nat} {lo hi : Nat → Int32} {la : Nat} {ld lc lr : Nat → Nat} {n3 hp pr pt : Nat} {pb : Nat → Nat → Nat} {T T0 T' : St} {row : Nat}
theorem pb_lt (b p : Nat) : pbN th pl hm fo wa ta row b p < 16 := Nat.mod_lt _ (by decide)
theorem en_pos (hpl : 1 ≤ pl) (b : Nat) : 1 ≤ enN fo pl b ∧ enN fo pl b ≤ pl := by
  unfold enN
  split <;> omega
theorem un_lt (hfo : ∀ b, fo b < 2) {p : Nat} (hp1 : p < pl) (b : Nat) : unN fo pl b p < enN fo pl b := by
  have := hfo b
  unfold unN
  by_cases q : p < enN fo pl b
  · rw [if_pos q]; exact q
  · rw [if_neg q]
    unfold enN at q ⊢
    by_cases q2 : fo b = 1
    · rw [if_pos q2] at q ⊢; omega
    · rw [if_neg q2] at q; omega
theorem pb_eq (hfo : ∀ b, fo b < 2) {b p : Nat} (hc : crN th hm b ≠ 0) (hd : dueN th pl hm fo wa ta row b < 1000000) (hp1 : p < pl) : pbN th pl hm fo wa ta row b p = mpN (AN th pl hm fo wa ta row b) (2 ^ btN row) (enN fo pl b) (unN fo pl b p) := by
  unfold pbN
  rw [if_neg hc]
  exact Nat.mod_eq_of_lt (mp_ok (p16 (btN_le row)) hd (un_lt hfo hp1 b)).2.1
theorem su_s (n : Nat) : suN th pl hm fo wa ta row (n + 1) = suN th pl hm fo wa ta row n + (if crN th hm n = 0 then 0 else dueN th pl hm fo wa ta row n) := rfl
theorem due_le (hpl : 1 ≤ pl) {b : Nat} (hd : dueN th pl hm fo wa ta row b < 1000000) : dueN th pl hm fo wa ta row b ≤ 4 * pl := by
  have he := en_pos (fo := fo) hpl b
  refine Nat.le_trans (vv_small (fun p hp1 => ?_) _ _ (Nat.le_refl _)) (by omega)
  refine Classical.byContradiction (fun hno => ?_)
  have : dueN th pl hm fo wa ta row b = 1000000 := vv_none hp1 (fun m hm1 => by
    cases q : AN th pl hm fo wa ta row b p m
    · rfl
    · exact absurd ⟨m, hm1, q⟩ hno) _ _ (by omega) (Nat.le_refl _)
  omega
theorem su_le (hpl : 1 ≤ pl ∧ pl ≤ 24) (hf : feN th pl hm fo wa ta row) : suN th pl hm fo wa ta row 8 ≤ 768 := Nat.le_trans (fb_sm_bound (c := 96) (fun b hb => by
  show (if crN th hm b = 0 then 0 else dueN th pl hm fo wa ta row b) ≤ 96
  split
  · omega
  · have := due_le hpl.1 (hf b hb (by assumption))
    omega)) (by omega)
def PfN (th pl : Nat) (hm fo : Nat → Nat) (wa : Nat → Nat → Nat) (ta : Nat → Nat) (row : Nat) (T : St) (y : Option (Int32 × St)) : Prop := ∃ r T2, y = some (r, T2) ∧ (∀ k, k ≠ 14 → k ≠ 15 → T2 k = T k) ∧ ((feN th pl hm fo wa ta row ∧ r = nI (suN th pl hm fo wa ta row 8) ∧ ∀ b, b < 8 → ∀ p, p < pl → T2 14 (24 * b + p) = nI (pbN th pl hm fo wa ta row b p)) ∨ (¬ feN th pl hm fo wa ta row ∧ r = -nI 1))
theorem findM (M : MR th pl hm fo kn co ta va wa lo hi la ld lc lr n3 hp pr pt pb T) (hth : th ≤ 16) (hpl : 1 ≤ pl ∧ pl ≤ 24) (hb8 : ∀ t, hm t < 8) (hfo : ∀ b, fo b < 2) (hta : ∀ i, ta i < 16) (hwa : ∀ t p, wa t p < 16) (hr : okR row) : PfN th pl hm fo wa ta row T (uX9_find (nI row) T) := by
  have hnb := btN_le row
  have h16 := p16 hnb
  unfold uX9_find lX9_find_12
  rw [bathsM hr, cl_some]
  simp only [li, ltE]
  rw [shl1I (by omega)]
  refine lpF (β := K4) 192 (by decide) (fun i k12 => ∀ T1 : St, (∀ k, k ≠ 14 → k ≠ 15 → T1 k = T k) → (∀ j, j < i → T1 14 j = nI 0) → PfN th pl hm fo wa ta row T (k12 (nI row) (nI (2 ^ btN row)) (nI 0) (nI i) T1)) (fun k12 T1 hT h14 => ?_) (fun i k12 hi1 ih T1 hT h14 => ?_) T (fun _ _ _ => rfl) (fun j hj => by omega)
  · unfold bX9_find_12 lX9_find_37
    simp only [li]
    rw [iLeT (by omega) (by omega)]
    simp only [ltE]
    refine lpF (β := K4) 8 (by decide) (fun b k37 => ∀ T1 : St, (∀ k, k ≠ 14 → k ≠ 15 → T1 k = T k) → (∀ b', b' < b → ∀ p, p < pl → T1 14 (24 * b' + p) = nI (pbN th pl hm fo wa ta row b' p)) → (∀ b', b ≤ b' → b' < 8 → ∀ p, p < 24 → T1 14 (24 * b' + p) = nI 0) → (∀ b', b' < b → crN th hm b' ≠ 0 → dueN th pl hm fo wa ta row b' < 1000000) → PfN th pl hm fo wa ta row T (k37 (nI row) (nI (2 ^ btN row)) (nI (suN th pl hm fo wa ta row b)) (nI b) T1)) (fun k37 T1 hT g1 g2 g3 => ?_) (fun b k37 hb ih T1 hT g1 g2 g3 => ?_) T1 hT (fun b' hb' => by omega) (fun b' _ hb' p hp1 => h14 _ (by omega)) (fun b' hb' => by omega)
    · unfold bX9_find_37
      simp only [li]
      rw [iLeT (by omega) (by omega)]
      exact ⟨_, T1, rfl, hT, Or.inl ⟨g3, rfl, g1⟩⟩
    · have M1 : MR th pl hm fo kn co ta va wa lo hi la ld lc lr n3 hp pr pt pb T1 := M.fr (fun k hk => hT k (by omega) (by omega))
      unfold bX9_find_37 bX9_find_502 bX9_find_83
      simp only [li]
      rw [iLeF (by omega) (by omega), manyM M1.1.1 M1.2.1 hth hb8 hb, cl_some]
      have hcr : crN th hm b ≤ 16 := Nat.le_trans (fb_ct_le _ _) hth
      have hfb := hfo b
      rw [su_s] at ih
      by_cases q : crN th hm b = 0
      · rw [iEqT q]
        simp only [ltE, nI_add]
        rw [if_pos q, Nat.add_zero] at ih
        refine ih T1 hT (fun b' hb' p hp1 => ?_) (fun b' h1 h2 => g2 b' (by omega) h2) (fun b' hb' hc => ?_)
        · by_cases e1 : b' = b
          · rw [e1, g2 b (Nat.le_refl _) hb p (by omega)]
            unfold pbN
            rw [if_pos q]
          · exact g1 b' (by omega) p hp1
        · by_cases e1 : b' = b
          · rw [e1] at hc; exact absurd q hc
          · exact g3 b' (by omega) hc
      · rw [iEqF q (by omega) (by omega), ckI (by omega) (by omega), clI (by omega), M1.2.2.1 b hb, M1.1.2]
        rw [if_neg q] at ih
        have hen := en_pos (fo := fo) hpl.1 b
        have body : PfN th pl hm fo wa ta row T (lX9_find_91 k37 FU (nI row) (nI (2 ^ btN row)) (nI (suN th pl hm fo wa ta row b)) (nI b) (nI (enN fo pl b)) (nI (enN fo pl b) - nI 1) T1) := by
          refine f91 M1 hth hpl hb8 hfo hta hwa hr rfl hb rfl rfl _ (fun T2 hT2 h15 => ?_)
          have M2 : MR th pl hm fo kn co ta va wa lo hi la ld lc lr n3 hp pr pt pb T2 := M1.fr (fun k hk => hT2 k (by omega))
          rw [f308 hnb (by omega) (by omega) (fun m hm1 => by
            have := h15 0 (by omega) m hm1
            rw [Nat.mul_zero, Nat.zero_add] at this
            exact this)]
          by_cases q2 : vvN (AN th pl hm fo wa ta row b) (2 ^ btN row) (enN fo pl b) (enN fo pl b) 0 < 1000000
          · rw [if_pos q2, nI_add]
            refine f375 M2 hpl hfo hnb hb rfl q2 h15 _ (fun T3 hT3 r1 r2 => ?_)
            refine ih T3 (fun k h1 h2 => by rw [hT3 k h1, hT2 k h2]; exact hT k h1 h2) (fun b' hb' p hp1 => ?_) (fun b' h1 h2 p hp1 => ?_) (fun b' hb' hc => ?_)
            · by_cases e1 : b' = b
              · rw [e1, r1 p hp1, pb_eq hfo q q2 hp1]
              · rw [r2 b' e1 p (by omega), hT2 14 (by decide)]; exact g1 b' (by omega) p hp1
            · rw [r2 b' (by omega) p hp1, hT2 14 (by decide)]; exact g2 b' (by omega) h2 p hp1
            · by_cases e1 : b' = b
              · rw [e1]; exact q2
              · exact g3 b' (by omega) hc
          · rw [if_neg q2]
            exact ⟨_, T2, rfl, fun k h1 h2 => by rw [hT2 k h2]; exact hT k h1 h2, Or.inr ⟨fun hf => q2 (hf b hb q), rfl⟩⟩
        by_cases q3 : fo b = 0
        · rw [iEqT q3]
          have : enN fo pl b = pl := by unfold enN; rw [if_neg (by omega)]
          rw [this] at body
          exact body
        · rw [iEqF q3 (by omega) (by omega), pk_sub (by omega), pk_div (by omega) (by decide) (by decide), nI_add]
          have : enN fo pl b = (pl - 1) / 2 + 1 := by unfold enN; rw [if_pos (by omega)]; omega
          rw [this] at body
          exact body
  · unfold bX9_find_12
    simp (disch := omega) only [li, iLeF, ckI, clI, lzE, ltE, nI_add]
    refine ih _ (fun k h1 h2 => by rw [s2_row _ _ _ _ h1]; exact hT k h1 h2) (fun j hj => ?_)
    rw [s2_hit, upd_get]
    by_cases e1 : j = i
    · rw [if_pos e1]
    · rw [if_neg e1]; exact h14 j (by omega)
theorem keepsM (M : MR th pl hm fo kn co ta va wa lo hi la ld lc lr n3 hp pr pt pb T) (hz : T 0 0 = 0) (hpl : pl ≤ 24) {v : Nat} {pb2 : Nat → Nat → Nat} (h14 : ∀ b, b < 8 → ∀ p, p < pl → T 14 (24 * b + p) = nI (pb2 b p)) : ∃ T2, uX9_keeps (nI row) (nI v) T = some (nI 0, T2) ∧ MR th pl hm fo kn co ta va wa lo hi la ld lc lr n3 1 row v pb2 T2 ∧ T2 0 0 = 0 := by
  unfold uX9_keeps lX9_keeps_17
  simp only [lzE, ltE, li]
  refine lpF (β := K1) 192 (by decide) (fun i k => ∀ T1 : St, (∀ k, k ≠ 13 → T1 k = s2 (s2 (s2 T 0 17 (nI 1)) 0 18 (nI row)) 0 19 (nI v) k) → (∀ j, j < i → T1 13 j = T 14 j) → ∃ T2, k (nI i) T1 = some (nI 0, T2) ∧ MR th pl hm fo kn co ta va wa lo hi la ld lc lr n3 1 row v pb2 T2 ∧ T2 0 0 = 0) (fun k T1 h1 h2 => ?_) (fun i k hi1 ih T1 h1 h2 => ?_) (s2 (s2 (s2 T 0 17 (nI 1)) 0 18 (nI row)) 0 19 (nI v)) (fun _ _ => rfl) (fun j hj => by omega)
  · unfold bX9_keeps_17
    simp only [li]
    rw [iLeT (by omega) (by omega)]
    have r0 := h1 0 (by decide)
    have rk : ∀ k, k ≠ 13 → k ≠ 0 → T1 k = T k := fun k a1 a2 => by rw [h1 k a1, s2_row _ _ _ _ a2, s2_row _ _ _ _ a2, s2_row _ _ _ _ a2]
    obtain ⟨m1, m2, m3, m4, m5, m6, m7, m8, m9, m10, m11, m12, m13⟩ := M
    refine ⟨T1, rfl, ⟨by rw [r0]; exact m1, by rw [rk 1 (by decide) (by decide)]; exact m2, by rw [rk 8 (by decide) (by decide)]; exact m3, by rw [rk 9 (by decide) (by decide)]; exact m4, by rw [rk 2 (by decide) (by decide)]; exact m5, by rw [rk 3 (by decide) (by decide)]; exact m6, by rw [rk 4 (by decide) (by decide)]; exact m7, by rw [rk 5 (by decide) (by decide)]; exact m8, by rw [rk 6 (by decide) (by decide), rk 7 (by decide) (by decide)]; exact m9, by rw [r0, rk 10 (by decide) (by decide), rk 11 (by decide) (by decide), rk 12 (by decide) (by decide)]; exact m10, by rw [r0]; exact m11, by rw [r0]; rfl, fun _ => ⟨by rw [r0]; rfl, by rw [r0]; rfl, fun b hb p hp1 => ?_⟩⟩, by rw [r0]; exact hz⟩
    rw [h2 _ (by omega)]; exact h14 b hb p hp1
  · unfold bX9_keeps_17
    have e14 : T1 14 i = T 14 i := by rw [h1 14 (by decide), s2_row _ _ _ _ (by decide), s2_row _ _ _ _ (by decide), s2_row _ _ _ _ (by decide)]
    simp (disch := omega) only [li, iLeF, ckI, clI, lzE, ltE, nI_add, e14]
    refine ih _ (fun k hk => by rw [s2_row _ _ _ _ hk]; exact h1 k hk) (fun j hj => ?_)
    rw [s2_hit, upd_get]
    by_cases e1 : j = i
    · rw [if_pos e1, e1]
    · rw [if_neg e1]; exact h2 j (by omega)
end
/-- the rows in their order, and the best so far -/
def roN (n k : Nat) : Nat → Nat
  | 0 => 0
  | i + 1 => roN n k i ||| (k / 4 ^ (n - 1 - i) % 4 + 1) * 8 ^ i
theorem ro_s (n k i : Nat) : roN n k (i + 1) = roN n k i ||| (k / 4 ^ (n - 1 - i) % 4 + 1) * 8 ^ i := rfl
theorem ro_ok : ∀ n, n < 5 → ∀ k, k < 4 ^ n → okR (roN n k n) := by
  show ∀ n, n < 5 → ∀ k, k < 4 ^ n → roN n k n < 4096 ∧ roN n k n / 8 ^ (btN (roN n k n)) = 0 ∧ ∀ j, j < btN (roN n k n) → dyN (roN n k n) j ≤ 4
  decide +kernel
theorem pow4 (k : Nat) : 2 ^ (2 * k) = 4 ^ k := by rw [Nat.pow_mul]
theorem roI {n k i : Nat} (hn : n < 5) (hk : k < 256) (hi : i < n) (x : Nat) : nI x ||| ((nI k >>> (nI 2 * (nI n - nI 1 - nI i) &&& nI 31) &&& nI 3) + nI 1) <<< (nI 3 * nI i &&& nI 31) = nI (x ||| (k / 4 ^ (n - 1 - i) % 4 + 1) * 8 ^ i) := by
  have h1 : (k / 4 ^ (n - 1 - i) % 4 + 1) * 2 ^ (3 * i) < 4294967296 := Nat.lt_of_le_of_lt (Nat.mul_le_mul (show _ ≤ 4 by omega) (show 2 ^ (3 * i) ≤ 2 ^ 12 from Nat.pow_le_pow_right (by decide) (by omega))) (by decide)
  rw [pk_sub (by omega), pk_sub (by omega), pk_mul, shrI (by omega) (by omega), pow4, and_3, nI_add, pk_mul, shlI (by omega) h1, fa_or, pow8]
noncomputable def cN (th pl : Nat) (hm fo : Nat → Nat) (wa : Nat → Nat → Nat) (ta : Nat → Nat) (row : Nat) : Nat := @ite Nat (feN th pl hm fo wa ta row) (Classical.propDecidable _) (suN th pl hm fo wa ta row 8) 1000000
def stpN (c : Nat → Nat) (s : Nat × Nat) (row : Nat) : Nat × Nat := if c row < s.1 then (c row, row) else s
def fiN (c : Nat → Nat) (n : Nat) (s : Nat × Nat) : Nat → Nat × Nat
  | 0 => s
  | k + 1 => stpN c (fiN c n s k) (roN n k n)
def foN (c : Nat → Nat) : Nat → Nat × Nat
  | 0 => (1000000, 0)
  | n + 1 => fiN c n (foN c n) (4 ^ n)
def bvN (s : Nat × Nat) : Int32 := if s.1 = 1000000 then -nI 1 else nI s.1
section
variable {th pl : Nat} {hm fo kn : Nat → Nat} {co : Nat → Nat → Nat} {ta va : Nat → Nat} {wa : Nat → Nat → Nat} {lo hi : Nat → Int32} {la : Nat} {ld lc lr : Nat → Nat} {n3 hp pr pt : Nat} {pb : Nat → Nat → Nat} {T T0 T' : St} {row : Nat}
theorem cN_fe (hf : feN th pl hm fo wa ta row) : cN th pl hm fo wa ta row = suN th pl hm fo wa ta row 8 := by
  unfold cN
  exact if_pos hf
theorem cN_no (hf : ¬ feN th pl hm fo wa ta row) : cN th pl hm fo wa ta row = 1000000 := by
  unfold cN
  exact if_neg hf
/-- what is kept after the best so far -/
def stR (th pl : Nat) (hm fo kn : Nat → Nat) (co : Nat → Nat → Nat) (ta va : Nat → Nat) (wa : Nat → Nat → Nat) (lo hi : Nat → Int32) (la : Nat) (ld lc lr : Nat → Nat) (n3 hp pr pt : Nat) (pb : Nat → Nat → Nat) (s : Nat × Nat) (T : St) : Prop := T 0 0 = 0 ∧ ((s.1 = 1000000 ∧ MR th pl hm fo kn co ta va wa lo hi la ld lc lr n3 hp pr pt pb T) ∨ (s.1 < 1000000 ∧ okR s.2 ∧ feN th pl hm fo wa ta s.2 ∧ cN th pl hm fo wa ta s.2 = s.1 ∧ MR th pl hm fo kn co ta va wa lo hi la ld lc lr n3 1 s.2 s.1 (pbN th pl hm fo wa ta s.2) T))
theorem stepM (hth : th ≤ 16) (hpl : 1 ≤ pl ∧ pl ≤ 24) (hb8 : ∀ t, hm t < 8) (hfo : ∀ b, fo b < 2) (hta : ∀ i, ta i < 16) (hwa : ∀ t p, wa t p < 16) (hr : okR row) {s : Nat × Nat} (hs : stR th pl hm fo kn co ta va wa lo hi la ld lc lr n3 hp pr pt pb s T) {k33 : K3} {k48 : K5} (P : Option (Int32 × St) → Prop) (x1 x3 x4 x5 : Int32) (hk : ∀ T2, stR th pl hm fo kn co ta va wa lo hi la ld lc lr n3 hp pr pt pb (stpN (cN th pl hm fo wa ta) s row) T2 → P (k48 x1 (bvN (stpN (cN th pl hm fo wa ta) s row)) x3 x4 (x5 + nI 1) T2)) : P (cl (uX9_find (nI row) T) (fun v1 S2 => lt v1 (fun v3 => if v3 = ((-nI 1)) then bX9_best_137 k33 k48 x1 (bvN s) x3 x4 x5 S2 else if bvN s = ((-nI 1)) then bX9_best_126 k33 k48 x1 x3 x4 x5 (nI row) v3 S2 else if v3 < bvN s then bX9_best_126 k33 k48 x1 x3 x4 x5 (nI row) v3 S2 else bX9_best_137 k33 k48 x1 (bvN s) x3 x4 x5 S2))) := by
  obtain ⟨hz, hs⟩ := hs
  have main : ∀ hp pr pt pb, MR th pl hm fo kn co ta va wa lo hi la ld lc lr n3 hp pr pt pb T → PfN th pl hm fo wa ta row T (uX9_find (nI row) T) := fun hp pr pt pb M => findM M hth hpl hb8 hfo hta hwa hr
  have mfr : ∀ {hp pr pt pb} {T2 : St}, (∀ k, k ≠ 14 → k ≠ 15 → T2 k = T k) → MR th pl hm fo kn co ta va wa lo hi la ld lc lr n3 hp pr pt pb T → MR th pl hm fo kn co ta va wa lo hi la ld lc lr n3 hp pr pt pb T2 := fun h M => M.fr (fun k hk => h k (by omega) (by omega))
  have anyM : ∃ hp pr pt pb, MR th pl hm fo kn co ta va wa lo hi la ld lc lr n3 hp pr pt pb T := by
    rcases hs with h | h
    · exact ⟨_, _, _, _, h.2⟩
    · exact ⟨_, _, _, _, h.2.2.2.2⟩
  obtain ⟨hp0, pr0, pt0, pb0, M0⟩ := anyM
  obtain ⟨r, T2, e1, e2, e3⟩ := main _ _ _ _ M0
  rw [e1, cl_some]
  simp only [ltE]
  have hz2 : T2 0 0 = 0 := by rw [e2 0 (by decide) (by decide)]; exact hz
  rcases e3 with ⟨hf, rfl, h14⟩ | ⟨hf, rfl⟩
  · have hsu := su_le hpl hf
    have hc := cN_fe hf
    rw [eqm1F (by omega)]
    have keep : (cN th pl hm fo wa ta row < s.1) → P (bX9_best_126 k33 k48 x1 x3 x4 x5 (nI row) (nI (suN th pl hm fo wa ta row 8)) T2) := fun hlt => by
      unfold bX9_best_126 bX9_best_137
      obtain ⟨T3, k1, k2, k3⟩ := keepsM (row := row) (mfr e2 M0) hz2 hpl.2 (v := suN th pl hm fo wa ta row 8) h14
      rw [ltE, k1, cl_some]
      simp only [li, ltE]
      have es : stpN (cN th pl hm fo wa ta) s row = (suN th pl hm fo wa ta row 8, row) := by
        unfold stpN
        rw [if_pos hlt, hc]
      rw [es] at hk
      have eb : bvN (suN th pl hm fo wa ta row 8, row) = nI (suN th pl hm fo wa ta row 8) := if_neg (by show ¬ suN th pl hm fo wa ta row 8 = 1000000; omega)
      rw [eb] at hk
      exact hk T3 ⟨k3, Or.inr ⟨by show suN th pl hm fo wa ta row 8 < 1000000; omega, hr, hf, hc, k2⟩⟩
    rcases hs with ⟨s1, M⟩ | ⟨s1, s2', s3, s4, M⟩
    · have eb : bvN s = -nI 1 := if_pos s1
      rw [eb, eqm1T]
      exact keep (by omega)
    · have eb : bvN s = nI s.1 := if_neg (by omega)
      rw [eb, eqm1F (by omega)]
      by_cases q : suN th pl hm fo wa ta row 8 < s.1
      · rw [iLtT q (by omega)]
        exact keep (by omega)
      · rw [iLtF (by omega) (by omega)]
        unfold bX9_best_137
        simp only [li, ltE]
        have es : stpN (cN th pl hm fo wa ta) s row = s := by
          unfold stpN
          rw [if_neg (by omega)]
        rw [es, eb] at hk
        exact hk T2 ⟨hz2, Or.inr ⟨s1, s2', s3, s4, mfr e2 M⟩⟩
  · rw [eqm1T]
    unfold bX9_best_137
    simp only [li, ltE]
    have hc := cN_no hf
    have es : stpN (cN th pl hm fo wa ta) s row = s := by
      unfold stpN
      rw [if_neg (by rcases hs with h | h <;> omega)]
    rw [es] at hk
    refine hk T2 ⟨hz2, ?_⟩
    rcases hs with ⟨s1, M⟩ | ⟨s1, s2', s3, s4, M⟩
    · exact Or.inl ⟨s1, mfr e2 M⟩
    · exact Or.inr ⟨s1, s2', s3, s4, mfr e2 M⟩
theorem bestM (M : MR th pl hm fo kn co ta va wa lo hi la ld lc lr n3 hp pr pt pb T) (hz : T 0 0 = 0) (hth : th ≤ 16) (hpl : 1 ≤ pl ∧ pl ≤ 24) (hb8 : ∀ t, hm t < 8) (hfo : ∀ b, fo b < 2) (hta : ∀ i, ta i < 16) (hwa : ∀ t p, wa t p < 16) {most : Nat} (hmo : most < 5) : ∃ T2, lX9_best_33 FU (nI most) (-nI 1) (nI 0) T = some (bvN (foN (cN th pl hm fo wa ta) (most + 1)), T2) ∧ stR th pl hm fo kn co ta va wa lo hi la ld lc lr n3 hp pr pt pb (foN (cN th pl hm fo wa ta) (most + 1)) T2 := by
  unfold lX9_best_33
  refine lpF (β := K3) (most + 1) (by omega) (fun n k33 => ∀ T, stR th pl hm fo kn co ta va wa lo hi la ld lc lr n3 hp pr pt pb (foN (cN th pl hm fo wa ta) n) T → ∃ T2, k33 (nI most) (bvN (foN (cN th pl hm fo wa ta) n)) (nI n) T = some (bvN (foN (cN th pl hm fo wa ta) (most + 1)), T2) ∧ stR th pl hm fo kn co ta va wa lo hi la ld lc lr n3 hp pr pt pb (foN (cN th pl hm fo wa ta) (most + 1)) T2) (fun k33 T hT => ?_) (fun n k33 hn ih T hT => ?_) T ⟨hz, Or.inl ⟨rfl, M⟩⟩
  · unfold bX9_best_33
    rw [iLtT (by omega) (by omega)]
    exact ⟨T, rfl, hT⟩
  · have h4 : 4 ^ n ≤ 256 := (show 4 ^ n ≤ 4 ^ 4 from Nat.pow_le_pow_right (by decide) (by omega))
    unfold bX9_best_33 lX9_best_48
    simp only [li]
    rw [iLtF (by omega) (by omega), pk_mul, shl1I (by omega), pow4]
    simp only [ltE]
    refine lpF (β := K5) (4 ^ n) (by omega) (fun k k48 => ∀ T, stR th pl hm fo kn co ta va wa lo hi la ld lc lr n3 hp pr pt pb (fiN (cN th pl hm fo wa ta) n (foN (cN th pl hm fo wa ta) n) k) T → ∃ T2, k48 (nI most) (bvN (fiN (cN th pl hm fo wa ta) n (foN (cN th pl hm fo wa ta) n) k)) (nI n) (nI (4 ^ n)) (nI k) T = some (bvN (foN (cN th pl hm fo wa ta) (most + 1)), T2) ∧ stR th pl hm fo kn co ta va wa lo hi la ld lc lr n3 hp pr pt pb (foN (cN th pl hm fo wa ta) (most + 1)) T2) (fun k48 T hT => ?_) (fun k k48 hk ih2 T hT => ?_) T hT
    · unfold bX9_best_48
      rw [iLeT (Nat.le_refl _) (by omega)]
      simp only [li, ltE, nI_add]
      exact ih T hT
    · unfold bX9_best_48 lX9_best_61
      rw [iLeF (by omega) (by omega)]
      simp only [li, ltE]
      refine lpF (β := K7) n (by omega) (fun i k61 => ∃ T2, k61 (nI most) (bvN (fiN (cN th pl hm fo wa ta) n (foN (cN th pl hm fo wa ta) n) k)) (nI n) (nI (4 ^ n)) (nI k) (nI (roN n k i)) (nI i) T = some (bvN (foN (cN th pl hm fo wa ta) (most + 1)), T2) ∧ stR th pl hm fo kn co ta va wa lo hi la ld lc lr n3 hp pr pt pb (foN (cN th pl hm fo wa ta) (most + 1)) T2) (fun k61 => ?_) (fun i k61 hi1 ih3 => ?_)
      · unfold bX9_best_61
        simp only [li]
        rw [iLeT (Nat.le_refl _) (by omega)]
        refine stepM hth hpl hb8 hfo hta hwa (ro_ok n (by omega) k hk) hT (fun y => ∃ T2, y = some (bvN (foN (cN th pl hm fo wa ta) (most + 1)), T2) ∧ stR th pl hm fo kn co ta va wa lo hi la ld lc lr n3 hp pr pt pb (foN (cN th pl hm fo wa ta) (most + 1)) T2) (nI most) (nI n) (nI (4 ^ n)) (nI k) (fun T2 hT2 => ?_)
        rw [nI_add]
        exact ih2 T2 hT2
      · unfold bX9_best_61
        simp only [li]
        rw [iLeF (by omega) (by omega), roI (by omega) (by omega) hi1]
        simp only [ltE, nI_add]
        rw [ro_s] at ih3
        exact ih3
end
