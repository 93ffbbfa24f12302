/-! pure rows: the class's bestRow; plan and best agree -/
section
variable {th pl : Nat} {hm fo kn : Nat → Nat} {co : Nat → Nat → Nat} {ta va : Nat → Nat} {wa : Nat → Nat → Nat} {lo hi : Nat → Int32} {la : Nat} {ld lc lr : Nat → Nat} {n3 hp pr pt : Nat} {pb : Nat → Nat → Nat} {S S0 S1 : St} {row : Nat} {ai : Nat → Nat → Nat} {am : Nat} {wy fy : Nat → Nat}
theorem fe_iff (h : aimOk th pl hm fo wa ai am S) (hpl : 1 ≤ pl ∧ pl ≤ 24) (hb8 : ∀ t, hm t < 8) (hfo : ∀ b, fo b < 2) : feN th pl hm fo wa ta row ↔ ∀ c, am.testBit c = true → ∃ m, m < 2 ^ btN row ∧ beN ta row m (btN row) = c := by
  constructor
  · intro hf c hc
    obtain ⟨t, ht, p, hp1, e⟩ := (h.2.2.2.2 c).mp hc
    have hcr : crN th hm (hm t) ≠ 0 := by
      have : 0 < crN th hm (hm t) := fb_ct_pos.mpr ⟨t, ht, by simp⟩
      omega
    have hun := un_lt hfo hp1 (hm t) (fo := fo)
    obtain ⟨m, m1, m2⟩ := due_has hpl.1 (hf _ (hb8 t) hcr) hun
    refine ⟨m, m1, ?_⟩
    have hok := AN_iff.mp m2
    rcases un_cas hfo (b := hm t) hp1 with q | ⟨q1, q2⟩
    · rw [← wt_1.mp hok.1 t ht rfl, q]; exact e
    · rw [← wt_1.mp (hok.2.resolve_left (by omega)) t ht rfl, q2]; exact e
  · intro hall b hb hc
    have hen := en_pos (fo := fo) hpl.1 b
    have hle : dueN th pl hm fo wa ta row b ≤ 4 * enN fo pl b := vv_small (fun w hw => by
      obtain ⟨t0, t1, t2⟩ := fb_ct_pos.mp (show 0 < crN th hm b by omega)
      have t2 : hm t0 = b := by simpa using t2
      obtain ⟨-, -, hch⟩ := h.2.1 b hb hc w hw
      have hok := (hch (ai b w)).mpr rfl
      have ew : wa t0 w = ai b w := wt_1.mp hok.1 t0 t1 t2
      obtain ⟨m, m1, m2⟩ := hall (ai b w) ((h.2.2.2.2 _).mpr ⟨t0, t1, w, by omega, ew⟩)
      exact ⟨m, m1, (A_ai h hb hc hw m).mpr m2⟩) _ _ (Nat.le_refl _)
    omega
theorem su_mono {a b : Nat} (h : a ≤ b) : suN th pl hm fo wa ta row a ≤ suN th pl hm fo wa ta row b := by
  have := fb_sm_mono (fun b => if crN th hm b = 0 then 0 else dueN th pl hm fo wa ta row b) a (b - a)
  rw [show a + (b - a) = b by omega] at this
  exact this
theorem su_far (a : Nat) (ha : a ≤ 8) : suN th pl hm fo wa ta row a ≤ 8000000 := Nat.le_trans (fb_sm_bound (c := 1000000) (fun b _ => by
  show (if crN th hm b = 0 then 0 else dueN th pl hm fo wa ta row b) ≤ 1000000
  split
  · omega
  · exact vv_far _ _)) (by omega)
theorem belowX (h : aimOk th pl hm fo wa ai am S0) (hw : wyOk ta row wy fy S0) (hpl : 1 ≤ pl ∧ pl ≤ 24) (hf : feN th pl hm fo wa ta row) {lim : Nat} (hl : lim ≤ 1000000) : ∃ v S2, uX5_tiesBelow (nI lim) S0 = some (nI v, S2) ∧ v ≤ 8000000 ∧ (∀ k, (k < 23 ∨ 25 < k) → S2 k = S0 k) ∧ ((v < lim ∧ v = suN th pl hm fo wa ta row 8) ∨ (lim ≤ v ∧ lim ≤ suN th pl hm fo wa ta row 8)) := by
  unfold uX5_tiesBelow lX5_tiesBelow_4
  simp only [ltE, li]
  refine lpF (β := K3) 8 (by decide) (fun b k4 => ∀ S, (∀ k, (k < 23 ∨ 25 < k) → S k = S0 k) → ∃ v S2, k4 (nI lim) (nI (suN th pl hm fo wa ta row b)) (nI b) S = some (nI v, S2) ∧ v ≤ 8000000 ∧ (∀ k, (k < 23 ∨ 25 < k) → S2 k = S0 k) ∧ ((v < lim ∧ v = suN th pl hm fo wa ta row 8) ∨ (lim ≤ v ∧ lim ≤ suN th pl hm fo wa ta row 8))) (fun k4 S hS => ?_) (fun b k4 hb ih S hS => ?_) S0 (fun _ _ => rfl)
  · have hs := su_far (th := th) (pl := pl) (hm := hm) (fo := fo) (wa := wa) (ta := ta) (row := row) 8 (by omega)
    unfold bX5_tiesBelow_4 bX5_tiesBelow_29
    simp only [li]
    rw [iLeT (by omega) (by omega)]
    refine ⟨_, S, rfl, hs, hS, ?_⟩
    by_cases q : suN th pl hm fo wa ta row 8 < lim
    · exact Or.inl ⟨q, rfl⟩
    · exact Or.inr ⟨by omega, by omega⟩
  · have hs := su_far (th := th) (pl := pl) (hm := hm) (fo := fo) (wa := wa) (ta := ta) (row := row) b (by omega)
    unfold bX5_tiesBelow_4 bX5_tiesBelow_29
    simp only [li]
    rw [iLeF (by omega) (by omega)]
    by_cases q : lim ≤ suN th pl hm fo wa ta row b
    · rw [iLeT q (by omega)]
      have := su_mono (th := th) (pl := pl) (hm := hm) (fo := fo) (wa := wa) (ta := ta) (row := row) (a := b) (b := 8) (by omega)
      exact ⟨_, S, rfl, hs, hS, Or.inr ⟨q, by omega⟩⟩
    · have aS : aimOk th pl hm fo wa ai am S := aim_cg h (fun k hk => hS k (by omega)) (by rw [hS 5 (by decide)])
      have wS : wyOk ta row wy fy S := ⟨fun c hc => by rw [hS 21 (by decide), hS 22 (by decide)]; exact hw.1 c hc, hw.2⟩
      obtain ⟨S1, t1, t2, -⟩ := tiesB aS wS hpl hf hb
      rw [iLeF (by omega) (by omega), t1, cl_some]
      simp only [ltE, nI_add]
      rw [su_s] at ih
      exact ih S1 (fun k hk => by rw [t2 k hk]; exact hS k hk)
end
theorem fi_s (c : Nat → Nat) (n : Nat) (s : Nat × Nat) (k : Nat) : fiN c n s (k + 1) = stpN c (fiN c n s k) (roN n k n) := rfl
theorem fo_s (c : Nat → Nat) (n : Nat) : foN c (n + 1) = fiN c n (foN c n) (4 ^ n) := rfl
theorem stp_0 {c : Nat → Nat} {s : Nat × Nat} {row : Nat} (h : s.1 = 0) : stpN c s row = s := by
  unfold stpN
  rw [if_neg (by omega)]
theorem fi_0 {c : Nat → Nat} {n : Nat} {s : Nat × Nat} {k : Nat} (h : (fiN c n s k).1 = 0) : ∀ j, fiN c n s (k + j) = fiN c n s k
  | 0 => rfl
  | j + 1 => by
    rw [show k + (j + 1) = (k + j) + 1 by omega, fi_s, fi_0 h j]
    exact stp_0 h
theorem fo_0 {c : Nat → Nat} {n : Nat} (h : (foN c n).1 = 0) : ∀ j, foN c (n + j) = foN c n
  | 0 => rfl
  | j + 1 => by
    have e := fo_0 h j
    rw [show n + (j + 1) = (n + j) + 1 by omega, fo_s, e]
    have := fi_0 (c := c) (n := n + j) (s := foN c n) (k := 0) h (4 ^ (n + j))
    rw [Nat.zero_add] at this
    exact this
def brN (s : Nat × Nat) : Int32 := if s.1 = 1000000 then -nI 1 else nI s.2
section
variable {th pl : Nat} {hm fo kn : Nat → Nat} {co : Nat → Nat → Nat} {ta va : Nat → Nat} {wa : Nat → Nat → Nat} {lo hi : Nat → Int32} {la : Nat} {ld lc lr : Nat → Nat} {n3 hp pr pt : Nat} {pb : Nat → Nat → Nat} {S S0 S1 : St} {row : Nat} {ai : Nat → Nat → Nat} {am : Nat} {wy fy : Nat → Nat}
/-- the best so far is a row, and its ties are its own -/
def okS (th pl : Nat) (hm fo : Nat → Nat) (wa : Nat → Nat → Nat) (ta : Nat → Nat) (s : Nat × Nat) : Prop := s.1 ≤ 1000000 ∧ (s.1 < 1000000 → okR s.2 ∧ feN th pl hm fo wa ta s.2 ∧ cN th pl hm fo wa ta s.2 = s.1)
theorem okS_stp {s : Nat × Nat} (h : okS th pl hm fo wa ta s) (hr : okR row) : okS th pl hm fo wa ta (stpN (cN th pl hm fo wa ta) s row) := by
  unfold stpN
  split
  · rename_i q
    have h1 := h.1
    refine ⟨by show cN th pl hm fo wa ta row ≤ 1000000; omega, fun _ => ⟨hr, ?_, rfl⟩⟩
    refine Classical.byContradiction (fun hno => ?_)
    rw [cN_no hno] at q
    omega
  · exact h
theorem okS_fi {s : Nat × Nat} (h : okS th pl hm fo wa ta s) {n : Nat} (hn : n < 5) : ∀ k, k ≤ 4 ^ n → okS th pl hm fo wa ta (fiN (cN th pl hm fo wa ta) n s k)
  | 0, _ => h
  | k + 1, hk => okS_stp (okS_fi h hn k (by omega)) (ro_ok n hn k (by omega))
theorem okS_fo : ∀ n, n ≤ 5 → okS th pl hm fo wa ta (foN (cN th pl hm fo wa ta) n)
  | 0, _ => ⟨Nat.le_refl _, fun z => absurd z (by show ¬ 1000000 < 1000000; decide)⟩
  | n + 1, hn => okS_fi (okS_fo n (by omega)) (by omega) _ (Nat.le_refl _)
theorem turnX {n k : Nat} (hn : n < 5) (hk : k < 256) (S : St) : uX5_rowOfTurn (nI k) (nI n) S = some (nI (roN n k n), S) := by
  unfold uX5_rowOfTurn lX5_rowOfTurn_4
  simp only [ltE, li]
  refine lpF (β := K4) n (by omega) (fun i kk => kk (nI k) (nI n) (nI (roN n k i)) (nI i) S = some (nI (roN n k n), S)) (fun kk => ?_) (fun i kk hi ih => ?_)
  · unfold bX5_rowOfTurn_4
    rw [iLeT (Nat.le_refl _) (by omega)]
  · unfold bX5_rowOfTurn_4
    simp only [li, ltE]
    rw [iLeF (by omega) (by omega), roI hn hk hi, nI_add]
    rw [ro_s] at ih
    exact ih
def BsI (th pl : Nat) (hm fo : Nat → Nat) (wa ai : Nat → Nat → Nat) (am : Nat) (S0 S : St) : Prop := (∀ k, k ≠ 5 → (k < 20 ∨ 22 < k) → (k < 23 ∨ 25 < k) → S k = S0 k) ∧ aimOk th pl hm fo wa ai am S
theorem bestX (h : aimOk th pl hm fo wa ai am S0) (h9 : rA 64 ta (S0 9)) (hta : ∀ i, ta i < 16) (hpl : 1 ≤ pl ∧ pl ≤ 24) (hb8 : ∀ t, hm t < 8) (hfo : ∀ b, fo b < 2) {most : Nat} (hmo : most < 5) : ∃ S2, uX5_bestRow (nI most) S0 = some (brN (foN (cN th pl hm fo wa ta) (most + 1)), S2) ∧ BsI th pl hm fo wa ai am S0 S2 := by
  unfold uX5_bestRow lX5_bestRow_9
  simp only [ltE, li]
  refine lpF (β := K4) (most + 1) (by omega) (fun n k9 => ∀ S, BsI th pl hm fo wa ai am S0 S → ∃ S2, k9 (nI most) (brN (foN (cN th pl hm fo wa ta) n)) (nI (foN (cN th pl hm fo wa ta) n).1) (nI n) S = some (brN (foN (cN th pl hm fo wa ta) (most + 1)), S2) ∧ BsI th pl hm fo wa ai am S0 S2) (fun k9 S hS => ?_) (fun n k9 hn ih S hS => ?_) S0 ⟨fun _ _ _ _ => rfl, h⟩
  · unfold bX5_bestRow_9 bX5_bestRow_96
    rw [iLtT (by omega) (by omega)]
    exact ⟨S, rfl, hS⟩
  · have h4 : 4 ^ n ≤ 256 := (show 4 ^ n ≤ 4 ^ 4 from Nat.pow_le_pow_right (by decide) (by omega))
    have hfar := (okS_fo (th := th) (pl := pl) (hm := hm) (fo := fo) (wa := wa) (ta := ta) n (by omega)).1
    unfold bX5_bestRow_9 bX5_bestRow_96 lX5_bestRow_31
    simp only [li]
    rw [iLtF (by omega) (by omega)]
    by_cases z : (foN (cN th pl hm fo wa ta) n).1 = 0
    · rw [iLeT (by omega) (by omega)]
      have e := fo_0 z (most + 1 - n)
      rw [show n + (most + 1 - n) = most + 1 by omega] at e
      rw [e]
      exact ⟨S, rfl, hS⟩
    · rw [iLeF (by omega) (by omega), pk_mul, shl1I (by omega), pow4]
      simp only [ltE]
      refine lpF (β := K6) (4 ^ n) (by omega) (fun k k31 => ∀ S, BsI th pl hm fo wa ai am S0 S → ∃ S2, k31 (nI most) (brN (fiN (cN th pl hm fo wa ta) n (foN (cN th pl hm fo wa ta) n) k)) (nI (fiN (cN th pl hm fo wa ta) n (foN (cN th pl hm fo wa ta) n) k).1) (nI n) (nI (4 ^ n)) (nI k) S = some (brN (foN (cN th pl hm fo wa ta) (most + 1)), S2) ∧ BsI th pl hm fo wa ai am S0 S2) (fun k31 S hS => ?_) (fun k k31 hk ih2 S hS => ?_) S hS
      · unfold bX5_bestRow_31 bX5_bestRow_90
        rw [iLeT (Nat.le_refl _) (by omega)]
        simp only [li, ltE, nI_add]
        exact ih S hS
      · have hok := okS_fi (okS_fo (th := th) (pl := pl) (hm := hm) (fo := fo) (wa := wa) (ta := ta) n (by omega)) (n := n) (by omega) k (by omega)
        have hk1 := hok.1
        have hro := ro_ok n (by omega) k hk
        unfold bX5_bestRow_31 bX5_bestRow_90 bX5_bestRow_84
        simp only [li]
        rw [iLeF (by omega) (by omega)]
        rw [fi_s] at ih2
        by_cases z2 : (fiN (cN th pl hm fo wa ta) n (foN (cN th pl hm fo wa ta) n) k).1 = 0
        · rw [iLeT (by omega) (by omega)]
          simp only [ltE, nI_add]
          have e := fi_0 z2 (4 ^ n - k)
          rw [show k + (4 ^ n - k) = 4 ^ n by omega] at e
          rw [fo_s, e] at ih
          exact ih S hS
        · rw [iLeF (by omega) (by omega), turnX (by omega) (by omega), cl_some]
          obtain ⟨f1, f2⟩ := hS
          obtain ⟨r, S1, wy, fy, e1, e2, e3, e4, e5, e6, e7⟩ := tryX (S0 := S) (ta := ta) (row := roN n k n) (by rw [f1 9 (by decide) (by decide) (by decide)]; exact h9) hta hro f2.2.2.1 f2.2.2.2.1
          have a1 : aimOk th pl hm fo wa ai am S1 := aim_cg f2 (fun q hq => e3 q (by omega) (by omega)) (by rw [e5]; exact f2.2.2.1.symm)
          have g1 : ∀ q, q ≠ 5 → (q < 20 ∨ 22 < q) → (q < 23 ∨ 25 < q) → S1 q = S0 q := fun q h1 h2 h3 => by rw [e3 q h1 h2]; exact f1 q h1 h2 h3
          rw [ltE, e1, cl_some]
          have hfe : feN th pl hm fo wa ta (roN n k n) ↔ r = 1 := by rw [fe_iff f2 hpl hb8 hfo, e7]
          by_cases q : r = 0
          · rw [iEqT q]
            simp only [ltE, nI_add]
            have hno : ¬ feN th pl hm fo wa ta (roN n k n) := fun z => by have := hfe.mp z; omega
            have es : stpN (cN th pl hm fo wa ta) (fiN (cN th pl hm fo wa ta) n (foN (cN th pl hm fo wa ta) n) k) (roN n k n) = fiN (cN th pl hm fo wa ta) n (foN (cN th pl hm fo wa ta) n) k := by
              unfold stpN
              rw [cN_no hno, if_neg (by omega)]
            rw [es] at ih2
            exact ih2 S1 ⟨g1, a1⟩
          · have hf := hfe.mpr (by omega)
            rw [iEqF q (by omega) (by omega)]
            obtain ⟨v, S2, b1, b2, b3, b4⟩ := belowX a1 e6 hpl hf hk1
            have a2 : aimOk th pl hm fo wa ai am S2 := aim_cg a1 (fun q hq => b3 q (by omega)) (by rw [b3 5 (by decide)])
            have g2 : ∀ q, q ≠ 5 → (q < 20 ∨ 22 < q) → (q < 23 ∨ 25 < q) → S2 q = S0 q := fun q h1 h2 h3 => by rw [b3 q h3]; exact g1 q h1 h2 h3
            rw [b1, cl_some]
            simp only [ltE, nI_add]
            have hc := cN_fe hf
            have hsu := su_le hpl hf
            rcases b4 with ⟨c1, c2⟩ | ⟨c1, c2⟩
            · rw [iLeF c1 (by omega)]
              have es : stpN (cN th pl hm fo wa ta) (fiN (cN th pl hm fo wa ta) n (foN (cN th pl hm fo wa ta) n) k) (roN n k n) = (suN th pl hm fo wa ta (roN n k n) 8, roN n k n) := by
                unfold stpN
                rw [hc, if_pos (by omega)]
              rw [es] at ih2
              have eb : brN (suN th pl hm fo wa ta (roN n k n) 8, roN n k n) = nI (roN n k n) := if_neg (by show ¬ suN th pl hm fo wa ta (roN n k n) 8 = 1000000; omega)
              rw [eb] at ih2
              rw [c2]
              exact ih2 S2 ⟨g2, a2⟩
            · rw [iLeT c1 (by omega)]
              have es : stpN (cN th pl hm fo wa ta) (fiN (cN th pl hm fo wa ta) n (foN (cN th pl hm fo wa ta) n) k) (roN n k n) = fiN (cN th pl hm fo wa ta) n (foN (cN th pl hm fo wa ta) n) k := by
                unfold stpN
                rw [hc, if_neg (by omega)]
              rw [es] at ih2
              exact ih2 S2 ⟨g2, a2⟩
theorem no_fe (hpl : 1 ≤ pl ∧ pl ≤ 24) {b w : Nat} (hb : b < 8) (hc : crN th hm b ≠ 0) (hw : w < enN fo pl b) (hn : ∀ c, ¬ wOk th pl hm fo wa b w c) (row : Nat) : ¬ feN th pl hm fo wa ta row := fun hf => by
  obtain ⟨m, -, m2⟩ := due_has hpl.1 (hf b hb hc) hw
  exact hn _ (AN_iff.mp m2)
theorem fi_none {c : Nat → Nat} (hc : ∀ row, c row = 1000000) {s : Nat × Nat} (hs : s.1 = 1000000) (n : Nat) : ∀ k, fiN c n s k = s
  | 0 => rfl
  | k + 1 => by
    rw [fi_s, fi_none hc hs n k]
    unfold stpN
    rw [hc, if_neg (by omega)]
theorem fo_none {c : Nat → Nat} (hc : ∀ row, c row = 1000000) : ∀ n, (foN c n).1 = 1000000
  | 0 => rfl
  | n + 1 => by
    rw [fo_s, fi_none hc (fo_none hc n)]
    exact fo_none hc n
theorem BD.plan (B : BD th pl hm fo kn co ta va wa lo hi la ld lc lr hp pr pt pb) (hr : okR row) (hf : feN th pl hm fo wa ta row) : BD th pl hm fo kn co ta va wa lo hi la ld lc lr 1 row (suN th pl hm fo wa ta row 8) (pbN th pl hm fo wa ta row) := by
  obtain ⟨b1, b2, b3, b4, b5, b6, b7, b8, b9, b10, b11, b12⟩ := B
  have := su_le ⟨b1.2.2.1, b1.2.2.2⟩ hf
  exact ⟨b1, b2, b3, b4, b5, b6, b7, b8, b9, b10, by decide, fun _ => ⟨hr, by omega, pb_lt⟩⟩
end
theorem q_plan {S T : St} (h : Rel S T) (x : Int32) : Agr [(eIA, 1)] (uX8_plan x S) (uX9_plan x T) := by
  unfold uX8_plan uX9_plan bX8_plan_50 bX9_plan_36 uX4_ties
  simp only [lzE, ltE]
  obtain ⟨T1, eT, hz, h⟩ : ∃ T1, T1 = s2 T 0 0 0 ∧ T1 0 0 = 0 ∧ Rel S T1 := ⟨_, rfl, rfl, h⟩
  rw [← eT]
  obtain ⟨th, pl, hm, fo, kn, co, ta, va, wa, lo, hi, la, ld, lc, lr, n3, hp, pr, pt, pb, B, X, M⟩ := id h
  obtain ⟨b1, b2, b3, b4, b5, b6, b7, b8, b9, b10, b11, b12⟩ := id B
  have hpl : 1 ≤ pl ∧ pl ≤ 24 := ⟨b1.2.2.1, b1.2.2.2⟩
  rcases i_rowX x with ⟨row, hr, rfl, e1⟩ | ⟨e1, e2⟩
  · have hr1 := hr.1
    rw [e1 S, cl_some, if10, (i_rowM (nI row) T1).1 row hr rfl, cl_some, rightT' hz, if10]
    obtain ⟨r, T2, t1, t2, t3⟩ := findM M b1.2.1 hpl b2 b3 b6 b8 hr
    rw [t1, cl_some]
    have hz2 : T2 0 0 = 0 := by rw [t2 0 (by decide) (by decide)]; exact hz
    have M2 : MR th pl hm fo kn co ta va wa lo hi la ld lc lr n3 hp pr pt pb T2 := M.fr (fun k hk => t2 k (by omega) (by omega))
    obtain ⟨S2, f1, f2⟩ := aimX X b1.2.1 hpl b2 b3 b8
    have X2 : XR th pl hm fo kn co ta va wa lo hi la ld lc lr n3 hp pr pt pb S2 := X.fr (fun k _ h1 _ h3 h4 => f1 k h1 (by omega) (by omega))
    rcases f2 with ⟨f2, ai, am, ha⟩ | ⟨f2, b, hb, hc, w, hw, hn⟩
    · rw [f2, cl_some]
      simp only [li]
      rw [jf10]
      obtain ⟨r', S3, wy, fy, g1, g2, g3, g4, g5, g6, g7⟩ := tryX (S0 := S2) (ta := ta) X2.2.2.2.2.2.2.1 b6 hr ha.2.2.1 ha.2.2.2.1
      rw [g1, cl_some]
      have hfe : feN th pl hm fo wa ta row ↔ r' = 1 := by rw [fe_iff ha hpl b2 b3, g7]
      have X3 : XR th pl hm fo kn co ta va wa lo hi la ld lc lr n3 hp pr pt pb S3 := X2.fr (fun k _ h1 _ h3 h4 => g3 k h1 (by omega))
      rcases t3 with ⟨hf, rfl, h14⟩ | ⟨hf, rfl⟩
      · have hr' := hfe.mp hf
        have hsu := su_le hpl hf
        subst hr'
        rw [jf10]
        have a3 : aimOk th pl hm fo wa ai am S3 := aim_cg ha (fun q hq => g3 q (by omega) (by omega)) (by rw [g5]; exact ha.2.2.1.symm)
        obtain ⟨S4, k1, k2⟩ := writeX X3 a3 g6 g4 hpl b3 hf
        rw [k1, cl_some, cl_some, eqm1F (by omega)]
        obtain ⟨T3, l1, l2, l3⟩ := keepsM (row := row) M2 hz2 hpl.2 (v := suN th pl hm fo wa ta row 8) h14
        rw [l1, cl_some]
        have X4 := X3.plan k2
        exact agr_ok (r := nI (suN th pl hm fo wa ta row 8)) (by rw [k2.2.2.2.1]) rfl l3 (Rel.mk (B.plan hr hf) X4 l2)
      · have hr0 : r' = 0 := by
          have : ¬ r' = 1 := fun z => hf (hfe.mpr z)
          omega
        subst hr0
        rw [jf00, eqm1T]
        exact agr_ok rfl rfl hz2 (Rel.mk B X3 M2)
    · rw [f2, cl_some]
      simp only [li]
      rw [if_pos (c := True) trivial]
      rcases t3 with ⟨hf, -, -⟩ | ⟨hf, rfl⟩
      · exact absurd hf (no_fe hpl hb hc hw hn row)
      · rw [eqm1T]
        exact agr_ok rfl rfl hz2 (Rel.mk B X2 M2)
  · rw [e1 S, cl_some, if00, (i_rowM x T1).2 e2, cl_some, rightF' hz (by decide), if00]
    exact agx h rfl rfl (by simp)
theorem q_best {S T : St} (h : Rel S T) (x : Int32) : Agr [(eIA, 1)] (uX8_best x S) (uX9_best x T) := by
  unfold uX8_best uX9_best bX8_best_9 bX8_best_72 bX9_best_19 bX9_best_20 uX4_ties
  simp only [lzE, ltE]
  obtain ⟨T1, eT, hz, h⟩ : ∃ T1, T1 = s2 T 0 0 0 ∧ T1 0 0 = 0 ∧ Rel S T1 := ⟨_, rfl, rfl, h⟩
  rw [← eT]
  obtain ⟨th, pl, hm, fo, kn, co, ta, va, wa, lo, hi, la, ld, lc, lr, n3, hp, pr, pt, pb, B, X, M⟩ := id h
  obtain ⟨b1, b2, b3, b4, b5, b6, b7, b8, b9, b10, b11, b12⟩ := id B
  have hpl : 1 ≤ pl ∧ pl ≤ 24 := ⟨b1.2.2.1, b1.2.2.2⟩
  rcases n9 (x := x) (c := 4) 4 (by omega) rfl with h0 | ⟨h0, h1, h2⟩ | ⟨most, hmo, rfl, h0, h1, h2⟩
  · rw [if_pos h0, if_pos h0, rightF' hz (by decide), if00]
    exact agx h rfl rfl (by simp)
  · rw [if_neg h0, if_neg h2, if_neg h0, if_pos h1, rightF' hz (by decide), if00]
    exact agx h rfl rfl (by simp)
  · rw [if_neg h0, if_pos h2, if_neg h0, if_neg h1, rightT' hz, if10]
    obtain ⟨T2, t1, t2, t3⟩ := bestM M hz b1.2.1 hpl b2 b3 b6 b8 (most := most) (by omega)
    have t1' : lX9_best_33 FU (nI most) (-1) 0 T1 = some (bvN (foN (cN th pl hm fo wa ta) (most + 1)), T2) := t1
    rw [t1']
    obtain ⟨S2, f1, f2⟩ := aimX X b1.2.1 hpl b2 b3 b8
    have X2 : XR th pl hm fo kn co ta va wa lo hi la ld lc lr n3 hp pr pt pb S2 := X.fr (fun k _ h1 _ h3 h4 => f1 k h1 (by omega) (by omega))
    have hokS := okS_fo (th := th) (pl := pl) (hm := hm) (fo := fo) (wa := wa) (ta := ta) (most + 1) (by omega)
    rcases f2 with ⟨f2, ai, am, ha⟩ | ⟨f2, b, hb, hc, w, hw, hn⟩
    · rw [f2, cl_some]
      simp only [li]
      rw [jf10]
      obtain ⟨S3, g1, g2, g3⟩ := bestX ha X2.2.2.2.2.2.2.1 b6 hpl b2 b3 (most := most) (by omega)
      rw [g1, cl_some]
      have X3 : XR th pl hm fo kn co ta va wa lo hi la ld lc lr n3 hp pr pt pb S3 := X2.fr (fun k _ h1 _ h3 h4 => g2 k h1 (by omega) (by omega))
      rcases t3 with ⟨s1, M2⟩ | ⟨s1, s2', s3, s4, M2⟩
      · have e1 : brN (foN (cN th pl hm fo wa ta) (most + 1)) = -nI 1 := if_pos s1
        have e2 : bvN (foN (cN th pl hm fo wa ta) (most + 1)) = -nI 1 := if_pos s1
        rw [e1, e2, eqm1T]
        exact agr_ok rfl rfl t2 (Rel.mk B X3 M2)
      · generalize foN (cN th pl hm fo wa ta) (most + 1) = s at *
        obtain ⟨v, row⟩ := s
        have s1 : v < 1000000 := s1
        have hr : okR row := s2'
        have hf : feN th pl hm fo wa ta row := s3
        have s4 : cN th pl hm fo wa ta row = v := s4
        have hv : v = suN th pl hm fo wa ta row 8 := by rw [← s4, cN_fe hf]
        have hr1 := hr.1
        have e1 : brN (v, row) = nI row := if_neg (by show ¬ v = 1000000; omega)
        have e2 : bvN (v, row) = nI v := if_neg (by show ¬ v = 1000000; omega)
        rw [e1, e2, eqm1F (by omega)]
        obtain ⟨r', S4, wy, fy, k1, k2, k3, k4, k5, k6, k7⟩ := tryX (S0 := S3) (ta := ta) X3.2.2.2.2.2.2.1 b6 hr g3.2.2.1 g3.2.2.2.1
        have hr' : r' = 1 := k7.mpr ((fe_iff g3 hpl b2 b3).mp hf)
        subst hr'
        rw [k1, cl_some, jf10]
        have X4 : XR th pl hm fo kn co ta va wa lo hi la ld lc lr n3 hp pr pt pb S4 := X3.fr (fun k _ h1 _ h3 h4 => k3 k h1 (by omega))
        have a4 : aimOk th pl hm fo wa ai am S4 := aim_cg g3 (fun q hq => k3 q (by omega) (by omega)) (by rw [k5]; exact g3.2.2.1.symm)
        obtain ⟨S5, l1, l2⟩ := writeX X4 a4 k6 k4 hpl b3 hf
        rw [l1, cl_some, cl_some]
        have M2 : MR th pl hm fo kn co ta va wa lo hi la ld lc lr n3 1 row v (pbN th pl hm fo wa ta row) T2 := M2
        subst hv
        exact agr_ok (r := nI (suN th pl hm fo wa ta row 8)) (by rw [l2.2.2.2.1]) rfl t2 (Rel.mk (B.plan hr hf) (X4.plan l2) M2)
    · rw [f2, cl_some]
      simp only [li]
      rw [if_pos (c := True) trivial]
      have s1 : (foN (cN th pl hm fo wa ta) (most + 1)).1 = 1000000 := fo_none (fun row => cN_no (no_fe (ta := ta) hpl hb hc hw hn row)) (most + 1)
      rcases t3 with ⟨-, M2⟩ | ⟨s1', -⟩
      · have e2 : bvN (foN (cN th pl hm fo wa ta) (most + 1)) = -nI 1 := if_pos s1
        rw [e2]
        exact agr_ok rfl rfl t2 (Rel.mk B X2 M2)
      · omega
