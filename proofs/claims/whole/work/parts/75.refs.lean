/-! pure rows: the small methods of the reference's search, and of the class's -/
def beN (ta : Nat → Nat) (row m : Nat) : Nat → Nat
  | 0 => 0
  | k + 1 => if m.testBit k then beN ta row m k else ta (4 * beN ta row m k + dyN row k - 1)
theorem be_s (ta : Nat → Nat) (row m k : Nat) : beN ta row m (k + 1) = if m.testBit k then beN ta row m k else ta (4 * beN ta row m k + dyN row k - 1) := rfl
theorem be_lt {ta : Nat → Nat} (hta : ∀ i, ta i < 16) (row m : Nat) : ∀ k, beN ta row m k < 16
  | 0 => by show 0 < 16; decide
  | k + 1 => by
    rw [be_s]
    split
    · exact be_lt hta row m k
    · exact hta _
theorem becomesM {T : St} {ta : Nat → Nat} (h3 : rA 64 ta (T 3)) (hta : ∀ i, ta i < 16) {row m : Nat} (hr : okR row) (hm : m < 16) : uX9_becomes (nI row) (nI m) T = some (nI (beN ta row m (btN row)), T) := by
  have hbt := btN_le row
  have hr1 := hr.1
  unfold uX9_becomes lX9_becomes_5
  simp only [ltE, li]
  refine lpF (β := K4) (btN row) (by omega) (fun k kk => kk (nI row) (nI m) (nI (beN ta row m k)) (nI k) T = some (nI (beN ta row m (btN row)), T)) (fun kk => ?_) (fun k kk hk ih => ?_)
  · unfold bX9_becomes_5
    rw [bathsM hr, cl_some, iLeT (Nat.le_refl _) (by omega)]
  · unfold bX9_becomes_5 bX9_becomes_44
    have d1 := btN_nz hk
    have d2 := hr.2.2 k hk
    have hb := be_lt hta row m k
    simp only [li]
    rw [bathsM hr, cl_some, iLeF (by omega) (by omega), dyM (by omega) (by omega), shrb (by omega) (by omega), pk_mul, nI_add, pk_sub (by omega), ckI (by omega) (by omega), clI (by omega), h3 _ (by omega)]
    simp only [ltE, nI_add]
    rw [be_s] at ih
    cases q : m.testBit k
    · rw [bN00 q, jf00]
      rw [q, if_neg (by decide)] at ih
      exact ih
    · rw [bN1 q, jf10]
      rw [q, if_pos rfl] at ih
      exact ih
def wtF (hm : Nat → Nat) (wa : Nat → Nat → Nat) (b p c : Nat) : Nat → Nat
  | 0 => 1
  | t + 1 => if wtF hm wa b p c t = 1 ∧ (hm t = b → wa t p = c) then 1 else 0
theorem wt_s (hm : Nat → Nat) (wa : Nat → Nat → Nat) (b p c t : Nat) : wtF hm wa b p c (t + 1) = if wtF hm wa b p c t = 1 ∧ (hm t = b → wa t p = c) then 1 else 0 := rfl
theorem wt_lt (hm : Nat → Nat) (wa : Nat → Nat → Nat) (b p c n : Nat) : wtF hm wa b p c n < 2 := by
  cases n with
  | zero => show 1 < 2; decide
  | succ n => rw [wt_s]; split <;> decide
theorem wt_1 {hm : Nat → Nat} {wa : Nat → Nat → Nat} {b p c : Nat} : ∀ {n}, wtF hm wa b p c n = 1 ↔ ∀ t, t < n → hm t = b → wa t p = c
  | 0 => ⟨fun _ d hd => by omega, fun _ => rfl⟩
  | n + 1 => by
    rw [wt_s]
    constructor
    · intro h t ht
      by_cases q : wtF hm wa b p c n = 1 ∧ (hm n = b → wa n p = c)
      · by_cases e : t = n
        · rw [e]; exact q.2
        · exact wt_1.mp q.1 t (by omega)
      · rw [if_neg q] at h; omega
    · intro h
      rw [if_pos ⟨wt_1.mpr (fun t ht => h t (by omega)), h n (by omega)⟩]
theorem wantsM {T : St} {th : Nat} {hm : Nat → Nat} {wa : Nat → Nat → Nat} (h1 : T 0 1 = nI th) (h2 : rA 16 hm (T 1)) (h5 : rM 16 wa (T 5)) (hth : th ≤ 16) (hb8 : ∀ t, hm t < 8) (hwa : ∀ t p, wa t p < 16) {b p c : Nat} (hb : b < 8) (hp : p < 24) (hc : c < 16) : uX9_wants (nI b) (nI p) (nI c) T = some (nI (wtF hm wa b p c th), T) := by
  unfold uX9_wants lX9_wants_6
  simp only [ltE, li]
  refine lpF (β := K5) th (by omega) (fun t k => k (nI b) (nI p) (nI c) (nI (wtF hm wa b p c t)) (nI t) T = some (nI (wtF hm wa b p c th), T)) (fun k => ?_) (fun t k ht ih => ?_)
  · unfold bX9_wants_6
    rw [h1, iLeT (Nat.le_refl _) (by omega), rzI (wt_lt _ _ _ _ _ _)]
  · unfold bX9_wants_6 bX9_wants_47 bX9_wants_51 bX9_wants_52
    have w1 := wt_lt hm wa b p c t
    have w2 := hb8 t
    have w3 := hwa t p
    have e1 := h2 t (by omega)
    have e5 := h5 t (by omega) p hp
    simp (disch := omega) only [li, h1, iLeF, ckI, clI, e1, pk_mul, nI_add, e5, ltE]
    rw [wt_s] at ih
    by_cases q : wtF hm wa b p c t = 0
    · rw [iEqT q]
      rw [if_neg (fun z => by omega)] at ih
      exact ih
    · rw [iEqF q (by omega) (by omega)]
      by_cases q2 : hm t = b
      · rw [iEqT q2]
        by_cases q3 : wa t p = c
        · rw [iEqT q3]
          rw [if_pos ⟨by omega, fun _ => q3⟩] at ih
          exact ih
        · rw [iEqF q3 (by omega) (by omega)]
          rw [if_neg (fun z => q3 (z.2 q2))] at ih
          exact ih
      · rw [iEqF q2 (by omega) (by omega)]
        rw [if_pos ⟨by omega, fun z => absurd z q2⟩] at ih
        exact ih
theorem onesM {n : Nat} (hn : n < 16) (T : St) : uX9_ones (nI n) T = some (nI (pcn n 4), T) := by
  unfold uX9_ones lX9_ones_4
  simp only [ltE, li]
  have key := lpF (β := K2) 4 (by decide) (b := fun k4 => bX9_ones_4 k4) (z := fun _ _ _ => none) (fun i k => k (nI (pcn n i)) (nI (n / 2 ^ i)) T = some (nI (pcn n 4), T)) (fun k => by
    unfold bX9_ones_4
    simp only [li]
    rw [show n / 2 ^ 4 = 0 by omega, iLeT (by omega) (by omega)]) (fun i k hi ih => by
    unfold bX9_ones_4
    have hd : n / 2 ^ i < 16 := Nat.lt_of_le_of_lt (Nat.div_le_self _ _) hn
    simp only [li]
    by_cases q : n / 2 ^ i = 0
    · rw [q, iLeT (by omega) (by omega)]
      have : pcn n 4 = pcn n i := by
        unfold pcn
        have h := fb_ct_split (fun j => n.testBit j) i (4 - i)
        rw [show i + (4 - i) = 4 by omega] at h
        have z : fb_ct (fun k => n.testBit (i + k)) (4 - i) = 0 := fb_ct_zero.mpr (fun j _ => by
          show n.testBit (i + j) = false
          rw [Nat.add_comm, ← Nat.testBit_div_two_pow, q, Nat.zero_testBit])
        rw [h, z, Nat.add_zero]
      rw [this]
    · rw [iLeF (Nat.pos_of_ne_zero q) (Nat.lt_trans hd (by decide))]
      simp only [ltE]
      rw [and_1, nI_add, shrI (Nat.lt_trans hd (by decide)) (by decide), Nat.div_div_eq_div_mul, show 2 ^ i * 2 ^ 1 = 2 ^ (i + 1) from rfl]
      have e : pcn n (i + 1) = pcn n i + n / 2 ^ i % 2 := by
        show fb_ct (fun j => n.testBit j) (i + 1) = _
        rw [fb_ct_succ, ← bNd]
        rfl
      rw [e] at ih
      exact ih)
  rw [show pcn n 0 = 0 from rfl, Nat.pow_zero, Nat.div_one] at key
  exact key
theorem newlyM {m : Nat} (hm : m < 16) (T : St) : uX9_newly (nI m) T = some (nI (freN m), T) := by
  unfold uX9_newly
  simp only [li]
  rw [shlI (by decide) (by omega), andn, Nat.pow_one, fre_eq m hm]
theorem freshX {m : Nat} (hm : m < 16) (S : St) : uX5_freshOf (nI m) S = some (nI (freN m), S) := by
  unfold uX5_freshOf
  simp only [li]
  rw [shlI (by decide) (by omega), andn, Nat.pow_one, fre_eq m hm]
theorem fre_le (m : Nat) : freN m ≤ m := Nat.and_le_left
theorem msk {x nb : Nat} (hx : x < 2 ^ nb) : nI x &&& (nI (2 ^ nb) - nI 1) = nI x := by
  have : 0 < 2 ^ nb := two0 nb
  rw [pk_sub (by omega), fa_and, Nat.and_two_pow_sub_one_eq_mod, Nat.mod_eq_of_lt hx]
theorem p16 {nb : Nat} (h : nb ≤ 4) : 2 ^ nb ≤ 16 := Nat.pow_le_pow_right (n := 2) (by decide) h
theorem stM {h m nb : Nat} (hnb : nb ≤ 4) (hh : h < 2 ^ nb) (hm : m < 16) (T : St) : uX9_ones (nI (freN h) &&& (nI (freN m) ^^^ -nI 1) &&& (nI (2 ^ nb) - nI 1)) T = some (nI (stN (freN h) (freN m)), T) := by
  have h16 := p16 hnb
  have f1 := fre_le h
  have f2 := fre_lt m hm
  have hx : freN h ^^^ (freN h &&& freN m) < 2 ^ nb := Nat.xor_lt_two_pow (by omega) (Nat.lt_of_le_of_lt Nat.and_le_left (by omega))
  rw [andn, msk hx, onesM (by omega), st_eq4 _ (by omega) _ f2]
theorem stM0 {m nb : Nat} (hnb : nb ≤ 4) (hm : m < 2 ^ nb) (T : St) : uX9_ones (nI (freN m) &&& (nI (2 ^ nb) - nI 1)) T = some (nI (stN (freN m) 0), T) := by
  have h16 := p16 hnb
  have f1 := fre_le m
  rw [msk (by omega), onesM (by omega), st_eq0 _ (by omega)]
/-- which rows are rows -/
theorem sgn_shr {row p : Nat} (h0 : 2147483648 ≤ row) (h1 : row < 4294967296) (hp : p < 32) : ¬ (nI row >>> (nI p &&& nI 31) = nI 0) := fun q => by
  have h := b_sshr p hp (nI row) (i := 31) (by decide)
  have e : bt (nI row) 31 = true := by
    rw [bt_nI row (by decide), Nat.testBit_eq_decide_div_mod_eq]
    exact decide_eq_true (by omega)
  have e0 : bt (nI 0) 31 = false := by
    rw [bt_nI 0 (by decide), Nat.zero_testBit]
  have e1 : (if p + 31 < 32 then bt (nI row) (p + 31) else bt (nI row) 31) = true := by
    split
    · rw [show p + 31 = 31 by omega]; exact e
    · exact e
  rw [e1, show (31 : Int32) = nI 31 from rfl, q, e0] at h
  exact absurd h (by decide)
theorem bathsX4 (x : Int32) (S : St) : ∃ b, b ≤ 4 ∧ uX8_bathsOf x S = some (nI b, S) := by
  unfold uX8_bathsOf lX8_bathsOf_2
  simp only [ltE, li]
  exact lpF (β := K2) 4 (by decide) (fun i k => ∃ b, b ≤ 4 ∧ k x (nI i) S = some (nI b, S)) (fun k => ⟨4, by decide, by
    unfold bX8_bathsOf_2 bX8_bathsOf_22
    simp only [li]
    rw [iLeT (by omega) (by omega)]⟩) (fun i k hi ih => by
    unfold bX8_bathsOf_2 bX8_bathsOf_22 uX8_dyeOf
    simp only [li]
    rw [iLeF (by omega) (by omega), cl_some]
    split
    · exact ⟨i, by omega, rfl⟩
    · rw [ltE, nI_add]
      exact ih)
theorem i_rowX (x : Int32) : (∃ row, okR row ∧ x = nI row ∧ ∀ S : St, uX8_isRow x S = some (1, S)) ∨ ((∀ S : St, uX8_isRow x S = some (0, S)) ∧ ∀ row, row < 4096 → x = nI row → ¬ okR row) := by
  unfold uX8_isRow
  obtain ⟨row, hrow, rfl⟩ := wb_of32 x
  have hrow : row < 4294967296 := hrow
  rcases Nat.lt_or_ge row 2147483648 with hr | hr
  · have hbt := btN_le row
    have key : ∀ S : St, lX8_isRow_7 FU (nI row) (nI (btN row)) (nI 0) S = some (nI (if (∀ k, k < btN row → dyN row k ≤ 4) ∧ row / 8 ^ btN row = 0 then 1 else 0), S) := fun S => by
      unfold lX8_isRow_7
      refine lpF (β := K3) (btN row) (by omega) (fun i k => (∀ j, j < i → dyN row j ≤ 4) → k (nI row) (nI (btN row)) (nI i) S = some (nI (if (∀ k, k < btN row → dyN row k ≤ 4) ∧ row / 8 ^ btN row = 0 then 1 else 0), S)) (fun k h => ?_) (fun i k hi ih h => ?_) (fun j hj => by omega)
      · unfold bX8_isRow_7 bX8_isRow_48
        simp only [li]
        have hd : row / 8 ^ btN row < 2147483648 := Nat.lt_of_le_of_lt (Nat.div_le_self _ _) hr
        rw [iLeT (Nat.le_refl _) (by omega), pk_mul, shrI (by omega) (by omega), pow8]
        by_cases q : row / 8 ^ btN row = 0
        · rw [iEqT q, rzI (by decide), if_pos ⟨h, q⟩]
        · rw [iEqF q hd (by omega), rzI (by decide), if_neg (fun z => q z.2)]
      · unfold bX8_isRow_7 bX8_isRow_27
        have d1 := btN_nz hi
        have d2 := dyN_lt row i
        simp only [li]
        rw [iLeF (by omega) (by omega), dyeX (by omega) (by omega), cl_some, pk_sub (by omega)]
        simp only [ltE, nI_add]
        rw [iLtF (by omega) (by omega)]
        by_cases q : dyN row i ≤ 4
        · rw [iLtT (by omega) (by omega)]
          refine ih (fun j hj => ?_)
          by_cases q2 : j = i
          · rw [q2]; exact q
          · exact h j (by omega)
        · rw [iLtF (by omega) (by omega), rzI (by decide), if_neg (fun z => q (z.1 i hi))]
    by_cases q : (∀ k, k < btN row → dyN row k ≤ 4) ∧ row / 8 ^ btN row = 0
    · have hsm : row < 4096 := by
        rcases Nat.lt_or_ge row 4096 with q1 | q1
        · exact q1
        · have h5 : 1 ≤ row / 8 ^ 4 := (Nat.le_div_iff_mul_le (by decide)).mpr (by omega)
          have h6 : row / 8 ^ 4 ≤ row / 8 ^ btN row := Nat.div_le_div_left (Nat.pow_le_pow_right (by decide) hbt) (Nat.pow_pos (by decide))
          omega
      refine Or.inl ⟨row, ⟨hsm, q.2, q.1⟩, rfl, fun S => ?_⟩
      have := key S
      rw [if_pos q] at this
      rw [bathsX (by omega), cl_some]
      exact this
    · refine Or.inr ⟨fun S => ?_, fun row' hr' e ok => ?_⟩
      · have := key S
        rw [if_neg q] at this
        rw [bathsX (by omega), cl_some]
        exact this
      · have : row = row' := (nI_eq (by omega) (by omega)).mp e
        subst this
        exact q ⟨ok.2.2, ok.2.1⟩
  · refine Or.inr ⟨fun S => ?_, fun row' hr' e ok => ?_⟩
    · obtain ⟨b, hb, eb⟩ := bathsX4 (nI row) S
      rw [eb, cl_some]
      simp only [ltE, li]
      unfold lX8_isRow_7
      refine lpF (β := K3) b (by omega) (fun i k => k (nI row) (nI b) (nI i) S = some (nI 0, S)) (fun k => ?_) (fun i k hi ih => ?_)
      · unfold bX8_isRow_7 bX8_isRow_48
        simp only [li]
        rw [iLeT (Nat.le_refl _) (by omega), pk_mul, if_neg (sgn_shr hr hrow (by omega)), rzI (by decide)]
      · unfold bX8_isRow_7 bX8_isRow_27 uX8_dyeOf
        simp only [li]
        rw [iLeF (by omega) (by omega), cl_some]
        simp only [ltE, nI_add]
        split
        · rw [rzI (by decide)]
        · split
          · exact ih
          · rw [rzI (by decide)]
    · have := congrArg (fun x : Int32 => x.toBitVec.toNat) e
      simp only [pk_tn (show row < 2 ^ 32 by omega), pk_tn (show row' < 2 ^ 32 by omega)] at this
      omega
theorem i_rowM (x : Int32) (T : St) : (∀ row, okR row → x = nI row → uX9_isRow x T = some (1, T)) ∧ ((∀ row, row < 4096 → x = nI row → ¬ okR row) → uX9_isRow x T = some (0, T)) := by
  obtain ⟨row, hrow, rfl⟩ := wb_of32 x
  have hrow : row < 4294967296 := hrow
  obtain ⟨n, n1, n2, n3⟩ := fb_first (p := fun i => row / 8 ^ i = 0) (n := 12) ⟨11, by decide, by
    show row / 8 ^ 11 = 0
    exact Nat.div_eq_of_lt (by omega)⟩
  unfold uX9_isRow bX9_isRow_15 lX9_isRow_18
  rw [bathsM0 hrow n2 n3 (by omega), cl_some]
  simp only [ltE, li]
  have ex0 : ∀ (k18 : K4) (i : Nat), i ≤ n → bX9_isRow_18 k18 (nI row) (nI n) (nI 0) (nI i) T = some (nI 0, T) := fun k18 i hi => by
    unfold bX9_isRow_18 bX9_isRow_63
    simp only [li]
    by_cases q : n ≤ i
    · rw [iLeT q (by omega), rzI (by decide)]
    · rw [iLeF (by omega) (by omega), if_pos trivial, rzI (by decide)]
  by_cases h4 : 4 < n
  · rw [iLtT h4 (by omega)]
    refine ⟨fun row' ok e => ?_, fun _ => ex0 _ 0 (by omega)⟩
    exfalso
    have hr' := ok.1
    have : row = row' := by
      have := congrArg (fun x : Int32 => x.toBitVec.toNat) e
      simp only [pk_tn (show row < 2 ^ 32 by omega), pk_tn (show row' < 2 ^ 32 by omega)] at this
      exact this
    subst this
    exact n3 4 h4 (Nat.div_eq_of_lt (by omega))
  · rw [iLtF (by omega) (by omega)]
    have hsm : row < 4096 := by
      rcases Nat.lt_or_ge row 4096 with q | q
      · exact q
      · have h5 : 1 ≤ row / 8 ^ 4 := (Nat.le_div_iff_mul_le (by decide)).mpr (by omega)
        have h6 : row / 8 ^ 4 ≤ row / 8 ^ n := Nat.div_le_div_left (Nat.pow_le_pow_right (by decide) (by omega)) (Nat.pow_pos (by decide))
        omega
    have hdig : ∀ i, i < n → ((nI row).toUInt32 >>> ((nI 3 * nI i).toUInt32 &&& Int32.toUInt32 (nI 31))).toInt32 &&& nI 7 = nI (dyN row i) := fun i hi => by
      rw [pk_mul, ushrI hrow (by omega), and_7, pow8]
      rfl
    have key := lpF (β := K4) n (by omega) (b := fun k18 => bX9_isRow_18 k18) (z := fun _ _ _ _ _ => none) (fun i k => k (nI row) (nI n) (nI 0) (nI i) T = some (nI 0, T) ∧ ((∀ j, j < i → 1 ≤ dyN row j ∧ dyN row j ≤ 4) → k (nI row) (nI n) (nI 1) (nI i) T = some (nI (if ∀ j, j < n → 1 ≤ dyN row j ∧ dyN row j ≤ 4 then 1 else 0), T))) (fun k => ⟨ex0 k n (Nat.le_refl _), fun h => by
      unfold bX9_isRow_18 bX9_isRow_63
      rw [iLeT (Nat.le_refl _) (by omega), rzI (by decide), if_pos h]⟩) (fun i k hi ih => ⟨ex0 k i (by omega), fun h => by
      unfold bX9_isRow_18 bX9_isRow_55 bX9_isRow_56
      have d2 := dyN_lt row i
      simp only [li]
      rw [iLeF (by omega) (by omega), jf10, hdig i hi]
      simp only [ltE, nI_add]
      by_cases q1 : dyN row i < 1
      · rw [iLtT q1 (by omega), if_neg (fun z => by have := z i hi; omega)]
        exact ih.1
      · rw [iLtF (by omega) (by omega)]
        by_cases q2 : 4 < dyN row i
        · rw [iLtT q2 (by omega), if_neg (fun z => by have := z i hi; omega)]
          exact ih.1
        · rw [iLtF (by omega) (by omega)]
          refine ih.2 (fun j hj => ?_)
          by_cases q3 : j = i
          · rw [q3]; omega
          · exact h j (by omega)⟩)
    have key := key.2 (fun j hj => by omega)
    have equ : okR row ↔ ∀ j, j < n → 1 ≤ dyN row j ∧ dyN row j ≤ 4 := by
      constructor
      · intro ok j hj
        have hnb : n = btN row := by
          rcases Nat.lt_trichotomy n (btN row) with q | q | q
          · exact absurd n2 (okR_nz ok q)
          · exact q
          · exact absurd ok.2.1 (n3 _ q)
        rw [hnb] at hj
        have := btN_nz hj
        exact ⟨by omega, ok.2.2 j hj⟩
      · intro h
        have hnb : btN row = n := btN_at (by omega) (fun j hj => by have := h j hj; omega) (by
          by_cases q : n = 4
          · exact Or.inl q
          · right
            unfold dyN
            rw [n2])
        exact ⟨hsm, by rw [hnb]; exact n2, fun k hk => (h k (by omega)).2⟩
    refine ⟨fun row' ok e => ?_, fun hno => ?_⟩
    · have hr' := ok.1
      have : row = row' := (nI_eq (by omega) (by omega)).mp e
      subst this
      rw [if_pos (equ.mp ok)] at key
      exact key
    · rw [if_neg (fun z => hno row hsm rfl (equ.mpr z))] at key
      exact key
