/-! pure rows: rank -/
def bsN (ld lc : Nat → Nat) (day c : Nat) : Nat → Nat
  | 0 => 0
  | k + 1 => if lc k = c ∧ ld k ≤ day ∧ (bsN ld lc day c k = 0 ∨ ld (bsN ld lc day c k - 1) ≤ ld k) then k + 1 else bsN ld lc day c k
theorem bsN_s (ld lc : Nat → Nat) (day c k : Nat) : bsN ld lc day c (k + 1) = if lc k = c ∧ ld k ≤ day ∧ (bsN ld lc day c k = 0 ∨ ld (bsN ld lc day c k - 1) ≤ ld k) then k + 1 else bsN ld lc day c k := rfl
theorem bsN_le (ld lc : Nat → Nat) (day c : Nat) : ∀ k, bsN ld lc day c k ≤ k
  | 0 => Nat.le_refl 0
  | k + 1 => by
    have := bsN_le ld lc day c k
    rw [bsN_s]
    split <;> omega
def rnN (lr : Nat → Nat) (b : Nat) : Nat := if b = 0 then 0 else lr (b - 1)
section
variable {th pl : Nat} {hm fo kn : Nat → Nat} {co : Nat → Nat → Nat} {ta va : Nat → Nat} {wa : Nat → Nat → Nat} {lo hi : Nat → Int32} {la : Nat} {ld lc lr : Nat → Nat} {n3 hp pr pt : Nat} {pb : Nat → Nat → Nat} {S S' T T' : St}
theorem ltm1 (a : Nat) (h : a < 2147483648) : ¬ nI a < -nI 1 := by
  rw [fa_lt, nI_toInt (by omega), show (-nI 1).toInt = -1 by decide +kernel]
  omega
theorem forceX (h : S 8 3 = nI la ∧ rA la ld (S 28) ∧ rA la lc (S 29) ∧ rA la lr (S 30)) (hla : la ≤ 60) (hld : ∀ i, ld i ≤ 9999) (hlc : ∀ i, lc i < 16) {day c : Nat} (hd : day ≤ 9999) (hc : c < 16) : uX1_inForce (nI day) (nI c) S = some (nI (rnN lr (bsN ld lc day c la)), S) := by
  unfold uX1_inForce lX1_inForce_8
  simp only [ltE, li]
  refine lpF (β := K5) la (by omega) (fun i k => k (nI day) (nI c) (if bsN ld lc day c i = 0 then -nI 1 else nI (ld (bsN ld lc day c i - 1))) (nI (rnN lr (bsN ld lc day c i))) (nI i) S = some (nI (rnN lr (bsN ld lc day c la)), S)) (fun k => ?_) (fun i k hi1 ih => ?_)
  · unfold bX1_inForce_8
    rw [h.1, iLeT (Nat.le_refl _) (by omega)]
  · unfold bX1_inForce_8 bX1_inForce_67
    have e28 := h.2.1 i hi1
    have e29 := h.2.2.1 i hi1
    have e30 := h.2.2.2 i hi1
    have b1 := hld i
    have b2 := hlc i
    have b3 := hld (bsN ld lc day c i - 1)
    simp (disch := omega) only [li, h.1, iLeF, ckI, clI, e28, e29, e30, ltE, nI_add]
    by_cases q1 : lc i = c
    · rw [iEqT q1]
      by_cases q2 : ld i ≤ day
      · rw [iLtF q2 (by omega)]
        by_cases q3 : bsN ld lc day c i = 0
        · rw [if_pos q3, if_neg (ltm1 _ (by omega))]
          have eb : bsN ld lc day c (i + 1) = i + 1 := by rw [bsN_s, if_pos ⟨q1, q2, Or.inl q3⟩]
          rw [eb, if_neg (Nat.succ_ne_zero i)] at ih
          exact ih
        · rw [if_neg q3]
          by_cases q4 : ld (bsN ld lc day c i - 1) ≤ ld i
          · rw [iLtF q4 (by omega)]
            have eb : bsN ld lc day c (i + 1) = i + 1 := by rw [bsN_s, if_pos ⟨q1, q2, Or.inr q4⟩]
            rw [eb, if_neg (Nat.succ_ne_zero i)] at ih
            exact ih
          · rw [iLtT (by omega) (by omega)]
            have eb : bsN ld lc day c (i + 1) = bsN ld lc day c i := by rw [bsN_s, if_neg (fun z => by omega)]
            rw [eb, if_neg q3] at ih
            exact ih
      · rw [iLtT (by omega) (by omega)]
        have eb : bsN ld lc day c (i + 1) = bsN ld lc day c i := by rw [bsN_s, if_neg (fun z => q2 z.2.1)]
        rw [eb] at ih
        exact ih
    · rw [iEqF q1 (by omega) (by omega)]
      have eb : bsN ld lc day c (i + 1) = bsN ld lc day c i := by rw [bsN_s, if_neg (fun z => q1 z.1)]
      rw [eb] at ih
      exact ih
theorem rankM (h : T 0 4 = nI la ∧ rA la ld (T 10) ∧ rA la lc (T 11) ∧ rA la lr (T 12)) (hla : la ≤ 60) (hld : ∀ i, ld i ≤ 9999) (hlc : ∀ i, lc i < 16) {day c : Nat} (hd : day ≤ 9999) (hc : c < 16) : uX9_rankOf (nI c) (nI day) T = some (nI (rnN lr (bsN ld lc day c la)), T) := by
  unfold uX9_rankOf lX9_rankOf_5
  simp only [ltE, li]
  refine lpF (β := K4) la (by omega) (fun i k => k (nI c) (nI day) (if bsN ld lc day c i = 0 then -nI 1 else nI (bsN ld lc day c i - 1)) (nI i) T = some (nI (rnN lr (bsN ld lc day c la)), T)) (fun k => ?_) (fun i k hi1 ih => ?_)
  · unfold bX9_rankOf_5 bX9_rankOf_81 rnN
    have h1 := bsN_le ld lc day c la
    rw [h.1, iLeT (Nat.le_refl _) (by omega)]
    simp only [li]
    by_cases q : bsN ld lc day c la = 0
    · rw [if_pos q, if_pos q, eqm1T]
    · rw [if_neg q, if_neg q, eqm1F (by omega)]
      simp (disch := omega) only [ckI, clI]
      rw [h.2.2.2 _ (by omega)]
  · unfold bX9_rankOf_5 bX9_rankOf_60 bX9_rankOf_57 bX9_rankOf_60
    have h1 := bsN_le ld lc day c i
    have e28 := h.2.1 i hi1
    have e29 := h.2.2.1 i hi1
    have b1 := hld i
    have b2 := hlc i
    have b3 := hld (bsN ld lc day c i - 1)
    simp (disch := omega) only [li, h.1, iLeF, ckI, clI, e28, e29, ltE, nI_add]
    by_cases q1 : lc i = c
    · rw [iEqT q1]
      by_cases q2 : ld i ≤ day
      · rw [iLtF q2 (by omega)]
        by_cases q3 : bsN ld lc day c i = 0
        · rw [if_pos q3, eqm1T]
          have eb : bsN ld lc day c (i + 1) = i + 1 := by rw [bsN_s, if_pos ⟨q1, q2, Or.inl q3⟩]
          rw [eb, if_neg (Nat.succ_ne_zero i)] at ih
          exact ih
        · rw [if_neg q3, eqm1F (by omega)]
          have e5 := h.2.1 (bsN ld lc day c i - 1) (by omega)
          simp (disch := omega) only [ckI, clI, e5]
          by_cases q4 : ld (bsN ld lc day c i - 1) ≤ ld i
          · rw [iLtF q4 (by omega)]
            have eb : bsN ld lc day c (i + 1) = i + 1 := by rw [bsN_s, if_pos ⟨q1, q2, Or.inr q4⟩]
            rw [eb, if_neg (Nat.succ_ne_zero i)] at ih
            exact ih
          · rw [iLtT (by omega) (by omega)]
            have eb : bsN ld lc day c (i + 1) = bsN ld lc day c i := by rw [bsN_s, if_neg (fun z => by omega)]
            rw [eb, if_neg q3] at ih
            exact ih
      · rw [iLtT (by omega) (by omega)]
        have eb : bsN ld lc day c (i + 1) = bsN ld lc day c i := by rw [bsN_s, if_neg (fun z => q2 z.2.1)]
        rw [eb] at ih
        exact ih
    · rw [iEqF q1 (by omega) (by omega)]
      have eb : bsN ld lc day c (i + 1) = bsN ld lc day c i := by rw [bsN_s, if_neg (fun z => q1 z.1)]
      rw [eb] at ih
      exact ih
/-- the colours worn, as bits -/
def cmN (co : Nat → Nat) : Nat → Nat
  | 0 => 0
  | p + 1 => cmN co p ||| 2 ^ co p
def wrN (th pl : Nat) (hm : Nat → Nat) (co : Nat → Nat → Nat) : Nat → Nat
  | 0 => 0
  | b + 1 => wrN th pl hm co b ||| (if crN th hm b = 0 then 0 else cmN (co b) pl)
theorem cmN_bit (co : Nat → Nat) (c : Nat) : ∀ n, (cmN co n).testBit c = true ↔ ∃ q, q < n ∧ co q = c
  | 0 => by
    constructor
    · intro h; rw [show cmN co 0 = 0 from rfl, Nat.zero_testBit] at h; cases h
    · intro ⟨q, h, _⟩; omega
  | n + 1 => by
    rw [show cmN co (n + 1) = cmN co n ||| 2 ^ co n from rfl, Nat.testBit_or, Bool.or_eq_true, cmN_bit co c n, Nat.testBit_two_pow, decide_eq_true_iff]
    constructor
    · rintro (⟨q, h1, h2⟩ | h)
      · exact ⟨q, by omega, h2⟩
      · exact ⟨n, by omega, h⟩
    · intro ⟨q, h1, h2⟩
      by_cases e : q = n
      · exact Or.inr (by rw [← e]; exact h2)
      · exact Or.inl ⟨q, by omega, h2⟩
theorem wrN_bit (th pl : Nat) (hm : Nat → Nat) (co : Nat → Nat → Nat) (c : Nat) : ∀ n, (wrN th pl hm co n).testBit c = true ↔ ∃ b, b < n ∧ crN th hm b ≠ 0 ∧ ∃ q, q < pl ∧ co b q = c
  | 0 => by
    constructor
    · intro h; rw [show wrN th pl hm co 0 = 0 from rfl, Nat.zero_testBit] at h; cases h
    · intro ⟨q, h, _⟩; omega
  | n + 1 => by
    rw [show wrN th pl hm co (n + 1) = wrN th pl hm co n ||| (if crN th hm n = 0 then 0 else cmN (co n) pl) from rfl, Nat.testBit_or, Bool.or_eq_true, wrN_bit th pl hm co c n]
    constructor
    · rintro (⟨b, h1, h2⟩ | h)
      · exact ⟨b, by omega, h2⟩
      · by_cases e : crN th hm n = 0
        · rw [if_pos e, Nat.zero_testBit] at h; cases h
        · rw [if_neg e] at h
          exact ⟨n, by omega, e, (cmN_bit _ _ _).mp h⟩
    · intro ⟨b, h1, h2, h3⟩
      by_cases e : b = n
      · subst e
        exact Or.inr (by rw [if_neg h2]; exact (cmN_bit _ _ _).mpr h3)
      · exact Or.inl ⟨b, by omega, h2, h3⟩
theorem cmN_lt {co : Nat → Nat} (h : ∀ q, co q < 16) : ∀ n, cmN co n < 65536
  | 0 => by show 0 < 65536; decide
  | n + 1 => Nat.or_lt_two_pow (n := 16) (cmN_lt h n) (Nat.pow_lt_pow_right (by decide) (h n))
theorem wrN_lt {th pl : Nat} {hm : Nat → Nat} {co : Nat → Nat → Nat} (h : ∀ b q, co b q < 16) : ∀ n, wrN th pl hm co n < 65536
  | 0 => by show 0 < 65536; decide
  | n + 1 => Nat.or_lt_two_pow (n := 16) (wrN_lt h n) (by
    split
    · decide
    · exact cmN_lt (h n) pl)
theorem wornX (X : XR th pl hm fo kn co ta va wa lo hi la ld lc lr n3 hp pr pt pb S) (hpl : pl ≤ 24) (hth : th ≤ 16) (hco : ∀ b p, co b p < 16) : uX0_coloursWorn S = some (nI (wrN th pl hm co 8), S) := by
  unfold uX0_coloursWorn lX0_coloursWorn_4
  simp only [ltE, li]
  refine lpF (β := K2) 8 (by decide) (fun i k => k (nI (wrN th pl hm co i)) (nI i) S = some (nI (wrN th pl hm co 8), S)) (fun k => ?_) (fun i k hi8 ih => ?_)
  · unfold bX0_coloursWorn_4
    simp only [li]
    rw [iLeT (by omega) (by omega)]
  · unfold bX0_coloursWorn_4 lX0_coloursWorn_12
    simp only [li]
    rw [iLeF (by omega) (by omega)]
    simp only [ltE]
    rw [show wrN th pl hm co (i + 1) = wrN th pl hm co i ||| (if crN th hm i = 0 then 0 else cmN (co i) pl) from rfl] at ih
    have hcr : crN th hm i ≤ 16 := Nat.le_trans (fb_ct_le _ _) hth
    have key := lpF (β := K3) pl (by omega) (b := fun k12 => bX0_coloursWorn_12 k k12) (z := fun _ _ _ _ => none) (fun p k12 => (p = 0 ∨ crN th hm i ≠ 0) → k12 (nI (wrN th pl hm co i ||| cmN (co i) p)) (nI i) (nI p) S = some (nI (wrN th pl hm co 8), S)) (fun k12 h0 => by
      unfold bX0_coloursWorn_12 bX0_coloursWorn_48
      rw [X.1.2, iLeT (Nat.le_refl _) (by omega)]
      simp only [ltE, li, nI_add]
      by_cases e : crN th hm i = 0
      · have e2 : pl = 0 := by omega
        rw [if_pos e] at ih
        subst e2
        exact ih
      · rw [if_neg e] at ih
        exact ih) (fun p k12 hp1 ih2 h0 => by
      unfold bX0_coloursWorn_12 bX0_coloursWorn_48
      have e13 := X.2.2.1 i hi8
      have e31 := X.2.2.2.2.2.1 i hi8 p (by omega)
      have h16 := hco i p
      simp (disch := omega) only [li, X.1.2, iLeF, ckI, cknI, clI, e13, e31, shl1I, fa_or, ltE, nI_add]
      by_cases e : crN th hm i = 0
      · rw [iLeT (by omega) (by omega)]
        rw [if_pos e] at ih
        have e2 : p = 0 := by omega
        subst e2
        exact ih
      · rw [iLeF (by omega) (by omega), Nat.or_assoc]
        exact ih2 (Or.inr e))
    have key := key (Or.inl rfl)
    rw [show cmN (co i) 0 = 0 from rfl, Nat.or_zero] at key
    exact key
/-- greatest of the ranks, as each side finds it -/
def mCN (w : Nat) (f : Nat → Nat) : Nat → Nat
  | 0 => 0
  | c + 1 => if w.testBit c then max (mCN w f c) (f c) else mCN w f c
def mPN (g : Nat → Nat) (v : Nat) : Nat → Nat
  | 0 => v
  | p + 1 => max (mPN g v p) (g p)
def mTN (g : Nat → Nat → Nat) (pl : Nat) : Nat → Nat
  | 0 => 0
  | t + 1 => mPN (g t) (mTN g pl t) pl
theorem mCN_le (w : Nat) (f : Nat → Nat) (z : Nat) : ∀ n, mCN w f n ≤ z ↔ ∀ c, c < n → w.testBit c = true → f c ≤ z
  | 0 => ⟨fun _ c h => by omega, fun _ => Nat.zero_le _⟩
  | n + 1 => by
    rw [show mCN w f (n + 1) = if w.testBit n then max (mCN w f n) (f n) else mCN w f n from rfl]
    by_cases q : w.testBit n = true
    · rw [if_pos q, Nat.max_le, mCN_le w f z n]
      constructor
      · intro ⟨h1, h2⟩ c hc hw
        by_cases e : c = n
        · rw [e]; exact h2
        · exact h1 c (by omega) hw
      · intro h
        exact ⟨fun c hc hw => h c (by omega) hw, h n (by omega) q⟩
    · rw [if_neg q, mCN_le w f z n]
      constructor
      · intro h1 c hc hw
        by_cases e : c = n
        · rw [e] at hw; exact absurd hw q
        · exact h1 c (by omega) hw
      · intro h
        exact fun c hc hw => h c (by omega) hw
theorem mPN_le (g : Nat → Nat) (v z : Nat) : ∀ n, mPN g v n ≤ z ↔ v ≤ z ∧ ∀ p, p < n → g p ≤ z
  | 0 => ⟨fun h => ⟨h, fun c h => by omega⟩, fun h => h.1⟩
  | n + 1 => by
    rw [show mPN g v (n + 1) = max (mPN g v n) (g n) from rfl, Nat.max_le, mPN_le g v z n]
    constructor
    · intro ⟨⟨h0, h1⟩, h2⟩
      refine ⟨h0, fun c hc => ?_⟩
      by_cases e : c = n
      · rw [e]; exact h2
      · exact h1 c (by omega)
    · intro ⟨h0, h⟩
      exact ⟨⟨h0, fun c hc => h c (by omega)⟩, h n (by omega)⟩
theorem mTN_le (g : Nat → Nat → Nat) (pl z : Nat) : ∀ n, mTN g pl n ≤ z ↔ ∀ t, t < n → ∀ p, p < pl → g t p ≤ z
  | 0 => ⟨fun _ c h => by omega, fun _ => Nat.zero_le _⟩
  | n + 1 => by
    rw [show mTN g pl (n + 1) = mPN (g n) (mTN g pl n) pl from rfl, mPN_le, mTN_le g pl z n]
    constructor
    · intro ⟨h1, h2⟩ c hc
      by_cases e : c = n
      · rw [e]; exact h2
      · exact h1 c (by omega)
    · intro h
      exact ⟨fun c hc => h c (by omega), h n (by omega)⟩
theorem rank_eq {f : Nat → Nat} (hb8 : ∀ t, hm t < 8) (hco : ∀ b p, co b p < 16) : mCN (wrN th pl hm co 8) f 16 = mTN (fun t p => f (co (hm t) p)) pl th := by
  apply Nat.le_antisymm
  · rw [mCN_le]
    intro c _ hw
    obtain ⟨b, -, h2, q, h3, h4⟩ := (wrN_bit _ _ _ _ _ _).mp hw
    obtain ⟨t, t1, t2⟩ := fb_ct_pos.mp (show 0 < crN th hm b by omega)
    have e : hm t = b := by simpa using t2
    have := (mTN_le (fun t p => f (co (hm t) p)) pl _ th).mp (Nat.le_refl _) t t1 q h3
    simp only [e, h4] at this
    exact this
  · rw [mTN_le]
    intro t ht p hp1
    refine (mCN_le _ f _ 16).mp (Nat.le_refl _) _ (hco _ _) ((wrN_bit _ _ _ _ _ _).mpr ⟨hm t, hb8 t, ?_, p, hp1, rfl⟩)
    have : 0 < crN th hm (hm t) := fb_ct_pos.mpr ⟨t, ht, by simp⟩
    omega
end
abbrev R4 : Type := Int32 → Int32 → Int32 → Int32 → St → Option RX
theorem q_rank {S T : St} (h : Rel S T) (x : Int32) : Agr [(eIA, 1)] (uX8_rank x S) (uX9_rank x T) := by
  unfold uX8_rank uX9_rank bX9_rank_21 bX9_rank_22
  simp only [lzE, ltE]
  obtain ⟨T1, eT, hz, h⟩ : ∃ T1, T1 = s2 T 0 0 0 ∧ T1 0 0 = 0 ∧ Rel S T1 := ⟨_, rfl, rfl, h⟩
  rw [← eT]
  obtain ⟨th, pl, hm, fo, kn, co, ta, va, wa, lo, hi, la, ld, lc, lr, n3, hp, pr, pt, pb, B, X, M⟩ := id h
  have B1 := B.1
  rcases x_day x with ⟨d, hd, rfl, d1, d2, d3⟩ | ⟨d1, d2⟩
  · rw [d1 S, cl_some, if10, if_neg d2, if_neg d3, rightT' hz, if10, wornX X B1.2.2.2 B1.2.1 B.2.2.2.2.1, cl_some]
    obtain ⟨b1, b2, b3, b4, b5, b6, b7, b8, b9, ⟨b10, b11, b12, b13⟩, b14, b15⟩ := id B
    have hw := wrN_lt (th := th) (pl := pl) (hm := hm) b5 8
    obtain ⟨f, ef⟩ : ∃ f : Nat → Nat, f = fun c => rnN lr (bsN ld lc d c la) := ⟨_, rfl⟩
    have hf : ∀ c, f c ≤ 9 := fun c => by
      rw [ef]
      show rnN lr (bsN ld lc d c la) ≤ 9
      unfold rnN
      split
      · omega
      · exact b13 _
    have fx : ∀ c, c < 16 → uX1_inForce (nI d) (nI c) S = some (nI (f c), S) := fun c hc => by rw [ef]; exact forceX X.2.2.2.2.2.2.2.2.2.2.1 b10 b11 b12 hd hc
    have fm : ∀ c, c < 16 → uX9_rankOf (nI c) (nI d) T1 = some (nI (f c), T1) := fun c hc => by rw [ef]; exact rankM M.2.2.2.2.2.2.2.2.2.1 b10 b11 b12 hd hc
    have r1 : lX8_rank_30 FU (nI d) (nI (wrN th pl hm co 8)) 0 0 S = some (.inr (nI (mCN (wrN th pl hm co 8) f 16)), S) := by
      have hm9 : ∀ c, mCN (wrN th pl hm co 8) f c ≤ 9 := fun c => (mCN_le _ _ _ _).mpr (fun c _ _ => hf c)
      unfold lX8_rank_30
      simp only [li]
      refine lpF (β := R4) 16 (by decide) (fun c k => k (nI d) (nI (wrN th pl hm co 8)) (nI (mCN (wrN th pl hm co 8) f c)) (nI c) S = some (.inr (nI (mCN (wrN th pl hm co 8) f 16)), S)) (fun k => ?_) (fun c k hc ih => ?_)
      · unfold bX8_rank_30
        simp only [li]
        rw [iLeT (by omega) (by omega)]
      · unfold bX8_rank_30 bX8_rank_61
        have h9 := hm9 c
        have h8 := hf c
        simp (disch := omega) only [li, iLeF, shrb, fx, cl_some, ltE, nI_add]
        rw [show mCN (wrN th pl hm co 8) f (c + 1) = if (wrN th pl hm co 8).testBit c then max (mCN (wrN th pl hm co 8) f c) (f c) else mCN (wrN th pl hm co 8) f c from rfl] at ih
        cases e : (wrN th pl hm co 8).testBit c
        · rw [bN00 e, iEqT rfl]
          rw [e, if_neg (by decide)] at ih
          exact ih
        · rw [bN1 e, iEqF (by decide) (by decide) (by decide)]
          rw [e, if_pos rfl] at ih
          by_cases q : mCN (wrN th pl hm co 8) f c < f c
          · rw [iLtT q (by omega)]
            rw [Nat.max_eq_right (by omega)] at ih
            exact ih
          · rw [iLtF (by omega) (by omega)]
            rw [Nat.max_eq_left (by omega)] at ih
            exact ih
    have r2 : lX9_rank_35 FU (nI d) 0 0 T1 = some (nI (mTN (fun t p => f (co (hm t) p)) pl th), T1) := by
      have hm9 : ∀ t, mTN (fun t p => f (co (hm t) p)) pl t ≤ 9 := fun c => (mTN_le _ _ _ _).mpr (fun t _ p _ => hf _)
      have hp9 : ∀ t p, mPN (fun p => f (co (hm t) p)) (mTN (fun t p => f (co (hm t) p)) pl t) p ≤ 9 := fun t p => (mPN_le _ _ _ _).mpr ⟨hm9 t, fun p _ => hf _⟩
      unfold lX9_rank_35
      simp only [li]
      refine lpF (β := K3) th (by omega) (fun t k => k (nI d) (nI (mTN (fun t p => f (co (hm t) p)) pl t)) (nI t) T1 = some (nI (mTN (fun t p => f (co (hm t) p)) pl th), T1)) (fun k => ?_) (fun t k ht ih => ?_)
      · unfold bX9_rank_35
        rw [M.1.1, iLeT (Nat.le_refl _) (by omega)]
      · unfold bX9_rank_35 lX9_rank_46
        rw [M.1.1, iLeF (by omega) (by omega)]
        simp only [li, ltE]
        refine lpF (β := K4) pl (by omega) (fun p k46 => k46 (nI d) (nI (mPN (fun p => f (co (hm t) p)) (mTN (fun t p => f (co (hm t) p)) pl t) p)) (nI t) (nI p) T1 = some (nI (mTN (fun t p => f (co (hm t) p)) pl th), T1)) (fun k46 => ?_) (fun p k46 hp1 ih2 => ?_)
        · unfold bX9_rank_46
          rw [M.1.2, iLeT (Nat.le_refl _) (by omega)]
          simp only [li, ltE, nI_add]
          exact ih
        · unfold bX9_rank_46 bX9_rank_81
          rw [M.1.2, iLeF (by omega) (by omega), colM M.2.1 M.2.2.2.2.1 b2 (by omega) (by omega), cl_some, fm _ (b5 _ _), cl_some]
          simp only [li, ltE, nI_add]
          have h9 := hp9 t p
          have h8 := hf (co (hm t) p)
          rw [show mPN (fun p => f (co (hm t) p)) (mTN (fun t p => f (co (hm t) p)) pl t) (p + 1) = max (mPN (fun p => f (co (hm t) p)) (mTN (fun t p => f (co (hm t) p)) pl t) p) (f (co (hm t) p)) from rfl] at ih2
          by_cases q : f (co (hm t) p) ≤ mPN (fun p => f (co (hm t) p)) (mTN (fun t p => f (co (hm t) p)) pl t) p
          · rw [iLeT q (by omega)]
            rw [Nat.max_eq_left q] at ih2
            exact ih2
          · rw [iLeF (by omega) (by omega)]
            rw [Nat.max_eq_right (by omega)] at ih2
            exact ih2
    rw [r1, r2, rank_eq b2 b5]
    exact agr_ok rfl rfl hz h
  · rw [d1 S, cl_some, if00]
    rcases d2 with d2 | ⟨d2, d3⟩
    · rw [if_pos d2, rightF' hz (by decide), if00]
      exact agx h rfl rfl (by simp)
    · rw [if_neg d2, if_pos d3, rightF' hz (by decide), if00]
      exact agx h rfl rfl (by simp)
