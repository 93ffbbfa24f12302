/-! pure rows: bath -/
def tkN (th pl : Nat) (hm kk : Nat → Nat) (n : Nat) : Nat := fb_sm (fun b => crN th hm b * (pl - pcn (kk b) 24)) n
theorem tkN_s (th pl : Nat) (hm kk : Nat → Nat) (n : Nat) : tkN th pl hm kk (n + 1) = tkN th pl hm kk n + crN th hm n * (pl - pcn (kk n) 24) := rfl
theorem pcn_pl {k pl : Nat} (hk : k < 2 ^ pl) (hpl : pl ≤ 24) : pcn k 24 = pcn k pl := by
  unfold pcn
  have e : pl + (24 - pl) = 24 := by omega
  have h := fb_ct_split (fun i => k.testBit i) pl (24 - pl)
  have z : fb_ct (fun q => k.testBit (pl + q)) (24 - pl) = 0 := fb_ct_zero.mpr (fun q _ => Nat.testBit_lt_two_pow (Nat.lt_of_lt_of_le hk (Nat.pow_le_pow_right (by decide) (by omega))))
  rw [e, z, Nat.add_zero] at h
  exact h
theorem pcn_le (k pl : Nat) : pcn k pl ≤ pl := fb_ct_le _ _
theorem unb_ct {k pl : Nat} (hk : k < 2 ^ pl) (hpl : pl ≤ 24) : fb_ct (fun q => !k.testBit q) pl = pl - pcn k 24 := by
  have h := fb_ct_not (fun q => k.testBit q) pl
  rw [pcn_pl hk hpl]
  unfold pcn
  omega
theorem takenX {S : St} {pl : Nat} {cr : Nat → Nat} (h1 : S 3 1 = nI pl) (hpl : pl ≤ 24) (h3 : rA 8 cr (S 13)) {b k : Nat} (hb : b < 8) (hk : k < 2 ^ pl) : uX0_takenBy (nI b) (nI k) S = some (nI (cr b * (pl - pcn k 24)), S) := by
  unfold uX0_takenBy
  have e1 := pcn_pl hk hpl
  have e2 := pcn_le k pl
  simp (disch := omega) only [ckI, clI, h3 b hb, h1, bcN (pw24 hk hpl), cl_some]
  rw [pk_sub (by omega), pk_mul]
theorem takesX {S : St} {th pl : Nat} {hm kn : Nat → Nat} (h1 : S 3 1 = nI pl) (hpl : pl ≤ 24) (h3 : rA 8 (crN th hm) (S 13)) (h5 : rA 8 kn (S 15)) (hk : ∀ b, kn b < 2 ^ pl) : uX0_takesUp S = some (nI (tkN th pl hm kn 8), S) := by
  unfold uX0_takesUp lX0_takesUp_4
  simp only [ltE, li]
  refine lpF (β := K2) 8 (by decide) (fun i k => k (nI (tkN th pl hm kn i)) (nI i) S = some (nI (tkN th pl hm kn 8), S)) (fun k => ?_) (fun i k hi ih => ?_)
  · unfold bX0_takesUp_4
    simp only [li]
    rw [iLeT (by omega) (by omega)]
  · unfold bX0_takesUp_4
    simp (disch := omega) only [li, iLeF, ckI, clI, h5 i hi]
    rw [takenX h1 hpl h3 hi (hk i), cl_some]
    simp only [ltE, nI_add]
    rw [tkN_s] at ih
    exact ih
theorem takenM {T : St} {th pl : Nat} {hm kn : Nat → Nat} (h1 : T 0 1 = nI th ∧ T 0 2 = nI pl) (h2 : rA 16 hm (T 1)) (h9 : rM 8 (fun b => bN (kn b)) (T 9)) (hth : th ≤ 16) (hpl : pl ≤ 24) (hb8 : ∀ t, hm t < 8) (hk : ∀ b, kn b < 2 ^ pl) : uX9_taken T = some (nI (tkN th pl hm kn 8), T) := by
  unfold uX9_taken lX9_taken_4
  simp only [ltE, li]
  refine lpF (β := K2) 8 (by decide) (fun i k => k (nI (tkN th pl hm kn i)) (nI i) T = some (nI (tkN th pl hm kn 8), T)) (fun k => ?_) (fun i k hi ih => ?_)
  · unfold bX9_taken_4
    simp only [li]
    rw [iLeT (by omega) (by omega)]
  · unfold bX9_taken_4 lX9_taken_12
    simp only [li]
    rw [iLeF (by omega) (by omega)]
    simp only [ltE]
    have key := lpF pl (by omega) (b := fun k12 => bX9_taken_12 k k12) (z := fun _ _ _ _ => none) (fun p k12 => k12 (nI (tkN th pl hm kn i + crN th hm i * fb_ct (fun q => !(kn i).testBit q) p)) (nI i) (nI p) T = some (nI (tkN th pl hm kn 8), T)) (fun k12 => by
      unfold bX9_taken_12
      rw [h1.2, iLeT (Nat.le_refl _) (by omega), unb_ct (hk i) hpl]
      simp only [li, ltE, nI_add]
      rw [tkN_s] at ih
      exact ih) (fun p k12 hp ih2 => by
      unfold bX9_taken_12 bX9_taken_42
      have e9 : T 9 (24 * i + p) = nI (bN (kn i) p) := h9 i hi p (by omega)
      simp (disch := omega) only [li, h1.2, iLeF, pk_mul, nI_add, ckI, clI, e9, ltE]
      rw [fb_ct_succ] at ih2
      cases e : (kn i).testBit p
      · rw [bN00 e, iEqT rfl, manyM h1.1 h2 hth hb8 hi, cl_some, nI_add]
        rw [e, show (if (!false) = true then 1 else 0) = 1 from rfl, Nat.mul_add, Nat.mul_one, ← Nat.add_assoc] at ih2
        exact ih2
      · rw [bN1 e, iEqF (by decide) (by decide) (by decide)]
        rw [e, show (if (!true) = true then 1 else 0) = 0 from rfl, Nat.add_zero] at ih2
        exact ih2)
    rw [show fb_ct (fun q => !(kn i).testBit q) 0 = 0 from rfl, Nat.mul_zero, Nat.add_zero] at key
    exact key
def dpN (pl d : Nat) (kn : Nat → Nat) (co : Nat → Nat → Nat) (ta : Nat → Nat) (B P : Nat) : Nat → Nat → Nat := fun b p => if (b < B ∨ (b = B ∧ p < P)) ∧ p < pl ∧ (kn b).testBit p = false then ta (4 * co b p + d) else co b p
section
variable {pl d : Nat} {kn : Nat → Nat} {co : Nat → Nat → Nat} {ta : Nat → Nat}
theorem dpN_0 : dpN pl d kn co ta 0 0 = co := by
  funext b p
  unfold dpN
  rw [if_neg (by omega)]
theorem dpN_at (B P : Nat) : dpN pl d kn co ta B P B P = co B P := by
  unfold dpN
  rw [if_neg (by omega)]
theorem dpN_row (B : Nat) : dpN pl d kn co ta B pl = dpN pl d kn co ta (B + 1) 0 := by
  funext b p
  unfold dpN
  by_cases hp : p < pl
  · have : (b < B ∨ b = B ∧ p < pl) ↔ (b < B + 1 ∨ b = B + 1 ∧ p < 0) := by omega
    simp only [this]
  · rw [if_neg (fun q => hp q.2.1), if_neg (fun q => hp q.2.1)]
theorem dpN_s0 {B P : Nat} (h : (kn B).testBit P = true) : dpN pl d kn co ta B P = dpN pl d kn co ta B (P + 1) := by
  funext b p
  unfold dpN
  by_cases e : b = B ∧ p = P
  · obtain ⟨rfl, rfl⟩ := e
    rw [if_neg (by omega), if_neg (fun q => by rw [h] at q; exact absurd q.2.2 (by decide))]
  · have : (b < B ∨ b = B ∧ p < P) ↔ (b < B ∨ b = B ∧ p < P + 1) := by omega
    simp only [this]
theorem dpN_s1 {B P : Nat} (hP : P < pl) (h : (kn B).testBit P = false) : up2 (dpN pl d kn co ta B P) B P (ta (4 * co B P + d)) = dpN pl d kn co ta B (P + 1) := by
  funext b p
  unfold up2
  by_cases e : b = B ∧ p = P
  · obtain ⟨rfl, rfl⟩ := e
    unfold dpN
    rw [if_pos ⟨rfl, rfl⟩, if_pos ⟨by omega, hP, h⟩]
  · rw [if_neg e]
    unfold dpN
    have : (b < B ∨ b = B ∧ p < P) ↔ (b < B ∨ b = B ∧ p < P + 1) := by omega
    simp only [this]
theorem dpN_lt (hco : ∀ b p, co b p < 16) (hta : ∀ i, ta i < 16) (B P : Nat) : ∀ b p, dpN pl d kn co ta B P b p < 16 := fun b p => by
  unfold dpN
  split
  · exact hta _
  · exact hco _ _
end
section
variable {th pl : Nat} {hm fo kn : Nat → Nat} {co : Nat → Nat → Nat} {ta va : Nat → Nat} {wa : Nat → Nat → Nat} {lo hi : Nat → Int32} {la : Nat} {ld lc lr : Nat → Nat} {n3 hp pr pt : Nat} {pb : Nat → Nat → Nat} {S S' T T' : St}
theorem dipX (X : XR th pl hm fo kn co ta va wa lo hi la ld lc lr n3 hp pr pt pb S) {d : Nat} (hd : d < 4) (hpl : pl ≤ 24) (hk : ∀ b, kn b < 2 ^ pl) (hco : ∀ b p, co b p < 16) (hta : ∀ i, ta i < 16) : ∃ S2, uX0_dip (nI d) S = some (nI 0, S2) ∧ XR th pl hm fo kn (dpN pl d kn co ta 8 0) ta va wa lo hi la ld lc lr n3 hp pr pt pb S2 := by
  unfold uX0_dip lX0_dip_2
  simp only [ltE, li]
  refine lpF (β := K2) 8 (by decide) (fun i k => ∀ S, XR th pl hm fo kn (dpN pl d kn co ta i 0) ta va wa lo hi la ld lc lr n3 hp pr pt pb S → ∃ S2, k (nI d) (nI i) S = some (nI 0, S2) ∧ XR th pl hm fo kn (dpN pl d kn co ta 8 0) ta va wa lo hi la ld lc lr n3 hp pr pt pb S2) (fun k S X => ?_) (fun i k hi8 ih S X => ?_) S (by rw [dpN_0]; exact X)
  · unfold bX0_dip_2
    simp only [li]
    rw [iLeT (by omega) (by omega)]
    exact ⟨S, rfl, X⟩
  · unfold bX0_dip_2 lX0_dip_11
    simp only [li]
    rw [iLeF (by omega) (by omega)]
    simp only [ltE]
    refine lpF (β := K3) pl (by omega) (fun p k11 => ∀ S, XR th pl hm fo kn (dpN pl d kn co ta i p) ta va wa lo hi la ld lc lr n3 hp pr pt pb S → ∃ S2, k11 (nI d) (nI i) (nI p) S = some (nI 0, S2) ∧ XR th pl hm fo kn (dpN pl d kn co ta 8 0) ta va wa lo hi la ld lc lr n3 hp pr pt pb S2) (fun k11 S X => ?_) (fun p k11 hp1 ih2 S X => ?_) S X
    · unfold bX0_dip_11
      unfold uX0_isBound
      rw [X.1.2, iLeT (Nat.le_refl _) (by omega)]
      simp only [li, ltE, nI_add]
      exact ih S (by rw [← dpN_row]; exact X)
    · unfold bX0_dip_11 bX0_dip_53
      rw [X.1.2, iLeF (by omega) (by omega), bndX X.2.2.2.2.1 hi8 (by omega) (pw24 (hk i) hpl), cl_some]
      have hcol : S (31 + i) p = nI (co i p) := by
        have := X.2.2.2.2.2.1 i hi8 p (by omega)
        rw [dpN_at] at this
        exact this
      have hc16 := hco i p
      simp (disch := omega) only [li, ckI, cknI, clI, ltE, nI_add]
      rw [hcol, cmX X.2.2.2.2.2.2.1 hc16 hd, cl_some]
      cases e : (kn i).testBit p
      · rw [bN00 e, iEqT rfl]
        simp (disch := omega) only [ckI, cknI, clI, lzE]
        refine ih2 _ ?_
        have := X.coU hi8 p (ta (4 * co i p + d))
        rw [dpN_s1 hp1 e] at this
        exact this
      · rw [bN1 e, iEqF (by decide) (by decide) (by decide)]
        exact ih2 S (by rw [← dpN_s0 e]; exact X)
theorem bathesM (M : MR th pl hm fo kn co ta va wa lo hi la ld lc lr n3 hp pr pt pb T) (hz : T 0 0 = 0) {d : Nat} (hd : d < 4) (hpl : pl ≤ 24) (hco : ∀ b p, co b p < 16) (hta : ∀ i, ta i < 16) : ∃ T2, uX9_bathes (nI d) T = some (nI 0, T2) ∧ MR th pl hm fo kn (dpN pl d kn co ta 8 0) ta va wa lo hi la ld lc lr (n3 + 1) hp pr pt pb T2 ∧ T2 0 0 = 0 := by
  unfold uX9_bathes lX9_bathes_2
  simp only [ltE, li]
  refine lpF (β := K2) 8 (by decide) (fun i k => ∀ T, MR th pl hm fo kn (dpN pl d kn co ta i 0) ta va wa lo hi la ld lc lr n3 hp pr pt pb T → T 0 0 = 0 → ∃ T2, k (nI d) (nI i) T = some (nI 0, T2) ∧ MR th pl hm fo kn (dpN pl d kn co ta 8 0) ta va wa lo hi la ld lc lr (n3 + 1) hp pr pt pb T2 ∧ T2 0 0 = 0) (fun k T M hz => ?_) (fun i k hi8 ih T M hz => ?_) T (by rw [dpN_0]; exact M) hz
  · unfold bX9_bathes_2
    simp only [li]
    rw [iLeT (by omega) (by omega), lzE, M.2.2.2.2.2.2.2.2.2.2.1, nI_add]
    exact ⟨_, rfl, M.n3U (n3 + 1), hz⟩
  · unfold bX9_bathes_2 lX9_bathes_10
    simp only [li]
    rw [iLeF (by omega) (by omega)]
    simp only [ltE]
    refine lpF (β := K3) pl (by omega) (fun p k10 => ∀ T, MR th pl hm fo kn (dpN pl d kn co ta i p) ta va wa lo hi la ld lc lr n3 hp pr pt pb T → T 0 0 = 0 → ∃ T2, k10 (nI d) (nI i) (nI p) T = some (nI 0, T2) ∧ MR th pl hm fo kn (dpN pl d kn co ta 8 0) ta va wa lo hi la ld lc lr (n3 + 1) hp pr pt pb T2 ∧ T2 0 0 = 0) (fun k10 T M hz => ?_) (fun p k10 hp1 ih2 T M hz => ?_) T M hz
    · unfold bX9_bathes_10
      rw [M.1.2, iLeT (Nat.le_refl _) (by omega)]
      simp only [li, ltE, nI_add]
      exact ih T (by rw [← dpN_row]; exact M) hz
    · unfold bX9_bathes_10 bX9_bathes_63
      have hcol : T 2 (24 * i + p) = nI (co i p) := by
        have := M.2.2.2.2.1 i hi8 p (by omega)
        rw [dpN_at] at this
        exact this
      have e9 : T 9 (24 * i + p) = nI (bN (kn i) p) := M.2.2.2.1 i hi8 p (by omega)
      have hc16 := hco i p
      have e3 := M.2.2.2.2.2.1 (4 * co i p + d) (by omega)
      simp (disch := omega) only [li, M.1.2, iLeF, pk_mul, nI_add, ckI, clI, e9, hcol, e3, ltE, lzE]
      cases e : (kn i).testBit p
      · rw [bN00 e, iEqT rfl]
        refine ih2 _ ?_ hz
        have := M.coU i p (ta (4 * co i p + d)) (by omega)
        rw [dpN_s1 hp1 e] at this
        exact this
      · rw [bN1 e, iEqF (by decide) (by decide) (by decide)]
        exact ih2 T (by rw [← dpN_s0 e]; exact M) hz
end
theorem q_bath {S T : St} (h : Rel S T) (x : Int32) : Agr [(eIO, 1)] (uX8_bath x S) (uX9_bath x T) := by
  unfold uX8_bath uX9_bath bX9_bath_19 bX9_bath_20
  simp only [lzE, ltE]
  obtain ⟨T1, eT, hz, h⟩ : ∃ T1, T1 = s2 T 0 0 0 ∧ T1 0 0 = 0 ∧ Rel S T1 := ⟨_, rfl, rfl, h⟩
  rw [← eT]
  obtain ⟨th, pl, hm, fo, kn, co, ta, va, wa, lo, hi, la, ld, lc, lr, n3, hp, pr, pt, pb, B, X, M⟩ := id h
  have B1 := B.1
  rcases x_dye (S := S) x with ⟨d, hd, rfl, d1, d2, d3⟩ | ⟨d1, d2⟩
  · rw [if_neg d2, if_neg d3, rightT' hz, if10, d1, cx_ok, takesX X.1.2 B1.2.2.2 X.2.2.1 X.2.2.2.2.1 B.2.2.2.1, takenM M.1 M.2.1 M.2.2.2.1 B1.2.1 B1.2.2.2 B.2.1 B.2.2.2.1]
    simp only [cl_some]
    unfold uX7_strengthOf uX7_lose
    have xv := X.2.2.2.2.2.2.2.1 d hd
    have mv := M.2.2.2.2.2.2.1 d hd
    have hv := B.2.2.2.2.2.2.1 d
    have hsm : tkN th pl hm kn 8 < 100000 := by
      have : tkN th pl hm kn 8 ≤ 8 * (16 * 24) := fb_sm_bound (fun b _ => Nat.mul_le_mul (Nat.le_trans (fb_ct_le _ _) B1.2.1) (Nat.le_trans (Nat.sub_le _ _) B1.2.2.2))
      omega
    simp (disch := omega) only [ckI, clI, cl_some, lzE, xv, mv]
    by_cases q : tkN th pl hm kn 8 ≤ va d
    · rw [iLeT q (by omega), iLeT q (by omega), pk_sub q]
      obtain ⟨S2, s1, X2⟩ := dipX (X.vaU d (va d - tkN th pl hm kn 8)) hd B1.2.2.2 B.2.2.2.1 B.2.2.2.2.1 B.2.2.2.2.2.1
      obtain ⟨T2, t1, M2, z2⟩ := bathesM (M.vaU d (va d - tkN th pl hm kn 8)) hz hd B1.2.2.2 B.2.2.2.2.1 B.2.2.2.2.2.1
      rw [s1, t1, cl_some, cl_some, X2.2.2.2.2.2.2.2.2.2.2.2.1, nI_1]
      refine agr_ok rfl rfl z2 (Rel.mk ?_ (X2.n3U (n3 + 1)) M2)
      obtain ⟨b1, b2, b3, b4, b5, b6, b7, b8, b9, b10, b11, b12⟩ := B
      exact ⟨b1, b2, b3, b4, dpN_lt b5 b6 8 0, b6, up1_le b7 (by omega), b8, b9, b10, b11, b12⟩
    · rw [iLeF (by omega) (by omega), iLeF (by omega) (by omega)]
      exact agr_ok rfl rfl hz h
  · rw [d1, cx_ex]
    rcases d2 with d2 | ⟨d2, d3⟩
    · rw [if_pos d2, rightF' hz (by decide), if00]
      exact agx h rfl rfl (by simp)
    · rw [if_neg d2, if_pos d3, rightF' hz (by decide), if00]
      exact agx h rfl rfl (by simp)
