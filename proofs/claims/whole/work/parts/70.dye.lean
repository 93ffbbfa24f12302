/-! pure rows: dye -/
def ktN (pb : Nat → Nat → Nat) (b j : Nat) : Nat → Nat
  | 0 => 0
  | p + 1 => ktN pb b j p ||| bN (pb b p) j * 2 ^ p
theorem bN_mul (k j p q : Nat) : (bN k j * 2 ^ p).testBit q = (decide (q = p) && k.testBit j) := by
  cases e : k.testBit j
  · rw [bN00 e, Nat.zero_mul, Nat.zero_testBit]; simp
  · rw [bN1 e, Nat.one_mul, Nat.testBit_two_pow]
    by_cases h : q = p
    · simp [h]
    · simp [h, show ¬ p = q from fun z => h z.symm]
theorem ktN_bit (pb : Nat → Nat → Nat) (b j : Nat) : ∀ n q, (ktN pb b j n).testBit q = (decide (q < n) && (pb b q).testBit j)
  | 0, q => by simp [ktN]
  | n + 1, q => by
    unfold ktN
    rw [Nat.testBit_or, ktN_bit pb b j n q, bN_mul]
    by_cases h : q = n
    · simp [h]
    · by_cases h2 : q < n
      · simp [h, h2, show q < n + 1 by omega]
      · simp [h, h2, show ¬ q < n + 1 by omega]
theorem ktN_lt (pb : Nat → Nat → Nat) (b j n : Nat) : ktN pb b j n < 2 ^ n := Nat.lt_pow_two_of_testBit _ (fun i hi => by
  rw [ktN_bit]
  simp [show ¬ i < n by omega])
section
variable {th pl : Nat} {hm fo kn : Nat → Nat} {co : Nat → Nat → Nat} {ta va : Nat → Nat} {wa : Nat → Nat → Nat} {lo hi : Nat → Int32} {la : Nat} {ld lc lr : Nat → Nat} {n3 hp pr pt : Nat} {pb : Nat → Nat → Nat} {S S' T T' : St}
theorem knotsX (h1 : S 3 1 = nI pl) (hpl : pl ≤ 24) {b j : Nat} (hb : b < 8) (hj : j < 4) (h : rA pl (pb b) (S (64 + b))) (hpb : ∀ b p, pb b p < 16) : uX0_knotsOf (nI b) (nI j) S = some (nI (ktN pb b j pl), S) := by
  unfold uX0_knotsOf lX0_knotsOf_6
  simp only [ltE, li]
  refine lpF (β := K4) pl (by omega) (fun p k => k (nI b) (nI j) (nI (ktN pb b j p)) (nI p) S = some (nI (ktN pb b j pl), S)) (fun k => ?_) (fun p k hp1 ih => ?_)
  · unfold bX0_knotsOf_6
    rw [h1, iLeT (Nat.le_refl _) (by omega)]
  · unfold bX0_knotsOf_6 uX4_bitsAt
    have h2 := h p hp1
    have h3 := hpb b p
    have h4 := bN_lt (pb b p) j
    have h5 : bN (pb b p) j * 2 ^ p < 4294967296 := Nat.lt_of_le_of_lt (Nat.mul_le_mul (show bN (pb b p) j ≤ 1 by omega) (show 2 ^ p ≤ 2 ^ 24 from Nat.pow_le_pow_right (by decide) (by omega))) (by decide)
    simp (disch := omega) only [li, h1, iLeF, ckI, cknI, clI, h2, cl_some, shrb, ltE, nI_add]
    rw [shlI (by omega) h5, fa_or]
    exact ih
theorem wouldX (X : XR th pl hm fo kn co ta va wa lo hi la ld lc lr n3 hp pr pt pb S) (hpl : pl ≤ 24) (h : ∀ b, b < 8 → rA pl (pb b) (S (64 + b))) (hpb : ∀ b p, pb b p < 16) {j : Nat} (hj : j < 4) : uX0_wouldTakeUp (nI j) S = some (nI (tkN th pl hm (fun b => ktN pb b j pl) 8), S) := by
  unfold uX0_wouldTakeUp lX0_wouldTakeUp_5
  simp only [ltE, li]
  refine lpF (β := K3) 8 (by decide) (fun i k => k (nI j) (nI (tkN th pl hm (fun b => ktN pb b j pl) i)) (nI i) S = some (nI (tkN th pl hm (fun b => ktN pb b j pl) 8), S)) (fun k => ?_) (fun i k hi8 ih => ?_)
  · unfold bX0_wouldTakeUp_5
    simp only [li]
    rw [iLeT (by omega) (by omega)]
  · unfold bX0_wouldTakeUp_5
    simp only [li]
    rw [iLeF (by omega) (by omega), knotsX X.1.2 hpl hi8 hj (h i hi8) hpb, cl_some, takenX X.1.2 hpl X.2.2.1 hi8 (ktN_lt _ _ _ _), cl_some]
    simp only [ltE, nI_add]
    rw [tkN_s] at ih
    exact ih
def stK (pb : Nat → Nat → Nat) (pl j : Nat) (kn : Nat → Nat) (i : Nat) : Nat → Nat := fun b => if b < i then ktN pb b j pl else kn b
theorem stK_0 (pb : Nat → Nat → Nat) (pl j : Nat) (kn : Nat → Nat) : stK pb pl j kn 0 = kn := by
  funext b
  unfold stK
  rw [if_neg (by omega)]
theorem stK_s (pb : Nat → Nat → Nat) (pl j : Nat) (kn : Nat → Nat) (i : Nat) : up1 (stK pb pl j kn i) i (ktN pb i j pl) = stK pb pl j kn (i + 1) := by
  funext b
  unfold up1 stK
  by_cases e : b = i
  · rw [if_pos e, if_pos (by omega), e]
  · rw [if_neg e]
    by_cases e2 : b < i
    · rw [if_pos e2, if_pos (by omega)]
    · rw [if_neg e2, if_neg (by omega)]
theorem stK_lt {i j : Nat} (hk : ∀ b, kn b < 2 ^ pl) : ∀ b, stK pb pl j kn i b < 2 ^ pl := fun b => by
  unfold stK
  split
  · exact ktN_lt _ _ _ _
  · exact hk b
theorem bindAsX (X : XR th pl hm fo kn co ta va wa lo hi la ld lc lr n3 1 pr pt pb S) (hpl : pl ≤ 24) (hpb : ∀ b p, pb b p < 16) {j : Nat} (hj : j < 4) : ∃ S2, uX0_bindAs (nI j) S = some (nI 0, S2) ∧ XR th pl hm fo (stK pb pl j kn 8) co ta va wa lo hi la ld lc lr n3 1 pr pt pb S2 := by
  unfold uX0_bindAs lX0_bindAs_2
  simp only [ltE, li]
  refine lpF (β := K2) 8 (by decide) (fun i k => ∀ S, XR th pl hm fo (stK pb pl j kn i) co ta va wa lo hi la ld lc lr n3 1 pr pt pb S → ∃ S2, k (nI j) (nI i) S = some (nI 0, S2) ∧ XR th pl hm fo (stK pb pl j kn 8) co ta va wa lo hi la ld lc lr n3 1 pr pt pb S2) (fun k S X => ?_) (fun i k hi8 ih S X => ?_) S (by rw [stK_0]; exact X)
  · unfold bX0_bindAs_2
    simp only [li]
    rw [iLeT (by omega) (by omega)]
    exact ⟨S, rfl, X⟩
  · unfold bX0_bindAs_2
    simp only [li]
    rw [iLeF (by omega) (by omega), knotsX X.1.2 hpl hi8 hj ((X.2.2.2.2.2.2.2.2.2.2.2.2.2 rfl).2.2 i hi8) hpb, cl_some]
    simp (disch := omega) only [ckI, clI, lzE, ltE, nI_add]
    refine ih _ ?_
    have := X.knU i (ktN pb i j pl)
    rw [stK_s] at this
    exact this
theorem bindsForM (M : MR th pl hm fo kn co ta va wa lo hi la ld lc lr n3 1 pr pt pb T) (hz : T 0 0 = 0) (hpl : pl ≤ 24) (hk : ∀ b, kn b < 2 ^ pl) (hpb : ∀ b p, pb b p < 16) {j : Nat} (hj : j < 4) : ∃ T2, uX9_bindsFor (nI j) T = some (nI 0, T2) ∧ MR th pl hm fo (stK pb pl j kn 8) co ta va wa lo hi la ld lc lr n3 1 pr pt pb T2 ∧ T2 0 0 = 0 := by
  unfold uX9_bindsFor lX9_bindsFor_2
  simp only [ltE, li]
  refine lpF (β := K2) 8 (by decide) (fun i k => ∀ T, MR th pl hm fo (stK pb pl j kn i) co ta va wa lo hi la ld lc lr n3 1 pr pt pb T → T 0 0 = 0 → ∃ T2, k (nI j) (nI i) T = some (nI 0, T2) ∧ MR th pl hm fo (stK pb pl j kn 8) co ta va wa lo hi la ld lc lr n3 1 pr pt pb T2 ∧ T2 0 0 = 0) (fun k T M hz => ?_) (fun i k hi8 ih T M hz => ?_) T (by rw [stK_0]; exact M) hz
  · unfold bX9_bindsFor_2
    simp only [li]
    rw [iLeT (by omega) (by omega)]
    exact ⟨T, rfl, M, hz⟩
  · unfold bX9_bindsFor_2 lX9_bindsFor_10
    simp only [li]
    rw [iLeF (by omega) (by omega)]
    simp only [ltE]
    refine lpF (β := K3) pl (by omega) (fun p k10 => ∀ K T, (∀ q, K.testBit q = if q < p then (pb i q).testBit j else (kn i).testBit q) → MR th pl hm fo (up1 (stK pb pl j kn i) i K) co ta va wa lo hi la ld lc lr n3 1 pr pt pb T → T 0 0 = 0 → ∃ T2, k10 (nI j) (nI i) (nI p) T = some (nI 0, T2) ∧ MR th pl hm fo (stK pb pl j kn 8) co ta va wa lo hi la ld lc lr n3 1 pr pt pb T2 ∧ T2 0 0 = 0) (fun k10 K T hK M hz => ?_) (fun p k10 hp1 ih2 K T hK M hz => ?_) (kn i) T (fun q => by rw [if_neg (by omega)]) (by rw [show kn i = stK pb pl j kn i i by unfold stK; rw [if_neg (by omega)], up1_same]; exact M) hz
    · unfold bX9_bindsFor_10
      rw [M.1.2, iLeT (Nat.le_refl _) (by omega)]
      simp only [li, ltE, nI_add]
      have eK : K = ktN pb i j pl := Nat.eq_of_testBit_eq (fun q => by
        rw [hK, ktN_bit]
        by_cases e : q < pl
        · rw [if_pos e]; simp [e]
        · rw [if_neg e, Nat.testBit_lt_two_pow (Nat.lt_of_lt_of_le (hk i) (Nat.pow_le_pow_right (by decide) (by omega)))]; simp [e])
      rw [eK, stK_s] at M
      exact ih T M hz
    · unfold bX9_bindsFor_10 bX9_bindsFor_52
      have e13 := (M.2.2.2.2.2.2.2.2.2.2.2.2 rfl).2.2 i hi8 p hp1
      have h3 := hpb i p
      simp (disch := omega) only [li, M.1.2, iLeF, pk_mul, nI_add, ckI, clI, e13, shrb, ltE, lzE, and00, and11]
      have hbit : ∀ v, v < 2 → decide (v = 1) = (pb i p).testBit j → ∀ q, (sbN v K p).testBit q = if q < p + 1 then (pb i q).testBit j else (kn i).testBit q := fun v hv hvb q => by
        rw [sbN_bit, hK q]
        by_cases e : q = p
        · rw [if_pos e, if_pos (by omega), e, hvb]
        · rw [if_neg e]
          by_cases e2 : q < p
          · rw [if_pos e2, if_pos (by omega)]
          · rw [if_neg e2, if_neg (by omega)]
      have hM : ∀ v, v < 2 → MR th pl hm fo (up1 (stK pb pl j kn i) i (sbN v K p)) co ta va wa lo hi la ld lc lr n3 1 pr pt pb (s2 T 9 (24 * i + p) (nI v)) := fun v hv => by
        have := M.knU (b := i) (p := p) (v := v) (k := sbN v K p) (by omega) (by
          unfold bN
          rw [sbN_bit, if_pos rfl]
          have : v = 0 ∨ v = 1 := by omega
          rcases this with rfl | rfl <;> rfl) (fun q hq hqp => by
          unfold bN
          rw [sbN_bit, if_neg hqp, up1_s])
        rw [up1_up1] at this
        exact this
      cases e : (pb i p).testBit j
      · rw [bN00 e, iEqF (by decide) (by decide) (by decide)]
        exact ih2 (sbN 0 K p) _ (hbit 0 (by decide) (by rw [e]; rfl)) (hM 0 (by decide)) hz
      · rw [bN1 e, iEqT rfl]
        exact ih2 (sbN 1 K p) _ (hbit 1 (by decide) (by rw [e]; rfl)) (hM 1 (by decide)) hz
theorem takesM (M : MR th pl hm fo kn co ta va wa lo hi la ld lc lr n3 1 pr pt pb T) (hth : th ≤ 16) (hpl : pl ≤ 24) (hb8 : ∀ t, hm t < 8) (hpb : ∀ b p, pb b p < 16) {j : Nat} (hj : j < 4) : uX9_takes (nI j) T = some (nI (tkN th pl hm (fun b => ktN pb b j pl) 8), T) := by
  unfold uX9_takes lX9_takes_4
  simp only [ltE, li]
  refine lpF (β := K3) 8 (by decide) (fun i k => k (nI j) (nI (tkN th pl hm (fun b => ktN pb b j pl) i)) (nI i) T = some (nI (tkN th pl hm (fun b => ktN pb b j pl) 8), T)) (fun k => ?_) (fun i k hi8 ih => ?_)
  · unfold bX9_takes_4
    simp only [li]
    rw [iLeT (by omega) (by omega)]
  · unfold bX9_takes_4 lX9_takes_13
    simp only [li]
    rw [iLeF (by omega) (by omega)]
    simp only [ltE]
    have key := lpF pl (by omega) (b := fun k13 => bX9_takes_13 k k13) (z := fun _ _ _ _ _ => none) (fun p k13 => k13 (nI j) (nI (tkN th pl hm (fun b => ktN pb b j pl) i + crN th hm i * fb_ct (fun q => !(pb i q).testBit j) p)) (nI i) (nI p) T = some (nI (tkN th pl hm (fun b => ktN pb b j pl) 8), T)) (fun k13 => by
      unfold bX9_takes_13
      have e1 : fb_ct (fun q => !(pb i q).testBit j) pl = pl - pcn (ktN pb i j pl) 24 := by
        rw [← unb_ct (ktN_lt _ _ _ _) hpl]
        exact fb_ct_cong (fun q hq => by rw [ktN_bit]; simp [hq])
      rw [M.1.2, iLeT (Nat.le_refl _) (by omega), e1]
      simp only [li, ltE, nI_add]
      rw [tkN_s] at ih
      exact ih) (fun p k13 hp1 ih2 => by
      unfold bX9_takes_13 bX9_takes_49
      have e13 := (M.2.2.2.2.2.2.2.2.2.2.2.2 rfl).2.2 i hi8 p hp1
      have h3 := hpb i p
      simp (disch := omega) only [li, M.1.2, iLeF, pk_mul, nI_add, ckI, clI, e13, shrb, ltE]
      rw [fb_ct_succ] at ih2
      cases e : (pb i p).testBit j
      · rw [bN00 e, iEqT rfl, manyM M.1.1 M.2.1 hth hb8 hi8, cl_some, nI_add]
        rw [e, show (if (!false) = true then 1 else 0) = 1 from rfl, Nat.mul_add, Nat.mul_one, ← Nat.add_assoc] at ih2
        exact ih2
      · rw [bN1 e, iEqF (by decide) (by decide) (by decide)]
        rw [e, show (if (!true) = true then 1 else 0) = 0 from rfl, Nat.add_zero] at ih2
        exact ih2)
    rw [show fb_ct (fun q => !(pb i q).testBit j) 0 = 0 from rfl, Nat.mul_zero, Nat.add_zero] at key
    exact key
/-- what each vat is to give in the first j baths -/
def duN (th pl : Nat) (hm : Nat → Nat) (pb : Nat → Nat → Nat) (pr j d : Nat) : Nat := fb_sm (fun i => if dyN pr i = d + 1 then tkN th pl hm (fun b => ktN pb b i pl) 8 else 0) j
theorem duN_s (j d : Nat) : duN th pl hm pb pr (j + 1) d = duN th pl hm pb pr j d + (if dyN pr j = d + 1 then tkN th pl hm (fun b => ktN pb b j pl) 8 else 0) := rfl
theorem duN_up {j d0 : Nat} (h : dyN pr j = d0 + 1) : up1 (duN th pl hm pb pr j) d0 (duN th pl hm pb pr j d0 + tkN th pl hm (fun b => ktN pb b j pl) 8) = duN th pl hm pb pr (j + 1) := by
  funext d
  rw [duN_s]
  unfold up1
  by_cases e : d = d0
  · rw [if_pos e, if_pos (by rw [h, e]), e]
  · rw [if_neg e, if_neg (by omega), Nat.add_zero]
def suF (du va : Nat → Nat) : Nat → Nat
  | 0 => 1
  | d + 1 => if suF du va d = 1 ∧ du d ≤ va d then 1 else 0
theorem suF_lt (du va : Nat → Nat) (n : Nat) : suF du va n < 2 := by
  cases n with
  | zero => show 1 < 2; decide
  | succ n => unfold suF; split <;> decide
theorem suF_1 {du va : Nat → Nat} : ∀ {n}, suF du va n = 1 ↔ ∀ d, d < n → du d ≤ va d
  | 0 => ⟨fun _ d hd => by omega, fun _ => rfl⟩
  | n + 1 => by
    unfold suF
    constructor
    · intro h d hd
      by_cases q : suF du va n = 1 ∧ du n ≤ va n
      · by_cases e : d = n
        · rw [e]; exact q.2
        · exact suF_1.mp q.1 d (by omega)
      · rw [if_neg q] at h; omega
    · intro h
      rw [if_pos ⟨suF_1.mpr (fun d hd => h d (by omega)), h n (by omega)⟩]
theorem suffX (X : XR th pl hm fo kn co ta va wa lo hi la ld lc lr n3 1 pr pt pb S) (hpl : pl ≤ 24) (hpb : ∀ b p, pb b p < 16) (hr : okR pr) (hva : ∀ d, va d ≤ 1000000) (hth : th ≤ 16) : ∃ S2, uX7_sufficeFor S = some (nI (suF (duN th pl hm pb pr (btN pr)) va 4), S2) ∧ XR th pl hm fo kn co ta va wa lo hi la ld lc lr n3 1 pr pt pb S2 := by
  have hr1 := hr.1
  have hbt := btN_le pr
  have htk : ∀ j, tkN th pl hm (fun b => ktN pb b j pl) 8 ≤ 8 * (16 * 24) := fun j => fb_sm_bound (fun b _ => Nat.mul_le_mul (Nat.le_trans (fb_ct_le _ _) hth) (Nat.le_trans (Nat.sub_le _ _) hpl))
  have hdu : ∀ j d, j ≤ 4 → duN th pl hm pb pr j d ≤ 12288 := fun j d hj => Nat.le_trans (fb_sm_bound (c := 3072) (fun i _ => by
    show (if dyN pr i = d + 1 then _ else _) ≤ _
    split
    · exact htk i
    · omega)) (by omega)
  have frees : ∀ {S S' : St} (i : Nat) (v : Int32), XR th pl hm fo kn co ta va wa lo hi la ld lc lr n3 1 pr pt pb S → XR th pl hm fo kn co ta va wa lo hi la ld lc lr n3 1 pr pt pb (s2 S 11 i v) := fun {S S'} i v X => X.fr (fun k _ _ h11 _ _ => s2_row _ _ _ _ h11)
  unfold uX7_sufficeFor lX7_sufficeFor_2
  simp only [ltE, li]
  refine lpF (β := K1) 4 (by decide) (fun i k => ∀ S, XR th pl hm fo kn co ta va wa lo hi la ld lc lr n3 1 pr pt pb S → (∀ d, d < i → S 11 d = nI 0) → ∃ S2, k (nI i) S = some (nI (suF (duN th pl hm pb pr (btN pr)) va 4), S2) ∧ XR th pl hm fo kn co ta va wa lo hi la ld lc lr n3 1 pr pt pb S2) (fun k S X h11 => ?_) (fun i k hi4 ih S X h11 => ?_) S X (fun d hd => by omega)
  · unfold bX7_sufficeFor_2 uX4_row lX7_sufficeFor_31
    simp only [li]
    rw [iLeT (by omega) (by omega), cl_some, (X.2.2.2.2.2.2.2.2.2.2.2.2.2 rfl).1, bathsX (by omega), cl_some]
    simp only [ltE]
    refine lpF (β := K2) (btN pr) (by omega) (fun j k31 => ∀ S, XR th pl hm fo kn co ta va wa lo hi la ld lc lr n3 1 pr pt pb S → rA 4 (duN th pl hm pb pr j) (S 11) → ∃ S2, k31 (nI (btN pr)) (nI j) S = some (nI (suF (duN th pl hm pb pr (btN pr)) va 4), S2) ∧ XR th pl hm fo kn co ta va wa lo hi la ld lc lr n3 1 pr pt pb S2) (fun k31 S X h11 => ?_) (fun j k31 hj ih S X h11 => ?_) S X (fun d hd => h11 d hd)
    · unfold bX7_sufficeFor_31 lX7_sufficeFor_70
      simp only [li]
      rw [iLeT (Nat.le_refl _) (by omega)]
      simp only [ltE]
      refine lpF (β := K1) 4 (by decide) (fun d k70 => (∀ e, e < d → duN th pl hm pb pr (btN pr) e ≤ va e) → ∃ S2, k70 (nI d) S = some (nI (suF (duN th pl hm pb pr (btN pr)) va 4), S2) ∧ XR th pl hm fo kn co ta va wa lo hi la ld lc lr n3 1 pr pt pb S2) (fun k70 hd => ?_) (fun d k70 hd4 ih hd => ?_) (fun e he => by omega)
      · unfold bX7_sufficeFor_70
        simp only [li]
        rw [iLeT (by omega) (by omega), rzI (by decide), suF_1.mpr hd]
        exact ⟨S, rfl, X⟩
      · unfold bX7_sufficeFor_70
        have e11 := h11 d hd4
        have e10 := X.2.2.2.2.2.2.2.1 d hd4
        have b1 := hdu (btN pr) d hbt
        have b2 := hva d
        simp (disch := omega) only [li, iLeF, ckI, clI, e11, e10, ltE, nI_add]
        by_cases q : duN th pl hm pb pr (btN pr) d ≤ va d
        · rw [iLeT q (by omega)]
          refine ih (fun e he => ?_)
          by_cases q2 : e = d
          · rw [q2]; exact q
          · exact hd e (by omega)
        · rw [iLeF (by omega) (by omega), rzI (by decide)]
          have : suF (duN th pl hm pb pr (btN pr)) va 4 = 0 := by
            have h1 := suF_lt (duN th pl hm pb pr (btN pr)) va 4
            have h2 : ¬ suF (duN th pl hm pb pr (btN pr)) va 4 = 1 := fun z => q (suF_1.mp z d hd4)
            omega
          rw [this]
          exact ⟨S, rfl, X⟩
    · unfold bX7_sufficeFor_31 uX4_row
      have hpl' := X.2.2.2.2.2.2.2.2.2.2.2.2.2 rfl
      have d1 := btN_nz hj
      have d2 := hr.2.2 j hj
      rw [iLeF (by omega) (by omega), cl_some, hpl'.1, dyeX (by omega) (by omega), cl_some, pk_sub (by omega)]
      have e11 := h11 (dyN pr j - 1) (by omega)
      rw [wouldX X hpl hpl'.2.2 hpb (by omega)]
      simp (disch := omega) only [li, ckI, clI, cl_some, lzE, ltE, nI_add, e11]
      refine ih _ (frees (S' := S) _ _ X) ?_
      rw [s2_hit, ← duN_up (d0 := dyN pr j - 1) (by omega)]
      exact rA_upd h11
  · unfold bX7_sufficeFor_2
    simp (disch := omega) only [li, iLeF, ckI, clI, lzE, ltE, nI_add]
    refine ih _ (frees (S' := S) _ _ X) (fun d hd => ?_)
    rw [s2_hit, upd_get]
    by_cases e : d = i
    · rw [if_pos e]
    · rw [if_neg e]; exact h11 d (by omega)
end
section
variable {th pl : Nat} {hm fo kn : Nat → Nat} {co : Nat → Nat → Nat} {ta va : Nat → Nat} {wa : Nat → Nat → Nat} {lo hi : Nat → Int32} {la : Nat} {ld lc lr : Nat → Nat} {n3 pr pt : Nat} {pb : Nat → Nat → Nat} {S S' T T' : St}
/-- the stages of what is carried out -/
def kS (pb : Nat → Nat → Nat) (pl : Nat) : Nat → Nat → Nat
  | 0 => fun _ => 0
  | j + 1 => stK pb pl j (kS pb pl j) 8
def cS (pb : Nat → Nat → Nat) (pl pr : Nat) (ta : Nat → Nat) : Nat → Nat → Nat → Nat
  | 0 => fun _ _ => 0
  | j + 1 => dpN pl (dyN pr j - 1) (kS pb pl (j + 1)) (cS pb pl pr ta j) ta 8 0
def vS (th pl : Nat) (hm : Nat → Nat) (pb : Nat → Nat → Nat) (pr : Nat) (va : Nat → Nat) (j : Nat) : Nat → Nat := fun d => va d - duN th pl hm pb pr j d
def lS (th pl : Nat) (hm : Nat → Nat) (pb : Nat → Nat → Nat) (j : Nat) : Nat := fb_sm (fun i => tkN th pl hm (fun b => ktN pb b i pl) 8) j
theorem lS_s (j : Nat) : lS th pl hm pb (j + 1) = lS th pl hm pb j + tkN th pl hm (fun b => ktN pb b j pl) 8 := rfl
theorem kS_lt : ∀ j b, kS pb pl j b < 2 ^ pl
  | 0, _ => two0 _
  | j + 1, b => stK_lt (kS_lt j) b
theorem cS_lt (hta : ∀ i, ta i < 16) : ∀ j b p, cS pb pl pr ta j b p < 16
  | 0, _, _ => by show 0 < 16; decide
  | j + 1, b, p => dpN_lt (cS_lt hta j) hta 8 0 b p
theorem tk_kS (j : Nat) : tkN th pl hm (kS pb pl (j + 1)) 8 = tkN th pl hm (fun b => ktN pb b j pl) 8 := fb_sm_cong (fun b hb => by
  show crN th hm b * (pl - pcn (stK pb pl j (kS pb pl j) 8 b) 24) = _
  rw [show stK pb pl j (kS pb pl j) 8 b = ktN pb b j pl from if_pos hb])
theorem vS_up {j d0 : Nat} (h : dyN pr j = d0 + 1) : up1 (vS th pl hm pb pr va j) d0 (vS th pl hm pb pr va j d0 - tkN th pl hm (fun b => ktN pb b j pl) 8) = vS th pl hm pb pr va (j + 1) := by
  funext d
  unfold vS
  rw [← duN_up h]
  unfold up1
  by_cases e : d = d0
  · rw [if_pos e, if_pos e, e]; omega
  · rw [if_neg e, if_neg e]
theorem duN_mono {i j : Nat} (h : i ≤ j) (d : Nat) : duN th pl hm pb pr i d ≤ duN th pl hm pb pr j d := by
  have := fb_sm_mono (fun i => if dyN pr i = d + 1 then tkN th pl hm (fun b => ktN pb b i pl) 8 else 0) i (j - i)
  rw [show i + (j - i) = j by omega] at this
  exact this
theorem vS_ok {j n : Nat} (hj : j < n) (hn : n = btN pr) (hr : okR pr) (hok : ∀ d, d < 4 → duN th pl hm pb pr n d ≤ va d) : tkN th pl hm (fun b => ktN pb b j pl) 8 ≤ vS th pl hm pb pr va j (dyN pr j - 1) := by
  subst hn
  have d1 := btN_nz hj
  have d2 := hr.2.2 j hj
  have h1 := hok (dyN pr j - 1) (by omega)
  have h2 := duN_mono (th := th) (pl := pl) (hm := hm) (pb := pb) (pr := pr) (i := j + 1) (j := btN pr) (by omega) (dyN pr j - 1)
  rw [duN_s, if_pos (by omega)] at h2
  unfold vS
  omega
theorem dyeLX (X : XR th pl hm fo (fun _ => 0) (fun _ _ => 0) ta va wa lo hi la ld lc lr n3 1 pr pt pb S) (hpl : pl ≤ 24) (hpb : ∀ b p, pb b p < 16) (hr : okR pr) (hta : ∀ i, ta i < 16) (hok : ∀ d, d < 4 → duN th pl hm pb pr (btN pr) d ≤ va d) : ∃ S2, lX8_dye_52 FU (nI (btN pr)) (nI 0) (nI 0) S = some (nI (lS th pl hm pb (btN pr)), S2) ∧ XR th pl hm fo (kS pb pl (btN pr)) (cS pb pl pr ta (btN pr)) ta (vS th pl hm pb pr va (btN pr)) wa lo hi la ld lc lr (n3 + btN pr) 1 pr pt pb S2 := by
  have hbt := btN_le pr
  have hr1 := hr.1
  unfold lX8_dye_52
  refine lpF (β := K3) (btN pr) (by omega) (fun j k => ∀ S, XR th pl hm fo (kS pb pl j) (cS pb pl pr ta j) ta (vS th pl hm pb pr va j) wa lo hi la ld lc lr n3 1 pr pt pb S → ∃ S2, k (nI (btN pr)) (nI (lS th pl hm pb j)) (nI j) S = some (nI (lS th pl hm pb (btN pr)), S2) ∧ XR th pl hm fo (kS pb pl (btN pr)) (cS pb pl pr ta (btN pr)) ta (vS th pl hm pb pr va (btN pr)) wa lo hi la ld lc lr (n3 + btN pr) 1 pr pt pb S2) (fun k S X => ?_) (fun j k hj ih S X => ?_) S X
  · unfold bX8_dye_52
    rw [iLeT (Nat.le_refl _) (by omega), lzE, X.2.2.2.2.2.2.2.2.2.2.2.1, nI_add]
    exact ⟨_, rfl, X.n3U _⟩
  · unfold bX8_dye_52 uX4_row
    have hpl' := X.2.2.2.2.2.2.2.2.2.2.2.2.2 rfl
    have d1 := btN_nz hj
    have d2 := hr.2.2 j hj
    rw [iLeF (by omega) (by omega), cl_some, hpl'.1, dyeX (by omega) (by omega), cl_some, pk_sub (by omega), ltE]
    obtain ⟨S1, e1, X1⟩ := bindAsX X hpl hpb (j := j) (by omega)
    rw [e1, cl_some, takesX X1.1.2 hpl X1.2.2.1 X1.2.2.2.2.1 (kS_lt (pb := pb) (pl := pl) (j + 1)), cl_some]
    have etk : tkN th pl hm (stK pb pl j (kS pb pl j) 8) 8 = tkN th pl hm (fun b => ktN pb b j pl) 8 := tk_kS j
    rw [etk]
    have e10 := X1.2.2.2.2.2.2.2.1 (dyN pr j - 1) (by omega)
    have hle := vS_ok (th := th) (pl := pl) (hm := hm) (pb := pb) (va := va) hj rfl hr hok
    unfold uX7_lose
    simp (disch := omega) only [li, ckI, clI, cl_some, lzE, ltE, e10]
    rw [pk_sub hle]
    obtain ⟨S2, e2, X2⟩ := dipX (X1.vaU (dyN pr j - 1) (vS th pl hm pb pr va j (dyN pr j - 1) - tkN th pl hm (fun b => ktN pb b j pl) 8)) (d := dyN pr j - 1) (by omega) hpl (kS_lt (pb := pb) (pl := pl) (j + 1)) (cS_lt hta j) hta
    rw [e2, cl_some, nI_add, nI_add]
    rw [vS_up (by omega)] at X2
    exact ih S2 X2
theorem dyeLM (M : MR th pl hm fo (fun _ => 0) (fun _ _ => 0) ta va wa lo hi la ld lc lr n3 1 pr pt pb T) (hz : T 0 0 = 0) (hth : th ≤ 16) (hpl : pl ≤ 24) (hb8 : ∀ t, hm t < 8) (hpb : ∀ b p, pb b p < 16) (hr : okR pr) (hta : ∀ i, ta i < 16) (hok : ∀ d, d < 4 → duN th pl hm pb pr (btN pr) d ≤ va d) : ∃ T2, lX9_dye_147 FU (nI (btN pr)) (nI 0) (nI 0) T = some (nI (lS th pl hm pb (btN pr)), T2) ∧ MR th pl hm fo (kS pb pl (btN pr)) (cS pb pl pr ta (btN pr)) ta (vS th pl hm pb pr va (btN pr)) wa lo hi la ld lc lr (n3 + btN pr) 1 pr pt pb T2 ∧ T2 0 0 = 0 := by
  have hbt := btN_le pr
  have hr1 := hr.1
  unfold lX9_dye_147
  refine lpF (β := K3) (btN pr) (by omega) (fun j k => ∀ T, MR th pl hm fo (kS pb pl j) (cS pb pl pr ta j) ta (vS th pl hm pb pr va j) wa lo hi la ld lc lr (n3 + j) 1 pr pt pb T → T 0 0 = 0 → ∃ T2, k (nI (btN pr)) (nI (lS th pl hm pb j)) (nI j) T = some (nI (lS th pl hm pb (btN pr)), T2) ∧ MR th pl hm fo (kS pb pl (btN pr)) (cS pb pl pr ta (btN pr)) ta (vS th pl hm pb pr va (btN pr)) wa lo hi la ld lc lr (n3 + btN pr) 1 pr pt pb T2 ∧ T2 0 0 = 0) (fun k T M hz => ?_) (fun j k hj ih T M hz => ?_) T M hz
  · unfold bX9_dye_147
    rw [iLeT (Nat.le_refl _) (by omega)]
    exact ⟨T, rfl, M, hz⟩
  · unfold bX9_dye_147
    have hpl' := M.2.2.2.2.2.2.2.2.2.2.2.2 rfl
    have d1 := btN_nz hj
    have d2 := hr.2.2 j hj
    simp only [li]
    rw [iLeF (by omega) (by omega), hpl'.1, dyM (by omega) (by omega), pk_sub (by omega), ltE]
    obtain ⟨T1, e1, M1, z1⟩ := bindsForM M hz hpl (kS_lt (pb := pb) (pl := pl) j) hpb (j := j) (by omega)
    rw [e1, cl_some, takenM M1.1 M1.2.1 M1.2.2.2.1 hth hpl hb8 (kS_lt (pb := pb) (pl := pl) (j + 1)), cl_some]
    have etk : tkN th pl hm (stK pb pl j (kS pb pl j) 8) 8 = tkN th pl hm (fun b => ktN pb b j pl) 8 := tk_kS j
    rw [etk]
    have e10 := M1.2.2.2.2.2.2.1 (dyN pr j - 1) (by omega)
    have hle := vS_ok (th := th) (pl := pl) (hm := hm) (pb := pb) (va := va) hj rfl hr hok
    simp (disch := omega) only [ckI, clI, lzE, ltE, e10]
    rw [pk_sub hle, nI_add]
    obtain ⟨T2, e2, M2, z2⟩ := bathesM (M1.vaU (dyN pr j - 1) (vS th pl hm pb pr va j (dyN pr j - 1) - tkN th pl hm (fun b => ktN pb b j pl) 8)) (by exact z1) (d := dyN pr j - 1) (by omega) hpl (cS_lt hta j) hta
    rw [e2, cl_some, nI_add]
    rw [vS_up (by omega)] at M2
    exact ih T2 M2 z2
theorem needsM (M : MR th pl hm fo kn co ta va wa lo hi la ld lc lr n3 1 pr pt pb T) (hz : T 0 0 = 0) (hth : th ≤ 16) (hpl : pl ≤ 24) (hb8 : ∀ t, hm t < 8) (hpb : ∀ b p, pb b p < 16) (hr : okR pr) (hva : ∀ d, va d ≤ 1000000) (hta : ∀ i, ta i < 16) : (¬ (∀ d, d < 4 → duN th pl hm pb pr (btN pr) d ≤ va d) → ∃ T2, lX9_dye_29 FU (nI (btN pr)) (nI 0) (nI 1) (nI 0) T = some (-nI 1, T2) ∧ MR th pl hm fo kn co ta va wa lo hi la ld lc lr n3 1 pr pt pb T2 ∧ T2 0 0 = 0) ∧ ((∀ d, d < 4 → duN th pl hm pb pr (btN pr) d ≤ va d) → ∃ T2, lX9_dye_29 FU (nI (btN pr)) (nI 0) (nI 1) (nI 0) T = some (nI (lS th pl hm pb (btN pr)), T2) ∧ MR th pl hm fo (kS pb pl (btN pr)) (cS pb pl pr ta (btN pr)) ta (vS th pl hm pb pr va (btN pr)) wa lo hi la ld lc lr (n3 + btN pr) 1 pr pt pb T2 ∧ T2 0 0 = 0) := by
  have hbt := btN_le pr
  have hr1 := hr.1
  have htk : ∀ j, tkN th pl hm (fun b => ktN pb b j pl) 8 ≤ 8 * (16 * 24) := fun j => fb_sm_bound (fun b _ => Nat.mul_le_mul (Nat.le_trans (fb_ct_le _ _) hth) (Nat.le_trans (Nat.sub_le _ _) hpl))
  have hdu : ∀ j d, j ≤ 4 → duN th pl hm pb pr j d ≤ 12288 := fun j d hj => Nat.le_trans (fb_sm_bound (c := 3072) (fun i _ => by
    show (if dyN pr i = d + 1 then _ else _) ≤ _
    split
    · exact htk i
    · omega)) (by omega)
  have frees : ∀ {T : St} (i : Nat) (v : Int32), MR th pl hm fo kn co ta va wa lo hi la ld lc lr n3 1 pr pt pb T → MR th pl hm fo kn co ta va wa lo hi la ld lc lr n3 1 pr pt pb (s2 T 16 i v) := fun {T} i v M => M.fr (fun k h => s2_row _ _ _ _ (by omega))
  suffices H : ∀ P : Option (Int32 × St) → Prop, (∀ T, MR th pl hm fo kn co ta va wa lo hi la ld lc lr n3 1 pr pt pb T → T 0 0 = 0 → suF (duN th pl hm pb pr (btN pr)) va 4 = 0 → P (some (-nI 1, T))) → (∀ T, MR th pl hm fo kn co ta va wa lo hi la ld lc lr n3 1 pr pt pb T → T 0 0 = 0 → suF (duN th pl hm pb pr (btN pr)) va 4 = 1 → P (cl (uX9_undyed T) (fun _ S2 => lX9_dye_147 FU (nI (btN pr)) (nI 0) (nI 0) S2))) → P (lX9_dye_29 FU (nI (btN pr)) (nI 0) (nI 1) (nI 0) T) by
    refine ⟨fun hno => H (fun y => ∃ T2, y = some (-nI 1, T2) ∧ MR th pl hm fo kn co ta va wa lo hi la ld lc lr n3 1 pr pt pb T2 ∧ T2 0 0 = 0) (fun T M hz _ => ⟨T, rfl, M, hz⟩) (fun T M hz hs => absurd (suF_1.mp hs) hno), fun hyes => H (fun y => ∃ T2, y = some (nI (lS th pl hm pb (btN pr)), T2) ∧ MR th pl hm fo (kS pb pl (btN pr)) (cS pb pl pr ta (btN pr)) ta (vS th pl hm pb pr va (btN pr)) wa lo hi la ld lc lr (n3 + btN pr) 1 pr pt pb T2 ∧ T2 0 0 = 0) (fun T M hz hs => by rw [suF_1.mpr hyes] at hs; omega) (fun T M hz _ => ?_)⟩
    obtain ⟨T2, u1, u2⟩ := w_undyed T
    rw [u1, cl_some]
    exact dyeLM (M.undy u2) (by rw [u2.1 0 (by decide) (by decide)]; exact hz) hth hpl hb8 hpb hr hta hyes
  intro P p0 p1
  unfold lX9_dye_29
  refine lpF (β := K4) 4 (by decide) (fun i k => ∀ T, MR th pl hm fo kn co ta va wa lo hi la ld lc lr n3 1 pr pt pb T → T 0 0 = 0 → (∀ d, d < i → T 16 d = nI 0) → P (k (nI (btN pr)) (nI 0) (nI 1) (nI i) T)) (fun k T M hz h16 => ?_) (fun i k hi4 ih T M hz h16 => ?_) T M hz (fun d hd => by omega)
  · unfold bX9_dye_29 lX9_dye_52
    simp only [li]
    rw [iLeT (by omega) (by omega), ltE]
    refine lpF (β := K4) (btN pr) (by omega) (fun j k52 => ∀ T, MR th pl hm fo kn co ta va wa lo hi la ld lc lr n3 1 pr pt pb T → T 0 0 = 0 → rA 4 (duN th pl hm pb pr j) (T 16) → P (k52 (nI (btN pr)) (nI 0) (nI 1) (nI j) T)) (fun k52 T M hz h16 => ?_) (fun j k52 hj ih T M hz h16 => ?_) T M hz (fun d hd => h16 d hd)
    · unfold bX9_dye_52 lX9_dye_95
      simp only [li]
      rw [iLeT (Nat.le_refl _) (by omega), ltE]
      refine lpF (β := K4) 4 (by decide) (fun d k95 => P (k95 (nI (btN pr)) (nI 0) (nI (suF (duN th pl hm pb pr (btN pr)) va d)) (nI d) T)) (fun k95 => ?_) (fun d k95 hd4 ih => ?_)
      · unfold bX9_dye_95
        simp only [li]
        rw [iLeT (by omega) (by omega)]
        have h1 := suF_lt (duN th pl hm pb pr (btN pr)) va 4
        by_cases e : suF (duN th pl hm pb pr (btN pr)) va 4 = 0
        · rw [iEqT e]
          exact p0 T M hz e
        · rw [iEqF e (by omega) (by omega)]
          exact p1 T M hz (by omega)
      · unfold bX9_dye_95 bX9_dye_126 bX9_dye_127
        have e16 := h16 d hd4
        have e4 := M.2.2.2.2.2.2.1 d hd4
        have b1 := hdu (btN pr) d hbt
        have b2 := hva d
        have h1 := suF_lt (duN th pl hm pb pr (btN pr)) va d
        simp (disch := omega) only [li, iLeF, ckI, clI, e16, e4, ltE, nI_add]
        by_cases e : suF (duN th pl hm pb pr (btN pr)) va d = 0
        · rw [iEqT e]
          unfold suF at ih
          rw [if_neg (fun q => by omega)] at ih
          exact ih
        · rw [iEqF e (by omega) (by omega)]
          by_cases q : duN th pl hm pb pr (btN pr) d ≤ va d
          · rw [iLtF q (by omega)]
            unfold suF at ih
            rw [if_pos ⟨by omega, q⟩] at ih
            exact ih
          · rw [iLtT (by omega) (by omega)]
            unfold suF at ih
            rw [if_neg (fun z => q z.2)] at ih
            exact ih
    · unfold bX9_dye_52
      have hpl' := M.2.2.2.2.2.2.2.2.2.2.2.2 rfl
      have d1 := btN_nz hj
      have d2 := hr.2.2 j hj
      have e16 := h16 (dyN pr j - 1) (by omega)
      simp only [li]
      rw [iLeF (by omega) (by omega), hpl'.1, dyM (by omega) (by omega), pk_sub (by omega), takesM M hth hpl hb8 hpb (by omega)]
      simp (disch := omega) only [ckI, clI, cl_some, lzE, ltE, nI_add, e16]
      refine ih _ (frees _ _ M) hz ?_
      rw [s2_hit, ← duN_up (d0 := dyN pr j - 1) (by omega)]
      exact rA_upd h16
  · unfold bX9_dye_29
    simp (disch := omega) only [li, iLeF, ckI, clI, lzE, ltE, nI_add]
    refine ih _ (frees _ _ M) hz (fun d hd => ?_)
    rw [s2_hit, upd_get]
    by_cases e : d = i
    · rw [if_pos e]
    · rw [if_neg e]; exact h16 d (by omega)
end
theorem q_dye {S T : St} (h : Rel S T) : Agz (uX8_dye S) (uX9_dye T) := by
  unfold uX8_dye uX9_dye bX8_dye_28 uX4_exists uX4_row
  simp only [lzE, ltE]
  obtain ⟨T1, eT, hz, h⟩ : ∃ T1, T1 = s2 T 0 0 0 ∧ T1 0 0 = 0 ∧ Rel S T1 := ⟨_, rfl, rfl, h⟩
  rw [← eT]
  obtain ⟨th, pl, hm, fo, kn, co, ta, va, wa, lo, hi, la, ld, lc, lr, n3, hp, pr, pt, pb, B, X, M⟩ := id h
  have B1 := B.1
  have hhp := B.2.2.2.2.2.2.2.2.2.2.1
  have xh := X.2.2.2.2.2.2.2.2.2.2.2.2.1
  have mh := M.2.2.2.2.2.2.2.2.2.2.2.1
  rw [xh, mh, rzI hhp, cl_some]
  simp only [li]
  by_cases e : hp = 0
  · subst e
    rw [iEqT rfl, iEqT rfl]
    exact ⟨_, _, _, rfl, rfl, h⟩
  · have e1 : hp = 1 := by omega
    subst e1
    obtain ⟨ok, -, hpb⟩ := B.2.2.2.2.2.2.2.2.2.2.2 rfl
    have hr1 := ok.1
    rw [iEqF e (by omega) (by omega), iEqF e (by omega) (by omega), (M.2.2.2.2.2.2.2.2.2.2.2.2 rfl).1, bathsM ok, cl_some]
    obtain ⟨S2, s1, X2⟩ := suffX X B1.2.2.2 hpb ok B.2.2.2.2.2.2.1 B1.2.1
    obtain ⟨m0, m1⟩ := needsM M hz B1.2.1 B1.2.2.2 B.2.1 hpb ok B.2.2.2.2.2.2.1 B.2.2.2.2.2.1
    rw [s1, cl_some]
    by_cases q : ∀ d, d < 4 → duN th pl hm pb pr (btN pr) d ≤ va d
    · obtain ⟨T2, t1, M2, z2⟩ := m1 q
      rw [t1, suF_1.mpr q, iEqF (by decide) (by decide) (by decide), cl_some, (X2.2.2.2.2.2.2.2.2.2.2.2.2.2 rfl).1, bathsX (by omega), cl_some]
      obtain ⟨S3, w1, w2⟩ := w_wash S2
      rw [w1, cl_some]
      obtain ⟨S4, d1, X4⟩ := dyeLX (X2.wash w2) B1.2.2.2 hpb ok B.2.2.2.2.2.1 q
      rw [d1]
      refine ⟨_, _, _, rfl, rfl, Rel.mk ?_ X4 M2⟩
      obtain ⟨b1, b2, b3, b4, b5, b6, b7, b8, b9, b10, b11, b12⟩ := B
      exact ⟨b1, b2, b3, kS_lt _, cS_lt b6 _, b6, fun d => Nat.le_trans (Nat.sub_le _ _) (b7 d), b8, b9, b10, b11, b12⟩
    · obtain ⟨T2, t1, M2, z2⟩ := m0 q
      have : suF (duN th pl hm pb pr (btN pr)) va 4 = 0 := by
        have h1 := suF_lt (duN th pl hm pb pr (btN pr)) va 4
        have h2 : ¬ suF (duN th pl hm pb pr (btN pr)) va 4 = 1 := fun z => q (suF_1.mp z)
        omega
      rw [t1, this, iEqT rfl]
      exact ⟨_, _, _, rfl, rfl, Rel.mk B X2 M2⟩
