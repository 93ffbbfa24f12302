/-! pure rows: seen, blurred -/
def seN (pl : Nat) (co : Nat → Nat) (p : Nat) (lo : Int) : Nat → Nat
  | 0 => 0
  | i + 1 => seN pl co p lo i ||| (if 0 ≤ (p : Int) - (lo + i) ∧ (p : Int) - (lo + i) < pl then 2 ^ co ((p : Int) - (lo + i)).toNat else 0)
theorem seN_s (pl : Nat) (co : Nat → Nat) (p : Nat) (lo : Int) (i : Nat) : seN pl co p lo (i + 1) = seN pl co p lo i ||| (if 0 ≤ (p : Int) - (lo + i) ∧ (p : Int) - (lo + i) < pl then 2 ^ co ((p : Int) - (lo + i)).toNat else 0) := rfl
theorem seN_lt {pl : Nat} {co : Nat → Nat} {p : Nat} {lo : Int} (h : ∀ q, co q < 16) : ∀ i, seN pl co p lo i < 65536
  | 0 => by show 0 < 65536; decide
  | i + 1 => by
    rw [seN_s]
    refine Nat.or_lt_two_pow (n := 16) (seN_lt h i) ?_
    split
    · exact Nat.pow_lt_pow_right (by decide) (h _)
    · decide
theorem of_toInt {x : Int32} {q : Nat} (h : x.toInt = q) : x = nI q := by
  have hr := fb_rng x
  rw [fa_eq, h, nI_toInt (by omega)]
section
variable {th pl : Nat} {hm fo kn : Nat → Nat} {co : Nat → Nat → Nat} {ta va : Nat → Nat} {wa : Nat → Nat → Nat} {lo hi : Nat → Int32} {la : Nat} {ld lc lr : Nat → Nat} {n3 hp pr pt : Nat} {pb : Nat → Nat → Nat} {S S' T T' : St}
theorem showX (X : XR th pl hm fo kn co ta va wa lo hi la ld lc lr n3 hp pr pt pb S) (hb8 : ∀ t, hm t < 8) (hco : ∀ b p, co b p < 16) (hl : ∀ t, -3 ≤ (lo t).toInt ∧ (lo t).toInt ≤ 3 ∧ -3 ≤ (hi t).toInt ∧ (hi t).toInt ≤ 3) (hpl : pl ≤ 24) {t p : Nat} (ht : t < 16) (hp1 : p < pl) : uX6_showsAt (nI t) (nI p) S = some (nI (seN pl (co (hm t)) p (lo t).toInt ((hi t).toInt - (lo t).toInt + 1).toNat), S) := by
  unfold uX6_showsAt lX6_showsAt_11
  have h1 := hl t
  have h2 := X.2.2.2.2.2.2.2.2.2.1 t ht
  simp (disch := omega) only [ltE, li, ckI, clI, h2.1]
  refine lpF (β := K4) ((hi t).toInt - (lo t).toInt + 1).toNat (by omega) (fun i k => ∀ x : Int32, x.toInt = (lo t).toInt + i → k (nI t) (nI p) (nI (seN pl (co (hm t)) p (lo t).toInt i)) x S = some (nI (seN pl (co (hm t)) p (lo t).toInt ((hi t).toInt - (lo t).toInt + 1).toNat), S)) (fun k x hx => ?_) (fun i k hi1 ih x hx => ?_) (lo t) (by simp)
  · unfold bX6_showsAt_11
    simp (disch := omega) only [ckI, clI, h2.2]
    rw [if_pos (by rw [fa_lt]; omega)]
  · unfold bX6_showsAt_11 bX6_showsAt_56
    simp (disch := omega) only [ckI, clI, h2.2, ltE]
    have e0 : (nI p).toInt = p := nI_toInt (by omega)
    have e1 : (nI p - x).toInt = (p : Int) - ((lo t).toInt + i) := by rw [fb_subI (by omega) (by omega)]; omega
    have e2 : (x + 1).toInt = (lo t).toInt + (i + 1 : Nat) := by
      have : (1 : Int32).toInt = 1 := rfl
      rw [fb_addI (by omega) (by omega)]; omega
    have ih := ih (x + 1) e2
    rw [seN_s] at ih
    have ez : (0 : Int32).toInt = 0 := rfl
    rw [if_neg (show ¬ hi t < x by rw [fa_lt]; omega)]
    by_cases q1 : (p : Int) - ((lo t).toInt + i) < 0
    · rw [if_pos (by rw [fa_lt]; omega)]
      rw [if_neg (show ¬ (0 ≤ (p : Int) - ((lo t).toInt + i) ∧ (p : Int) - ((lo t).toInt + i) < pl) from fun z => by omega), Nat.or_zero] at ih
      exact ih
    · rw [if_neg (show ¬ nI p - x < 0 by rw [fa_lt]; omega)]
      unfold uX0_places
      rw [cl_some, X.1.2]
      have e3 : (nI pl).toInt = pl := nI_toInt (by omega)
      by_cases q2 : (p : Int) - ((lo t).toInt + i) < pl
      · rw [if_neg (show ¬ nI pl ≤ nI p - x by rw [fa_le]; omega)]
        rw [if_pos (show 0 ≤ (p : Int) - ((lo t).toInt + i) ∧ (p : Int) - ((lo t).toInt + i) < pl from ⟨by omega, q2⟩)] at ih
        have e4 : nI p - x = nI ((p : Int) - ((lo t).toInt + i)).toNat := of_toInt (by omega)
        rw [e4, colX X.2.1 X.2.2.2.2.2.1 hb8 ht (by omega), cl_some]
        have h16 := hco (hm t) ((p : Int) - ((lo t).toInt + i)).toNat
        simp only [li] at ih ⊢
        rw [shl1I (by omega), fa_or]
        exact ih
      · rw [if_pos (show nI pl ≤ nI p - x by rw [fa_le]; omega)]
        rw [if_neg (show ¬ (0 ≤ (p : Int) - ((lo t).toInt + i) ∧ (p : Int) - ((lo t).toInt + i) < pl) from fun z => by omega), Nat.or_zero] at ih
        exact ih
theorem seenM (M : MR th pl hm fo kn co ta va wa lo hi la ld lc lr n3 hp pr pt pb T) (hb8 : ∀ t, hm t < 8) (hco : ∀ b p, co b p < 16) (hl : ∀ t, -3 ≤ (lo t).toInt ∧ (lo t).toInt ≤ 3 ∧ -3 ≤ (hi t).toInt ∧ (hi t).toInt ≤ 3) (hpl : pl ≤ 24) {t p : Nat} (ht : t < 16) (hp1 : p < pl) : uX9_seenOf (nI t) (nI p) T = some (nI (seN pl (co (hm t)) p (lo t).toInt ((hi t).toInt - (lo t).toInt + 1).toNat), T) := by
  unfold uX9_seenOf lX9_seenOf_10
  have h1 := hl t
  have h2 := M.2.2.2.2.2.2.2.2.1 t ht
  simp (disch := omega) only [ltE, li, ckI, clI, h2.1]
  refine lpF (β := K4) ((hi t).toInt - (lo t).toInt + 1).toNat (by omega) (fun i k => ∀ x : Int32, x.toInt = (lo t).toInt + i → k (nI t) (nI p) (nI (seN pl (co (hm t)) p (lo t).toInt i)) x T = some (nI (seN pl (co (hm t)) p (lo t).toInt ((hi t).toInt - (lo t).toInt + 1).toNat), T)) (fun k x hx => ?_) (fun i k hi1 ih x hx => ?_) (lo t) (by simp)
  · unfold bX9_seenOf_10
    simp (disch := omega) only [ckI, clI, h2.2]
    rw [if_pos (by rw [fa_lt]; omega)]
  · unfold bX9_seenOf_10 bX9_seenOf_53
    simp (disch := omega) only [ckI, clI, h2.2, ltE]
    have e0 : (nI p).toInt = p := nI_toInt (by omega)
    have e1 : (nI p - x).toInt = (p : Int) - ((lo t).toInt + i) := by rw [fb_subI (by omega) (by omega)]; omega
    have e2 : (x + 1).toInt = (lo t).toInt + (i + 1 : Nat) := by
      have : (1 : Int32).toInt = 1 := rfl
      rw [fb_addI (by omega) (by omega)]; omega
    have ih := ih (x + 1) e2
    rw [seN_s] at ih
    have ez : (0 : Int32).toInt = 0 := rfl
    rw [if_neg (show ¬ hi t < x by rw [fa_lt]; omega)]
    by_cases q1 : (p : Int) - ((lo t).toInt + i) < 0
    · rw [if_pos (by rw [fa_lt]; omega)]
      rw [if_neg (show ¬ (0 ≤ (p : Int) - ((lo t).toInt + i) ∧ (p : Int) - ((lo t).toInt + i) < pl) from fun z => by omega), Nat.or_zero] at ih
      exact ih
    · rw [if_neg (show ¬ nI p - x < 0 by rw [fa_lt]; omega), M.1.2]
      have e3 : (nI pl).toInt = pl := nI_toInt (by omega)
      by_cases q2 : (p : Int) - ((lo t).toInt + i) < pl
      · rw [if_neg (show ¬ nI pl ≤ nI p - x by rw [fa_le]; omega)]
        rw [if_pos (show 0 ≤ (p : Int) - ((lo t).toInt + i) ∧ (p : Int) - ((lo t).toInt + i) < pl from ⟨by omega, q2⟩)] at ih
        have e4 : nI p - x = nI ((p : Int) - ((lo t).toInt + i)).toNat := of_toInt (by omega)
        rw [e4, colM M.2.1 M.2.2.2.2.1 hb8 ht (by omega), cl_some]
        have h16 := hco (hm t) ((p : Int) - ((lo t).toInt + i)).toNat
        simp only [li] at ih ⊢
        rw [shl1I (by omega), fa_or]
        exact ih
      · rw [if_pos (show nI pl ≤ nI p - x by rw [fa_le]; omega)]
        rw [if_neg (show ¬ (0 ≤ (p : Int) - ((lo t).toInt + i) ∧ (p : Int) - ((lo t).toInt + i) < pl) from fun z => by omega), Nat.or_zero] at ih
        exact ih
end
theorem q_seen {S T : St} (h : Rel S T) (x y : Int32) : Agr [(eIO, 1)] (uX8_seen x y S) (uX9_seen x y T) := by
  unfold uX8_seen uX9_seen bX9_seen_30 bX9_seen_31
  simp only [lzE]
  obtain ⟨T1, eT, hz, h⟩ : ∃ T1, T1 = s2 T 0 0 0 ∧ T1 0 0 = 0 ∧ Rel S T1 := ⟨_, rfl, rfl, h⟩
  rw [← eT]
  obtain ⟨th, pl, hm, fo, kn, co, ta, va, wa, lo, hi, la, ld, lc, lr, n3, hp, pr, pt, pb, B, X, M⟩ := id h
  have B1 := B.1
  rcases x_thr X.1.1 B1.2.1 x with ⟨t, ht, rfl, e1, m1⟩ | ⟨e1, m1⟩
  · rcases x_plc X.1.2 B1.2.2.2 y with ⟨p, hp, rfl, e2, m2⟩ | ⟨e2, m2⟩
    · rw [e1, cx_ok, e2, cx_ok, m1 _ M.1.1 hz, cl_some, if10, m2 _ M.1.2 hz, cl_some, if10, showX X B.2.1 B.2.2.2.2.1 B.2.2.2.2.2.2.2.2.1 B1.2.2.2 (by omega) hp, seenM M B.2.1 B.2.2.2.2.1 B.2.2.2.2.2.2.2.2.1 B1.2.2.2 (by omega) hp]
      exact agr_ok rfl rfl hz h
    · exact agx h (by rw [e1, cx_ok, e2, cx_ex]) (v := 0) (n := 1) (by rw [m1 _ M.1.1 hz, cl_some, if10, m2 _ M.1.2 hz, cl_some, if00]) (by simp)
  · exact agx h (by rw [e1, cx_ex]) (v := 0) (n := 1) (by rw [m1 _ M.1.1 hz, cl_some, if00]) (by simp)
theorem q_blurred {S T : St} (h : Rel S T) : Agz (uX8_blurred S) (uX9_blurred T) := by
  unfold uX8_blurred uX9_blurred
  simp only [lzE, ltE]
  obtain ⟨T1, eT, hz, h⟩ : ∃ T1, T1 = s2 T 0 0 0 ∧ T1 0 0 = 0 ∧ Rel S T1 := ⟨_, rfl, rfl, h⟩
  rw [← eT]
  obtain ⟨th, pl, hm, fo, kn, co, ta, va, wa, lo, hi, la, ld, lc, lr, n3, hp, pr, pt, pb, B, X, M⟩ := id h
  have B1 := B.1
  obtain ⟨se, ese⟩ : ∃ se : Nat → Nat → Nat, se = fun t p => seN pl (co (hm t)) p (lo t).toInt ((hi t).toInt - (lo t).toInt + 1).toNat := ⟨_, rfl⟩
  have hse : ∀ t p, se t p < 65536 := fun t p => by rw [ese]; exact seN_lt (B.2.2.2.2.1 _) _
  have hwa : ∀ t p, 2 ^ wa t p < 65536 := fun t p => Nat.pow_lt_pow_right (n := 16) (by decide) (B.2.2.2.2.2.2.2.1 t p)
  obtain ⟨bl, ebl⟩ : ∃ bl : Nat → Nat → Bool, bl = fun t p => !(se t p == 2 ^ wa t p) := ⟨_, rfl⟩
  obtain ⟨sm, esm⟩ : ∃ sm : Nat → Nat, sm = fb_sm (fun t => fb_ct (bl t) pl) := ⟨_, rfl⟩
  have sm_s : ∀ t, sm (t + 1) = sm t + fb_ct (bl t) pl := fun t => by rw [esm]; rfl
  have sm_0 : sm 0 = 0 := by rw [esm]; rfl
  have xs : ∀ t p, t < th → p < pl → uX6_showsAt (nI t) (nI p) S = some (nI (se t p), S) := fun t p ht hp1 => by rw [ese]; exact showX X B.2.1 B.2.2.2.2.1 B.2.2.2.2.2.2.2.2.1 B1.2.2.2 (by omega) hp1
  have ms : ∀ t p, t < th → p < pl → uX9_seenOf (nI t) (nI p) T1 = some (nI (se t p), T1) := fun t p ht hp1 => by rw [ese]; exact seenM M B.2.1 B.2.2.2.2.1 B.2.2.2.2.2.2.2.2.1 B1.2.2.2 (by omega) hp1
  have cs : ∀ t p, fb_ct (bl t) (p + 1) = fb_ct (bl t) p + (if se t p = 2 ^ wa t p then 0 else 1) := fun t p => by
    rw [fb_ct_succ, ebl]
    by_cases q : se t p = 2 ^ wa t p
    · rw [if_pos q]; simp [q]
    · rw [if_neg q]; simp [q]
  refine ⟨nI (sm th), S, T1, ?_, ?_, h⟩
  · unfold lX8_blurred_4
    simp only [li]
    have key := lpF (β := K2) th (by omega) (b := fun k4 => bX8_blurred_4 k4) (z := fun _ _ _ => none) (fun t k => k (nI (sm t)) (nI t) S = some (nI (sm th), S)) (fun k => by
      unfold bX8_blurred_4 uX0_threads
      rw [cl_some, X.1.1, iLeT (Nat.le_refl _) (by omega)]) (fun t k ht ih => by
      unfold bX8_blurred_4 uX0_threads lX8_blurred_17
      rw [cl_some, X.1.1, iLeF (by omega) (by omega)]
      simp only [ltE, li]
      have key := lpF (β := K3) pl (by omega) (b := fun k17 => bX8_blurred_17 k k17) (z := fun _ _ _ _ => none) (fun p k17 => k17 (nI (sm t + fb_ct (bl t) p)) (nI t) (nI p) S = some (nI (sm th), S)) (fun k17 => by
        unfold bX8_blurred_17 uX0_places
        rw [cl_some, X.1.2, iLeT (Nat.le_refl _) (by omega)]
        simp only [ltE, li, nI_add]
        rw [sm_s] at ih
        exact ih) (fun p k17 hp1 ih2 => by
        unfold bX8_blurred_17 uX0_places bX8_blurred_58 uX3_wantedAt
        rw [cl_some, X.1.2, iLeF (by omega) (by omega), xs t p ht hp1, cl_some]
        have ew := X.2.2.2.2.2.2.2.2.1 t (by omega) p (by omega)
        have hw := B.2.2.2.2.2.2.2.1 t p
        simp (disch := omega) only [ckI, cknI, clI, cl_some, ew, li, shl1I, ltE, nI_add]
        rw [cs] at ih2
        have h1 := hse t p
        have h2 := hwa t p
        by_cases q : se t p = 2 ^ wa t p
        · rw [iEqT q]
          rw [if_pos q] at ih2
          exact ih2
        · rw [iEqF q (by omega) (by omega)]
          rw [if_neg q] at ih2
          exact ih2)
      exact key)
    rw [sm_0] at key
    exact key
  · unfold lX9_blurred_9
    simp only [li]
    have key := lpF (β := K2) th (by omega) (b := fun k4 => bX9_blurred_9 k4) (z := fun _ _ _ => none) (fun t k => k (nI (sm t)) (nI t) T1 = some (nI (sm th), T1)) (fun k => by
      unfold bX9_blurred_9
      rw [M.1.1, iLeT (Nat.le_refl _) (by omega)]) (fun t k ht ih => by
      unfold bX9_blurred_9 lX9_blurred_19
      rw [M.1.1, iLeF (by omega) (by omega)]
      simp only [ltE, li]
      have key := lpF (β := K3) pl (by omega) (b := fun k17 => bX9_blurred_19 k k17) (z := fun _ _ _ _ => none) (fun p k17 => k17 (nI (sm t + fb_ct (bl t) p)) (nI t) (nI p) T1 = some (nI (sm th), T1)) (fun k17 => by
        unfold bX9_blurred_19
        rw [M.1.2, iLeT (Nat.le_refl _) (by omega)]
        simp only [ltE, li, nI_add]
        rw [sm_s] at ih
        exact ih) (fun p k17 hp1 ih2 => by
        unfold bX9_blurred_19 bX9_blurred_52
        rw [M.1.2, iLeF (by omega) (by omega), ms t p ht hp1, cl_some]
        have ew : T1 5 (24 * t + p) = nI (wa t p) := M.2.2.2.2.2.2.2.1 t (by omega) p (by omega)
        have hw := B.2.2.2.2.2.2.2.1 t p
        simp (disch := omega) only [li, pk_mul, nI_add, ckI, clI, ew, shl1I, ltE]
        rw [cs] at ih2
        have h1 := hse t p
        have h2 := hwa t p
        by_cases q : se t p = 2 ^ wa t p
        · rw [iEqT q]
          rw [if_pos q] at ih2
          exact ih2
        · rw [iEqF q (by omega) (by omega)]
          rw [if_neg q] at ih2
          exact ih2)
      exact key)
    rw [sm_0] at key
    exact key
