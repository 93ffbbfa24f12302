/-! pure rows: tie, untie -/
def rcN (f pl a : Nat) : Nat → Nat
  | 0 => 0
  | j + 1 => (rcN f pl a j ||| 2 ^ (a + j)) ||| (if f = 1 then 2 ^ (pl - 1 - (a + j)) else 0)
theorem rcN_s (f pl a j : Nat) : rcN f pl a (j + 1) = (rcN f pl a j ||| 2 ^ (a + j)) ||| (if f = 1 then 2 ^ (pl - 1 - (a + j)) else 0) := rfl
theorem rcN_lt {f pl a : Nat} : ∀ j, a + j ≤ pl → rcN f pl a j < 2 ^ pl
  | 0, _ => two0 _
  | j + 1, h => by
    unfold rcN
    refine Nat.or_lt_two_pow (Nat.or_lt_two_pow (rcN_lt j (by omega)) (Nat.pow_lt_pow_right (by decide) (by omega))) ?_
    split
    · exact Nat.pow_lt_pow_right (by decide) (by omega)
    · exact two0 _
theorem reachX {S : St} {pl : Nat} {fo : Nat → Nat} (h1 : S 3 1 = nI pl) (hpl : pl ≤ 24) (h2 : rA 8 fo (S 14)) {b a o : Nat} (hb : b < 8) (hf : fo b < 2) (ho : o < pl) (hao : a ≤ o) : uX0_reach (nI b) (nI a) (nI o) S = some (nI (rcN (fo b) pl a (o + 1 - a)), S) := by
  unfold uX0_reach lX0_reach_6
  simp only [ltE, li]
  refine lpFi (β := K4) (o + 1) a (by omega) (by omega) (fun i k => ∀ j, i = a + j → k (nI b) (nI o) (nI (rcN (fo b) pl a j)) (nI i) S = some (nI (rcN (fo b) pl a (o + 1 - a)), S)) (fun k j hj => ?_) (fun i k hi ih j hj => ?_) 0 rfl
  · unfold bX0_reach_6
    rw [iLtT (by omega) (by omega), show o + 1 - a = j by omega]
  · unfold bX0_reach_6 bX0_reach_46
    have h3 := h2 b hb
    have ih := ih (j + 1) (by omega)
    have e1 : nI pl - nI 1 - nI i = nI (pl - 1 - i) := by rw [pk_sub (by omega), pk_sub (by omega)]
    simp (disch := omega) only [li, iLtF, shl1I, fa_or, ltE, ckI, clI, h3, h1, nI_add, e1]
    rw [rcN_s, ← hj] at ih
    by_cases q : fo b = 0
    · rw [iEqT q]
      rw [if_neg (show ¬ fo b = 1 by omega), Nat.or_zero] at ih
      exact ih
    · rw [iEqF q (by omega) (by omega)]
      rw [if_pos (show fo b = 1 by omega)] at ih
      exact ih
/-- one place bound (v = 1) or not -/
def sbN (v k p : Nat) : Nat := if v = 1 then k ||| 2 ^ p else k ^^^ (k &&& 2 ^ p)
theorem sbN_bit (v k p q : Nat) : (sbN v k p).testBit q = if q = p then decide (v = 1) else k.testBit q := by
  unfold sbN
  by_cases hv : v = 1
  · rw [if_pos hv, Nat.testBit_or, Nat.testBit_two_pow]
    by_cases e : q = p
    · rw [if_pos e]; simp [e, hv]
    · rw [if_neg e]; simp [show ¬ p = q from fun z => e z.symm]
  · rw [if_neg hv, Nat.testBit_xor, Nat.testBit_and, Nat.testBit_two_pow]
    by_cases e : q = p
    · rw [if_pos e]; simp [e, hv]
    · rw [if_neg e]; simp [show ¬ p = q from fun z => e z.symm]
theorem sbN_ct {v k p : Nat} (hv : v < 2) (hp : p < 24) : pcn (sbN v k p) 24 + bN k p = pcn k 24 + v := by
  unfold pcn bN
  have h := fb_ct_upd (fun i => k.testBit i) (decide (v = 1)) (i := p) (n := 24) hp
  have e : (fun i => (sbN v k p).testBit i) = (fun q => if q = p then decide (v = 1) else (fun i => k.testBit i) q) := funext fun q => sbN_bit v k p q
  rw [e, h]
  have : v = 0 ∨ v = 1 := by omega
  rcases this with rfl | rfl <;> rfl
theorem up1_up1 (f : Nat → Nat) (i v w : Nat) : up1 (up1 f i v) i w = up1 f i w := by
  funext j
  unfold up1
  by_cases e : j = i
  · rw [if_pos e, if_pos e]
  · rw [if_neg e, if_neg e, if_neg e]
theorem up1_same (f : Nat → Nat) (i : Nat) : up1 f i (f i) = f := by
  funext j
  unfold up1
  by_cases e : j = i
  · rw [if_pos e, e]
  · rw [if_neg e]
def cntV (v n k0 K : Nat) : Prop := (v = 1 → n + pcn k0 24 = pcn K 24) ∧ (v = 0 → n + pcn K 24 = pcn k0 24)
theorem cntV_step {v n k0 K p : Nat} (hv : v < 2) (hp : p < 24) (h : cntV v n k0 K) : cntV v (n + (if bN K p = v then 0 else 1)) k0 (sbN v K p) := by
  have h1 := sbN_ct (k := K) hv hp
  have h2 := bN_lt K p
  refine ⟨fun e => ?_, fun e => ?_⟩
  · have h3 := h.1 e
    subst e
    by_cases q : bN K p = 1
    · rw [if_pos q]; omega
    · rw [if_neg q]; omega
  · have h3 := h.2 e
    subst e
    by_cases q : bN K p = 0
    · rw [if_pos q]; omega
    · rw [if_neg q]; omega
section
variable {th pl : Nat} {hm fo kn : Nat → Nat} {co : Nat → Nat → Nat} {ta va : Nat → Nat} {wa : Nat → Nat → Nat} {lo hi : Nat → Int32} {la : Nat} {ld lc lr : Nat → Nat} {n3 hp pr pt : Nat} {pb : Nat → Nat → Nat} {S S' T T' : St}
theorem bindsM (M : MR th pl hm fo kn co ta va wa lo hi la ld lc lr n3 hp pr pt pb T) {b p v : Nat} (hb : b < 8) (hp24 : p < 24) (hv : v < 2) : ∃ T', uX9_binds (nI b) (nI p) (nI v) T = some (nI (if bN (kn b) p = v then 0 else 1), T') ∧ MR th pl hm fo (up1 kn b (sbN v (kn b) p)) co ta va wa lo hi la ld lc lr n3 hp pr pt pb T' ∧ T' 0 = T 0 := by
  unfold uX9_binds
  simp (disch := omega) only [li, pk_mul, nI_add, ltE, ckI, clI, and1I]
  have h1 := M.2.2.2.1 b hb p hp24
  have h2 := bN_lt (kn b) p
  rw [h1]
  by_cases e : bN (kn b) p = v
  · rw [iEqT e, if_pos e]
    refine ⟨T, rfl, ?_, rfl⟩
    have : sbN v (kn b) p = kn b := Nat.eq_of_testBit_eq (fun q => by
      rw [sbN_bit]
      by_cases e2 : q = p
      · rw [if_pos e2, e2]
        unfold bN at e
        cases hq : (kn b).testBit p
        · rw [hq] at e; rw [← e]; rfl
        · rw [hq] at e; rw [← e]; rfl
      · rw [if_neg e2])
    rw [this, up1_same]
    exact M
  · rw [iEqF e (by omega) (by omega), if_neg e]
    refine ⟨_, rfl, M.knU hp24 ?_ (fun q hq hqp => ?_), rfl⟩
    · unfold bN
      rw [sbN_bit, if_pos rfl]
      have : v = 0 ∨ v = 1 := by omega
      rcases this with rfl | rfl <;> rfl
    · unfold bN
      rw [sbN_bit, if_neg hqp]
theorem tiesM (M : MR th pl hm fo kn co ta va wa lo hi la ld lc lr n3 hp pr pt pb T) (hz : T 0 0 = 0) (hpl : pl ≤ 24) {b a o v : Nat} (hb : b < 8) (hf : fo b < 2) (hv : v < 2) (ho : o < pl) (hao : a ≤ o) : ∃ n K T', lX9_ties_55 FU (nI b) (nI o) (nI v) (nI 0) (nI a) T = some (nI n, T') ∧ MR th pl hm fo (up1 kn b K) co ta va wa lo hi la ld lc lr n3 hp pr pt pb T' ∧ T' 0 0 = 0 ∧ (∀ q, K.testBit q = if (rcN (fo b) pl a (o + 1 - a)).testBit q then decide (v = 1) else (kn b).testBit q) ∧ cntV v n (kn b) K := by
  unfold lX9_ties_55
  refine lpFi (β := K5) (o + 1) a (by omega) (by omega) (fun i k => ∀ j n K T, i = a + j → MR th pl hm fo (up1 kn b K) co ta va wa lo hi la ld lc lr n3 hp pr pt pb T → T 0 0 = 0 → (∀ q, K.testBit q = if (rcN (fo b) pl a j).testBit q then decide (v = 1) else (kn b).testBit q) → cntV v n (kn b) K → ∃ n' K T', k (nI b) (nI o) (nI v) (nI n) (nI i) T = some (nI n', T') ∧ MR th pl hm fo (up1 kn b K) co ta va wa lo hi la ld lc lr n3 hp pr pt pb T' ∧ T' 0 0 = 0 ∧ (∀ q, K.testBit q = if (rcN (fo b) pl a (o + 1 - a)).testBit q then decide (v = 1) else (kn b).testBit q) ∧ cntV v n' (kn b) K) (fun k j n K T hj M hz hK hc => ?_) (fun i k hi ih j n K T hj M hz hK hc => ?_) 0 0 (kn b) T rfl (by rw [up1_same]; exact M) hz (fun q => by simp [rcN]) ⟨fun _ => by omega, fun _ => by omega⟩
  · unfold bX9_ties_55
    rw [iLtT (by omega) (by omega)]
    refine ⟨n, K, T, rfl, M, hz, fun q => ?_, hc⟩
    rw [show o + 1 - a = j by omega]; exact hK q
  · unfold bX9_ties_55 bX9_ties_105
    rw [iLtF (by omega) (by omega)]
    obtain ⟨T1, e1, M1, z1⟩ := bindsM M (b := b) (p := i) (v := v) hb (by omega) hv
    rw [e1, cl_some, up1_s]
    rw [up1_up1, up1_s] at M1
    have c1 := cntV_step (p := i) hv (by omega) hc
    have h3 := M1.2.2.1 b hb
    simp (disch := omega) only [li, ltE, ckI, clI, h3, nI_add]
    by_cases q : fo b = 0
    · rw [iEqT q]
      refine ih (j + 1) _ _ T1 (by omega) M1 (by rw [z1]; exact hz) (fun w => ?_) c1
      rw [rcN_s, if_neg (show ¬ fo b = 1 by omega), Nat.or_zero, sbN_bit, hK w, Nat.testBit_or, Nat.testBit_two_pow, ← hj]
      by_cases e : w = i
      · rw [if_pos e]; simp [e]
      · rw [if_neg e]; simp [show ¬ i = w from fun z => e z.symm]
    · rw [iEqF q (by omega) (by omega), M1.1.2, pk_sub (by omega), pk_sub (by omega)]
      obtain ⟨T2, e2, M2, z2⟩ := bindsM M1 (b := b) (p := pl - 1 - i) (v := v) hb (by omega) hv
      rw [e2, cl_some, up1_s]
      rw [up1_up1, up1_s] at M2
      have c2 := cntV_step (p := pl - 1 - i) hv (by omega) c1
      simp only [nI_add]
      refine ih (j + 1) _ _ T2 (by omega) M2 (by rw [z2, z1]; exact hz) (fun w => ?_) c2
      rw [rcN_s, if_pos (show fo b = 1 by omega), sbN_bit, sbN_bit, hK w, Nat.testBit_or, Nat.testBit_or, Nat.testBit_two_pow, Nat.testBit_two_pow, ← hj]
      by_cases e : w = pl - 1 - i
      · rw [if_pos e]; simp [e]
      · rw [if_neg e]
        by_cases e3 : w = i
        · rw [if_pos e3]; simp [e3]
        · rw [if_neg e3]; simp [show ¬ i = w from fun z => e3 z.symm, show ¬ pl - 1 - i = w from fun z => e z.symm]
end
theorem pcn_or {a b c : Nat} (h1 : ∀ q, c.testBit q = (a.testBit q || b.testBit q)) (h2 : ∀ q, ¬ (a.testBit q = true ∧ b.testBit q = true)) : pcn a 24 + pcn b 24 = pcn c 24 := by
  unfold pcn
  rw [← fb_ct_or (fun k _ => h2 k)]
  exact fb_ct_cong (fun k _ => (h1 k).symm)
theorem lt_of_bits {a b n : Nat} (hb : b < 2 ^ n) (h : ∀ q, a.testBit q = true → b.testBit q = true) : a < 2 ^ n := Nat.lt_pow_two_of_testBit _ (fun i hi => by
  cases e : a.testBit i
  · rfl
  · have := h i e
    rw [Nat.testBit_lt_two_pow (Nat.lt_of_lt_of_le hb (Nat.pow_le_pow_right (by decide) hi))] at this
    cases this)
def FtX (F : Int32 → Int32 → Int32 → St → Option (Int32 × St)) (v : Nat) : Prop := ∀ (S : St) (pl : Nat) (fo kn : Nat → Nat) (b a o : Nat), S 3 1 = nI pl → pl ≤ 24 → rA 8 fo (S 14) → rA 8 kn (S 15) → b < 8 → fo b < 2 → kn b < 2 ^ pl → o < pl → a ≤ o → ∃ n K, F (nI b) (nI a) (nI o) S = some (nI n, s2 S 15 b (nI K)) ∧ (∀ q, K.testBit q = if (rcN (fo b) pl a (o + 1 - a)).testBit q then decide (v = 1) else (kn b).testBit q) ∧ cntV v n (kn b) K
theorem bindX : FtX uX0_bind 1 := by
  intro S pl fo kn b a o h1 hpl h2 h3 hb hf hk ho hao
  unfold uX0_bind
  have hr : rcN (fo b) pl a (o + 1 - a) < 2 ^ pl := rcN_lt _ (by omega)
  rw [reachX h1 hpl h2 hb hf ho hao]
  have h4 := h3 b hb
  generalize rcN (fo b) pl a (o + 1 - a) = R at *
  have bF : ∀ q, (R ^^^ (R &&& kn b)).testBit q = (R.testBit q && !(kn b).testBit q) := fun q => by
    rw [Nat.testBit_xor, Nat.testBit_and]
    cases R.testBit q <;> cases (kn b).testBit q <;> rfl
  have hF : R ^^^ (R &&& kn b) < 16777216 := pw24 (lt_of_bits hr (fun q e => by rw [bF] at e; simp at e; exact e.1)) hpl
  simp (disch := omega) only [cl_some, li, ckI, clI, h4, andn, ltE, lzE, fa_or, bcN hF]
  refine ⟨_, _, rfl, fun q => ?_, fun _ => ?_, fun e => by omega⟩
  · rw [Nat.testBit_or, bF]
    cases R.testBit q <;> cases (kn b).testBit q <;> rfl
  · refine pcn_or (fun q => ?_) (fun q e => ?_)
    · rw [Nat.testBit_or, Bool.or_comm]
    · rw [bF] at e
      cases R.testBit q <;> cases h : (kn b).testBit q <;> simp [h] at e
theorem loosenX : FtX uX0_loosen 0 := by
  intro S pl fo kn b a o h1 hpl h2 h3 hb hf hk ho hao
  unfold uX0_loosen
  have hr : rcN (fo b) pl a (o + 1 - a) < 2 ^ pl := rcN_lt _ (by omega)
  rw [reachX h1 hpl h2 hb hf ho hao]
  have h4 := h3 b hb
  generalize rcN (fo b) pl a (o + 1 - a) = R at *
  have hF : R &&& kn b < 16777216 := pw24 (Nat.and_lt_two_pow _ hk) hpl
  simp (disch := omega) only [cl_some, li, ckI, clI, h4, fa_and, ltE, lzE, andn, bcN hF]
  refine ⟨_, _, rfl, fun q => ?_, fun e => by omega, fun _ => ?_⟩
  · rw [Nat.testBit_xor, Nat.testBit_and, Nat.testBit_and]
    cases R.testBit q <;> cases (kn b).testBit q <;> rfl
  · refine pcn_or (fun q => ?_) (fun q e => ?_)
    · simp only [Nat.testBit_xor, Nat.testBit_and]
      cases R.testBit q <;> cases (kn b).testBit q <;> rfl
    · simp only [Nat.testBit_xor, Nat.testBit_and] at e
      cases h : R.testBit q <;> cases h' : (kn b).testBit q <;> simp [h, h'] at e
theorem q_ties {S T : St} (h : Rel S T) (x y w : Int32) {v : Nat} (hv : v < 2) {F : Int32 → Int32 → Int32 → St → Option (Int32 × St)} (hF : FtX F v) : Agr [(eIO, 1), (eIA, 2)] (cx (uX8_needRange x y w S) (fun _ S2 => cl (F x y w S2) (fun v3 S4 => some (.inr v3, S4)))) (cl (uX9_ties x y w (nI v) T) (fun v1 S2 => some (v1, S2))) := by
  unfold uX8_needRange uX9_ties bX9_ties_40 bX9_ties_47
  simp only [lzE, ltE]
  obtain ⟨T1, eT, hz, h⟩ : ∃ T1, T1 = s2 T 0 0 0 ∧ T1 0 0 = 0 ∧ Rel S T1 := ⟨_, rfl, rfl, h⟩
  rw [← eT]
  obtain ⟨th, pl, hm, fo, kn, co, ta, va, wa, lo, hi, la, ld, lc, lr, n3, hp, pr, pt, pb, B, X, M⟩ := id h
  have B1 := B.1
  rcases x_bun (S := S) x with ⟨b, hb, rfl, e1, m1⟩ | ⟨e1, m1⟩
  · rcases x_plc X.1.2 B1.2.2.2 y with ⟨a, ha, rfl, e2, m2⟩ | ⟨e2, m2⟩
    · rcases x_plc X.1.2 B1.2.2.2 w with ⟨o, ho, rfl, e3, m3⟩ | ⟨e3, m3⟩
      · rw [e1, cx_ok, e2, cx_ok, e3, cx_ok, m1 _ hz, cl_some, if10, m2 _ M.1.2 hz, cl_some, if10, m3 _ M.1.2 hz, cl_some, if10]
        by_cases hao : a ≤ o
        · rw [iLeT hao (by omega), iLtF hao (by omega), cx_ok, rightT' hz, if10]
          obtain ⟨n, K, f1, f2, f3⟩ := hF S pl fo kn b a o X.1.2 B1.2.2.2 X.2.2.2.1 X.2.2.2.2.1 hb (B.2.2.1 b) (B.2.2.2.1 b) ho hao
          obtain ⟨n', K', T2, g1, M2, z2, g2, g3⟩ := tiesM M hz B1.2.2.2 hb (B.2.2.1 b) hv ho hao
          have eK : K' = K := Nat.eq_of_testBit_eq (fun q => by rw [f2, g2])
          subst eK
          have en : n' = n := by
            have : v = 0 ∨ v = 1 := by omega
            rcases this with e | e
            · have := f3.2 e; have := g3.2 e; omega
            · have := f3.1 e; have := g3.1 e; omega
          subst en
          have g1' : lX9_ties_55 FU (nI b) (nI o) (nI v) 0 (nI a) T1 = some (nI n', T2) := g1
          rw [f1, cl_some, g1', cl_some]
          refine agr_ok rfl rfl z2 (Rel.mk ?_ (X.knU b K') M2)
          have hk := B.2.2.2.1 b
          have hr : rcN (fo b) pl a (o + 1 - a) < 2 ^ pl := rcN_lt _ (by omega)
          have hK : K' < 2 ^ pl := Nat.lt_pow_two_of_testBit _ (fun i hi => by
            rw [f2, Nat.testBit_lt_two_pow (Nat.lt_of_lt_of_le hr (Nat.pow_le_pow_right (by decide) hi)), Nat.testBit_lt_two_pow (Nat.lt_of_lt_of_le hk (Nat.pow_le_pow_right (by decide) hi))]; rfl)
          obtain ⟨b1, b2, b3, b4, b5, b6, b7, b8, b9, b10, b11, b12⟩ := B
          exact ⟨b1, b2, b3, up1_lt b4 hK, b5, b6, b7, b8, b9, b10, b11, b12⟩
        · rw [iLeF (by omega) (by omega), iLtT (by omega) (by omega), cx_ex, rightF' hz (by decide), if00, cl_some]
          exact agx h rfl rfl (by simp)
      · rw [e1, cx_ok, e2, cx_ok, e3, cx_ex, cx_ex, m1 _ hz, cl_some, if10, m2 _ M.1.2 hz, cl_some, if10, m3 _ M.1.2 hz, cl_some, if00, cl_some]
        exact agx h rfl rfl (by simp)
    · rw [e1, cx_ok, e2, cx_ex, cx_ex, m1 _ hz, cl_some, if10, m2 _ M.1.2 hz, cl_some, if00, cl_some]
      exact agx h rfl rfl (by simp)
  · rw [e1, cx_ex, cx_ex, m1 _ hz, cl_some, if00, cl_some]
    exact agx h rfl rfl (by simp)
theorem q_tie {S T : St} (h : Rel S T) (x y w : Int32) : Agr [(eIO, 1), (eIA, 2)] (uX8_tie x y w S) (uX9_tie x y w T) := by
  have e : uX9_tie x y w T = cl (uX9_ties x y w (nI 1) T) (fun v1 S2 => some (v1, S2)) := rfl
  rw [e]
  exact q_ties h x y w (by decide) bindX
theorem q_untie {S T : St} (h : Rel S T) (x y w : Int32) : Agr [(eIO, 1), (eIA, 2)] (uX8_untie x y w S) (uX9_untie x y w T) := by
  have e : uX9_untie x y w T = cl (uX9_ties x y w (nI 0) T) (fun v1 S2 => some (v1, S2)) := rfl
  rw [e]
  exact q_ties h x y w (by decide) loosenX
