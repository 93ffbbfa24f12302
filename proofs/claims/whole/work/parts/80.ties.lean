/-! pure rows: the class's weigh, tiesFrom, tiesOf -/
section
variable {S S0 : St}
theorem wsX {x : Nat} (h : x < 65536) (S : St) : uX5_withSupersets (nI x) S = some (nI (wsN x), S) := by
  have b1 := ws1_lt h
  have b2 := ws2_lt b1
  have b4 := ws4_lt b2
  have c1 := Nat.and_le_right (n := x) (m := 21845)
  have c2 := Nat.and_le_right (n := ws1 x) (m := 13107)
  have c4 := Nat.and_le_right (n := ws2 (ws1 x)) (m := 3855)
  have c8 := Nat.and_le_right (n := ws4 (ws2 (ws1 x))) (m := 255)
  unfold uX5_withSupersets
  simp only [ltE, li]
  rw [fa_and, shlI (by decide) (by omega), fa_or, show x ||| (x &&& 21845) * 2 ^ 1 = ws1 x from rfl, fa_and, shlI (by decide) (by omega), fa_or, show ws1 x ||| (ws1 x &&& 13107) * 2 ^ 2 = ws2 (ws1 x) from rfl, fa_and, shlI (by decide) (by omega), fa_or, show ws2 (ws1 x) ||| (ws2 (ws1 x) &&& 3855) * 2 ^ 4 = ws4 (ws2 (ws1 x)) from rfl, fa_and, shlI (by decide) (by omega), fa_or]
  rfl
theorem loX (x : Nat) (S : St) : uX5_lessOneBath (nI x) S = some (nI (loN x), S) := by
  have h1 := Nat.and_le_right (n := x) (m := 43690)
  have h2 := Nat.and_le_right (n := x) (m := 52428)
  have h3 := Nat.and_le_right (n := x) (m := 61680)
  have h4 := Nat.and_le_right (n := x) (m := 65280)
  unfold uX5_lessOneBath
  simp only [li]
  rw [fa_and x 43690, fa_and x 52428, fa_and x 61680, fa_and x 65280, shrI (by omega) (by decide), shrI (by omega) (by decide), shrI (by omega) (by decide), shrI (by omega) (by decide), fa_or, fa_or, fa_or]
  rfl
/-- what stands at a place: its values by masks -/
def PI (S : St) (p : Nat) (V : Nat → Nat) : Prop := ∃ F K O, F ≤ 1000 ∧ MkI V F K O ∧ S 23 p = nI F ∧ S 24 p = nI K ∧ S 25 p = nI O
theorem PI.cg {S' : St} {p : Nat} {V : Nat → Nat} (h : PI S p V) (h3 : S' 23 p = S 23 p) (h4 : S' 24 p = S 24 p) (h5 : S' 25 p = S 25 p) : PI S' p V := by
  obtain ⟨F, K, O, a1, a2, a3, a4, a5⟩ := h
  exact ⟨F, K, O, a1, a2, by rw [h3, a3], by rw [h4, a4], by rw [h5, a5]⟩
theorem tfX {p g : Nat} {V : Nat → Nat} (hp : p < 25) (hg : g < 16) (h : PI S p V) : uX5_tiesFrom (nI p) (nI g) S = some (nI (V g), S) := by
  obtain ⟨F, K, O, a1, ⟨k1, o1, a2⟩, a3, a4, a5⟩ := h
  obtain ⟨b1, b2, b3⟩ := a2 g hg
  unfold uX5_tiesFrom bX5_tiesFrom_44
  simp (disch := omega) only [li, ckI, clI, a3, a4, a5]
  rw [shrb (by omega) (by omega), shrb (by omega) (by omega), nI_add, nI_add]
  cases q : K.testBit g
  · rw [bN00 q, jf00]
    have n1 : ¬ V g = F := fun z => by rw [b2.mpr z] at q; cases q
    cases q2 : O.testBit g
    · rw [bN00 q2, jf00]
      have n2 : ¬ V g ≤ F + 1 := fun z => by rw [b3.mpr z] at q2; cases q2
      rw [show V g = F + 2 by omega]
    · rw [bN1 q2, jf10]
      have := b3.mp q2
      rw [show V g = F + 1 by omega]
  · rw [bN1 q, jf10, b2.mp q]
theorem w63X {p t c o : Nat} (hp : p < 25) (hc : c < 65536) (ho : o < 65536) : bX5_weigh_63 (nI p) (nI t) (nI c) (nI o) S = some (nI 0, s2 (s2 (s2 S 23 p (nI t)) 24 p (nI (wsN c))) 25 p (nI (wsN (o ||| loN c)))) := by
  unfold bX5_weigh_63
  simp only [li, lzE]
  rw [ckI hp (by decide), clI (by omega), wsX hc, cl_some, ckI hp (by decide), loX, cl_some, fa_or, wsX (Nat.or_lt_two_pow (n := 16) ho (lo_lt c)), cl_some, ckI hp (by decide)]
theorem w36 (n : Nat) : lX5_weigh_36 (n + 1) = bX5_weigh_36 (lX5_weigh_36 n) := rfl
theorem weighX {p fw F K O : Nat} {V : Nat → Nat} (hp : p < 24) (hI : MkI V F K O) (hF : F ≤ 1000) (hfw : fw < 65536) (hne : fw ≠ 0) (h3 : S0 23 (p + 1) = nI F) (h4 : S0 24 (p + 1) = nI K) (h5 : S0 25 (p + 1) = nI O) : ∃ F1 c o, MkL V fw F1 c o ∧ uX5_weigh (nI p) (nI fw) S0 = some (nI 0, s2 (s2 (s2 S0 23 p (nI F1)) 24 p (nI (wsN c))) 25 p (nI (wsN (o ||| loN c)))) := by
  have a1 := Nat.and_lt_two_pow (n := 16) fw hI.1
  have a2 := Nat.and_lt_two_pow (n := 16) fw hI.2.1
  unfold uX5_weigh
  simp only [ltE, li, nI_add]
  rw [ckI (by omega) (by decide), ckI (by omega) (by decide), ckI (by omega) (by decide), clI (by omega), h3, h4, h5, fa_and, fa_and, show FU = 997 + 1 + 1 + 1 from rfl, w36, w36, w36]
  unfold bX5_weigh_36
  simp only [ltE, li, nI_add]
  rw [iLtF (by omega) (by omega)]
  by_cases q : fw &&& K = 0
  · rw [iEqT q, iLtF (by omega) (by omega)]
    by_cases q2 : fw &&& O = 0
    · rw [iEqT q2, iLtT (by omega) (by omega)]
      exact ⟨F + 1 + 1, fw, fw, MkL.s2 hI hfw q2 hne, w63X (by omega) hfw hfw⟩
    · rw [iEqF q2 (by omega) (by omega)]
      exact ⟨F + 1, fw &&& O, fw, MkL.s1 hI hfw q q2, w63X (by omega) a2 hfw⟩
  · rw [iEqF q (by omega) (by omega)]
    exact ⟨F, fw &&& K, fw &&& O, MkL.s0 hI hfw q, w63X (by omega) a1 a2⟩
theorem tiesX {A : Nat → Nat → Bool} {al e b : Nat} {ai fw : Nat → Nat} (hb : b < 8) (he : e ≤ 24) (hal : al ≤ 16) (h18 : S0 18 b = nI e) (h55 : ∀ w, w < e → S0 (55 + b) w = nI (ai w) ∧ ai w < 16) (h22 : ∀ w, w < e → S0 22 (ai w) = nI (fw w) ∧ fw w < 65536 ∧ ∀ f, (fw w).testBit f = true ↔ ∃ m, m < al ∧ A w m = true ∧ freN m = f) (hf : ∀ p, p < e → ∃ m, m < al ∧ A p m = true) : ∃ S2, uX5_tiesOf (nI b) S0 = some (nI (vvN A al e e 0), S2) ∧ (∀ k, (k < 23 ∨ 25 < k) → S2 k = S0 k) ∧ ∀ p, p ≤ e → PI S2 p (vvN A al e (e - p)) := by
  unfold uX5_tiesOf lX5_tiesOf_34
  simp (disch := omega) only [ltE, lzE, li, ckI, clI, h18]
  rw [subm]
  refine lpDF (β := K2) e (by omega) (fun i k34 => i ≤ e → ∀ S, (∀ k, (k < 23 ∨ 25 < k) → S k = S0 k) → (∀ p, i ≤ p → p ≤ e → PI S p (vvN A al e (e - p))) → ∃ S2, k34 (nI b) (nI i + -nI 1) S = some (nI (vvN A al e e 0), S2) ∧ (∀ k, (k < 23 ∨ 25 < k) → S2 k = S0 k) ∧ ∀ p, p ≤ e → PI S2 p (vvN A al e (e - p))) (fun k34 _ S hS h63 => ?_) (fun i k34 ih hi S hS h63 => ?_) (Nat.le_refl _) _ (fun k hk => by rw [s2_row _ _ _ _ (by omega), s2_row _ _ _ _ (by omega), s2_row _ _ _ _ (by omega)]) (fun p h1 h2 => by
      have : p = e := by omega
      subst this
      rw [Nat.sub_self]
      refine ⟨0, 65535, 65535, by omega, MkI.end (fun _ => rfl), ?_, ?_, ?_⟩
      · rw [s2_row _ _ _ _ (by decide), s2_row _ _ _ _ (by decide), s2_hit, upd_get, if_pos rfl]
      · rw [s2_row _ _ _ _ (by decide), s2_hit, upd_get, if_pos rfl]
      · rw [s2_hit, upd_get, if_pos rfl])
  · unfold bX5_tiesOf_34
    simp only [li]
    have h0 := h63 0 (by omega) (by omega)
    rw [Nat.sub_zero] at h0
    rw [if_pos neg0, tfX (by decide) (by decide) h0, cl_some]
    exact ⟨S, rfl, hS, fun p hp => h63 p (by omega) hp⟩
  · unfold bX5_tiesOf_34
    obtain ⟨a1, a2⟩ := h55 i (by omega)
    obtain ⟨f1, f2, f3⟩ := h22 i (by omega)
    have s55 : S (55 + b) i = nI (ai i) := by rw [hS _ (by omega)]; exact a1
    have s22 : S 22 (ai i) = nI (fw i) := by rw [hS _ (by omega)]; exact f1
    obtain ⟨F, K, O, c1, c2, c3, c4, c5⟩ := h63 (i + 1) (by omega) (by omega)
    have f3 : ∀ f, (fw i).testBit f = true ↔ ∃ m, m < al ∧ A (e - ((e - (i + 1)) + 1)) m = true ∧ freN m = f := by
      rw [show e - ((e - (i + 1)) + 1) = i by omega]; exact f3
    obtain ⟨F1, c, o, d1, d2⟩ := weighX (S0 := S) (p := i) (fw := fw i) (by omega) c2 c1 f2 (fw_ne (k := e - (i + 1)) (by omega) hf f3) c3 c4 c5
    have d3 := vv_mask (k := e - (i + 1)) hal (by omega) he hf f3 d1
    rw [show e - (i + 1) + 1 = e - i by omega] at d3
    have hF1 : F1 ≤ 1000 := by
      have := (d3.2.2 0 (by decide)).1.1
      have := vv_small (A := A) hf (e - i) 0 (by omega)
      omega
    simp only [li]
    rw [pm1, iLtF (by omega) (by omega)]
    simp (disch := omega) only [ckI, cknI, clI, s55, s22]
    rw [d2, cl_some, ltE]
    refine ih (by omega) _ (fun k hk => by rw [s2_row _ _ _ _ (by omega), s2_row _ _ _ _ (by omega), s2_row _ _ _ _ (by omega)]; exact hS k hk) (fun p h1 h2 => ?_)
    by_cases q : p = i
    · subst q
      refine ⟨F1, wsN c, wsN (o ||| loN c), hF1, d3, ?_, ?_, ?_⟩
      · rw [s2_row _ _ _ _ (by decide), s2_row _ _ _ _ (by decide), s2_hit, upd_get, if_pos rfl]
      · rw [s2_row _ _ _ _ (by decide), s2_hit, upd_get, if_pos rfl]
      · rw [s2_hit, upd_get, if_pos rfl]
    · refine (h63 p (by omega) h2).cg ?_ ?_ ?_
      · rw [s2_row _ _ _ _ (by decide), s2_row _ _ _ _ (by decide), s2_hit, upd_get, if_neg q]
      · rw [s2_row _ _ _ _ (by decide), s2_hit, upd_get, if_neg q, s2_row _ _ _ _ (by decide)]
      · rw [s2_hit, upd_get, if_neg q, s2_row _ _ _ _ (by decide), s2_row _ _ _ _ (by decide)]
end
