/-! pure rows: the class's leastBits, writeInto -/
section
variable {th pl : Nat} {hm fo kn : Nat → Nat} {co : Nat → Nat → Nat} {ta va : Nat → Nat} {wa : Nat → Nat → Nat} {lo hi : Nat → Int32} {la : Nat} {ld lc lr : Nat → Nat} {n3 hp pr pt : Nat} {pb : Nat → Nat → Nat} {S S0 S1 : St} {row : Nat} {ai : Nat → Nat → Nat} {am : Nat} {wy fy : Nat → Nat}
theorem AN_iff {b w m : Nat} : AN th pl hm fo wa ta row b w m = true ↔ wOk th pl hm fo wa b w (beN ta row m (btN row)) := by
  unfold AN wOk
  simp
theorem A_ai (h : aimOk th pl hm fo wa ai am S) {b w : Nat} (hb : b < 8) (hc : crN th hm b ≠ 0) (hw : w < enN fo pl b) (m : Nat) : AN th pl hm fo wa ta row b w m = true ↔ beN ta row m (btN row) = ai b w := by
  rw [AN_iff]
  exact (h.2.1 b hb hc w hw).2.2 _
theorem aim_cg {S' : St} (h : aimOk th pl hm fo wa ai am S) (hS : ∀ k, (k = 18 ∨ (55 ≤ k ∧ k < 63)) → S' k = S k) (h5 : S' 5 2 = S 5 2) : aimOk th pl hm fo wa ai am S' := by
  obtain ⟨h1, h2, h3, h4, h6⟩ := h
  exact ⟨fun b hb => by rw [hS 18 (by omega)]; exact h1 b hb, fun b hb hc w hw => by rw [hS (55 + b) (by omega)]; exact h2 b hb hc w hw, by rw [h5]; exact h3, h4, h6⟩
theorem due_has (hpl : 1 ≤ pl) {b w : Nat} (hd : dueN th pl hm fo wa ta row b < 1000000) (hw : w < enN fo pl b) : ∃ m, m < 2 ^ btN row ∧ AN th pl hm fo wa ta row b w m = true := by
  refine Classical.byContradiction (fun hno => ?_)
  have : dueN th pl hm fo wa ta row b = 1000000 := vv_none hw (fun m hm1 => by
    cases q : AN th pl hm fo wa ta row b w m
    · rfl
    · exact absurd ⟨m, hm1, q⟩ hno) _ _ (by omega) (Nat.le_refl _)
  omega
theorem tiesB (h : aimOk th pl hm fo wa ai am S0) (hw : wyOk ta row wy fy S0) (hpl : 1 ≤ pl ∧ pl ≤ 24) (hf : feN th pl hm fo wa ta row) {b : Nat} (hb : b < 8) : ∃ S2, uX5_tiesOf (nI b) S0 = some (nI (if crN th hm b = 0 then 0 else dueN th pl hm fo wa ta row b), S2) ∧ (∀ k, (k < 23 ∨ 25 < k) → S2 k = S0 k) ∧ (crN th hm b ≠ 0 → ∀ p, p ≤ enN fo pl b → PI S2 p (vvN (AN th pl hm fo wa ta row b) (2 ^ btN row) (enN fo pl b) (enN fo pl b - p))) := by
  have h16 := p16 (btN_le row)
  have hen := en_pos (fo := fo) hpl.1 b
  by_cases q : crN th hm b = 0
  · obtain ⟨S2, e1, e2, -⟩ := tiesX (S0 := S0) (A := AN th pl hm fo wa ta row b) (al := 2 ^ btN row) (e := 0) (ai := ai b) (fw := fun _ => 0) hb (by omega) h16 (by rw [h.1 b hb, if_pos q]) (fun w hw => by omega) (fun w hw => by omega) (fun w hw => by omega)
    exact ⟨S2, by rw [e1, if_pos q]; rfl, e2, fun z => absurd q z⟩
  · obtain ⟨S2, e1, e2, e3⟩ := tiesX (S0 := S0) (A := AN th pl hm fo wa ta row b) (al := 2 ^ btN row) (e := enN fo pl b) (ai := ai b) (fw := fun w => fy (ai b w)) hb (by omega) h16 (by rw [h.1 b hb, if_neg q]) (fun w hw => ⟨(h.2.1 b hb q w hw).1, (h.2.1 b hb q w hw).2.1⟩) (fun w hw1 => by
      have ha := (h.2.1 b hb q w hw1).2.1
      refine ⟨(hw.1 _ ha).2.1, (hw.1 _ ha).2.2.2, fun f => ?_⟩
      rw [hw.2.2]
      constructor
      · intro ⟨m, m1, m2, m3⟩
        exact ⟨m, m1, (A_ai h hb q hw1 m).mpr m2, m3⟩
      · intro ⟨m, m1, m2, m3⟩
        exact ⟨m, m1, (A_ai h hb q hw1 m).mp m2, m3⟩) (fun w hw1 => due_has hpl.1 (hf b hb q) hw1)
    exact ⟨S2, by rw [e1, if_neg q]; rfl, e2, fun _ => e3⟩
theorem keepsX {A : Nat → Nat → Bool} {al e p a m alw : Nat} (he : e ≤ 24) (hp1 : p < e) (ha : a < 16) (hm1 : m < 16) (hal : alw < 65536) (h1 : PI S p (vvN A al e (e - p))) (h2 : PI S (p + 1) (vvN A al e (e - 1 - p))) (hb : alw.testBit m = true ↔ m < al ∧ A p m = true) : uX5_keepsFewest (nI p) (nI a) (nI alw) (nI m) S = some (nI (if okM A al e p a m then 1 else 0), S) := by
  have hf := fre_lt m hm1
  have b1 := vv_far (A := A) (al := al) (e := e) (e - p) a
  have b2 := vv_far (A := A) (al := al) (e := e) (e - 1 - p) (freN m)
  have b3 := st_le (freN m) a
  have hx : freN m ^^^ (freN m &&& a) < 16777216 := Nat.lt_trans (Nat.xor_lt_two_pow (n := 4) hf (Nat.and_lt_two_pow _ ha)) (by decide)
  unfold uX5_keepsFewest bX5_keepsFewest_48 bX5_keepsFewest_49
  rw [freshX hm1, cl_some]
  simp only [li, ltE]
  rw [shrb (by omega) (by omega)]
  cases q : alw.testBit m
  · rw [bN00 q, jf00, rzI (by decide)]
    have : okM A al e p a m = false := by
      cases c : okM A al e p a m
      · rfl
      · have := okM_iff.mp c
        rw [hb.mpr ⟨this.1, this.2.1⟩] at q
        cases q
    rw [this]
    rfl
  · rw [bN1 q, jf10]
    obtain ⟨c1, c2⟩ := hb.mp q
    rw [andn, bcN hx, cl_some, st_eq _ hf _ ha, nI_add, tfX (by omega) hf h2, cl_some, tfX (by omega) ha h1, cl_some, nI_add]
    by_cases z : stN (freN m) a + vvN A al e (e - 1 - p) (freN m) = vvN A al e (e - p) a
    · rw [iEqT z, rzI (by decide), okM_iff.mpr ⟨c1, c2, z⟩]
      rfl
    · rw [iEqF z (by omega) (by omega), rzI (by decide)]
      have : okM A al e p a m = false := by
        cases c : okM A al e p a m
        · rfl
        · exact absurd (okM_iff.mp c).2.2 z
      rw [this]
      rfl
theorem leastX {A : Nat → Nat → Bool} {al e p alw : Nat} (hal16 : al ≤ 16) (h0 : vvN A al e e 0 < 1000000) (he : e ≤ 24) (hp1 : p < e) (hal : alw < 65536) (h1 : PI S p (vvN A al e (e - p))) (h2 : PI S (p + 1) (vvN A al e (e - 1 - p))) (hb : ∀ m, alw.testBit m = true ↔ m < al ∧ A p m = true) : uX5_leastBits (nI p) (nI (ahN A al e p)) (nI alw) S = some (nI (mpN A al e p), S) := by
  obtain ⟨m1, m2, m3⟩ := mp_ok hal16 h0 hp1
  have kx : ∀ m, m < 16 → uX5_keepsFewest (nI p) (nI (ahN A al e p)) (nI alw) (nI m) S = some (nI (if okM A al e p (ahN A al e p) m then 1 else 0), S) := fun m hm1 => keepsX he hp1 (ah_lt hal16 h0 p (by omega)) hm1 hal h1 h2 (hb m)
  unfold uX5_leastBits lX5_leastBits_3
  simp only [ltE, li]
  refine lpF (β := K4) (mpN A al e p) (by omega) (fun m k => k (nI p) (nI (ahN A al e p)) (nI alw) (nI m) S = some (nI (mpN A al e p), S)) (fun k => ?_) (fun m k hm1 ih => ?_)
  · unfold bX5_leastBits_3 bX5_leastBits_28
    simp only [li]
    by_cases q : 15 ≤ mpN A al e p
    · rw [iLeT q (by omega)]
    · rw [iLeF (by omega) (by omega), kx _ m2, cl_some, okM_iff.mpr m1, if_pos rfl, jf10]
  · unfold bX5_leastBits_3 bX5_leastBits_28
    simp only [li]
    rw [iLeF (by omega) (by omega), kx _ (by omega), cl_some, m3 m hm1, if_neg (show ¬ false = true by decide), jf00]
    simp only [ltE, nI_add]
    exact ih
def WiN (th pl : Nat) (hm fo : Nat → Nat) (wa : Nat → Nat → Nat) (ta : Nat → Nat) (row : Nat) (S0 : St) (b : Nat) (S : St) : Prop := (∀ k, k ≠ 6 → (k < 23 ∨ (25 < k ∧ k < 64)) → S k = S0 k) ∧ S 6 0 = nI 1 ∧ S 6 1 = nI row ∧ S 6 2 = nI (suN th pl hm fo wa ta row b) ∧ ∀ b', b' < b → ∀ p, p < pl → S (64 + b') p = nI (pbN th pl hm fo wa ta row b' p)
theorem writeX (X : XR th pl hm fo kn co ta va wa lo hi la ld lc lr n3 hp pr pt pb S0) (h : aimOk th pl hm fo wa ai am S0) (hw : wyOk ta row wy fy S0) (h53 : S0 5 3 = nI row) (hpl : 1 ≤ pl ∧ pl ≤ 24) (hfo : ∀ b, fo b < 2) (hf : feN th pl hm fo wa ta row) : ∃ S2, uX5_writeInto S0 = some (nI 0, S2) ∧ WiN th pl hm fo wa ta row S0 8 S2 := by
  have h16 := p16 (btN_le row)
  unfold uX5_writeInto uX4_begin lX5_writeInto_10
  simp only [lzE, ltE, li, cl_some, h53]
  refine lpF (β := K1) 8 (by decide) (fun b k10 => ∀ S, WiN th pl hm fo wa ta row S0 b S → ∃ S2, k10 (nI b) S = some (nI 0, S2) ∧ WiN th pl hm fo wa ta row S0 8 S2) (fun k10 S hS => ?_) (fun b k10 hb ih S hS => ?_) _ ⟨fun k h1 h2 => by rw [s2_row _ _ _ _ h1, s2_row _ _ _ _ h1, s2_row _ _ _ _ h1], rfl, rfl, rfl, fun b' hb' => by omega⟩
  · unfold bX5_writeInto_10
    simp only [li]
    rw [iLeT (by omega) (by omega)]
    exact ⟨S, rfl, hS⟩
  · obtain ⟨g1, g2, g3, g4, g5⟩ := hS
    have hen := en_pos (fo := fo) hpl.1 b
    have aS : aimOk th pl hm fo wa ai am S := aim_cg h (fun k hk => g1 k (by omega) (by omega)) (by rw [g1 5 (by decide) (by decide)])
    have wS : wyOk ta row wy fy S := ⟨fun c hc => by rw [g1 21 (by decide) (by decide), g1 22 (by decide) (by decide)]; exact hw.1 c hc, hw.2⟩
    obtain ⟨S1, t1, t2, t3⟩ := tiesB aS wS hpl hf hb
    unfold bX5_writeInto_10 uX4_addTies
    simp only [li]
    rw [iLeF (by omega) (by omega), t1, cl_some, t2 6 (by decide), g4, nI_add]
    simp only [lzE, ltE, cl_some]
    obtain ⟨S3, eS3⟩ : ∃ S3, S3 = s2 S1 6 2 (nI (suN th pl hm fo wa ta row b + (if crN th hm b = 0 then 0 else dueN th pl hm fo wa ta row b))) := ⟨_, rfl⟩
    rw [← eS3]
    have r3 : ∀ k, k ≠ 6 → S3 k = S1 k := fun k hk => by rw [eS3]; exact s2_row _ _ _ _ hk
    have a3 : ∀ k, k ≠ 6 → (k < 23 ∨ (25 < k ∧ k < 64)) → S3 k = S0 k := fun k h1 h2 => by rw [r3 k h1, t2 k (by omega)]; exact g1 k h1 h2
    have s18 : S3 18 b = nI (if crN th hm b = 0 then 0 else enN fo pl b) := by rw [a3 18 (by decide) (by decide)]; exact h.1 b hb
    have s31 : S3 3 1 = nI pl := by rw [a3 3 (by decide) (by decide)]; exact X.1.2
    have s14 : rA 8 fo (S3 14) := by rw [a3 14 (by decide) (by decide)]; exact X.2.2.2.1
    -- behind the span
    have tail : ∀ S : St, (∀ k, k ≠ 64 + b → S k = S3 k) → (∀ q, q < (if crN th hm b = 0 then 0 else enN fo pl b) → S (64 + b) q = nI (pbN th pl hm fo wa ta row b q)) → ∃ S2, lX5_writeInto_96 k10 FU (nI b) (nI (if crN th hm b = 0 then 0 else enN fo pl b)) S = some (nI 0, S2) ∧ WiN th pl hm fo wa ta row S0 8 S2 := fun S hS hq => by
      unfold lX5_writeInto_96
      have hsp : (if crN th hm b = 0 then 0 else enN fo pl b) ≤ pl := by split <;> omega
      refine lpFi (β := K2) pl (if crN th hm b = 0 then 0 else enN fo pl b) hsp (by omega) (fun p k96 => (if crN th hm b = 0 then 0 else enN fo pl b) ≤ p → ∀ S : St, (∀ k, k ≠ 64 + b → S k = S3 k) → (∀ q, q < p → S (64 + b) q = nI (pbN th pl hm fo wa ta row b q)) → ∃ S2, k96 (nI b) (nI p) S = some (nI 0, S2) ∧ WiN th pl hm fo wa ta row S0 8 S2) (fun k96 hp0 S hS hq => ?_) (fun p k96 hp1 ih2 hp0 S hS hq => ?_) (Nat.le_refl _) S hS hq
      · unfold bX5_writeInto_96 uX0_places
        rw [cl_some, hS 3 (by omega), s31, iLeT (Nat.le_refl _) (by omega)]
        simp only [li, ltE, nI_add]
        refine ih S ⟨fun k h1 h2 => by rw [hS k (by omega)]; exact a3 k h1 h2, ?_, ?_, ?_, fun b' hb' p hp1 => ?_⟩
        · rw [hS 6 (by omega), eS3, s2_get, if_neg (by decide), t2 6 (by decide)]; exact g2
        · rw [hS 6 (by omega), eS3, s2_get, if_neg (by decide), t2 6 (by decide)]; exact g3
        · rw [hS 6 (by omega), eS3, s2_get, if_pos ⟨rfl, rfl⟩, su_s]
        · by_cases e : b' = b
          · rw [e]; exact hq p hp1
          · rw [hS _ (by omega), r3 _ (by omega), t2 _ (by omega)]; exact g5 b' (by omega) p hp1
      · have wrote : ∀ v, nI v = nI (pbN th pl hm fo wa ta row b p) → ∃ S2, k96 (nI b) (nI (p + 1)) (s2 S (64 + b) p (nI v)) = some (nI 0, S2) ∧ WiN th pl hm fo wa ta row S0 8 S2 := fun v hv => by
          refine ih2 (by omega) _ (fun k hk => by rw [s2_row _ _ _ _ hk]; exact hS k hk) (fun q hq1 => ?_)
          rw [s2_hit, upd_get]
          by_cases e : q = p
          · rw [if_pos e, e]; exact hv
          · rw [if_neg e]; exact hq q (by omega)
        unfold bX5_writeInto_96 uX0_places bX5_writeInto_134 uX4_write
        rw [cl_some, hS 3 (by omega), s31, iLeF (by omega) (by omega), ckI (by omega) (by omega), clI (by omega), hS 18 (by omega), s18]
        simp only [li]
        by_cases q : crN th hm b = 0
        · rw [if_pos q, jf00]
          simp (disch := omega) only [ckI, cknI, clI, lzE, cl_some, ltE, nI_add]
          refine wrote 0 ?_
          unfold pbN
          rw [if_pos q]
        · rw [if_neg q] at hp0
          have hun := un_lt hfo hp1 b (fo := fo)
          have hu2 : unN fo pl b (unN fo pl b p) = unN fo pl b p := un_self hun
          rw [if_neg q, iEqF (by omega) (by omega) (by omega), underX (by rw [hS 3 (by omega)]; exact s31) hpl.2 (by rw [hS 14 (by omega)]; exact s14) hfo hb hp1, cl_some]
          unfold uX4_bitsAt
          have eq := hq (unN fo pl b p) (by omega)
          simp (disch := omega) only [ckI, cknI, clI, lzE, cl_some, ltE, nI_add, eq]
          refine wrote _ ?_
          unfold pbN
          rw [if_neg q, hu2, if_neg q]
    unfold lX5_writeInto_31
    by_cases q : crN th hm b = 0
    · -- no threads: nothing within the span
      rw [FU_eq]
      show ∃ S2, bX5_writeInto_31 k10 _ (nI b) (nI 0) (nI 0) S3 = some (nI 0, S2) ∧ _
      unfold bX5_writeInto_31
      have tl := tail S3 (fun _ _ => rfl) (fun z hz => by rw [if_pos q] at hz; omega)
      rw [if_pos q] at tl s18
      rw [ckI (by omega) (by omega), clI (by omega), s18, iLeT (by omega) (by omega), ckI (by omega) (by omega), ltE]
      exact tl
    · have hd := hf b hb q
      rw [if_neg q] at tail s18
      have rest3 : ∀ p, p ≤ enN fo pl b → PI S3 p (vvN (AN th pl hm fo wa ta row b) (2 ^ btN row) (enN fo pl b) (enN fo pl b - p)) := fun p hp1 => (t3 q p hp1).cg (by rw [r3 23 (by decide)]) (by rw [r3 24 (by decide)]) (by rw [r3 25 (by decide)])
      refine lpF (β := K3) (enN fo pl b) (by omega) (fun p k31 => ∀ S : St, (∀ k, k ≠ 64 + b → S k = S3 k) → (∀ q, q < p → S (64 + b) q = nI (mpN (AN th pl hm fo wa ta row b) (2 ^ btN row) (enN fo pl b) q)) → ∃ S2, k31 (nI b) (nI (ahN (AN th pl hm fo wa ta row b) (2 ^ btN row) (enN fo pl b) p)) (nI p) S = some (nI 0, S2) ∧ WiN th pl hm fo wa ta row S0 8 S2) (fun k31 S hS hq => ?_) (fun p k31 hp1 ih2 S hS hq => ?_) S3 (fun _ _ => rfl) (fun z hz => by omega)
      · unfold bX5_writeInto_31
        rw [ckI (by omega) (by omega), clI (by omega), hS 18 (by omega), s18, iLeT (Nat.le_refl _) (by omega), ckI (by omega) (by omega), ltE]
        refine tail S hS (fun z hz => ?_)
        rw [hq z hz, pb_eq hfo q hd (by omega), un_self hz]
      · obtain ⟨a1, a2, -⟩ := h.2.1 b hb q p hp1
        have m16 := (mp_ok (A := AN th pl hm fo wa ta row b) (e := enN fo pl b) h16 hd hp1).2.1
        have s55 : S (55 + b) p = nI (ai b p) := by rw [hS _ (by omega), a3 _ (by omega) (by omega)]; exact a1
        have s21 : S 21 (ai b p) = nI (wy (ai b p)) := by rw [hS _ (by omega), a3 _ (by omega) (by omega)]; exact (hw.1 _ a2).1
        have lx := leastX (S := S) (A := AN th pl hm fo wa ta row b) (al := 2 ^ btN row) (e := enN fo pl b) (p := p) (alw := wy (ai b p)) h16 hd (by omega) hp1 (hw.1 _ a2).2.2.1 ((rest3 p (by omega)).cg (by rw [hS 23 (by omega)]) (by rw [hS 24 (by omega)]) (by rw [hS 25 (by omega)])) (by
          have z := rest3 (p + 1) (by omega)
          rw [show enN fo pl b - (p + 1) = enN fo pl b - 1 - p by omega] at z
          exact z.cg (by rw [hS 23 (by omega)]) (by rw [hS 24 (by omega)]) (by rw [hS 25 (by omega)])) (fun m => by
          rw [hw.2.1]
          constructor
          · intro ⟨m1, m2⟩; exact ⟨m1, (A_ai h hb q hp1 m).mpr m2⟩
          · intro ⟨m1, m2⟩; exact ⟨m1, (A_ai h hb q hp1 m).mp m2⟩)
        unfold bX5_writeInto_31 uX4_write
        rw [ckI (by omega) (by omega), clI (by omega), hS 18 (by omega), s18, iLeF (by omega) (by omega), ckI (by omega) (by omega), cknI (by omega), ckI (by omega) (by omega), clI (by omega), s55, ckI (by omega) (by omega), clI (by omega), s21, lx, cl_some]
        simp (disch := omega) only [ltE, ckI, cknI, clI, lzE, cl_some]
        rw [freshX m16, cl_some]
        simp only [li, nI_add]
        refine ih2 _ (fun k hk => by rw [s2_row _ _ _ _ hk]; exact hS k hk) (fun z hz => ?_)
        rw [s2_hit, upd_get]
        by_cases e : z = p
        · rw [if_pos e, e]
        · rw [if_neg e]; exact hq z (by omega)
theorem XR.plan (X : XR th pl hm fo kn co ta va wa lo hi la ld lc lr n3 hp pr pt pb S0) (h : WiN th pl hm fo wa ta row S0 8 S) : XR th pl hm fo kn co ta va wa lo hi la ld lc lr n3 1 row (suN th pl hm fo wa ta row 8) (pbN th pl hm fo wa ta row) S := by
  obtain ⟨x1, x2, x3, x4, x5, x6, x7, x8, x9, x10, x11, x12, x13, x14⟩ := X
  obtain ⟨g1, g2, g3, g4, g5⟩ := h
  exact ⟨by rw [g1 3 (by decide) (by decide)]; exact x1, by rw [g1 12 (by decide) (by decide)]; exact x2, by rw [g1 13 (by decide) (by decide)]; exact x3, by rw [g1 14 (by decide) (by decide)]; exact x4, by rw [g1 15 (by decide) (by decide)]; exact x5, fun b hb => by rw [g1 _ (by omega) (by omega)]; exact x6 b hb, by rw [g1 9 (by decide) (by decide)]; exact x7, by rw [g1 10 (by decide) (by decide)]; exact x8, fun b hb => by rw [g1 _ (by omega) (by omega)]; exact x9 b hb, by rw [g1 26 (by decide) (by decide), g1 27 (by decide) (by decide)]; exact x10, by rw [g1 8 (by decide) (by decide), g1 28 (by decide) (by decide), g1 29 (by decide) (by decide), g1 30 (by decide) (by decide)]; exact x11, by rw [g1 0 (by decide) (by decide)]; exact x12, g2, fun _ => ⟨g3, g4, fun b hb p hp1 => g5 b hb p hp1⟩⟩
end
