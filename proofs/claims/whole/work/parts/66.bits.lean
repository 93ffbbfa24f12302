/-! pure rows: bits of numbers, Integer.bitCount, rows of baths -/
theorem bt_nI (n : Nat) {i : Nat} (hi : i < 32) : bt (nI n) i = n.testBit i := by
  unfold bt
  show (BitVec.ofNat 32 n).getLsbD i = _
  rw [BitVec.getLsbD_ofNat]
  simp [hi]
theorem bNd (k p : Nat) : bN k p = k / 2 ^ p % 2 := by
  unfold bN
  rw [Nat.testBit_eq_decide_div_mod_eq]
  by_cases h : k / 2 ^ p % 2 = 1
  · simp [h]
  · have : k / 2 ^ p % 2 = 0 := by omega
    simp [this]
theorem bN_lt (k p : Nat) : bN k p < 2 := by rw [bNd]; exact Nat.mod_lt _ (by decide)
theorem bN1 {k p : Nat} (h : k.testBit p = true) : bN k p = 1 := by unfold bN; rw [h]; rfl
theorem bN00 {k p : Nat} (h : k.testBit p = false) : bN k p = 0 := by unfold bN; rw [h]; rfl
theorem shrI {k p : Nat} (hk : k < 2147483648) (hp : p < 32) : nI k >>> (nI p &&& nI 31) = nI (k / 2 ^ p) := pk_shrN (by omega) _ p (s_l p hp)
theorem shlI {k p : Nat} (hp : p < 32) (h : k * 2 ^ p < 4294967296) : nI k <<< (nI p &&& nI 31) = nI (k * 2 ^ p) := pk_shlN _ p (s_l p hp) (by omega)
theorem shl1I {p : Nat} (hp : p < 32) : nI 1 <<< (nI p &&& nI 31) = nI (2 ^ p) := by
  have h := pk_shlN (n := 1) (nI p &&& 31) p (s_l p hp) (by rw [Nat.one_mul]; exact Nat.pow_lt_pow_right (by decide) hp)
  rw [Nat.one_mul] at h
  exact h
theorem ushrI {k p : Nat} (hk : k < 4294967296) (hp : p < 32) : ((nI k).toUInt32 >>> ((nI p).toUInt32 &&& Int32.toUInt32 (nI 31))).toInt32 = nI (k / 2 ^ p) := pk_ushrN (by omega) _ p (s_u p hp)
theorem and_1 (k : Nat) : nI k &&& nI 1 = nI (k % 2) := fa_mask k 1
theorem and_3 (k : Nat) : nI k &&& nI 3 = nI (k % 4) := fa_mask k 2
theorem and_7 (k : Nat) : nI k &&& nI 7 = nI (k % 8) := fa_mask k 3
theorem and_63 (k : Nat) : nI k &&& nI 63 = nI (k % 64) := fa_mask k 6
theorem shrb {k p : Nat} (hk : k < 2147483648) (hp : p < 32) : nI k >>> (nI p &&& nI 31) &&& nI 1 = nI (bN k p) := by rw [shrI hk hp, and_1, bNd]
theorem andn (a b : Nat) : nI a &&& (nI b ^^^ -nI 1) = nI (a ^^^ (a &&& b)) := by
  apply b_ext
  intro i hi
  rw [b_and, b_xor, bt_nI a hi, bt_nI b hi, bt_nI _ hi, show bt (-nI 1) i = true from b_m1 i hi, Nat.testBit_xor, Nat.testBit_and]
  cases a.testBit i <;> cases b.testBit i <;> rfl
theorem eqm1F {α : Type} {a : Nat} {x y : α} (h : a < 2147483648) : (if nI a = -nI 1 then x else y) = y := if_neg (fun q => by
  rw [fa_eq, nI_toInt (by omega)] at q
  have : (-nI 1).toInt = -1 := by decide +kernel
  omega)
theorem eqm1T {α : Type} {x y : α} : (if -nI 1 = -nI 1 then x else y) = x := if_pos rfl
theorem eq0_32 {a : Nat} (h : a < 4294967296) : nI a = nI 0 ↔ a = 0 := by
  constructor
  · intro e
    have := congrArg (fun x : Int32 => x.toBitVec.toNat) e
    simp only [pk_tn (show a < 2 ^ 32 by omega), pk_tn (show 0 < 2 ^ 32 by decide)] at this
    exact this
  · intro e; rw [e]
theorem and8 (x y : Nat) : x &&& y = (x % 256 &&& y % 256) + 256 * (x / 256 &&& y / 256) := by
  have h1 : (x &&& y) % 2 ^ 8 = (x % 2 ^ 8) &&& (y % 2 ^ 8) := Nat.and_mod_two_pow
  have h2 : (x &&& y) / 2 ^ 8 = (x / 2 ^ 8) &&& (y / 2 ^ 8) := Nat.and_div_two_pow
  have h3 := Nat.mod_add_div (x &&& y) (2 ^ 8)
  rw [h1, h2] at h3
  exact h3.symm
theorem and24 {a b c A B C : Nat} (ha : a < 256) (hb : b < 256) (hA : A < 256) (hB : B < 256) : (a + 256 * b + 65536 * c) &&& (A + 256 * B + 65536 * C) = (a &&& A) + 256 * (b &&& B) + 65536 * (c &&& C) := by
  rw [and8 (a + 256 * b + 65536 * c) (A + 256 * B + 65536 * C), show (a + 256 * b + 65536 * c) % 256 = a by omega, show (A + 256 * B + 65536 * C) % 256 = A by omega, show (a + 256 * b + 65536 * c) / 256 = b + 256 * c by omega, show (A + 256 * B + 65536 * C) / 256 = B + 256 * C by omega, and8 (b + 256 * c) (B + 256 * C), show (b + 256 * c) % 256 = b by omega, show (B + 256 * C) % 256 = B by omega, show (b + 256 * c) / 256 = c by omega, show (B + 256 * C) / 256 = C by omega]
  generalize a &&& A = u
  generalize b &&& B = v
  generalize c &&& C = w
  omega
def bc1 (a : Nat) : Nat := a - ((a / 2) &&& 85)
def bc2 (a : Nat) : Nat := (bc1 a &&& 51) + ((bc1 a / 4) &&& 51)
def bc3 (a : Nat) : Nat := fb_ct (fun i => a.testBit i) 8
theorem bcF1 : ∀ a, a < 256 → ((a / 2) &&& 85) ≤ a ∧ bc1 a < 256 ∧ ((a / 2) &&& 21845) = ((a / 2) &&& 85) ∧ ∀ e, e < 2 → ((a / 2 + 128 * e) &&& 85) = ((a / 2) &&& 85) := by decide +kernel
theorem bcF2 : ∀ a, a < 256 → bc2 a < 256 ∧ bc2 a / 16 ≤ 4 ∧ bc2 a % 16 ≤ 4 ∧ (bc1 a &&& 13107) = (bc1 a &&& 51) ∧ ((bc1 a / 4) &&& 13107) = ((bc1 a / 4) &&& 51) ∧ ∀ e, e < 4 → ((bc1 a / 4 + 64 * e) &&& 51) = ((bc1 a / 4) &&& 51) := by decide +kernel
theorem bcF3 : ∀ a, a < 256 → bc3 a ≤ 8 ∧ ((bc2 a + bc2 a / 16) &&& 3855) = bc3 a ∧ ∀ e, e < 5 → bc2 a + bc2 a / 16 + 16 * e < 256 ∧ ((bc2 a + bc2 a / 16 + 16 * e) &&& 15) = bc3 a := by decide +kernel
theorem bcE7 {A B C w : Nat} (hA : A ≤ 8) (hB : B ≤ 8) (hC : C ≤ 8) (e : w = A + 256 * B + 65536 * C) : (w + w / 2 ^ 8 + (w + w / 2 ^ 8) / 2 ^ 16) % 64 = A + B + C := by
  have h1 : w / 2 ^ 8 = B + 256 * C := by omega
  have h2 : (w + w / 2 ^ 8) / 2 ^ 16 = C := by omega
  rw [h2, h1, e]
  omega
theorem bcN {n : Nat} (hn : n < 16777216) (S : St) : uJ6_bitCount_0f7a4 (nI n) S = some (nI (pcn n 24), S) := by
  obtain ⟨a, ea⟩ : ∃ a, a = n % 256 := ⟨_, rfl⟩
  obtain ⟨b, eb⟩ : ∃ b, b = n / 256 % 256 := ⟨_, rfl⟩
  obtain ⟨c, ec⟩ : ∃ c, c = n / 65536 := ⟨_, rfl⟩
  have ha : a < 256 := by omega
  have hb : b < 256 := by omega
  have hc : c < 256 := by omega
  have en : n = a + 256 * b + 65536 * c := by omega
  obtain ⟨fa1, fa2, fa3, fa4⟩ := bcF1 a ha
  obtain ⟨fb1, fb2, fb3, fb4⟩ := bcF1 b hb
  obtain ⟨fc1, fc2, fc3, fc4⟩ := bcF1 c hc
  obtain ⟨ga1, ga2, ga3, ga4, ga5, ga6⟩ := bcF2 a ha
  obtain ⟨gb1, gb2, gb3, gb4, gb5, gb6⟩ := bcF2 b hb
  obtain ⟨gc1, gc2, gc3, gc4, gc5, gc6⟩ := bcF2 c hc
  obtain ⟨ka1, ka2, ka3⟩ := bcF3 a ha
  obtain ⟨kb1, kb2, kb3⟩ := bcF3 b hb
  obtain ⟨kc1, kc2, kc3⟩ := bcF3 c hc
  have e1 : n / 2 ^ 1 &&& 1431655765 = (a / 2 &&& 85) + 256 * (b / 2 &&& 85) + 65536 * (c / 2 &&& 85) := by
    rw [show n / 2 ^ 1 = (a / 2 + 128 * (b % 2)) + 256 * (b / 2 + 128 * (c % 2)) + 65536 * (c / 2) by omega, show (1431655765 : Nat) = 85 + 256 * 85 + 65536 * 21845 by decide, and24 (by omega) (by omega) (by decide) (by decide), fa4 _ (by omega), fb4 _ (by omega), fc3]
  have e2 : n - ((a / 2 &&& 85) + 256 * (b / 2 &&& 85) + 65536 * (c / 2 &&& 85)) = bc1 a + 256 * bc1 b + 65536 * bc1 c := by
    unfold bc1
    generalize a / 2 &&& 85 = u at *
    generalize b / 2 &&& 85 = v at *
    generalize c / 2 &&& 85 = w at *
    omega
  obtain ⟨w1, ew1⟩ : ∃ w1, w1 = bc1 a + 256 * bc1 b + 65536 * bc1 c := ⟨_, rfl⟩
  have e3 : w1 &&& 858993459 = (bc1 a &&& 51) + 256 * (bc1 b &&& 51) + 65536 * (bc1 c &&& 51) := by
    rw [ew1, show (858993459 : Nat) = 51 + 256 * 51 + 65536 * 13107 by decide, and24 fa2 fb2 (by decide) (by decide), gc4]
  have e4 : w1 / 2 ^ 2 &&& 858993459 = (bc1 a / 4 &&& 51) + 256 * (bc1 b / 4 &&& 51) + 65536 * (bc1 c / 4 &&& 51) := by
    rw [show w1 / 2 ^ 2 = (bc1 a / 4 + 64 * (bc1 b % 4)) + 256 * (bc1 b / 4 + 64 * (bc1 c % 4)) + 65536 * (bc1 c / 4) by omega, show (858993459 : Nat) = 51 + 256 * 51 + 65536 * 13107 by decide, and24 (by omega) (by omega) (by decide) (by decide), ga6 _ (by omega), gb6 _ (by omega), gc5]
  have e5 : ((bc1 a &&& 51) + 256 * (bc1 b &&& 51) + 65536 * (bc1 c &&& 51)) + ((bc1 a / 4 &&& 51) + 256 * (bc1 b / 4 &&& 51) + 65536 * (bc1 c / 4 &&& 51)) = bc2 a + 256 * bc2 b + 65536 * bc2 c := by
    unfold bc2
    generalize bc1 a &&& 51 = u
    generalize bc1 b &&& 51 = v
    generalize bc1 c &&& 51 = w
    generalize bc1 a / 4 &&& 51 = u'
    generalize bc1 b / 4 &&& 51 = v'
    generalize bc1 c / 4 &&& 51 = w'
    omega
  obtain ⟨w2, ew2⟩ : ∃ w2, w2 = bc2 a + 256 * bc2 b + 65536 * bc2 c := ⟨_, rfl⟩
  have ha3 := ka3 (bc2 b % 16) (by omega)
  have hb3 := kb3 (bc2 c % 16) (by omega)
  have e6 : (w2 + w2 / 2 ^ 4) &&& 252645135 = bc3 a + 256 * bc3 b + 65536 * bc3 c := by
    rw [show w2 + w2 / 2 ^ 4 = (bc2 a + bc2 a / 16 + 16 * (bc2 b % 16)) + 256 * (bc2 b + bc2 b / 16 + 16 * (bc2 c % 16)) + 65536 * (bc2 c + bc2 c / 16) by omega, show (252645135 : Nat) = 15 + 256 * 15 + 65536 * 3855 by decide, and24 ha3.1 hb3.1 (by decide) (by decide), ha3.2, hb3.2, kc2]
  obtain ⟨w3, ew3⟩ : ∃ w3, w3 = bc3 a + 256 * bc3 b + 65536 * bc3 c := ⟨_, rfl⟩
  have e7 : (w3 + w3 / 2 ^ 8 + (w3 + w3 / 2 ^ 8) / 2 ^ 16) % 64 = bc3 a + bc3 b + bc3 c := bcE7 ka1 kb1 kc1 ew3
  have e8 : pcn n 24 = bc3 a + bc3 b + bc3 c := by
    unfold pcn bc3
    rw [show (24 : Nat) = 8 + (8 + 8) from rfl, fb_ct_split, fb_ct_split]
    have q1 : fb_ct (fun i => n.testBit i) 8 = fb_ct (fun i => a.testBit i) 8 := fb_ct_cong (fun k hk => by
      rw [ea, show (256 : Nat) = 2 ^ 8 from rfl, Nat.testBit_mod_two_pow]; simp [hk])
    have q2 : fb_ct (fun k => n.testBit (8 + k)) 8 = fb_ct (fun i => b.testBit i) 8 := fb_ct_cong (fun k hk => by
      rw [eb, show (256 : Nat) = 2 ^ 8 from rfl, Nat.testBit_mod_two_pow, Nat.testBit_div_two_pow]; simp [hk, Nat.add_comm])
    have q3 : fb_ct (fun k => n.testBit (8 + (8 + k))) 8 = fb_ct (fun i => c.testBit i) 8 := fb_ct_cong (fun k hk => by
      rw [ec, show (65536 : Nat) = 2 ^ 16 from rfl, Nat.testBit_div_two_pow, show k + 16 = 8 + (8 + k) by omega])
    rw [q1, q2, q3]
    omega
  unfold uJ6_bitCount_0f7a4
  simp only [ltE, li]
  rw [ushrI (k := n) (p := 1) (by omega) (by decide), fa_and, e1, pk_sub (by rw [← e1]; exact Nat.le_trans Nat.and_le_left (Nat.div_le_self _ _)), e2, ← ew1, ushrI (k := w1) (p := 2) (by omega) (by decide), fa_and, fa_and, e3, e4, nI_add, e5, ← ew2, ushrI (k := w2) (p := 4) (by omega) (by decide), nI_add, fa_and, e6, ← ew3, ushrI (k := w3) (p := 8) (by omega) (by decide), nI_add, ushrI (k := w3 + w3 / 2 ^ 8) (p := 16) (by omega) (by decide), nI_add, and_63, e7, e8]
/-- dyes and baths of a row -/
theorem pow8 (k : Nat) : 2 ^ (3 * k) = 8 ^ k := by rw [Nat.pow_mul]
theorem dyeX {row k : Nat} (hr : row < 2147483648) (hk : k < 10) (S : St) : uX8_dyeOf (nI row) (nI k) S = some (nI (dyN row k) - nI 1, S) := by
  unfold uX8_dyeOf dyN
  simp only [li]
  rw [pk_mul, shrI hr (by omega), and_7, pow8]
theorem dyM {row k : Nat} (hr : row < 2147483648) (hk : k < 10) : nI row >>> (nI 3 * nI k &&& nI 31) &&& nI 7 = nI (dyN row k) := by
  unfold dyN
  rw [pk_mul, shrI hr (by omega), and_7, pow8]
theorem dyN_lt (row k : Nat) : dyN row k < 8 := Nat.mod_lt _ (by decide)
theorem subm1 {a : Nat} (h : a < 1000) : nI a - nI 1 = -nI 1 ↔ a = 0 := by
  rw [fa_eq, pk_sub_toInt (by omega) (by omega), show (-nI 1).toInt = -1 by decide +kernel]
  omega
theorem btN_le (row : Nat) : btN row ≤ 4 := by
  unfold btN
  split
  · omega
  split
  · omega
  split
  · omega
  split <;> omega
theorem btN_nz {row k : Nat} (h : k < btN row) : dyN row k ≠ 0 := by
  unfold btN at h
  intro q
  split at h
  · omega
  split at h
  · rw [show k = 0 by omega] at q; contradiction
  split at h
  · have : k = 0 ∨ k = 1 := by omega
    rcases this with e | e <;> rw [e] at q <;> contradiction
  split at h
  · have : k = 0 ∨ k = 1 ∨ k = 2 := by omega
    rcases this with e | e | e <;> rw [e] at q <;> contradiction
  · have : k = 0 ∨ k = 1 ∨ k = 2 ∨ k = 3 := by omega
    rcases this with e | e | e | e <;> rw [e] at q <;> contradiction
theorem btN_at {row i : Nat} (hi : i ≤ 4) (h : ∀ j, j < i → dyN row j ≠ 0) (h0 : i = 4 ∨ dyN row i = 0) : btN row = i := by
  have h1 : ¬ btN row < i := fun q => by
    unfold btN at q
    split at q
    · exact h 0 (by omega) (by assumption)
    split at q
    · exact h 1 (by omega) (by assumption)
    split at q
    · exact h 2 (by omega) (by assumption)
    split at q
    · exact h 3 (by omega) (by assumption)
    · omega
  have h2 : ¬ i < btN row := fun q => by
    rcases h0 with e | e
    · have := btN_le row; omega
    · exact btN_nz q e
  omega
theorem bathsX {row : Nat} (hr : row < 2147483648) (S : St) : uX8_bathsOf (nI row) S = some (nI (btN row), S) := by
  unfold uX8_bathsOf lX8_bathsOf_2
  simp only [ltE, li]
  refine lpF (β := K2) 4 (by decide) (fun i k => (∀ j, j < i → dyN row j ≠ 0) → k (nI row) (nI i) S = some (nI (btN row), S)) (fun k h => ?_) (fun i k hi ih h => ?_) (fun j hj => by omega)
  · unfold bX8_bathsOf_2 bX8_bathsOf_22
    simp only [li]
    rw [iLeT (by omega) (by omega), btN_at (by omega) h (Or.inl rfl)]
  · unfold bX8_bathsOf_2 bX8_bathsOf_22
    simp only [li]
    rw [iLeF (by omega) (by omega), dyeX hr (by omega), cl_some]
    by_cases e : dyN row i = 0
    · rw [if_pos ((subm1 (by have := dyN_lt row i; omega)).mpr e), btN_at (by omega) h (Or.inr e)]
    · rw [if_neg (fun q => e ((subm1 (by have := dyN_lt row i; omega)).mp q)), ltE, nI_add]
      exact ih (fun j hj => by
        by_cases q : j = i
        · rw [q]; exact e
        · exact h j (by omega))
theorem bathsM0 {row n : Nat} (hr : row < 4294967296) (h0 : row / 8 ^ n = 0) (h1 : ∀ j, j < n → row / 8 ^ j ≠ 0) (hn : n < 20) (T : St) : uX9_bathsOf (nI row) T = some (nI n, T) := by
  unfold uX9_bathsOf lX9_bathsOf_4
  simp only [ltE, li]
  have key := lpF n (by omega) (b := fun k4 => bX9_bathsOf_4 k4) (z := fun _ _ _ => none) (fun i k => k (nI i) (nI (row / 8 ^ i)) T = some (nI n, T)) (fun k => by
    unfold bX9_bathsOf_4
    simp only [li]
    rw [h0, if_pos rfl]) (fun i k hi ih => by
    unfold bX9_bathsOf_4
    simp only [li, ltE]
    have hlt : row / 8 ^ i < 4294967296 := Nat.lt_of_le_of_lt (Nat.div_le_self _ _) hr
    rw [if_neg (fun q => h1 i hi ((eq0_32 hlt).mp q)), nI_add, ushrI hlt (by decide), Nat.div_div_eq_div_mul, show (8 : Nat) ^ i * 2 ^ 3 = 8 ^ (i + 1) from rfl]
    exact ih)
  rw [Nat.pow_zero, Nat.div_one] at key
  exact key
theorem okR_nz {row : Nat} (h : okR row) {j : Nat} (hj : j < btN row) : row / 8 ^ j ≠ 0 := fun q => by
  have := btN_nz hj
  unfold dyN at this
  rw [q] at this
  exact this rfl
theorem bathsM {row : Nat} (h : okR row) (T : St) : uX9_bathsOf (nI row) T = some (nI (btN row), T) := bathsM0 (by have := h.1; omega) h.2.1 (fun j hj => okR_nz h hj) (by have := btN_le row; omega) T
