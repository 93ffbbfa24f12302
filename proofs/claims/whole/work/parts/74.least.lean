/-! pure rows: least ties, in numbers alone -/
def mnN (f : Nat → Nat) : Nat → Nat
  | 0 => 1000000
  | n + 1 => min (mnN f n) (f n)
theorem mnN_s (f : Nat → Nat) (n : Nat) : mnN f (n + 1) = min (mnN f n) (f n) := rfl
theorem le_mn (f : Nat → Nat) (z : Nat) : ∀ n, z ≤ mnN f n ↔ z ≤ 1000000 ∧ ∀ h, h < n → z ≤ f h
  | 0 => ⟨fun h => ⟨h, fun h hh => by omega⟩, fun h => h.1⟩
  | n + 1 => by
    rw [mnN_s, Nat.le_min, le_mn f z n]
    constructor
    · intro ⟨⟨h0, h1⟩, h2⟩
      refine ⟨h0, fun h hh => ?_⟩
      by_cases e : h = n
      · rw [e]; exact h2
      · exact h1 h (by omega)
    · intro ⟨h0, h1⟩
      exact ⟨⟨h0, fun h hh => h1 h (by omega)⟩, h1 n (by omega)⟩
theorem mn_far (f : Nat → Nat) (n : Nat) : mnN f n ≤ 1000000 := ((le_mn f _ n).mp (Nat.le_refl _)).1
theorem mn_le {f : Nat → Nat} {n h : Nat} (hh : h < n) : mnN f n ≤ f h := ((le_mn f _ n).mp (Nat.le_refl _)).2 h hh
theorem mn_at {f : Nat → Nat} : ∀ {n}, mnN f n < 1000000 → ∃ h, h < n ∧ f h = mnN f n
  | 0, h => by rw [show mnN f 0 = 1000000 from rfl] at h; omega
  | n + 1, h => by
    rw [mnN_s] at h ⊢
    by_cases q : mnN f n ≤ f n
    · rw [Nat.min_eq_left q] at h ⊢
      obtain ⟨k, k1, k2⟩ := mn_at h
      exact ⟨k, by omega, k2⟩
    · rw [Nat.min_eq_right (by omega)]
      exact ⟨n, by omega, rfl⟩
theorem mn_cong {f g : Nat → Nat} {n m : Nat} (h1 : ∀ z, (z ≤ 1000000 ∧ ∀ h, h < n → z ≤ f h) ↔ (z ≤ 1000000 ∧ ∀ h, h < m → z ≤ g h)) : mnN f n = mnN g m := by
  apply Nat.le_antisymm
  · exact (le_mn g _ m).mpr ((h1 _).mp ((le_mn f _ n).mp (Nat.le_refl _)))
  · exact (le_mn f _ n).mpr ((h1 _).mpr ((le_mn g _ m).mp (Nat.le_refl _)))
theorem mn_min {f g : Nat → Nat} {n : Nat} (h : ∀ k, k < n → (f k = g k ∨ (1000000 ≤ f k ∧ 1000000 ≤ g k))) : mnN f n = mnN g n := mn_cong (fun z => by
  constructor
  · intro ⟨h0, h1⟩
    refine ⟨h0, fun k hk => ?_⟩
    have := h1 k hk
    rcases h k hk with e | e
    · rw [← e]; exact this
    · omega
  · intro ⟨h0, h1⟩
    refine ⟨h0, fun k hk => ?_⟩
    have := h1 k hk
    rcases h k hk with e | e
    · rw [e]; exact this
    · omega)
theorem fre_lt : ∀ m, m < 16 → freN m < 16 := by decide +kernel
theorem st_le (f g : Nat) : stN f g ≤ 4 := fb_ct_le _ _
theorem st_self : ∀ f, f < 16 → stN f f = 0 := by decide +kernel
theorem st_tri : ∀ a, a < 16 → ∀ f, f < 16 → ∀ g, g < 16 → stN g a ≤ stN g f + stN f a := by decide +kernel
theorem fre_eq : ∀ m, m < 16 → m ^^^ (m &&& m * 2) = freN m := by decide +kernel
theorem st_eq4 : ∀ f, f < 16 → ∀ g, g < 16 → pcn (f ^^^ (f &&& g)) 4 = stN f g := by decide +kernel
theorem st_eq0 : ∀ f, f < 16 → pcn f 4 = stN f 0 := by decide +kernel
def frN (j : Nat) : Nat := ([0, 1, 2, 4, 5, 8, 9, 10] : List Nat).getD j 0
theorem frN_lt : ∀ j, j < 8 → frN j < 16 := by decide +kernel
theorem fre_in : ∀ m, m < 16 → ∃ j, j < 8 ∧ frN j = freN m := by decide +kernel
theorem frN_inj : ∀ i, i < 8 → ∀ j, j < 8 → frN i = frN j → i = j := by decide +kernel
/-- least ties of the last k of e places, the fresh set g ahead of them; A: which bits a place may have -/
def vvN (A : Nat → Nat → Bool) (al e : Nat) : Nat → Nat → Nat
  | 0, _ => 0
  | k + 1, g => mnN (fun h => if A (e - (k + 1)) h then stN (freN h) g + vvN A al e k (freN h) else 1000000) al
section
variable {A : Nat → Nat → Bool} {al e : Nat}
theorem vv_s (k g : Nat) : vvN A al e (k + 1) g = mnN (fun h => if A (e - (k + 1)) h then stN (freN h) g + vvN A al e k (freN h) else 1000000) al := rfl
theorem vv_far (k g : Nat) : vvN A al e k g ≤ 1000000 := by
  cases k with
  | zero => exact Nat.zero_le _
  | succ k => exact mn_far _ _
theorem vv_le {k g h : Nat} (hh : h < al) (hA : A (e - (k + 1)) h = true) : vvN A al e (k + 1) g ≤ stN (freN h) g + vvN A al e k (freN h) := by
  have := mn_le (f := fun h => if A (e - (k + 1)) h then stN (freN h) g + vvN A al e k (freN h) else 1000000) hh
  rw [vv_s]
  simp only [hA, if_true] at this
  exact this
theorem vv_at {k g : Nat} (h : vvN A al e (k + 1) g < 1000000) : ∃ m, m < al ∧ A (e - (k + 1)) m = true ∧ stN (freN m) g + vvN A al e k (freN m) = vvN A al e (k + 1) g := by
  rw [vv_s] at h
  obtain ⟨m, m1, m2⟩ := mn_at h
  refine ⟨m, m1, ?_⟩
  cases q : A (e - (k + 1)) m
  · simp only [q] at m2
    rw [← m2] at h
    exact absurd h (Nat.lt_irrefl 1000000)
  · simp only [q, if_true] at m2
    exact ⟨rfl, by rw [vv_s]; exact m2⟩
theorem vv_alike {k g : Nat} (hal : al ≤ 16) (hg : g < 16) (hA : ∀ m, m < al → A (e - (k + 2)) m = A (e - (k + 1)) m) : vvN A al e (k + 2) g = vvN A al e (k + 1) g := by
  apply Nat.le_antisymm
  · rw [vv_s k g, le_mn]
    refine ⟨vv_far _ _, fun h hh => ?_⟩
    cases q : A (e - (k + 1)) h
    · exact vv_far _ _
    · show _ ≤ stN (freN h) g + vvN A al e k (freN h)
      have h1 : vvN A al e (k + 2) g ≤ stN (freN h) g + vvN A al e (k + 1) (freN h) := vv_le (k := k + 1) hh (by rw [hA h hh]; exact q)
      have h2 := vv_le (A := A) (e := e) (k := k) (g := freN h) hh q
      have h3 := st_self (freN h) (fre_lt h (by omega))
      omega
  · rw [vv_s (k + 1) g, le_mn]
    refine ⟨vv_far _ _, fun h hh => ?_⟩
    cases q : A (e - (k + 1 + 1)) h
    · exact vv_far _ _
    · show _ ≤ stN (freN h) g + vvN A al e (k + 1) (freN h)
      by_cases c : vvN A al e (k + 1) (freN h) < 1000000
      · obtain ⟨m, m1, m2, m3⟩ := vv_at c
        have h1 := vv_le (A := A) (e := e) (k := k) (g := g) m1 m2
        have h2 := st_tri g hg (freN h) (fre_lt h (by omega)) (freN m) (fre_lt m (by omega))
        omega
      · have := vv_far (A := A) (al := al) (e := e) (k + 1) g
        omega
theorem vv_small (hf : ∀ p, p < e → ∃ m, m < al ∧ A p m = true) : ∀ k g, k ≤ e → vvN A al e k g ≤ 4 * k
  | 0, _, _ => Nat.zero_le _
  | k + 1, g, hk => by
    obtain ⟨m, m1, m2⟩ := hf (e - (k + 1)) (by omega)
    have h1 := vv_le (A := A) (e := e) (k := k) (g := g) m1 m2
    have h2 := vv_small hf k (freN m) (by omega)
    have h3 := st_le (freN m) g
    omega
theorem vv_none {p0 : Nat} (hp : p0 < e) (hn : ∀ m, m < al → A p0 m = false) : ∀ k g, e - p0 ≤ k → k ≤ e → vvN A al e k g = 1000000
  | 0, _, h, _ => by omega
  | k + 1, g, h, hk => by
    rw [vv_s]
    apply Nat.le_antisymm (mn_far _ _)
    rw [le_mn]
    refine ⟨Nat.le_refl _, fun h1 hh => ?_⟩
    by_cases e1 : e - (k + 1) = p0
    · rw [e1]
      simp only [hn h1 hh]
      exact Nat.le_refl _
    · cases q : A (e - (k + 1)) h1
      · exact Nat.le_refl _
      · show _ ≤ stN (freN h1) g + vvN A al e k (freN h1)
        have := vv_none hp hn k (freN h1) (by omega) (by omega)
        omega
/-- the class's step: over the eight fresh sets -/
def wgN (fw : Nat) (nx : Nat → Nat) (g : Nat) : Nat → Nat := mnN (fun i => if fw.testBit (frN i) then stN (frN i) g + nx (frN i) else 1000000)
theorem wg_eq {fw k g : Nat} (hal : al ≤ 16) (hfw : ∀ f, fw.testBit f = true ↔ ∃ m, m < al ∧ A (e - (k + 1)) m = true ∧ freN m = f) : wgN fw (vvN A al e k) g 8 = vvN A al e (k + 1) g := mn_cong (fun z => by
  constructor
  · intro ⟨h0, h1⟩
    refine ⟨h0, fun m hm => ?_⟩
    cases q : A (e - (k + 1)) m
    · exact h0
    · show z ≤ stN (freN m) g + vvN A al e k (freN m)
      obtain ⟨j, j1, j2⟩ := fre_in m (by omega)
      have := h1 j j1
      rw [j2] at this
      simp only [(hfw (freN m)).mpr ⟨m, hm, q, rfl⟩, if_true] at this
      exact this
  · intro ⟨h0, h1⟩
    refine ⟨h0, fun j hj => ?_⟩
    cases q : fw.testBit (frN j)
    · exact h0
    · show z ≤ stN (frN j) g + vvN A al e k (frN j)
      obtain ⟨m, m1, m2, m3⟩ := (hfw _).mp q
      have := h1 m m1
      simp only [m2, if_true, m3] at this
      exact this)
/-- the way through the places: the least bits that keep the least ties -/
def okM (A : Nat → Nat → Bool) (al e p a m : Nat) : Bool := decide (m < al) && A p m && (stN (freN m) a + vvN A al e (e - 1 - p) (freN m) == vvN A al e (e - p) a)
def mthN (A : Nat → Nat → Bool) (al e p a : Nat) : Nat := fa_first (okM A al e p a) 16
def ahN (A : Nat → Nat → Bool) (al e : Nat) : Nat → Nat
  | 0 => 0
  | p + 1 => freN (mthN A al e p (ahN A al e p))
def mpN (A : Nat → Nat → Bool) (al e p : Nat) : Nat := mthN A al e p (ahN A al e p)
theorem ah_s (p : Nat) : ahN A al e (p + 1) = freN (mpN A al e p) := rfl
theorem okM_iff {p a m : Nat} : okM A al e p a m = true ↔ m < al ∧ A p m = true ∧ stN (freN m) a + vvN A al e (e - 1 - p) (freN m) = vvN A al e (e - p) a := by
  unfold okM
  simp [and_assoc]
theorem mth_ok {p a : Nat} (hal : al ≤ 16) (hp : p < e) (h : vvN A al e (e - p) a < 1000000) : okM A al e p a (mthN A al e p a) = true ∧ mthN A al e p a < 16 := by
  have e1 : e - p = (e - 1 - p) + 1 := by omega
  rw [e1] at h
  obtain ⟨m, m1, m2, m3⟩ := vv_at h
  rw [show e - (e - 1 - p + 1) = p by omega] at m2
  rw [← e1] at m3
  have hok : okM A al e p a m = true := okM_iff.mpr ⟨m1, m2, m3⟩
  have hlt : mthN A al e p a < 16 := by
    rcases Nat.lt_or_ge (mthN A al e p a) 16 with q | q
    · exact q
    · have := fa_first_no (okM A al e p a) 16 m (by unfold mthN at q; omega)
      rw [this] at hok
      cases hok
  exact ⟨fa_first_yes _ _ hlt, hlt⟩
theorem mp_all (hal : al ≤ 16) (h0 : vvN A al e e 0 < 1000000) : ∀ p, p ≤ e → vvN A al e (e - p) (ahN A al e p) < 1000000
  | 0, _ => h0
  | p + 1, hp => by
    have h1 := mp_all hal h0 p (by omega)
    obtain ⟨h2, -⟩ := mth_ok hal (by omega) h1
    obtain ⟨-, -, h3⟩ := okM_iff.mp h2
    rw [ah_s, show e - (p + 1) = e - 1 - p by omega]
    have : vvN A al e (e - 1 - p) (freN (mpN A al e p)) = vvN A al e (e - 1 - p) (freN (mthN A al e p (ahN A al e p))) := rfl
    omega
theorem mp_ok {p : Nat} (hal : al ≤ 16) (h0 : vvN A al e e 0 < 1000000) (hp : p < e) : (mpN A al e p < al ∧ A p (mpN A al e p) = true ∧ stN (freN (mpN A al e p)) (ahN A al e p) + vvN A al e (e - 1 - p) (freN (mpN A al e p)) = vvN A al e (e - p) (ahN A al e p)) ∧ mpN A al e p < 16 ∧ ∀ m, m < mpN A al e p → okM A al e p (ahN A al e p) m = false := by
  obtain ⟨h1, h2⟩ := mth_ok hal hp (mp_all hal h0 p (by omega))
  exact ⟨okM_iff.mp h1, h2, fun m hm => fa_first_no _ 16 m hm⟩
theorem ah_lt (hal : al ≤ 16) (h0 : vvN A al e e 0 < 1000000) : ∀ p, p ≤ e → ahN A al e p < 16
  | 0, _ => by show 0 < 16; decide
  | p + 1, hp => by rw [ah_s]; exact fre_lt _ (mp_ok hal h0 (p := p) (by omega)).2.1
end
