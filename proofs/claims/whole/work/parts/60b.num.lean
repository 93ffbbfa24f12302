/-! pure rows: numbers, checks, loops -/
theorem li (n : Nat) : (OfNat.ofNat n : Int32) = nI n := id rfl
theorem ckI {α : Type} {i n : Nat} {x : Option α} (h : i < n) (hn : n < 2147483648) : ck (nI i) n x = x := by
  unfold ck
  rw [if_neg (nI_in h (by omega))]
theorem cknI {α : Type} {i n : Nat} {x : Option α} (h : i < n) : ckn i n x = x := if_pos h
theorem clI {i : Nat} (h : i < 2147483648) : (nI i).toNatClampNeg = i := nI_clamp (by omega)
theorem leI {i j : Nat} (hi : i < 2147483648) (hj : j < 2147483648) : (nI i ≤ nI j) ↔ i ≤ j := nI_leI (by omega) (by omega)
theorem ltI {i j : Nat} (hi : i < 2147483648) (hj : j < 2147483648) : (nI i < nI j) ↔ i < j := nI_ltI (by omega) (by omega)
theorem eqI {i j : Nat} (hi : i < 2147483648) (hj : j < 2147483648) : (nI i = nI j) ↔ i = j := nI_eq (by omega) (by omega)
theorem rz0 {α : Type} {x : Option α} : rz 0 x = x := if_pos (by decide)
theorem rz1 {α : Type} {x : Option α} : rz 1 x = x := if_pos (by decide)
theorem cl_some {α : Type} {v : Int32} {S : St} {f : Int32 → St → Option α} : cl (some (v, S)) f = f v S := id rfl
theorem cl_eq {α : Type} {y : Option (Int32 × St)} {v : Int32} {S : St} {f : Int32 → St → Option α} (h : y = some (v, S)) : cl y f = f v S := by rw [h]; rfl
theorem cx_ok {v : Int32} {S : St} {f : Int32 → St → Option RX} : cx (some (.inr v, S)) f = f v S := id rfl
theorem cx_ex {E : String} {S : St} {f : Int32 → St → Option RX} : cx (some (.inl E, S)) f = some (.inl E, S) := id rfl
theorem cx_eq {y : Option RX} {v : Int32} {S : St} {f : Int32 → St → Option RX} (h : y = some (.inr v, S)) : cx y f = f v S := by rw [h]; rfl
theorem cx_eqx {y : Option RX} {E : String} {S : St} {f : Int32 → St → Option RX} (h : y = some (.inl E, S)) : cx y f = some (.inl E, S) := by rw [h]; rfl
theorem upd_get (f : Nat → Int32) (i : Nat) (v : Int32) (j : Nat) : upd f i v j = if j = i then v else f j := id rfl
theorem ltE {α : Type} (v : Int32) (f : Int32 → Option α) : lt v f = f v := id rfl
theorem lzE {α : Type} (S : St) (f : St → Option α) : lz S f = f S := id rfl
theorem s2_get (S : St) (k i : Nat) (v : Int32) (k' j : Nat) : s2 S k i v k' j = if k' = k ∧ j = i then v else S k' j := by
  unfold s2
  by_cases h : k' = k
  · subst h
    rw [if_pos rfl, upd_get]
    by_cases hj : j = i
    · rw [if_pos hj, if_pos ⟨rfl, hj⟩]
    · rw [if_neg hj, if_neg (fun q => hj q.2)]
  · rw [if_neg h, if_neg (fun q => h q.1)]
theorem s2_row (S : St) (k i : Nat) (v : Int32) {k' : Nat} (h : k' ≠ k) : s2 S k i v k' = S k' := if_neg h
theorem s3_get (S : St) (k : Nat) (f : Nat → Int32) (k' : Nat) : s3 S k f k' = if k' = k then f else S k' := id rfl
/-- a loop whose counter goes up to e; it may also end on its way -/
theorem loop_up {σ ρ : Type} (F : Nat → Int32 → σ → ρ) (Inv : Nat → σ → Prop) (P : ρ → Prop) (e : Nat)
    (hexit : ∀ n s, Inv e s → P (F (n + 1) (nI e) s))
    (hstep : ∀ n i s, i < e → Inv i s → P (F (n + 1) (nI i) s) ∨ ∃ s', Inv (i + 1) s' ∧ F (n + 1) (nI i) s = F n (nI (i + 1)) s') :
    ∀ n i s, i ≤ e → e - i < n → Inv i s → P (F n (nI i) s) := by
  intro n
  induction n with
  | zero => intro i s _ h; omega
  | succ n ih =>
    intro i s hi hn hI
    rcases Nat.lt_or_ge i e with q | q
    · rcases hstep n i s q hI with h | ⟨s', h1, h2⟩
      · exact h
      · rw [h2]
        exact ih (i + 1) s' q (by omega) h1
    · have : i = e := by omega
      subst this
      exact hexit n s hI
theorem loop_dn {σ ρ : Type} (F : Nat → Int32 → σ → ρ) (Inv : Nat → σ → Prop) (P : ρ → Prop)
    (hexit : ∀ n s, Inv 0 s → P (F (n + 1) (-1) s))
    (hstep : ∀ n i s, Inv (i + 1) s → P (F (n + 1) (nI i) s) ∨ ∃ s', Inv i s' ∧ F (n + 1) (nI i) s = F n (nI i + (-1)) s') :
    ∀ n i s, i < n → Inv i s → P (F n (nI i + (-1)) s) := by
  intro n
  induction n with
  | zero => intro i s h; omega
  | succ n ih =>
    intro i s hn hI
    cases i with
    | zero => exact hexit n s hI
    | succ i =>
      rw [pk_m1]
      rcases hstep n i s hI with h | ⟨s', h1, h2⟩
      · exact h
      · rw [h2]
        exact ih i s' (by omega) h1
theorem FU_eq : FU = 999 + 1 := rfl
theorem nI1 (n : Nat) : nI n + 1 = nI (n + 1) := nI_1 n
theorem shl1 {p : Nat} (h : p < 31) : (1 : Int32) <<< (nI p &&& 31) = nI (2 ^ p) := by
  have h1 := pk_shlN (n := 1) (nI p &&& 31) p (s_l p (by omega)) (by
    have : 2 ^ p ≤ 2 ^ 30 := Nat.pow_le_pow_right (by decide) (by omega)
    omega)
  rw [Nat.one_mul] at h1
  exact h1
