/-! pure rows: loops; one component of the states changed -/
abbrev K1 : Type := Int32 → St → Option (Int32 × St)
abbrev K2 : Type := Int32 → Int32 → St → Option (Int32 × St)
abbrev K3 : Type := Int32 → Int32 → Int32 → St → Option (Int32 × St)
abbrev K4 : Type := Int32 → Int32 → Int32 → Int32 → St → Option (Int32 × St)
abbrev K5 : Type := Int32 → Int32 → Int32 → Int32 → Int32 → St → Option (Int32 × St)
abbrev K6 : Type := Int32 → Int32 → Int32 → Int32 → Int32 → Int32 → St → Option (Int32 × St)
abbrev K7 : Type := Int32 → Int32 → Int32 → Int32 → Int32 → Int32 → Int32 → St → Option (Int32 × St)
abbrev K8 : Type := Int32 → Int32 → Int32 → Int32 → Int32 → Int32 → Int32 → Int32 → St → Option (Int32 × St)
abbrev K9 : Type := Int32 → Int32 → Int32 → Int32 → Int32 → Int32 → Int32 → Int32 → Int32 → St → Option (Int32 × St)
abbrev K10 : Type := Int32 → Int32 → Int32 → Int32 → Int32 → Int32 → Int32 → Int32 → Int32 → Int32 → St → Option (Int32 × St)
theorem lpU {β : Type} {b : β → β} {z : β} (e : Nat) (Q : Nat → β → Prop) (hx : ∀ k, Q e (b k)) (hs : ∀ i k, i < e → Q (i + 1) k → Q i (b k)) : ∀ n i, i ≤ e → e - i < n → Q i (lp b z n) := by
  intro n
  induction n with
  | zero => intro i _ h; omega
  | succ n ih =>
    intro i hi hn
    show Q i (b (lp b z n))
    by_cases e1 : i = e
    · subst e1; exact hx _
    · exact hs i _ (by omega) (ih (i + 1) (by omega) (by omega))
theorem lpF {β : Type} {b : β → β} {z : β} (e : Nat) (he : e < 1000) (Q : Nat → β → Prop) (hx : ∀ k, Q e (b k)) (hs : ∀ i k, i < e → Q (i + 1) k → Q i (b k)) : Q 0 (lp b z FU) := lpU e Q hx hs FU 0 (Nat.zero_le _) (by unfold FU; omega)
theorem lpFi {β : Type} {b : β → β} {z : β} (e : Nat) (i : Nat) (hi : i ≤ e) (he : e < 1000) (Q : Nat → β → Prop) (hx : ∀ k, Q e (b k)) (hs : ∀ i k, i < e → Q (i + 1) k → Q i (b k)) : Q i (lp b z FU) := lpU e Q hx hs FU i hi (by unfold FU; omega)
theorem lpD {β : Type} {b : β → β} {z : β} (Q : Nat → β → Prop) (hx : ∀ k, Q 0 (b k)) (hs : ∀ i k, Q i k → Q (i + 1) (b k)) : ∀ n i, i < n → Q i (lp b z n) := by
  intro n
  induction n with
  | zero => intro i h; omega
  | succ n ih =>
    intro i hn
    show Q i (b (lp b z n))
    cases i with
    | zero => exact hx _
    | succ i => exact hs i _ (ih i (by omega))
theorem lpDF {β : Type} {b : β → β} {z : β} (e : Nat) (he : e < 1000) (Q : Nat → β → Prop) (hx : ∀ k, Q 0 (b k)) (hs : ∀ i k, Q i k → Q (i + 1) (b k)) : Q e (lp b z FU) := lpD Q hx hs FU e he
theorem up1_lt {f : Nat → Nat} {i v n : Nat} (h : ∀ j, f j < n) (hv : v < n) : ∀ j, up1 f i v j < n := fun j => by
  unfold up1
  by_cases e : j = i
  · rw [if_pos e]; exact hv
  · rw [if_neg e]; exact h j
theorem up1_le {f : Nat → Nat} {i v n : Nat} (h : ∀ j, f j ≤ n) (hv : v ≤ n) : ∀ j, up1 f i v j ≤ n := fun j => by
  unfold up1
  by_cases e : j = i
  · rw [if_pos e]; exact hv
  · rw [if_neg e]; exact h j
theorem up2_lt {f : Nat → Nat → Nat} {i k v n : Nat} (h : ∀ a b, f a b < n) (hv : v < n) : ∀ a b, up2 f i k v a b < n := fun a b => by
  unfold up2
  by_cases e : a = i ∧ b = k
  · rw [if_pos e]; exact hv
  · rw [if_neg e]; exact h a b
theorem up1_s {f : Nat → Nat} {i v : Nat} : up1 f i v i = v := if_pos rfl
theorem up1_n {f : Nat → Nat} {i v j : Nat} (h : j ≠ i) : up1 f i v j = f j := if_neg h
theorem up2_eq {f : Nat → Nat → Nat} {i v : Nat} {j : Nat} (b : Nat) : up2 f i j v b = if b = i then up1 (f b) j v else f b := by
  funext k
  unfold up2 up1
  by_cases e : b = i
  · rw [if_pos e]
    by_cases e2 : k = j
    · rw [if_pos ⟨e, e2⟩, if_pos e2]
    · rw [if_neg (fun q => e2 q.2), if_neg e2]
  · rw [if_neg (fun q => e q.1), if_neg e]
theorem s2_hit (S : St) (k i : Nat) (v : Int32) : s2 S k i v k = upd (S k) i v := if_pos rfl
section
variable {th pl : Nat} {hm fo kn : Nat → Nat} {co : Nat → Nat → Nat} {ta va : Nat → Nat} {wa : Nat → Nat → Nat} {lo hi : Nat → Int32} {la : Nat} {ld lc lr : Nat → Nat} {n3 hp pr pt : Nat} {pb : Nat → Nat → Nat} {S S' T T' : St}
theorem XR.fr (X : XR th pl hm fo kn co ta va wa lo hi la ld lc lr n3 hp pr pt pb S) (h : ∀ k, k < 72 → k ≠ 5 → k ≠ 11 → (k < 18 ∨ 25 < k) → (k < 55 ∨ 63 < k) → S' k = S k) : XR th pl hm fo kn co ta va wa lo hi la ld lc lr n3 hp pr pt pb S' := by
  obtain ⟨x1, x2, x3, x4, x5, x6, x7, x8, x9, x10, x11, x12, x13, x14⟩ := X
  refine ⟨?_, ?_, ?_, ?_, ?_, fun b hb => ?_, ?_, ?_, fun b hb => ?_, ?_, ?_, ?_, ?_, fun e => ⟨?_, ?_, fun b hb => ?_⟩⟩
  · rw [h 3 (by decide) (by decide) (by decide) (by decide) (by decide)]; exact x1
  · rw [h 12 (by decide) (by decide) (by decide) (by decide) (by decide)]; exact x2
  · rw [h 13 (by decide) (by decide) (by decide) (by decide) (by decide)]; exact x3
  · rw [h 14 (by decide) (by decide) (by decide) (by decide) (by decide)]; exact x4
  · rw [h 15 (by decide) (by decide) (by decide) (by decide) (by decide)]; exact x5
  · rw [h (31 + b) (by omega) (by omega) (by omega) (by omega) (by omega)]; exact x6 b hb
  · rw [h 9 (by decide) (by decide) (by decide) (by decide) (by decide)]; exact x7
  · rw [h 10 (by decide) (by decide) (by decide) (by decide) (by decide)]; exact x8
  · rw [h (39 + b) (by omega) (by omega) (by omega) (by omega) (by omega)]; exact x9 b hb
  · rw [h 26 (by decide) (by decide) (by decide) (by decide) (by decide), h 27 (by decide) (by decide) (by decide) (by decide) (by decide)]; exact x10
  · rw [h 8 (by decide) (by decide) (by decide) (by decide) (by decide), h 28 (by decide) (by decide) (by decide) (by decide) (by decide), h 29 (by decide) (by decide) (by decide) (by decide) (by decide), h 30 (by decide) (by decide) (by decide) (by decide) (by decide)]; exact x11
  · rw [h 0 (by decide) (by decide) (by decide) (by decide) (by decide)]; exact x12
  · rw [h 6 (by decide) (by decide) (by decide) (by decide) (by decide)]; exact x13
  · rw [h 6 (by decide) (by decide) (by decide) (by decide) (by decide)]; exact (x14 e).1
  · rw [h 6 (by decide) (by decide) (by decide) (by decide) (by decide)]; exact (x14 e).2.1
  · rw [h (64 + b) (by omega) (by omega) (by omega) (by omega) (by omega)]; exact (x14 e).2.2 b hb
theorem XR.drop (X : XR th pl hm fo kn co ta va wa lo hi la ld lc lr n3 hp pr pt pb S) : XR th pl hm fo kn co ta va wa lo hi la ld lc lr n3 0 pr pt pb (s2 S 6 0 0) := by
  obtain ⟨x1, x2, x3, x4, x5, x6, x7, x8, x9, x10, x11, x12, x13, x14⟩ := X
  exact ⟨x1, x2, x3, x4, x5, fun b hb => by rw [s2_row _ _ _ _ (by omega)]; exact x6 b hb, x7, x8, fun b hb => by rw [s2_row _ _ _ _ (by omega)]; exact x9 b hb, x10, x11, x12, rfl, fun h => by omega⟩
theorem XR.taU (X : XR th pl hm fo kn co ta va wa lo hi la ld lc lr n3 hp pr pt pb S) (i v : Nat) : XR th pl hm fo kn co (up1 ta i v) va wa lo hi la ld lc lr n3 hp pr pt pb (s2 S 9 i (nI v)) := by
  obtain ⟨x1, x2, x3, x4, x5, x6, x7, x8, x9, x10, x11, x12, x13, x14⟩ := X
  exact ⟨x1, x2, x3, x4, x5, fun b hb => by rw [s2_row _ _ _ _ (by omega)]; exact x6 b hb, by rw [s2_hit]; exact rA_upd x7, x8, fun b hb => by rw [s2_row _ _ _ _ (by omega)]; exact x9 b hb, x10, x11, x12, x13, fun h => ⟨(x14 h).1, (x14 h).2.1, fun b hb => by rw [s2_row _ _ _ _ (by omega)]; exact (x14 h).2.2 b hb⟩⟩
theorem XR.vaU (X : XR th pl hm fo kn co ta va wa lo hi la ld lc lr n3 hp pr pt pb S) (i v : Nat) : XR th pl hm fo kn co ta (up1 va i v) wa lo hi la ld lc lr n3 hp pr pt pb (s2 S 10 i (nI v)) := by
  obtain ⟨x1, x2, x3, x4, x5, x6, x7, x8, x9, x10, x11, x12, x13, x14⟩ := X
  exact ⟨x1, x2, x3, x4, x5, fun b hb => by rw [s2_row _ _ _ _ (by omega)]; exact x6 b hb, x7, by rw [s2_hit]; exact rA_upd x8, fun b hb => by rw [s2_row _ _ _ _ (by omega)]; exact x9 b hb, x10, x11, x12, x13, fun h => ⟨(x14 h).1, (x14 h).2.1, fun b hb => by rw [s2_row _ _ _ _ (by omega)]; exact (x14 h).2.2 b hb⟩⟩
theorem XR.knU (X : XR th pl hm fo kn co ta va wa lo hi la ld lc lr n3 hp pr pt pb S) (i v : Nat) : XR th pl hm fo (up1 kn i v) co ta va wa lo hi la ld lc lr n3 hp pr pt pb (s2 S 15 i (nI v)) := by
  obtain ⟨x1, x2, x3, x4, x5, x6, x7, x8, x9, x10, x11, x12, x13, x14⟩ := X
  exact ⟨x1, x2, x3, x4, by rw [s2_hit]; exact rA_upd x5, fun b hb => by rw [s2_row _ _ _ _ (by omega)]; exact x6 b hb, x7, x8, fun b hb => by rw [s2_row _ _ _ _ (by omega)]; exact x9 b hb, x10, x11, x12, x13, fun h => ⟨(x14 h).1, (x14 h).2.1, fun b hb => by rw [s2_row _ _ _ _ (by omega)]; exact (x14 h).2.2 b hb⟩⟩
theorem XR.foU (X : XR th pl hm fo kn co ta va wa lo hi la ld lc lr n3 hp pr pt pb S) (i v : Nat) : XR th pl hm (up1 fo i v) kn co ta va wa lo hi la ld lc lr n3 hp pr pt pb (s2 S 14 i (nI v)) := by
  obtain ⟨x1, x2, x3, x4, x5, x6, x7, x8, x9, x10, x11, x12, x13, x14⟩ := X
  exact ⟨x1, x2, x3, by rw [s2_hit]; exact rA_upd x4, x5, fun b hb => by rw [s2_row _ _ _ _ (by omega)]; exact x6 b hb, x7, x8, fun b hb => by rw [s2_row _ _ _ _ (by omega)]; exact x9 b hb, x10, x11, x12, x13, fun h => ⟨(x14 h).1, (x14 h).2.1, fun b hb => by rw [s2_row _ _ _ _ (by omega)]; exact (x14 h).2.2 b hb⟩⟩
theorem XR.n3U (X : XR th pl hm fo kn co ta va wa lo hi la ld lc lr n3 hp pr pt pb S) (v : Nat) : XR th pl hm fo kn co ta va wa lo hi la ld lc lr v hp pr pt pb (s2 S 0 8 (nI v)) := by
  obtain ⟨x1, x2, x3, x4, x5, x6, x7, x8, x9, x10, x11, x12, x13, x14⟩ := X
  exact ⟨x1, x2, x3, x4, x5, fun b hb => by rw [s2_row _ _ _ _ (by omega)]; exact x6 b hb, x7, x8, fun b hb => by rw [s2_row _ _ _ _ (by omega)]; exact x9 b hb, x10, x11, rfl, x13, fun h => ⟨(x14 h).1, (x14 h).2.1, fun b hb => by rw [s2_row _ _ _ _ (by omega)]; exact (x14 h).2.2 b hb⟩⟩
theorem XR.coU (X : XR th pl hm fo kn co ta va wa lo hi la ld lc lr n3 hp pr pt pb S) {i : Nat} (hi8 : i < 8) (j v : Nat) : XR th pl hm fo kn (up2 co i j v) ta va wa lo hi la ld lc lr n3 hp pr pt pb (s2 S (31 + i) j (nI v)) := by
  obtain ⟨x1, x2, x3, x4, x5, x6, x7, x8, x9, x10, x11, x12, x13, x14⟩ := X
  have hh : ∀ k, k ≠ 31 + i → s2 S (31 + i) j (nI v) k = S k := fun k hk => s2_row _ _ _ _ hk
  exact ⟨by rw [hh 3 (by omega)]; exact x1, by rw [hh 12 (by omega)]; exact x2, by rw [hh 13 (by omega)]; exact x3, by rw [hh 14 (by omega)]; exact x4, by rw [hh 15 (by omega)]; exact x5, fun b hb => by
    rw [up2_eq]
    by_cases e : b = i
    · subst e; rw [if_pos rfl, s2_hit]; exact rA_upd (x6 b hb)
    · rw [if_neg e, hh _ (by omega)]; exact x6 b hb, by rw [hh 9 (by omega)]; exact x7, by rw [hh 10 (by omega)]; exact x8, fun b hb => by rw [hh _ (by omega)]; exact x9 b hb, by rw [hh 26 (by omega), hh 27 (by omega)]; exact x10, by rw [hh 8 (by omega), hh 28 (by omega), hh 29 (by omega), hh 30 (by omega)]; exact x11, by rw [hh 0 (by omega)]; exact x12, by rw [hh 6 (by omega)]; exact x13, fun h => ⟨by rw [hh 6 (by omega)]; exact (x14 h).1, by rw [hh 6 (by omega)]; exact (x14 h).2.1, fun b hb => by rw [hh _ (by omega)]; exact (x14 h).2.2 b hb⟩⟩
theorem XR.waU (X : XR th pl hm fo kn co ta va wa lo hi la ld lc lr n3 hp pr pt pb S) {i : Nat} (hi16 : i < 16) (j v : Nat) : XR th pl hm fo kn co ta va (up2 wa i j v) lo hi la ld lc lr n3 hp pr pt pb (s2 S (39 + i) j (nI v)) := by
  obtain ⟨x1, x2, x3, x4, x5, x6, x7, x8, x9, x10, x11, x12, x13, x14⟩ := X
  have hh : ∀ k, k ≠ 39 + i → s2 S (39 + i) j (nI v) k = S k := fun k hk => s2_row _ _ _ _ hk
  exact ⟨by rw [hh 3 (by omega)]; exact x1, by rw [hh 12 (by omega)]; exact x2, by rw [hh 13 (by omega)]; exact x3, by rw [hh 14 (by omega)]; exact x4, by rw [hh 15 (by omega)]; exact x5, fun b hb => by rw [hh _ (by omega)]; exact x6 b hb, by rw [hh 9 (by omega)]; exact x7, by rw [hh 10 (by omega)]; exact x8, fun b hb => by
    rw [up2_eq]
    by_cases e : b = i
    · subst e; rw [if_pos rfl, s2_hit]; exact rA_upd (x9 b hb)
    · rw [if_neg e, hh _ (by omega)]; exact x9 b hb, by rw [hh 26 (by omega), hh 27 (by omega)]; exact x10, by rw [hh 8 (by omega), hh 28 (by omega), hh 29 (by omega), hh 30 (by omega)]; exact x11, by rw [hh 0 (by omega)]; exact x12, by rw [hh 6 (by omega)]; exact x13, fun h => ⟨by rw [hh 6 (by omega)]; exact (x14 h).1, by rw [hh 6 (by omega)]; exact (x14 h).2.1, fun b hb => by rw [hh _ (by omega)]; exact (x14 h).2.2 b hb⟩⟩
theorem XR.wash (X : XR th pl hm fo kn co ta va wa lo hi la ld lc lr n3 hp pr pt pb S) (h : wsI S 8 S') : XR th pl hm fo (fun _ => 0) (fun _ _ => 0) ta va wa lo hi la ld lc lr n3 hp pr pt pb S' := by
  obtain ⟨x1, x2, x3, x4, x5, x6, x7, x8, x9, x10, x11, x12, x13, x14⟩ := X
  have hh : ∀ k, k ≠ 15 → (k < 31 ∨ 39 ≤ k) → S' k = S k := h.1
  exact ⟨by rw [hh 3 (by omega) (by omega)]; exact x1, by rw [hh 12 (by omega) (by omega)]; exact x2, by rw [hh 13 (by omega) (by omega)]; exact x3, by rw [hh 14 (by omega) (by omega)]; exact x4, fun b hb => (h.2 b hb).1, fun b hb p hp => (h.2 b hb).2 p hp, by rw [hh 9 (by omega) (by omega)]; exact x7, by rw [hh 10 (by omega) (by omega)]; exact x8, fun b hb => by rw [hh _ (by omega) (by omega)]; exact x9 b hb, by rw [hh 26 (by omega) (by omega), hh 27 (by omega) (by omega)]; exact x10, by rw [hh 8 (by omega) (by omega), hh 28 (by omega) (by omega), hh 29 (by omega) (by omega), hh 30 (by omega) (by omega)]; exact x11, by rw [hh 0 (by omega) (by omega)]; exact x12, by rw [hh 6 (by omega) (by omega)]; exact x13, fun h => ⟨by rw [hh 6 (by omega) (by omega)]; exact (x14 h).1, by rw [hh 6 (by omega) (by omega)]; exact (x14 h).2.1, fun b hb => by rw [hh _ (by omega) (by omega)]; exact (x14 h).2.2 b hb⟩⟩
theorem MR.undy (M : MR th pl hm fo kn co ta va wa lo hi la ld lc lr n3 hp pr pt pb T) (h : udI T 192 T') : MR th pl hm fo (fun _ => 0) (fun _ _ => 0) ta va wa lo hi la ld lc lr n3 hp pr pt pb T' := by
  obtain ⟨m1, m2, m3, m4, m5, m6, m7, m8, m9, m10, m11, m12, m13⟩ := M
  have hh : ∀ k, k ≠ 2 → k ≠ 9 → T' k = T k := h.1
  exact ⟨by rw [hh 0 (by omega) (by omega)]; exact m1, by rw [hh 1 (by omega) (by omega)]; exact m2, by rw [hh 8 (by omega) (by omega)]; exact m3, fun b hb p hp => by show _ = nI (bN 0 p); rw [bN0]; exact (h.2 _ (by omega)).2, fun b hb p hp => (h.2 _ (by omega)).1, by rw [hh 3 (by omega) (by omega)]; exact m6, by rw [hh 4 (by omega) (by omega)]; exact m7, by rw [hh 5 (by omega) (by omega)]; exact m8, by rw [hh 6 (by omega) (by omega), hh 7 (by omega) (by omega)]; exact m9, by rw [hh 0 (by omega) (by omega), hh 10 (by omega) (by omega), hh 11 (by omega) (by omega), hh 12 (by omega) (by omega)]; exact m10, by rw [hh 0 (by omega) (by omega)]; exact m11, by rw [hh 0 (by omega) (by omega)]; exact m12, by rw [hh 0 (by omega) (by omega), hh 13 (by omega) (by omega)]; exact m13⟩
theorem MR.fr (M : MR th pl hm fo kn co ta va wa lo hi la ld lc lr n3 hp pr pt pb T) (h : ∀ k, k < 14 → T' k = T k) : MR th pl hm fo kn co ta va wa lo hi la ld lc lr n3 hp pr pt pb T' := by
  obtain ⟨m1, m2, m3, m4, m5, m6, m7, m8, m9, m10, m11, m12, m13⟩ := M
  exact ⟨by rw [h 0 (by omega)]; exact m1, by rw [h 1 (by omega)]; exact m2, by rw [h 8 (by omega)]; exact m3, by rw [h 9 (by omega)]; exact m4, by rw [h 2 (by omega)]; exact m5, by rw [h 3 (by omega)]; exact m6, by rw [h 4 (by omega)]; exact m7, by rw [h 5 (by omega)]; exact m8, by rw [h 6 (by omega), h 7 (by omega)]; exact m9, by rw [h 0 (by omega), h 10 (by omega), h 11 (by omega), h 12 (by omega)]; exact m10, by rw [h 0 (by omega)]; exact m11, by rw [h 0 (by omega)]; exact m12, by rw [h 0 (by omega), h 13 (by omega)]; exact m13⟩
theorem MR.drop (M : MR th pl hm fo kn co ta va wa lo hi la ld lc lr n3 hp pr pt pb T) : MR th pl hm fo kn co ta va wa lo hi la ld lc lr n3 0 pr pt pb (s2 T 0 17 0) := by
  obtain ⟨m1, m2, m3, m4, m5, m6, m7, m8, m9, m10, m11, m12, m13⟩ := M
  exact ⟨m1, m2, m3, m4, m5, m6, m7, m8, m9, m10, m11, rfl, fun h => by omega⟩
theorem MR.hmU (M : MR th pl hm fo kn co ta va wa lo hi la ld lc lr n3 hp pr pt pb T) (i v : Nat) : MR th pl (up1 hm i v) fo kn co ta va wa lo hi la ld lc lr n3 hp pr pt pb (s2 T 1 i (nI v)) := by
  obtain ⟨m1, m2, m3, m4, m5, m6, m7, m8, m9, m10, m11, m12, m13⟩ := M
  exact ⟨m1, by rw [s2_hit]; exact rA_upd m2, m3, m4, m5, m6, m7, m8, m9, m10, m11, m12, m13⟩
theorem MR.foU (M : MR th pl hm fo kn co ta va wa lo hi la ld lc lr n3 hp pr pt pb T) (i v : Nat) : MR th pl hm (up1 fo i v) kn co ta va wa lo hi la ld lc lr n3 hp pr pt pb (s2 T 8 i (nI v)) := by
  obtain ⟨m1, m2, m3, m4, m5, m6, m7, m8, m9, m10, m11, m12, m13⟩ := M
  exact ⟨m1, m2, by rw [s2_hit]; exact rA_upd m3, m4, m5, m6, m7, m8, m9, m10, m11, m12, m13⟩
theorem MR.taU (M : MR th pl hm fo kn co ta va wa lo hi la ld lc lr n3 hp pr pt pb T) (i v : Nat) : MR th pl hm fo kn co (up1 ta i v) va wa lo hi la ld lc lr n3 hp pr pt pb (s2 T 3 i (nI v)) := by
  obtain ⟨m1, m2, m3, m4, m5, m6, m7, m8, m9, m10, m11, m12, m13⟩ := M
  exact ⟨m1, m2, m3, m4, m5, by rw [s2_hit]; exact rA_upd m6, m7, m8, m9, m10, m11, m12, m13⟩
theorem MR.vaU (M : MR th pl hm fo kn co ta va wa lo hi la ld lc lr n3 hp pr pt pb T) (i v : Nat) : MR th pl hm fo kn co ta (up1 va i v) wa lo hi la ld lc lr n3 hp pr pt pb (s2 T 4 i (nI v)) := by
  obtain ⟨m1, m2, m3, m4, m5, m6, m7, m8, m9, m10, m11, m12, m13⟩ := M
  exact ⟨m1, m2, m3, m4, m5, m6, by rw [s2_hit]; exact rA_upd m7, m8, m9, m10, m11, m12, m13⟩
theorem MR.coU (M : MR th pl hm fo kn co ta va wa lo hi la ld lc lr n3 hp pr pt pb T) (b p v : Nat) (hp24 : p < 24) : MR th pl hm fo kn (up2 co b p v) ta va wa lo hi la ld lc lr n3 hp pr pt pb (s2 T 2 (24 * b + p) (nI v)) := by
  obtain ⟨m1, m2, m3, m4, m5, m6, m7, m8, m9, m10, m11, m12, m13⟩ := M
  exact ⟨m1, m2, m3, m4, by rw [s2_hit]; exact rM_upd hp24 m5, m6, m7, m8, m9, m10, m11, m12, m13⟩
theorem MR.waU (M : MR th pl hm fo kn co ta va wa lo hi la ld lc lr n3 hp pr pt pb T) (b p v : Nat) (hp24 : p < 24) : MR th pl hm fo kn co ta va (up2 wa b p v) lo hi la ld lc lr n3 hp pr pt pb (s2 T 5 (24 * b + p) (nI v)) := by
  obtain ⟨m1, m2, m3, m4, m5, m6, m7, m8, m9, m10, m11, m12, m13⟩ := M
  exact ⟨m1, m2, m3, m4, m5, m6, m7, by rw [s2_hit]; exact rM_upd hp24 m8, m9, m10, m11, m12, m13⟩
theorem MR.n3U (M : MR th pl hm fo kn co ta va wa lo hi la ld lc lr n3 hp pr pt pb T) (v : Nat) : MR th pl hm fo kn co ta va wa lo hi la ld lc lr v hp pr pt pb (s2 T 0 3 (nI v)) := by
  obtain ⟨m1, m2, m3, m4, m5, m6, m7, m8, m9, m10, m11, m12, m13⟩ := M
  exact ⟨m1, m2, m3, m4, m5, m6, m7, m8, m9, m10, rfl, m12, m13⟩
theorem MR.knU (M : MR th pl hm fo kn co ta va wa lo hi la ld lc lr n3 hp pr pt pb T) {b p v k : Nat} (hp24 : p < 24) (hv : bN k p = v) (hk : ∀ q, q < 24 → q ≠ p → bN k q = bN (kn b) q) : MR th pl hm fo (up1 kn b k) co ta va wa lo hi la ld lc lr n3 hp pr pt pb (s2 T 9 (24 * b + p) (nI v)) := by
  obtain ⟨m1, m2, m3, m4, m5, m6, m7, m8, m9, m10, m11, m12, m13⟩ := M
  refine ⟨m1, m2, m3, fun b' hb' p' hp' => ?_, m5, m6, m7, m8, m9, m10, m11, m12, m13⟩
  rw [s2_hit, upd_get]
  show _ = nI (bN (up1 kn b k b') p')
  by_cases e : b' = b
  · subst e
    rw [up1_s]
    by_cases e2 : p' = p
    · subst e2; rw [if_pos rfl, hv]
    · rw [if_neg (by omega), hk p' hp' e2]; exact m4 b' hb' p' hp'
  · rw [up1_n e, if_neg (by omega)]; exact m4 b' hb' p' hp'
end
