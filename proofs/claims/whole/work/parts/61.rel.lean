/-! pure rows: what the two states hold -/
theorem iLeT {α : Type} {a b : Nat} {x y : α} (h : a ≤ b) (hb : b < 2147483648) : (if nI a ≤ nI b then x else y) = x := if_pos (nI_le h (by omega))
theorem iLeF {α : Type} {a b : Nat} {x y : α} (h : b < a) (ha : a < 2147483648) : (if nI a ≤ nI b then x else y) = y := if_neg (nI_ge h (by omega))
theorem iLtT {α : Type} {a b : Nat} {x y : α} (h : a < b) (hb : b < 2147483648) : (if nI a < nI b then x else y) = x := if_pos (nI_lt h (by omega))
theorem iLtF {α : Type} {a b : Nat} {x y : α} (h : b ≤ a) (ha : a < 2147483648) : (if nI a < nI b then x else y) = y := if_neg (nI_nlt h (by omega))
theorem iEqT {α : Type} {a b : Nat} {x y : α} (h : a = b) : (if nI a = nI b then x else y) = x := if_pos (by rw [h])
theorem iEqF {α : Type} {a b : Nat} {x y : α} (h : a ≠ b) (ha : a < 2147483648) (hb : b < 2147483648) : (if nI a = nI b then x else y) = y := if_neg (fun q => h ((nI_eq (by omega) (by omega)).mp q))
theorem rzI {α : Type} {n : Nat} {x : Option α} (h : n < 2) : rz (nI n) x = x := by
  have : n = 0 ∨ n = 1 := by omega
  rcases this with rfl | rfl
  · exact rz0
  · exact rz1
theorem and1I {n : Nat} (h : n < 2) : nI n &&& nI 1 = nI n := by
  have : n = 0 ∨ n = 1 := by omega
  rcases this with rfl | rfl <;> rfl
theorem neg1 : (-1 : Int32) ≠ nI 0 := by decide
/-- a row of n ints -/
def rA (n : Nat) (f : Nat → Nat) (r : Nat → Int32) : Prop := ∀ i, i < n → r i = nI (f i)
def rM (n : Nat) (f : Nat → Nat → Nat) (r : Nat → Int32) : Prop := ∀ b, b < n → ∀ p, p < 24 → r (24 * b + p) = nI (f b p)
def up1 (f : Nat → Nat) (i v : Nat) : Nat → Nat := fun j => if j = i then v else f j
def up2 (f : Nat → Nat → Nat) (i j v : Nat) : Nat → Nat → Nat := fun a b => if a = i ∧ b = j then v else f a b
theorem rA_upd {n i v : Nat} {f : Nat → Nat} {r : Nat → Int32} (h : rA n f r) : rA n (up1 f i v) (upd r i (nI v)) := fun j hj => by
  rw [upd_get]
  unfold up1
  by_cases e : j = i
  · rw [if_pos e, if_pos e]
  · rw [if_neg e, if_neg e]; exact h j hj
theorem rM_upd {n b p v : Nat} {f : Nat → Nat → Nat} {r : Nat → Int32} (hp : p < 24) (h : rM n f r) : rM n (up2 f b p v) (upd r (24 * b + p) (nI v)) := fun b' hb p' hp' => by
  rw [upd_get]
  unfold up2
  by_cases e : b' = b ∧ p' = p
  · rw [if_pos e, if_pos (by rw [e.1, e.2])]
  · rw [if_neg e, if_neg (by omega)]; exact h b' hb p' hp'
/-- how many of the first n bits of k are set -/
def pcn (k n : Nat) : Nat := fb_ct (fun i => k.testBit i) n
/-- dye and baths of a row -/
def dyN (row k : Nat) : Nat := row / 8 ^ k % 8
def btN (row : Nat) : Nat := if dyN row 0 = 0 then 0 else if dyN row 1 = 0 then 1 else if dyN row 2 = 0 then 2 else if dyN row 3 = 0 then 3 else 4
def okR (row : Nat) : Prop := row < 4096 ∧ row / 8 ^ (btN row) = 0 ∧ ∀ k, k < btN row → dyN row k ≤ 4
def freN (m : Nat) : Nat := m &&& (15 - (2 * m) % 16)
/-- the sets' difference counted -/
def stN (f g : Nat) : Nat := pcn (f &&& (15 - g)) 4
def crN (th : Nat) (hm : Nat → Nat) (b : Nat) : Nat := fb_ct (fun t => hm t == b) th
def XR (th pl : Nat) (hm fo kn : Nat → Nat) (co : Nat → Nat → Nat) (ta va : Nat → Nat) (wa : Nat → Nat → Nat) (lo hi : Nat → Int32) (la : Nat) (ld lc lr : Nat → Nat) (n3 hp pr pt : Nat) (pb : Nat → Nat → Nat) (S : St) : Prop :=
  (S 3 0 = nI th ∧ S 3 1 = nI pl) ∧ rA 16 hm (S 12) ∧ rA 8 (crN th hm) (S 13) ∧ rA 8 fo (S 14) ∧ rA 8 kn (S 15) ∧ (∀ b, b < 8 → rA 24 (co b) (S (31 + b))) ∧ rA 64 ta (S 9) ∧ rA 4 va (S 10) ∧ (∀ t, t < 16 → rA 24 (wa t) (S (39 + t))) ∧ (∀ t, t < 16 → S 26 t = lo t ∧ S 27 t = hi t) ∧ (S 8 3 = nI la ∧ rA la ld (S 28) ∧ rA la lc (S 29) ∧ rA la lr (S 30)) ∧ S 0 8 = nI n3 ∧ S 6 0 = nI hp ∧ (hp = 1 → S 6 1 = nI pr ∧ S 6 2 = nI pt ∧ ∀ b, b < 8 → rA pl (pb b) (S (64 + b)))
def bN (k : Nat) (p : Nat) : Nat := if k.testBit p then 1 else 0
def MR (th pl : Nat) (hm fo kn : Nat → Nat) (co : Nat → Nat → Nat) (ta va : Nat → Nat) (wa : Nat → Nat → Nat) (lo hi : Nat → Int32) (la : Nat) (ld lc lr : Nat → Nat) (n3 hp pr pt : Nat) (pb : Nat → Nat → Nat) (T : St) : Prop :=
  (T 0 1 = nI th ∧ T 0 2 = nI pl) ∧ rA 16 hm (T 1) ∧ rA 8 fo (T 8) ∧ rM 8 (fun b => bN (kn b)) (T 9) ∧ rM 8 co (T 2) ∧ rA 64 ta (T 3) ∧ rA 4 va (T 4) ∧ rM 16 wa (T 5) ∧ (∀ t, t < 16 → T 6 t = lo t ∧ T 7 t = hi t) ∧ (T 0 4 = nI la ∧ rA la ld (T 10) ∧ rA la lc (T 11) ∧ rA la lr (T 12)) ∧ T 0 3 = nI n3 ∧ T 0 17 = nI hp ∧ (hp = 1 → T 0 18 = nI pr ∧ T 0 19 = nI pt ∧ ∀ b, b < 8 → ∀ p, p < pl → T 13 (24 * b + p) = nI (pb b p))
def BD (th pl : Nat) (hm fo kn : Nat → Nat) (co : Nat → Nat → Nat) (ta va : Nat → Nat) (wa : Nat → Nat → Nat) (lo hi : Nat → Int32) (la : Nat) (ld lc lr : Nat → Nat) (hp pr pt : Nat) (pb : Nat → Nat → Nat) : Prop :=
  (1 ≤ th ∧ th ≤ 16 ∧ 1 ≤ pl ∧ pl ≤ 24) ∧ (∀ t, hm t < 8) ∧ (∀ b, fo b < 2) ∧ (∀ b, kn b < 2 ^ pl) ∧ (∀ b p, co b p < 16) ∧ (∀ i, ta i < 16) ∧ (∀ d, va d ≤ 1000000) ∧ (∀ t p, wa t p < 16) ∧ (∀ t, -3 ≤ (lo t).toInt ∧ (lo t).toInt ≤ 3 ∧ -3 ≤ (hi t).toInt ∧ (hi t).toInt ≤ 3) ∧ (la ≤ 60 ∧ (∀ i, ld i ≤ 9999) ∧ (∀ i, lc i < 16) ∧ ∀ i, lr i ≤ 9) ∧ hp < 2 ∧ (hp = 1 → okR pr ∧ pt < 1000000 ∧ ∀ b p, pb b p < 16)
def Rel (S T : St) : Prop := ∃ (th pl : Nat) (hm fo kn : Nat → Nat) (co : Nat → Nat → Nat) (ta va : Nat → Nat) (wa : Nat → Nat → Nat) (lo hi : Nat → Int32) (la : Nat) (ld lc lr : Nat → Nat) (n3 hp pr pt : Nat) (pb : Nat → Nat → Nat), BD th pl hm fo kn co ta va wa lo hi la ld lc lr hp pr pt pb ∧ XR th pl hm fo kn co ta va wa lo hi la ld lc lr n3 hp pr pt pb S ∧ MR th pl hm fo kn co ta va wa lo hi la ld lc lr n3 hp pr pt pb T
theorem Rel.cg {S S' T : St} (h : ∀ k, k < 72 → S' k = S k) (r : Rel S T) : Rel S' T := by
  obtain ⟨th, pl, hm, fo, kn, co, ta, va, wa, lo, hi, la, ld, lc, lr, n3, hp, pr, pt, pb, B, X, M⟩ := r
  refine ⟨th, pl, hm, fo, kn, co, ta, va, wa, lo, hi, la, ld, lc, lr, n3, hp, pr, pt, pb, B, ?_, M⟩
  obtain ⟨x1, x2, x3, x4, x5, x6, x7, x8, x9, x10, x11, x12, x13, x14⟩ := X
  refine ⟨?_, ?_, ?_, ?_, ?_, fun b hb => ?_, ?_, ?_, fun b hb => ?_, ?_, ?_, ?_, ?_, fun e => ⟨?_, ?_, fun b hb => ?_⟩⟩
  · rw [h 3 (by decide)]; exact x1
  · rw [h 12 (by decide)]; exact x2
  · rw [h 13 (by decide)]; exact x3
  · rw [h 14 (by decide)]; exact x4
  · rw [h 15 (by decide)]; exact x5
  · rw [h (31 + b) (by omega)]; exact x6 b hb
  · rw [h 9 (by decide)]; exact x7
  · rw [h 10 (by decide)]; exact x8
  · rw [h (39 + b) (by omega)]; exact x9 b hb
  · rw [h 26 (by decide), h 27 (by decide)]; exact x10
  · rw [h 8 (by decide), h 28 (by decide), h 29 (by decide), h 30 (by decide)]; exact x11
  · rw [h 0 (by decide)]; exact x12
  · rw [h 6 (by decide)]; exact x13
  · rw [h 6 (by decide)]; exact (x14 e).1
  · rw [h 6 (by decide)]; exact (x14 e).2.1
  · rw [h (64 + b) (by omega)]; exact (x14 e).2.2 b hb
/-- class and reference answer alike: cs says which throw is which number -/
def Agr (cs : List (String × Int32)) (y : Option RX) (w : Option (Int32 × St)) : Prop := (∃ r S' T', y = some (.inr r, S') ∧ w = some (r, T') ∧ T' 0 0 = 0 ∧ Rel S' T') ∨ ∃ E n S' v T', y = some (.inl E, S') ∧ w = some (v, T') ∧ (E, n) ∈ cs ∧ T' 0 0 = n ∧ Rel S' T'
def Agz (y w : Option (Int32 × St)) : Prop := ∃ r S' T', y = some (r, S') ∧ w = some (r, T') ∧ Rel S' T'
theorem MR.cg {th pl : Nat} {hm fo kn : Nat → Nat} {co : Nat → Nat → Nat} {ta va : Nat → Nat} {wa : Nat → Nat → Nat} {lo hi : Nat → Int32} {la : Nat} {ld lc lr : Nat → Nat} {n3 hp pr pt : Nat} {pb : Nat → Nat → Nat} {T : St} (v : Int32) (h : MR th pl hm fo kn co ta va wa lo hi la ld lc lr n3 hp pr pt pb T) : MR th pl hm fo kn co ta va wa lo hi la ld lc lr n3 hp pr pt pb (s2 T 0 0 v) := h
theorem Rel.t0 {S T : St} (v : Int32) (h : Rel S T) : Rel S (s2 T 0 0 v) := h
