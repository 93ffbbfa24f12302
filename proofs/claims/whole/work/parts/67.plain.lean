/-! pure rows: the methods without loops of their own -/
theorem if10 {α : Type} {x y : α} : (if (1 : Int32) = 0 then x else y) = y := if_neg (by decide)
theorem if00 {α : Type} {x y : α} : (if (0 : Int32) = 0 then x else y) = x := if_pos rfl
theorem jf10 {α : Type} {x y : α} : (if nI 1 = nI 0 then x else y) = y := if_neg (by decide)
theorem jf00 {α : Type} {x y : α} : (if nI 0 = nI 0 then x else y) = x := if_pos rfl
theorem kf10 {α : Type} {x y : α} : (if (1 : Int32) = nI 0 then x else y) = y := if_neg (by decide)
theorem kf00 {α : Type} {x y : α} : (if (0 : Int32) = nI 0 then x else y) = x := if_pos rfl
theorem agr_ok {cs : List (String × Int32)} {y : Option RX} {w : Option (Int32 × St)} {r : Int32} {S' T' : St} (hy : y = some (.inr r, S')) (hw : w = some (r, T')) (hz : T' 0 0 = 0) (hR : Rel S' T') : Agr cs y w := Or.inl ⟨r, S', T', hy, hw, hz, hR⟩
theorem rightF' {T : St} (h : T 0 0 = 0) {w : Int32} (hw : w ≠ 0) {α : Type} (f : Int32 → St → Option α) : cl (uX9_right 0 w T) f = f 0 (s2 T 0 0 w) := by rw [rightF h hw, cl_some]
theorem rightT' {T : St} (h : T 0 0 = 0) (w : Int32) {α : Type} (f : Int32 → St → Option α) : cl (uX9_right 1 w T) f = f 1 T := by rw [rightT h, cl_some]
theorem n9 {x c : Int32} (n : Nat) (hn : n < 2147483647) (hc : c = nI n) : x < 0 ∨ (¬ x < 0 ∧ c < x ∧ ¬ x ≤ c) ∨ ∃ j : Nat, j ≤ n ∧ x = nI j ∧ ¬ x < 0 ∧ ¬ c < x ∧ x ≤ c := by
  subst hc
  by_cases h0 : x < 0
  · exact Or.inl h0
  · obtain ⟨k, hk, e⟩ := nI_of h0
    have e3 : x.toInt = (k : Int) := by rw [e]; exact nI_toInt hk
    have e2 : (nI n).toInt = (n : Int) := nI_toInt (by omega)
    by_cases h2 : n < k
    · exact Or.inr (Or.inl ⟨h0, by rw [fa_lt]; omega, by rw [fa_le]; omega⟩)
    · exact Or.inr (Or.inr ⟨k, by omega, e, h0, by rw [fa_lt]; omega, by rw [fa_le]; omega⟩)
theorem rA_snoc {n v : Nat} {f : Nat → Nat} {r : Nat → Int32} (h : rA n f r) : rA (n + 1) (up1 f n v) (upd r n (nI v)) := fun j hj => by
  rw [upd_get]
  unfold up1
  by_cases e : j = n
  · rw [if_pos e, if_pos e]
  · rw [if_neg e, if_neg e]; exact h j (by omega)
theorem pw24 {k pl : Nat} (h : k < 2 ^ pl) (hp : pl ≤ 24) : k < 16777216 := Nat.lt_of_lt_of_le h (show 2 ^ pl ≤ 2 ^ 24 from Nat.pow_le_pow_right (by decide) hp)
section
variable {th pl : Nat} {hm fo kn : Nat → Nat} {co : Nat → Nat → Nat} {ta va : Nat → Nat} {wa : Nat → Nat → Nat} {lo hi : Nat → Int32} {la : Nat} {ld lc lr : Nat → Nat} {n3 hp pr pt : Nat} {pb : Nat → Nat → Nat} {S S' T T' : St}
theorem Rel.mk (B : BD th pl hm fo kn co ta va wa lo hi la ld lc lr hp pr pt pb) (X : XR th pl hm fo kn co ta va wa lo hi la ld lc lr n3 hp pr pt pb S) (M : MR th pl hm fo kn co ta va wa lo hi la ld lc lr n3 hp pr pt pb T) : Rel S T := ⟨th, pl, hm, fo, kn, co, ta, va, wa, lo, hi, la, ld, lc, lr, n3, hp, pr, pt, pb, B, X, M⟩
theorem XR.mv (X : XR th pl hm fo kn co ta va wa lo hi la ld lc lr n3 hp pr pt pb S) {t b : Nat} (ht : t < th) (hth : th ≤ 16) (hb : b < 8) : XR th pl (up1 hm t b) fo kn co ta va wa lo hi la ld lc lr n3 hp pr pt pb (s2 (s2 (s2 S 13 (hm t) (nI (crN th hm (hm t)) - nI 1)) 12 t (nI b)) 13 b (s2 (s2 S 13 (hm t) (nI (crN th hm (hm t)) - nI 1)) 12 t (nI b) 13 b + nI 1)) := by
  obtain ⟨x1, x2, x3, x4, x5, x6, x7, x8, x9, x10, x11, x12, x13, x14⟩ := X
  refine ⟨x1, ?_, fun c hc => ?_, x4, x5, fun b hb => by rw [s2_row _ _ _ _ (by omega), s2_row _ _ _ _ (by omega), s2_row _ _ _ _ (by omega)]; exact x6 b hb, x7, x8, fun b hb => by rw [s2_row _ _ _ _ (by omega), s2_row _ _ _ _ (by omega), s2_row _ _ _ _ (by omega)]; exact x9 b hb, x10, x11, x12, x13, fun h => ⟨(x14 h).1, (x14 h).2.1, fun b hb => by rw [s2_row _ _ _ _ (by omega), s2_row _ _ _ _ (by omega), s2_row _ _ _ _ (by omega)]; exact (x14 h).2.2 b hb⟩⟩
  · rw [s2_row _ _ _ _ (by decide), s2_hit, s2_row _ _ _ _ (by decide)]; exact rA_upd x2
  · have e0 : ∀ c, crN th (up1 hm t b) c + (if hm t = c then 1 else 0) = crN th hm c + (if b = c then 1 else 0) := fun c => by
      have h1 := fb_ct_upd (fun k => hm k == c) (b == c) (i := t) (n := th) ht
      have h2 : (fun k => up1 hm t b k == c) = (fun k => if k = t then (b == c) else (fun k => hm k == c) k) := by
        funext k
        unfold up1
        by_cases e : k = t
        · rw [if_pos e, if_pos e]
        · rw [if_neg e, if_neg e]
      unfold crN
      rw [h2]
      simpa using h1
    have e1 := e0 c
    have hpos : 0 < crN th hm (hm t) := fb_ct_pos.mpr ⟨t, ht, by simp⟩
    rw [s2_hit, upd_get, s2_row _ _ _ _ (by decide), s2_hit]
    by_cases eb : c = b
    · rw [if_pos eb]
      subst eb
      rw [if_pos rfl] at e1
      by_cases eh : c = hm t
      · rw [upd_get, if_pos eh, pk_sub (by omega), nI_add]
        rw [if_pos eh.symm] at e1
        congr 1
        rw [eh] at e1 ⊢
        omega
      · rw [upd_get, if_neg eh, x3 c hc, nI_add]
        rw [if_neg (show ¬ hm t = c from fun q => eh q.symm)] at e1
        congr 1
        omega
    · rw [if_neg eb, upd_get]
      rw [if_neg (show ¬ b = c from fun q => eb q.symm)] at e1
      by_cases eh : c = hm t
      · rw [if_pos eh, pk_sub (by omega)]
        rw [if_pos eh.symm] at e1
        congr 1
        rw [eh] at e1 ⊢
        omega
      · rw [if_neg eh, x3 c hc]
        rw [if_neg (show ¬ hm t = c from fun q => eh q.symm)] at e1
        congr 1
        omega
theorem XR.law (X : XR th pl hm fo kn co ta va wa lo hi la ld lc lr n3 hp pr pt pb S) (d c r : Nat) : XR th pl hm fo kn co ta va wa lo hi (la + 1) (up1 ld la d) (up1 lc la c) (up1 lr la r) n3 hp pr pt pb (s2 (s2 (s2 (s2 S 28 la (nI d)) 29 la (nI c)) 30 la (nI r)) 8 3 (nI (la + 1))) := by
  obtain ⟨x1, x2, x3, x4, x5, x6, x7, x8, x9, x10, x11, x12, x13, x14⟩ := X
  have hh : ∀ k, k ≠ 28 → k ≠ 29 → k ≠ 30 → k ≠ 8 → s2 (s2 (s2 (s2 S 28 la (nI d)) 29 la (nI c)) 30 la (nI r)) 8 3 (nI (la + 1)) k = S k := fun k a1 a2 a3 a4 => by rw [s2_row _ _ _ _ a4, s2_row _ _ _ _ a3, s2_row _ _ _ _ a2, s2_row _ _ _ _ a1]
  refine ⟨x1, x2, x3, x4, x5, fun b hb => by rw [hh _ (by omega) (by omega) (by omega) (by omega)]; exact x6 b hb, x7, x8, fun b hb => by rw [hh _ (by omega) (by omega) (by omega) (by omega)]; exact x9 b hb, x10, ⟨rfl, ?_, ?_, ?_⟩, x12, x13, fun h => ⟨(x14 h).1, (x14 h).2.1, fun b hb => by rw [hh _ (by omega) (by omega) (by omega) (by omega)]; exact (x14 h).2.2 b hb⟩⟩
  · rw [s2_row _ _ _ _ (by decide), s2_row _ _ _ _ (by decide), s2_row _ _ _ _ (by decide), s2_hit]; exact rA_snoc x11.2.1
  · rw [s2_row _ _ _ _ (by decide), s2_row _ _ _ _ (by decide), s2_hit, s2_row _ _ _ _ (by decide)]; exact rA_snoc x11.2.2.1
  · rw [s2_row _ _ _ _ (by decide), s2_hit, s2_row _ _ _ _ (by decide), s2_row _ _ _ _ (by decide)]; exact rA_snoc x11.2.2.2
theorem MR.law (M : MR th pl hm fo kn co ta va wa lo hi la ld lc lr n3 hp pr pt pb T) (d c r : Nat) : MR th pl hm fo kn co ta va wa lo hi (la + 1) (up1 ld la d) (up1 lc la c) (up1 lr la r) n3 hp pr pt pb (s2 (s2 (s2 (s2 T 10 la (nI d)) 11 la (nI c)) 12 la (nI r)) 0 4 (nI (la + 1))) := by
  obtain ⟨m1, m2, m3, m4, m5, m6, m7, m8, m9, m10, m11, m12, m13⟩ := M
  refine ⟨m1, m2, m3, m4, m5, m6, m7, m8, m9, ⟨rfl, ?_, ?_, ?_⟩, m11, m12, m13⟩
  · rw [s2_row _ _ _ _ (by decide), s2_row _ _ _ _ (by decide), s2_row _ _ _ _ (by decide), s2_hit]; exact rA_snoc m10.2.1
  · rw [s2_row _ _ _ _ (by decide), s2_row _ _ _ _ (by decide), s2_hit, s2_row _ _ _ _ (by decide)]; exact rA_snoc m10.2.2.1
  · rw [s2_row _ _ _ _ (by decide), s2_hit, s2_row _ _ _ _ (by decide), s2_row _ _ _ _ (by decide)]; exact rA_snoc m10.2.2.2
theorem XR.sl (X : XR th pl hm fo kn co ta va wa lo hi la ld lc lr n3 hp pr pt pb S) (t : Nat) (x y : Int32) : XR th pl hm fo kn co ta va wa (upd lo t x) (upd hi t y) la ld lc lr n3 hp pr pt pb (s2 (s2 S 26 t x) 27 t y) := by
  obtain ⟨x1, x2, x3, x4, x5, x6, x7, x8, x9, x10, x11, x12, x13, x14⟩ := X
  refine ⟨x1, x2, x3, x4, x5, fun b hb => by rw [s2_row _ _ _ _ (by omega), s2_row _ _ _ _ (by omega)]; exact x6 b hb, x7, x8, fun b hb => by rw [s2_row _ _ _ _ (by omega), s2_row _ _ _ _ (by omega)]; exact x9 b hb, fun i hi => ⟨?_, ?_⟩, x11, x12, x13, fun h => ⟨(x14 h).1, (x14 h).2.1, fun b hb => by rw [s2_row _ _ _ _ (by omega), s2_row _ _ _ _ (by omega)]; exact (x14 h).2.2 b hb⟩⟩
  · rw [s2_row _ _ _ _ (by decide), s2_hit, upd_get, upd_get, (x10 i hi).1]
  · rw [s2_hit, s2_row _ _ _ _ (by decide), upd_get, upd_get, (x10 i hi).2]
theorem MR.sl (M : MR th pl hm fo kn co ta va wa lo hi la ld lc lr n3 hp pr pt pb T) (t : Nat) (x y : Int32) : MR th pl hm fo kn co ta va wa (upd lo t x) (upd hi t y) la ld lc lr n3 hp pr pt pb (s2 (s2 T 6 t x) 7 t y) := by
  obtain ⟨m1, m2, m3, m4, m5, m6, m7, m8, m9, m10, m11, m12, m13⟩ := M
  refine ⟨m1, m2, m3, m4, m5, m6, m7, m8, fun i hi => ⟨?_, ?_⟩, m10, m11, m12, m13⟩
  · rw [s2_row _ _ _ _ (by decide), s2_hit, upd_get, upd_get, (m9 i hi).1]
  · rw [s2_hit, s2_row _ _ _ _ (by decide), upd_get, upd_get, (m9 i hi).2]
theorem manyM (h1 : T 0 1 = nI th) (h2 : rA 16 hm (T 1)) (hth : th ≤ 16) (hb8 : ∀ t, hm t < 8) {b : Nat} (hb : b < 8) : uX9_many (nI b) T = some (nI (crN th hm b), T) := by
  unfold uX9_many lX9_many_4
  simp only [ltE, li]
  refine lpF (β := K3) th (by omega) (fun i k => k (nI b) (nI (crN i hm b)) (nI i) T = some (nI (crN th hm b), T)) (fun k => ?_) (fun i k hi ih => ?_)
  · unfold bX9_many_4
    rw [h1, iLeT (by omega) (by omega)]
  · unfold bX9_many_4 bX9_many_25
    have := hb8 i
    simp (disch := omega) only [li, h1, iLeF, ckI, clI, h2 i (by omega), ltE, nI_add]
    have e : crN (i + 1) hm b = crN i hm b + (if hm i == b then 1 else 0) := rfl
    by_cases q : hm i = b
    · rw [iEqT q]
      rw [e, if_pos (by simpa using q)] at ih
      exact ih
    · rw [iEqF q (by omega) (by omega)]
      rw [e, if_neg (by simpa using q)] at ih
      exact ih
theorem bndX (h : rA 8 kn (S 15)) {b p : Nat} (hb : b < 8) (hp : p < 24) (hk : kn b < 16777216) : uX0_isBound (nI b) (nI p) S = some (nI (bN (kn b) p), S) := by
  unfold uX0_isBound bX0_isBound_18
  simp (disch := omega) only [li, ckI, clI, h b hb]
  rw [shrb (by omega) (by omega)]
  rcases (show bN (kn b) p = 0 ∨ bN (kn b) p = 1 by have := bN_lt (kn b) p; omega) with e | e
  · rw [e, if_pos rfl, rzI (by decide)]
  · rw [e, if_neg (by decide), rzI (by decide)]
theorem cmX (h : rA 64 ta (S 9)) {c d : Nat} (hc : c < 16) (hd : d < 4) : uX2_comesOf (nI c) (nI d) S = some (nI (ta (4 * c + d)), S) := by
  unfold uX2_comesOf
  simp (disch := omega) only [li, pk_mul, nI_add, ckI, clI]
  rw [h _ (by omega), Nat.mul_comm c 4]
end
theorem q_bound {S T : St} (h : Rel S T) (x y : Int32) : Agr [(eIO, 1)] (uX8_bound x y S) (uX9_bound x y T) := by
  unfold uX8_bound uX9_bound bX9_bound_39 bX9_bound_40
  simp only [lzE]
  obtain ⟨T1, eT, hz, h⟩ : ∃ T1, T1 = s2 T 0 0 0 ∧ T1 0 0 = 0 ∧ Rel S T1 := ⟨_, rfl, rfl, h⟩
  rw [← eT]
  obtain ⟨th, pl, hm, fo, kn, co, ta, va, wa, lo, hi, la, ld, lc, lr, n3, hp, pr, pt, pb, B, X, M⟩ := id h
  have B1 := B.1
  rcases x_bun (S := S) x with ⟨b, hb, rfl, e1, m1⟩ | ⟨e1, m1⟩
  · rcases x_plc X.1.2 B1.2.2.2 y with ⟨p, hp, rfl, e2, m2⟩ | ⟨e2, m2⟩
    · refine agr_ok (r := nI (bN (kn b) p)) (S' := S) (T' := T1) ?_ ?_ hz h
      · rw [e1, cx_ok, e2, cx_ok, bndX X.2.2.2.2.1 hb (by omega) (pw24 (B.2.2.2.1 b) B1.2.2.2), cl_some, rzI (bN_lt _ _)]
      · rw [m1 _ hz, cl_some, if10, m2 _ M.1.2 hz, cl_some, if10]
        simp (disch := omega) only [li, pk_mul, nI_add, ckI, clI]
        have e9 : T1 9 (24 * b + p) = nI (bN (kn b) p) := M.2.2.2.1 b hb p (by omega)
        rw [e9]
        rcases (show bN (kn b) p = 0 ∨ bN (kn b) p = 1 by have := bN_lt (kn b) p; omega) with e | e
        · rw [e, if_pos rfl, rzI (by decide)]
        · rw [e, if_neg (by decide), rzI (by decide)]
    · exact agx h (by rw [e1, cx_ok, e2, cx_ex]) (v := 0) (n := 1) (by rw [m1 _ hz, cl_some, if10, m2 _ M.1.2 hz, cl_some, if00, rz0]) (by simp)
  · exact agx h (by rw [e1, cx_ex]) (v := 0) (n := 1) (by rw [m1 _ hz, cl_some, if00, rz0]) (by simp)
theorem BD.drop {th pl : Nat} {hm fo kn : Nat → Nat} {co : Nat → Nat → Nat} {ta va : Nat → Nat} {wa : Nat → Nat → Nat} {lo hi : Nat → Int32} {la : Nat} {ld lc lr : Nat → Nat} {hp pr pt : Nat} {pb : Nat → Nat → Nat} (B : BD th pl hm fo kn co ta va wa lo hi la ld lc lr hp pr pt pb) : BD th pl hm fo kn co ta va wa lo hi la ld lc lr 0 pr pt pb := by
  obtain ⟨b1, b2, b3, b4, b5, b6, b7, b8, b9, b10, b11, b12⟩ := B
  exact ⟨b1, b2, b3, b4, b5, b6, b7, b8, b9, b10, by decide, fun q => by omega⟩
theorem q_table {S T : St} (h : Rel S T) (x y w : Int32) : Agr [(eIO, 1), (eIA, 2)] (uX8_table x y w S) (uX9_table x y w T) := by
  unfold uX8_table uX9_table bX9_table_29 bX9_table_30 bX9_table_52 bX9_table_53 bX9_table_60
  simp only [lzE, ltE]
  obtain ⟨T1, eT, hz, h⟩ : ∃ T1, T1 = s2 T 0 0 0 ∧ T1 0 0 = 0 ∧ Rel S T1 := ⟨_, rfl, rfl, h⟩
  rw [← eT]
  obtain ⟨th, pl, hm, fo, kn, co, ta, va, wa, lo, hi, la, ld, lc, lr, n3, hp, pr, pt, pb, B, X, M⟩ := id h
  have hF := fun (α : Type) (w : Int32) (hw : w ≠ 0) (f : Int32 → St → Option α) => rightF' hz hw f
  rcases x_col x with ⟨c, hc, rfl, c1, c2, c3⟩ | ⟨c1, c2⟩
  · rcases x_dye (S := S) y with ⟨d, hd, rfl, d1, d2, d3⟩ | ⟨d1, d2⟩
    · rw [if_neg c2, if_neg c3, if_neg d2, if_neg d3, rightT' hz, if10, c1 S, cl_some, if10, d1, cx_ok]
      rcases x_col w with ⟨o, ho, rfl, o1, o2, o3⟩ | ⟨o1, o2⟩
      · rw [if_neg o2, if_neg o3, rightT' hz, if10, o1 S, cl_some, if10, cmX X.2.2.2.2.2.2.1 hc hd, cl_some]
        unfold uX2_tell uX4_drop
        simp (disch := omega) only [li, pk_mul, nI_add, ckI, clI, lzE, ltE, cl_some]
        rw [M.2.2.2.2.2.1 _ (by omega), Nat.mul_comm c 4]
        refine agr_ok rfl rfl hz (Rel.mk ?_ (X.taU (4 * c + d) o).drop (M.taU (4 * c + d) o).drop)
        obtain ⟨b1, b2, b3, b4, b5, b6, b7, b8, b9, b10, b11, b12⟩ := B
        exact ⟨b1, b2, b3, b4, b5, up1_lt b6 ho, b7, b8, b9, b10, by decide, fun q => by omega⟩
      · rw [o1 S, cl_some, if00]
        rcases o2 with o2 | ⟨o2, o3⟩
        · rw [if_pos o2, rightF' hz (by decide), if00]
          exact agx h rfl rfl (by simp)
        · rw [if_neg o2, if_pos o3, rightF' hz (by decide), if00]
          exact agx h rfl rfl (by simp)
    · rw [c1 S, cl_some, if10, d1, cx_ex, if_neg c2, if_neg c3]
      rcases d2 with d2 | ⟨d2, d3⟩
      · rw [if_pos d2, rightF' hz (by decide), if00]
        exact agx h rfl rfl (by simp)
      · rw [if_neg d2, if_pos d3, rightF' hz (by decide), if00]
        exact agx h rfl rfl (by simp)
  · rw [c1 S, cl_some, if00]
    rcases c2 with c2 | ⟨c2, c3⟩
    · rw [if_pos c2, rightF' hz (by decide), if00]
      exact agx h rfl rfl (by simp)
    · rw [if_neg c2, if_pos c3, rightF' hz (by decide), if00]
      exact agx h rfl rfl (by simp)
theorem q_vat {S T : St} (h : Rel S T) (x y : Int32) : Agr [(eIO, 1)] (uX8_vat x y S) (uX9_vat x y T) := by
  unfold uX8_vat uX9_vat bX9_vat_19 bX9_vat_20 bX9_vat_47 bX8_vat_24
  simp only [lzE, ltE]
  obtain ⟨T1, eT, hz, h⟩ : ∃ T1, T1 = s2 T 0 0 0 ∧ T1 0 0 = 0 ∧ Rel S T1 := ⟨_, rfl, rfl, h⟩
  rw [← eT]
  obtain ⟨th, pl, hm, fo, kn, co, ta, va, wa, lo, hi, la, ld, lc, lr, n3, hp, pr, pt, pb, B, X, M⟩ := id h
  rcases x_dye (S := S) x with ⟨d, hd, rfl, d1, d2, d3⟩ | ⟨d1, d2⟩
  · rw [if_neg d2, if_neg d3, rightT' hz, if10, d1, cx_ok]
    by_cases y1 : y < 1
    · rw [if_pos y1, if_pos y1]
      exact agr_ok rfl rfl hz h
    · rw [if_neg y1, if_neg y1]
      unfold uX7_strengthOf uX7_fill
      have xv := X.2.2.2.2.2.2.2.1 d hd
      have mv := M.2.2.2.2.2.2.1 d hd
      have hv := B.2.2.2.2.2.2.1 d
      simp (disch := omega) only [ckI, clI, cl_some, lzE]
      rw [xv, mv]
      simp only [li]
      rw [pk_sub hv]
      rcases n9 (x := y) (c := nI (1000000 - va d)) (1000000 - va d) (by omega) rfl with y2 | ⟨y2, y3, y4⟩ | ⟨m, hm1, rfl, y2, y3, y4⟩
      · exfalso
        rw [fa_lt] at y1 y2
        have e1 : (1 : Int32).toInt = 1 := rfl
        have e2 : (0 : Int32).toInt = 0 := rfl
        omega
      · rw [if_neg y4, if_neg y4]
        exact agr_ok rfl rfl hz h
      · rw [if_pos y4, if_pos y4, nI_add]
        refine agr_ok (r := nI (va d + m)) (S' := s2 S 10 d (nI (va d + m))) (T' := s2 T1 4 d (nI (va d + m))) ?_ ?_ hz (Rel.mk ?_ (X.vaU d (va d + m)) (M.vaU d (va d + m)))
        · rw [s2_get, if_pos ⟨rfl, rfl⟩]
        · rw [s2_get, if_pos ⟨rfl, rfl⟩]
        · obtain ⟨b1, b2, b3, b4, b5, b6, b7, b8, b9, b10, b11, b12⟩ := B
          exact ⟨b1, b2, b3, b4, b5, b6, up1_le b7 (by omega), b8, b9, b10, b11, b12⟩
  · rw [d1, cx_ex]
    rcases d2 with d2 | ⟨d2, d3⟩
    · rw [if_pos d2, rightF' hz (by decide), if00]
      exact agx h rfl rfl (by simp)
    · rw [if_neg d2, if_pos d3, rightF' hz (by decide), if00]
      exact agx h rfl rfl (by simp)
theorem q_want {S T : St} (h : Rel S T) (x y w : Int32) : Agr [(eIO, 1), (eIA, 2)] (uX8_want x y w S) (uX9_want x y w T) := by
  unfold uX8_want uX9_want bX9_want_36 bX9_want_37 bX9_want_44
  simp only [lzE, ltE]
  obtain ⟨T1, eT, hz, h⟩ : ∃ T1, T1 = s2 T 0 0 0 ∧ T1 0 0 = 0 ∧ Rel S T1 := ⟨_, rfl, rfl, h⟩
  rw [← eT]
  obtain ⟨th, pl, hm, fo, kn, co, ta, va, wa, lo, hi, la, ld, lc, lr, n3, hp, pr, pt, pb, B, X, M⟩ := id h
  have B1 := B.1
  rcases x_thr X.1.1 B1.2.1 x with ⟨t, ht, rfl, e1, m1⟩ | ⟨e1, m1⟩
  · rcases x_plc X.1.2 B1.2.2.2 y with ⟨p, hp, rfl, e2, m2⟩ | ⟨e2, m2⟩
    · rw [e1, cx_ok, e2, cx_ok, m1 _ M.1.1 hz, cl_some, if10, m2 _ M.1.2 hz, cl_some, if10]
      rcases x_col w with ⟨o, ho, rfl, o1, o2, o3⟩ | ⟨o1, o2⟩
      · rw [if_neg o2, if_neg o3, rightT' hz, if10, o1 S, cl_some, if10]
        unfold uX3_wantedAt uX3_ask uX4_drop
        simp (disch := omega) only [li, pk_mul, nI_add, ckI, cknI, clI, lzE, ltE, cl_some]
        rw [M.2.2.2.2.2.2.2.1 t (by omega) p (by omega), X.2.2.2.2.2.2.2.2.1 t (by omega) p (by omega)]
        refine agr_ok rfl rfl hz (Rel.mk ?_ (X.waU (by omega) p o).drop (M.waU t p o (by omega)).drop)
        obtain ⟨b1, b2, b3, b4, b5, b6, b7, b8, b9, b10, b11, b12⟩ := B
        exact ⟨b1, b2, b3, b4, b5, b6, b7, up2_lt b8 ho, b9, b10, by decide, fun q => by omega⟩
      · rw [o1 S, cl_some, if00]
        rcases o2 with o2 | ⟨o2, o3⟩
        · rw [if_pos o2, rightF' hz (by decide), if00]
          exact agx h rfl rfl (by simp)
        · rw [if_neg o2, if_pos o3, rightF' hz (by decide), if00]
          exact agx h rfl rfl (by simp)
    · exact agx h (by rw [e1, cx_ok, e2, cx_ex]) (v := 0) (n := 1) (by rw [m1 _ M.1.1 hz, cl_some, if10, m2 _ M.1.2 hz, cl_some, if00]) (by simp)
  · exact agx h (by rw [e1, cx_ex]) (v := 0) (n := 1) (by rw [m1 _ M.1.1 hz, cl_some, if00]) (by simp)
theorem q_into {S T : St} (h : Rel S T) (x y : Int32) : Agr [(eIO, 1)] (uX8_into x y S) (uX9_into x y T) := by
  unfold uX8_into uX9_into bX9_into_21
  simp only [lzE, ltE]
  obtain ⟨T1, eT, hz, h⟩ : ∃ T1, T1 = s2 T 0 0 0 ∧ T1 0 0 = 0 ∧ Rel S T1 := ⟨_, rfl, rfl, h⟩
  rw [← eT]
  obtain ⟨th, pl, hm, fo, kn, co, ta, va, wa, lo, hi, la, ld, lc, lr, n3, hp, pr, pt, pb, B, X, M⟩ := id h
  have B1 := B.1
  rcases x_thr X.1.1 B1.2.1 x with ⟨t, ht, rfl, e1, m1⟩ | ⟨e1, m1⟩
  · rcases x_bun (S := S) y with ⟨b, hb, rfl, e2, m2⟩ | ⟨e2, m2⟩
    · rw [e1, cx_ok, e2, cx_ok, m1 _ M.1.1 hz, cl_some, if10, m2 _ hz, cl_some, if10]
      have hh := B.2.1 t
      have x12 := X.2.1 t (by omega)
      have x13 := X.2.2.1 (hm t) hh
      unfold uX0_bundleOf uX0_move uX4_drop
      simp (disch := omega) only [li, ckI, clI, lzE, cl_some, x12, x13]
      obtain ⟨S1, w1, w2⟩ := w_wash (s2 (s2 (s2 S 13 (hm t) (nI (crN th hm (hm t)) - nI 1)) 12 t (nI b)) 13 b (s2 (s2 S 13 (hm t) (nI (crN th hm (hm t)) - nI 1)) 12 t (nI b) 13 b + nI 1))
      obtain ⟨T2, u1, u2⟩ := w_undyed (s2 (s2 T1 1 t (nI b)) 0 17 (nI 0))
      rw [w1, u1]
      simp only [cl_some]
      rw [M.2.1 t (by omega)]
      refine agr_ok rfl rfl ?_ (Rel.mk ?_ ((X.mv ht B1.2.1 hb).wash w2).drop ((M.hmU t b).drop.undy u2))
      · rw [u2.1 0 (by decide) (by decide)]; exact hz
      · obtain ⟨b1, b2, b3, b4, b5, b6, b7, b8, b9, b10, b11, b12⟩ := B
        exact ⟨b1, up1_lt b2 hb, b3, fun _ => two0 _, fun _ _ => Nat.succ_pos _, b6, b7, b8, b9, b10, by decide, fun q => by omega⟩
    · exact agx h (by rw [e1, cx_ok, e2, cx_ex]) (v := 0) (n := 1) (by rw [m1 _ M.1.1 hz, cl_some, if10, m2 _ hz, cl_some, if00]) (by simp)
  · exact agx h (by rw [e1, cx_ex]) (v := 0) (n := 1) (by rw [m1 _ M.1.1 hz, cl_some, if00]) (by simp)
theorem q_fold {S T : St} (h : Rel S T) (x : Int32) {v : Nat} (hv : v < 2) : Agr [(eIO, 1)] (uX8_fold x (nI v) S) (uX9_fold x (nI v) T) := by
  unfold uX8_fold uX9_fold
  simp only [lzE, ltE]
  obtain ⟨T1, eT, hz, h⟩ : ∃ T1, T1 = s2 T 0 0 0 ∧ T1 0 0 = 0 ∧ Rel S T1 := ⟨_, rfl, rfl, h⟩
  rw [← eT]
  obtain ⟨th, pl, hm, fo, kn, co, ta, va, wa, lo, hi, la, ld, lc, lr, n3, hp, pr, pt, pb, B, X, M⟩ := id h
  have B1 := B.1
  rcases x_bun (S := S) x with ⟨b, hb, rfl, e2, m2⟩ | ⟨e2, m2⟩
  · rw [e2, cx_ok, m2 _ hz, cl_some, if10]
    have hh := B.2.2.1 b
    unfold uX0_isFolded uX0_setFolded uX4_drop
    simp (disch := omega) only [li, ckI, clI, lzE, cl_some, X.2.2.2.1 b hb, rzI, and1I]
    obtain ⟨S1, w1, w2⟩ := w_wash (s2 S 14 b (nI v))
    obtain ⟨T2, u1, u2⟩ := w_undyed (s2 (s2 T1 8 b (nI v)) 0 17 (nI 0))
    rw [w1, u1]
    simp only [cl_some]
    rw [M.2.2.1 b hb, rzI hh]
    refine agr_ok rfl rfl ?_ (Rel.mk ?_ ((X.foU b v).wash w2).drop ((M.foU b v).drop.undy u2))
    · rw [u2.1 0 (by decide) (by decide)]; exact hz
    · obtain ⟨b1, b2, b3, b4, b5, b6, b7, b8, b9, b10, b11, b12⟩ := B
      exact ⟨b1, b2, up1_lt b3 hv, fun _ => two0 _, fun _ _ => Nat.succ_pos _, b6, b7, b8, b9, b10, by decide, fun q => by omega⟩
  · exact agx h (by rw [e2, cx_ex]) (v := 0) (n := 1) (by rw [m2 _ hz, cl_some, if00, rz0]) (by simp)
theorem q_slip {S T : St} (h : Rel S T) (x y w : Int32) : Agr [(eIO, 1), (eIA, 2)] (uX8_slip x y w S) (uX9_slip x y w T) := by
  unfold uX8_slip uX9_slip bX9_slip_34 bX9_slip_35 bX9_slip_42 bX8_slip_21
  simp only [lzE, ltE]
  obtain ⟨T1, eT, hz, h⟩ : ∃ T1, T1 = s2 T 0 0 0 ∧ T1 0 0 = 0 ∧ Rel S T1 := ⟨_, rfl, rfl, h⟩
  rw [← eT]
  obtain ⟨th, pl, hm, fo, kn, co, ta, va, wa, lo, hi, la, ld, lc, lr, n3, hp, pr, pt, pb, B, X, M⟩ := id h
  have B1 := B.1
  rcases x_thr X.1.1 B1.2.1 x with ⟨t, ht, rfl, e1, m1⟩ | ⟨e1, m1⟩
  · rw [e1, cx_ok, m1 _ M.1.1 hz, cl_some, if10]
    by_cases y1 : y < -3
    · rw [if_pos y1, if_pos y1, rightF' hz (by decide), if00]
      exact agx h rfl rfl (by simp)
    rw [if_neg y1, if_neg y1]
    by_cases y2 : w < y
    · rw [if_pos y2, if_pos y2, rightF' hz (by decide), if00]
      exact agx h rfl rfl (by simp)
    rw [if_neg y2, if_neg y2]
    by_cases y3 : 3 < w
    · rw [if_pos y3, if_neg (fun q => by rw [fa_lt] at y3; rw [fa_le] at q; omega), rightF' hz (by decide), if00]
      exact agx h rfl rfl (by simp)
    rw [if_neg y3, if_pos (fa_of_nlt y3), rightT' hz, if10]
    unfold uX6_let
    simp (disch := omega) only [ckI, clI, lzE, cl_some]
    refine agr_ok rfl rfl hz (Rel.mk ?_ (X.sl t y w) (M.sl t y w))
    obtain ⟨b1, b2, b3, b4, b5, b6, b7, b8, b9, b10, b11, b12⟩ := B
    refine ⟨b1, b2, b3, b4, b5, b6, b7, b8, fun j => ?_, b10, b11, b12⟩
    rw [upd_get, upd_get]
    by_cases e : j = t
    · rw [if_pos e, if_pos e]
      rw [fa_lt] at y1 y2 y3
      have e1 : (-3 : Int32).toInt = -3 := by decide +kernel
      have e2 : (3 : Int32).toInt = 3 := by decide +kernel
      omega
    · rw [if_neg e, if_neg e]; exact b9 j
  · exact agx h (by rw [e1, cx_ex]) (v := 0) (n := 1) (by rw [m1 _ M.1.1 hz, cl_some, if00]) (by simp)
theorem x_day (x : Int32) : (∃ c, c ≤ 9999 ∧ x = nI c ∧ (∀ S : St, uX8_isDay x S = some (1, S)) ∧ ¬ x < 0 ∧ ¬ 9999 < x) ∨ ((∀ S : St, uX8_isDay x S = some (0, S)) ∧ (x < 0 ∨ (¬ x < 0 ∧ 9999 < x))) := by
  unfold uX8_isDay bX8_isDay_15 bX8_isDay_16
  rcases n9 (x := x) (c := 9999) 9999 (by omega) rfl with h0 | ⟨h0, h1, h2⟩ | ⟨t, ht, e, h0, h1, h2⟩
  · exact Or.inr ⟨fun S => by rw [if_pos h0, rz0], Or.inl h0⟩
  · exact Or.inr ⟨fun S => by rw [if_neg h0, if_pos h1, rz0], Or.inr ⟨h0, h1⟩⟩
  · exact Or.inl ⟨t, ht, e, fun S => by rw [if_neg h0, if_neg h1, rz1], h0, h1⟩
theorem q_law {S T : St} (h : Rel S T) (x y w : Int32) : Agz (uX8_law x y w S) (uX9_law x y w T) := by
  unfold uX8_law uX9_law bX8_law_36 bX9_law_45 uX1_size
  simp only [lzE, cl_some]
  obtain ⟨T1, eT, hz, h⟩ : ∃ T1, T1 = s2 T 0 0 0 ∧ T1 0 0 = 0 ∧ Rel S T1 := ⟨_, rfl, rfl, h⟩
  rw [← eT]
  obtain ⟨th, pl, hm, fo, kn, co, ta, va, wa, lo, hi, la, ld, lc, lr, n3, hp, pr, pt, pb, B, X, M⟩ := id h
  have hla := B.2.2.2.2.2.2.2.2.2.1.1
  have xl := X.2.2.2.2.2.2.2.2.2.2.1.1
  have ml := M.2.2.2.2.2.2.2.2.2.1.1
  have no : Agz (some (-1, S)) (some (-1, T1)) := ⟨_, _, _, rfl, rfl, h⟩
  rw [xl, ml]
  simp only [li]
  by_cases e60 : la = 60
  · subst e60
    rw [iLeT (by omega) (by omega), iEqT rfl]; exact no
  rw [iLeF (by omega) (by omega), iEqF e60 (by omega) (by omega)]
  rcases x_day x with ⟨d, hd, rfl, d1, d2, d3⟩ | ⟨d1, d2⟩
  · have d2' : ¬ nI d < nI 0 := d2
    have d3' : ¬ nI 9999 < nI d := d3
    rw [d1 S, cl_some, if_neg d2', if_neg d3', kf10]
    rcases x_col y with ⟨c, hc, rfl, c1, c2, c3⟩ | ⟨c1, c2⟩
    · have c2' : ¬ nI c < nI 0 := c2
      rw [c1 S, cl_some, if_neg c2', iLtF (by omega) (by omega), kf10]
      rcases n9 (x := w) (c := nI 9) 9 (by omega) rfl with y2 | ⟨y2, y3, y4⟩ | ⟨r, hr, rfl, y2, y3, y4⟩
      · have y2' : w < nI 0 := y2
        rw [if_pos y2', if_pos y2']; exact no
      · have y2' : ¬ w < nI 0 := y2
        rw [if_neg y2', if_neg y2', if_neg y4, if_neg y4]; exact no
      · have y2' : ¬ nI r < nI 0 := y2
        rw [if_neg y2', if_neg y2', if_pos y4, if_pos y4]
        unfold uX1_add
        simp (disch := omega) only [li, lzE, s2_row, xl, ml, ckI, clI, nI_add, cl_some]
        refine ⟨nI (la + 1), _, _, rfl, rfl, Rel.mk ?_ (X.law d c r) (M.law d c r)⟩
        obtain ⟨b1, b2, b3, b4, b5, b6, b7, b8, b9, ⟨b10, b11, b12, b13⟩, b14, b15⟩ := B
        exact ⟨b1, b2, b3, b4, b5, b6, b7, b8, b9, ⟨by omega, up1_le b11 hd, up1_lt b12 hc, up1_le b13 hr⟩, b14, b15⟩
    · rw [c1 S, cl_some, kf00]
      rcases c2 with c2 | ⟨c2, c3⟩
      · have c2' : y < nI 0 := c2
        rw [if_pos c2']; exact no
      · have c2' : ¬ y < nI 0 := c2
        rw [if_neg c2', if_pos (show nI 15 < y by rw [fa_le] at c3; rw [fa_lt]; have e1 : (16 : Int32).toInt = 16 := rfl; have e2 : (nI 15).toInt = 15 := rfl; omega)]; exact no
  · rw [d1 S, cl_some, kf00]
    rcases d2 with d2 | ⟨d2, d3⟩
    · have d2' : x < nI 0 := d2
      rw [if_pos d2']; exact no
    · have d2' : ¬ x < nI 0 := d2
      have d3' : nI 9999 < x := d3
      rw [if_neg d2', if_pos d3']; exact no
theorem q_count {S T : St} (h : Rel S T) (x : Int32) : Agr [(eNS, 1)] (uX8_count x S) (uX9_count x T) := by
  unfold uX8_count uX9_count bX9_count_20 bX9_count_21 bX9_count_95 bX8_count_10 uX1_size uX0_threads uX0_places
  simp only [lzE, cl_some]
  obtain ⟨T1, eT, hz, h⟩ : ∃ T1, T1 = s2 T 0 0 0 ∧ T1 0 0 = 0 ∧ Rel S T1 := ⟨_, rfl, rfl, h⟩
  rw [← eT]
  obtain ⟨th, pl, hm, fo, kn, co, ta, va, wa, lo, hi, la, ld, lc, lr, n3, hp, pr, pt, pb, B, X, M⟩ := id h
  have B1 := B.1
  rcases n8 (x := x) (c := 16) 16 (by omega) rfl with h0 | ⟨h0, h1, h2⟩ | ⟨t, ht, rfl, h0, h1, h2⟩
  · rw [if_pos h0, if_pos h0, rightF' hz (by decide), if00]
    exact agx h rfl rfl (by simp)
  · have h3 : 15 < x := by rw [fa_le] at h1; rw [fa_lt]; have e1 : (16 : Int32).toInt = 16 := rfl; have e2 : (15 : Int32).toInt = 15 := rfl; omega
    rw [if_neg h0, if_neg h2, if_neg h0, if_pos h3, rightF' hz (by decide), if00]
    exact agx h rfl rfl (by simp)
  · have h3 : ¬ 15 < nI t := nI_nlt (a := 15) (b := t) (by omega) (by omega) |> fun q => fun r => q r
    rw [if_neg h0, if_pos h2, if_neg h0, if_neg h3, rightT' hz, if10]
    simp only [li]
    by_cases t8 : t < 8
    · rw [iLtT t8 (by omega), iLtT t8 (by omega)]
      by_cases t4 : t < 4
      · rw [iLtT t4 (by omega), iLtT t4 (by omega)]
        rcases (show t = 0 ∨ t = 1 ∨ t = 2 ∨ t = 3 by omega) with rfl | rfl | rfl | rfl
        · rw [if_pos rfl, if_pos rfl]
          exact agr_ok (r := nI th) (by rw [X.1.1]) (by rw [M.1.1]) hz h
        · rw [if_neg (by decide), if_pos rfl, if_neg (by decide), if_pos rfl]
          exact agr_ok (r := nI pl) (by rw [X.1.2]) (by rw [M.1.2]) hz h
        · rw [if_neg (by decide), if_neg (by decide), if_pos rfl, if_neg (by decide), if_neg (by decide), if_pos rfl]
          exact agr_ok (r := nI n3) (by rw [X.2.2.2.2.2.2.2.2.2.2.2.1]) (by rw [M.2.2.2.2.2.2.2.2.2.2.1]) hz h
        · rw [if_neg (by decide), if_neg (by decide), if_neg (by decide), if_neg (by decide), if_neg (by decide), if_neg (by decide)]
          exact agr_ok (r := nI la) (by rw [X.2.2.2.2.2.2.2.2.2.2.1.1]) (by rw [M.2.2.2.2.2.2.2.2.2.1.1]) hz h
      · rw [iLtF (by omega) (by omega), iLtF (by omega) (by omega), pk_sub (by omega)]
        unfold uX7_strengthOf uX9_strengthOf
        simp only [li]
        rw [pk_sub (by omega)]
        simp (disch := omega) only [ckI, clI, cl_some]
        exact agr_ok (r := nI (va (t - 4))) (by rw [X.2.2.2.2.2.2.2.1 _ (by omega)]) (by rw [M.2.2.2.2.2.2.1 _ (by omega)]) hz h
    · rw [iLtF (by omega) (by omega), iLtF (by omega) (by omega), pk_sub (by omega), manyM M.1.1 M.2.1 B1.2.1 B.2.1 (by omega)]
      unfold uX0_threadsIn
      simp (disch := omega) only [ckI, clI, cl_some]
      exact agr_ok (r := nI (crN th hm (t - 8))) (by rw [X.2.2.1 _ (by omega)]) rfl hz h
theorem q_kept {S T : St} (h : Rel S T) (x : Int32) : Agr [(eNS, 1)] (uX8_kept x S) (uX9_kept x T) := by
  unfold uX8_kept uX9_kept bX9_kept_19 bX9_kept_20 bX9_kept_68 bX8_kept_9 bX8_kept_68 uX4_exists uX4_row uX4_ties
  simp only [lzE, cl_some]
  obtain ⟨T1, eT, hz, h⟩ : ∃ T1, T1 = s2 T 0 0 0 ∧ T1 0 0 = 0 ∧ Rel S T1 := ⟨_, rfl, rfl, h⟩
  rw [← eT]
  obtain ⟨th, pl, hm, fo, kn, co, ta, va, wa, lo, hi, la, ld, lc, lr, n3, hp, pr, pt, pb, B, X, M⟩ := id h
  have hhp := B.2.2.2.2.2.2.2.2.2.2.1
  have xh := X.2.2.2.2.2.2.2.2.2.2.2.2.1
  have mh := M.2.2.2.2.2.2.2.2.2.2.2.1
  rcases n9 (x := x) (c := 2) 2 (by omega) rfl with h0 | ⟨h0, h1, h2⟩ | ⟨t, ht, rfl, h0, h1, h2⟩
  · rw [if_pos h0, if_pos h0, rightF' hz (by decide), if00]
    exact agx h rfl rfl (by simp)
  · rw [if_neg h0, if_neg h2, if_neg h0, if_pos h1, rightF' hz (by decide), if00]
    exact agx h rfl rfl (by simp)
  · rw [if_neg h0, if_pos h2, if_neg h0, if_neg h1, rightT' hz, if10, xh, mh, rzI hhp, cl_some]
    simp only [li]
    by_cases e : hp = 0
    · subst e
      rw [iEqT rfl, iEqT rfl]
      exact agr_ok rfl rfl hz h
    · have e1 : hp = 1 := by omega
      obtain ⟨p1, p2, p3⟩ := X.2.2.2.2.2.2.2.2.2.2.2.2.2 e1
      obtain ⟨o1, o2, o3⟩ := M.2.2.2.2.2.2.2.2.2.2.2.2 e1
      have ok := (B.2.2.2.2.2.2.2.2.2.2.2 e1).1
      rw [iEqF e (by omega) (by omega), iEqF e (by omega) (by omega), p1, o1, p2, o2, bathsX (by have := ok.1; omega), bathsM ok]
      simp only [cl_some]
      rcases (show t = 0 ∨ t = 1 ∨ t = 2 by omega) with rfl | rfl | rfl
      · rw [iEqT rfl, iEqT rfl]; exact agr_ok rfl rfl hz h
      · rw [iEqF (by decide) (by decide) (by decide), iEqT rfl, iEqF (by decide) (by decide) (by decide), iEqT rfl]; exact agr_ok rfl rfl hz h
      · rw [iEqF (by decide) (by decide) (by decide), iEqF (by decide) (by decide) (by decide), iEqF (by decide) (by decide) (by decide), iEqF (by decide) (by decide) (by decide)]; exact agr_ok rfl rfl hz h
theorem q_bits {S T : St} (h : Rel S T) (x y : Int32) : Agr [(eIO, 1)] (uX8_bits x y S) (uX9_bits x y T) := by
  unfold uX8_bits uX9_bits bX9_bits_21 bX9_bits_45 bX8_bits_32 uX4_exists
  simp only [lzE]
  obtain ⟨T1, eT, hz, h⟩ : ∃ T1, T1 = s2 T 0 0 0 ∧ T1 0 0 = 0 ∧ Rel S T1 := ⟨_, rfl, rfl, h⟩
  rw [← eT]
  obtain ⟨th, pl, hm, fo, kn, co, ta, va, wa, lo, hi, la, ld, lc, lr, n3, hp, pr, pt, pb, B, X, M⟩ := id h
  have B1 := B.1
  have hhp := B.2.2.2.2.2.2.2.2.2.2.1
  have xh := X.2.2.2.2.2.2.2.2.2.2.2.2.1
  have mh := M.2.2.2.2.2.2.2.2.2.2.2.1
  rcases x_bun (S := S) x with ⟨b, hb, rfl, e1, m1⟩ | ⟨e1, m1⟩
  · rcases x_plc X.1.2 B1.2.2.2 y with ⟨p, hp1, rfl, e2, m2⟩ | ⟨e2, m2⟩
    · rw [e1, cx_ok, e2, cx_ok, m1 _ hz, cl_some, if10, m2 _ M.1.2 hz, cl_some, if10, xh, mh, rzI hhp, cl_some]
      simp only [li]
      by_cases e : hp = 0
      · subst e
        rw [iEqT rfl, iEqT rfl]
        exact agr_ok rfl rfl hz h
      · have e1 : hp = 1 := by omega
        obtain ⟨p1, p2, p3⟩ := X.2.2.2.2.2.2.2.2.2.2.2.2.2 e1
        obtain ⟨o1, o2, o3⟩ := M.2.2.2.2.2.2.2.2.2.2.2.2 e1
        rw [iEqF e (by omega) (by omega), iEqF e (by omega) (by omega)]
        unfold uX4_bitsAt
        simp (disch := omega) only [pk_mul, nI_add, ckI, cknI, clI, cl_some]
        exact agr_ok (r := nI (pb b p)) (by rw [p3 b hb p hp1]) (by rw [o3 b hb p hp1]) hz h
    · exact agx h (by rw [e1, cx_ok, e2, cx_ex]) (v := 0) (n := 1) (by rw [m1 _ hz, cl_some, if10, m2 _ M.1.2 hz, cl_some, if00]) (by simp)
  · exact agx h (by rw [e1, cx_ex]) (v := 0) (n := 1) (by rw [m1 _ hz, cl_some, if00]) (by simp)
