/-! pure rows: the law's own text comes to its end -/
theorem tM_glW (Z S2 : St) : tM (glW Z S2) = tM Z := by
  funext j
  show (if 73 + j < 73 then S2 (73 + j) else Z (73 + j)) = Z (73 + j)
  rw [if_neg (by omega)]
theorem tM_glX (Z S2 : St) : tM (glX Z S2) = tM Z := by
  funext j
  show (if 73 + j < 72 then S2 (73 + j) else Z (73 + j)) = Z (73 + j)
  rw [if_neg (by omega)]
theorem glM_tM (Z : St) : glM Z (tM Z) = Z := by
  funext k
  unfold glM tM
  by_cases h : k < 73
  · rw [if_pos h]
  · rw [if_neg h, show 73 + (k - 73) = k by omega]
theorem cmp_same (x : Int64) : lg_cmp x x = 0 := by
  unfold lg_cmp
  rw [if_neg (by exact Int64.lt_irrefl), if_pos rfl]
theorem rel_fin {S' T' Z1 : St} (h : Rel S' T') (hZ : ∀ k, k < 72 → Z1 k = S' k) : Rel (glM Z1 T') (tM (glM Z1 T')) := by
  rw [tM_glM]
  refine Rel.cg (fun k hk => ?_) h
  show (if k < 73 then Z1 k else T' (k - 73)) = S' k
  rw [if_pos (by omega), hZ k hk]
def FxOk (cs : List (String × Int32)) (fx : String → St → Option (Int32 × St)) : Prop := ∀ E n S, (E, n) ∈ cs → fx E S = some (n, S) ∧ n ≠ 0
section
variable {cs : List (String × Int32)} {Z : St} {y : Option RX} {W : St → Option (Int32 × St)} {fx : String → St → Option (Int32 × St)} {k : St → Option Unit}
theorem thr_ok (U : St) {α : Type} (f : Int32 → St → Option α) : cg (uX9_thrown (tM U)) (glM U) f = f (tM U 0 0) U := by
  unfold uX9_thrown cg
  show f (tM U 0 0) (glM U (tM U)) = _
  rw [glM_tM]
theorem law_void (h : Agr cs y (W (tM Z))) (hfx : FxOk cs fx) (hk : ∀ Z', Rel Z' (tM Z') → k Z' = some ()) : cg (cy y (fun _ S4 => some (0, S4)) fx Z) (glW Z) (fun v2 Z1 => lt v2 (fun v3 => cg (W (tM Z1)) (glM Z1) (fun _ Z4 => cg (uX9_thrown (tM Z4)) (glM Z4) (fun v7 Z6 => if v7 = v3 then k Z6 else none)))) = some () := by
  rcases h with ⟨r, S', T', e1, e2, e3, hR⟩ | ⟨E, n, S', v, T', e1, e2, e3, e4, hR⟩
  · rw [e1]
    show cg (W (tM (glW Z (gl Z S')))) (glM (glW Z (gl Z S'))) (fun _ Z4 => cg (uX9_thrown (tM Z4)) (glM Z4) (fun v7 Z6 => if v7 = 0 then k Z6 else none)) = some ()
    rw [tM_glW, e2]
    show cg (uX9_thrown (tM (glM (glW Z (gl Z S')) T'))) (glM (glM (glW Z (gl Z S')) T')) (fun v7 Z6 => if v7 = 0 then k Z6 else none) = some ()
    rw [thr_ok, tM_glM, e3, if_pos rfl]
    refine hk _ (rel_fin hR (fun q hq => ?_))
    show (if q < 73 then (if q = 72 then Z 72 else S' q) else Z q) = S' q
    rw [if_pos (by omega), if_neg (by omega)]
  · rw [e1]
    show cg (fx E (gl Z S')) (glW Z) _ = some ()
    rw [(hfx E n _ e3).1]
    show cg (W (tM (glW Z (gl Z S')))) (glM (glW Z (gl Z S'))) (fun _ Z4 => cg (uX9_thrown (tM Z4)) (glM Z4) (fun v7 Z6 => if v7 = n then k Z6 else none)) = some ()
    rw [tM_glW, e2]
    show cg (uX9_thrown (tM (glM (glW Z (gl Z S')) T'))) (glM (glM (glW Z (gl Z S')) T')) (fun v7 Z6 => if v7 = n then k Z6 else none) = some ()
    rw [thr_ok, tM_glM, e4, if_pos rfl]
    refine hk _ (rel_fin hR (fun q hq => ?_))
    show (if q < 73 then (if q = 72 then Z 72 else S' q) else Z q) = S' q
    rw [if_pos (by omega), if_neg (by omega)]
theorem law_core (h : Agr cs y (W (tM Z))) (hfx : FxOk cs fx) (hk : ∀ Z', Rel Z' (tM Z') → k Z' = some ()) {o : Int32 → Int32} {f : Int32 → St → Option (Int32 × St)} (hf : ∀ r S, f r S = some (0, s2 S 72 0 (o r))) {c : Int32 → St → Option Unit} (hc : ∀ r Z', Z' 72 0 = o r → c r Z' = k Z') : cg (cy y f fx Z) (glW Z) (fun v2 Z1 => lt v2 (fun v3 => cg (W (tM Z1)) (glM Z1) (fun v5 Z4 => lt v5 (fun v6 => cg (uX9_thrown (tM Z4)) (glM Z4) (fun v8 Z7 => if v8 = v3 then if v3 = 0 then c v6 Z7 else k Z7 else none))))) = some () := by
  rcases h with ⟨r, S', T', e1, e2, e3, hR⟩ | ⟨E, n, S', v, T', e1, e2, e3, e4, hR⟩
  · rw [e1]
    show cg (f r (gl Z S')) (glW Z) _ = some ()
    rw [hf]
    show cg (W (tM (glW Z (s2 (gl Z S') 72 0 (o r))))) (glM (glW Z (s2 (gl Z S') 72 0 (o r)))) (fun v5 Z4 => cg (uX9_thrown (tM Z4)) (glM Z4) (fun v8 Z7 => if v8 = 0 then if (0 : Int32) = 0 then c v5 Z7 else k Z7 else none)) = some ()
    rw [tM_glW, e2]
    show cg (uX9_thrown (tM (glM (glW Z (s2 (gl Z S') 72 0 (o r))) T'))) (glM (glM (glW Z (s2 (gl Z S') 72 0 (o r))) T')) (fun v8 Z7 => if v8 = 0 then if (0 : Int32) = 0 then c r Z7 else k Z7 else none) = some ()
    rw [thr_ok, tM_glM, e3, if_pos rfl, if_pos rfl, hc _ _ rfl]
    refine hk _ (rel_fin hR (fun q hq => ?_))
    show (if q < 73 then s2 (gl Z S') 72 0 (o r) q else Z q) = S' q
    rw [if_pos (by omega), s2_row _ _ _ _ (by omega)]
    show (if q = 72 then Z 72 else S' q) = S' q
    rw [if_neg (by omega)]
  · rw [e1]
    show cg (fx E (gl Z S')) (glW Z) _ = some ()
    rw [(hfx E n _ e3).1]
    show cg (W (tM (glW Z (gl Z S')))) (glM (glW Z (gl Z S'))) (fun v5 Z4 => cg (uX9_thrown (tM Z4)) (glM Z4) (fun v8 Z7 => if v8 = n then if n = 0 then c v5 Z7 else k Z7 else none)) = some ()
    rw [tM_glW, e2]
    show cg (uX9_thrown (tM (glM (glW Z (gl Z S')) T'))) (glM (glM (glW Z (gl Z S')) T')) (fun v8 Z7 => if v8 = n then if n = 0 then c v Z7 else k Z7 else none) = some ()
    rw [thr_ok, tM_glM, e4, if_pos rfl, if_neg (hfx E n S' e3).2]
    refine hk _ (rel_fin hR (fun q hq => ?_))
    show (if q < 73 then (if q = 72 then Z 72 else S' q) else Z q) = S' q
    rw [if_pos (by omega), if_neg (by omega)]
theorem law_int (h : Agr cs y (W (tM Z))) (hfx : FxOk cs fx) (hk : ∀ Z', Rel Z' (tM Z') → k Z' = some ()) : cg (cy y (fun v3 S4 => ck (0 : Int32) 1 (lz (s2 S4 72 (0 : Int32).toNatClampNeg v3) (fun S6 => some (0, S6)))) fx Z) (glW Z) (fun v2 Z1 => lt v2 (fun v3 => cg (W (tM Z1)) (glM Z1) (fun v5 Z4 => lt v5 (fun v6 => cg (uX9_thrown (tM Z4)) (glM Z4) (fun v8 Z7 => if v8 = v3 then if v3 = 0 then if (lg_cmp ((Z7 72 0).toInt64) v6.toInt64) = 0 then k Z7 else none else k Z7 else none))))) = some () := by
  refine law_core (o := fun r => r) (c := fun v6 Z7 => if (lg_cmp ((Z7 72 0).toInt64) v6.toInt64) = 0 then k Z7 else none) h hfx hk (fun r S => ?_) (fun r Z' e => ?_)
  · show ck (nI 0) 1 _ = _
    rw [ckI (by decide) (by decide)]
    rfl
  · show (if (lg_cmp ((Z' 72 0).toInt64) r.toInt64) = 0 then k Z' else none) = k Z'
    rw [e, cmp_same, if_pos rfl]
theorem law_bool (h : Agr cs y (W (tM Z))) (hfx : FxOk cs fx) (hk : ∀ Z', Rel Z' (tM Z') → k Z' = some ()) : cg (cy y (fun v3 S4 => if v3 = 0 then bL_fold_16 0 0 S4 else bL_fold_16 0 1 S4) fx Z) (glW Z) (fun v2 Z1 => lt v2 (fun v3 => cg (W (tM Z1)) (glM Z1) (fun v5 Z4 => lt v5 (fun v6 => cg (uX9_thrown (tM Z4)) (glM Z4) (fun v8 Z7 => if v8 = v3 then if v3 = 0 then if v6 = 0 then if (lg_cmp ((Z7 72 0).toInt64) ((0 : Int32).toInt64)) = 0 then k Z7 else none else if (lg_cmp ((Z7 72 0).toInt64) ((1 : Int32).toInt64)) = 0 then k Z7 else none else k Z7 else none))))) = some () := by
  refine law_core (o := fun r => if r = 0 then 0 else 1) (c := fun v6 Z7 => if v6 = 0 then if (lg_cmp ((Z7 72 0).toInt64) ((0 : Int32).toInt64)) = 0 then k Z7 else none else if (lg_cmp ((Z7 72 0).toInt64) ((1 : Int32).toInt64)) = 0 then k Z7 else none) h hfx hk (fun r S => ?_) (fun r Z' e => ?_)
  · have h16 : ∀ v, bL_fold_16 0 v S = some (0, s2 S 72 0 v) := fun v => by
      unfold bL_fold_16
      show ck (nI 0) 1 _ = _
      rw [ckI (by decide) (by decide)]
      rfl
    show (if r = 0 then bL_fold_16 0 0 S else bL_fold_16 0 1 S) = some (0, s2 S 72 0 (if r = 0 then 0 else 1))
    by_cases q : r = 0
    · rw [if_pos q, if_pos q, h16]
    · rw [if_neg q, if_neg q, h16]
  · show (if r = 0 then if (lg_cmp ((Z' 72 0).toInt64) ((0 : Int32).toInt64)) = 0 then k Z' else none else if (lg_cmp ((Z' 72 0).toInt64) ((1 : Int32).toInt64)) = 0 then k Z' else none) = k Z'
    have e : Z' 72 0 = if r = 0 then 0 else 1 := e
    by_cases q : r = 0
    · rw [if_pos q]
      rw [if_pos q] at e
      rw [e, cmp_same, if_pos rfl]
    · rw [if_neg q]
      rw [if_neg q] at e
      rw [e, cmp_same, if_pos rfl]
theorem law_dir {y : Option (Int32 × St)} (h : Agz y (W (tM Z))) (hk : ∀ Z', Rel Z' (tM Z') → k Z' = some ()) : cg y (glX Z) (fun v2 Z1 => cg (W (tM Z1)) (glM Z1) (fun v4 Z3 => if v2 = v4 then k Z3 else none)) = some () := by
  obtain ⟨r, S', T', e1, e2, hR⟩ := h
  rw [e1]
  show cg (W (tM (glX Z S'))) (glM (glX Z S')) (fun v4 Z3 => if r = v4 then k Z3 else none) = some ()
  rw [tM_glX, e2]
  show (if r = r then k (glM (glX Z S') T') else none) = some ()
  rw [if_pos rfl]
  refine hk _ (rel_fin hR (fun q hq => ?_))
  show (if q < 72 then S' q else Z q) = S' q
  rw [if_pos hq]
end
theorem fx1 {E0 : String} : FxOk [(E0, 1)] (fun E S5 => if E = E0 then some (1, S5) else none) := fun E n S h => by
  simp at h
  obtain ⟨rfl, rfl⟩ := h
  exact ⟨if_pos rfl, by decide⟩
theorem fx2 : FxOk [(eIO, 1), (eIA, 2)] (fun E S5 => if E = "java/lang/IndexOutOfBoundsException" then some (1, S5) else if E = "java/lang/IllegalArgumentException" then some (2, S5) else none) := fun E n S h => by
  simp at h
  rcases h with ⟨rfl, rfl⟩ | ⟨rfl, rfl⟩
  · exact ⟨if_pos rfl, by decide⟩
  · refine ⟨?_, by decide⟩
    show (if eIA = "java/lang/IndexOutOfBoundsException" then some ((1 : Int32), S) else if eIA = "java/lang/IllegalArgumentException" then some (2, S) else none) = some (2, S)
    rw [if_neg (by decide), if_pos rfl]
section
variable {xs : Nat → Int32} {L : Nat} {k : Int32 → St → Option Unit} {i : Nat} {Z : St}
theorem ckN {α : Type} {x : Option α} (j : Nat) (h : i + j < L) (hL : L ≤ 2048) : ck (nI i + nI j) L x = x := by rw [nI_add, ckI h (by omega)]
theorem cLaw_ok (hL : L ≤ 2048) (hi : i + 3 < L) (hR : Rel Z (tM Z)) (hk : ∀ Z', Rel Z' (tM Z') → k (nI i) Z' = some ()) : cLaw_0 xs L k (nI i) Z = some () ∧ cLaw_1 xs L k (nI i) Z = some () ∧ cLaw_2 xs L k (nI i) Z = some () ∧ cLaw_3 xs L k (nI i) Z = some () ∧ cLaw_4 xs L k (nI i) Z = some () ∧ cLaw_5 xs L k (nI i) Z = some () ∧ cLaw_6 xs L k (nI i) Z = some () ∧ cLaw_7 xs L k (nI i) Z = some () ∧ cLaw_8 xs L k (nI i) Z = some () ∧ cLaw_9 xs L k (nI i) Z = some () ∧ cLaw_10 xs L k (nI i) Z = some () ∧ cLaw_11 xs L k (nI i) Z = some () ∧ cLaw_12 xs L k (nI i) Z = some () ∧ cLaw_13 xs L k (nI i) Z = some () ∧ cLaw_14 xs L k (nI i) Z = some () ∧ cLaw_15 xs L k (nI i) Z = some () ∧ cLaw_16 xs L k (nI i) Z = some () ∧ cLaw_17 xs L k (nI i) Z = some () ∧ cLaw_18 xs L k (nI i) Z = some () ∧ cLaw_19 xs L k (nI i) Z = some () ∧ cLaw_20 xs L k (nI i) Z = some () ∧ cLaw_21 xs L k (nI i) Z = some () := by
  have c1 : ∀ {α : Type} (x : Option α), ck (nI i + 1) L x = x := fun x => ckN 1 (by omega) hL
  have c2 : ∀ {α : Type} (x : Option α), ck (nI i + 2) L x = x := fun x => ckN 2 (by omega) hL
  have c3 : ∀ {α : Type} (x : Option α), ck (nI i + 3) L x = x := fun x => ckN 3 (by omega) hL
  refine ⟨?_, ?_, ?_, ?_, ?_, ?_, ?_, ?_, ?_, ?_, ?_, ?_, ?_, ?_, ?_, ?_, ?_, ?_, ?_, ?_, ?_, ?_⟩
  · unfold cLaw_0; simp only [c1, c2, c3]
    exact law_void (W := fun T => uX9_frame _ _ T) (q_frame hR _ _) fx1 hk
  · unfold cLaw_1; simp only [c1, c2, c3]
    exact law_int (W := fun T => uX9_into _ _ T) (q_into hR _ _) fx1 hk
  · unfold cLaw_2; simp only [c1, c2, c3]
    by_cases q : xs (nI i + 2).toNatClampNeg = 0
    · simp only [if_pos q]
      exact law_bool (W := fun T => uX9_fold _ _ T) (q_fold hR _ (v := 0) (by decide)) fx1 hk
    · simp only [if_neg q]
      exact law_bool (W := fun T => uX9_fold _ _ T) (q_fold hR _ (v := 1) (by decide)) fx1 hk
  · unfold cLaw_3; simp only [c1, c2, c3]
    exact law_int (W := fun T => uX9_table _ _ _ T) (q_table hR _ _ _) fx2 hk
  · unfold cLaw_4; simp only [c1, c2, c3]
    exact law_int (W := fun T => uX9_vat _ _ T) (q_vat hR _ _) fx1 hk
  · unfold cLaw_5; simp only [c1, c2, c3]
    exact law_int (W := fun T => uX9_tie _ _ _ T) (q_tie hR _ _ _) fx2 hk
  · unfold cLaw_6; simp only [c1, c2, c3]
    exact law_int (W := fun T => uX9_untie _ _ _ T) (q_untie hR _ _ _) fx2 hk
  · unfold cLaw_7; simp only [c1, c2, c3]
    exact law_int (W := fun T => uX9_bath _ T) (q_bath hR _) fx1 hk
  · unfold cLaw_8; simp only [c1, c2, c3]
    exact law_int (W := fun T => uX9_colour _ _ T) (q_colour hR _ _) fx1 hk
  · unfold cLaw_9; simp only [c1, c2, c3]
    exact law_bool (W := fun T => uX9_bound _ _ T) (q_bound hR _ _) fx1 hk
  · unfold cLaw_10; simp only [c1, c2, c3]
    exact law_int (W := fun T => uX9_want _ _ _ T) (q_want hR _ _ _) fx2 hk
  · unfold cLaw_11; simp only [c1, c2, c3]
    exact law_int (W := fun T => uX9_plan _ T) (q_plan hR _) fx1 hk
  · unfold cLaw_12; simp only [c1, c2, c3]
    exact law_int (W := fun T => uX9_best _ T) (q_best hR _) fx1 hk
  · unfold cLaw_13; simp only [c1, c2, c3]
    exact law_int (W := fun T => uX9_kept _ T) (q_kept hR _) fx1 hk
  · unfold cLaw_14; simp only [c1, c2, c3]
    exact law_int (W := fun T => uX9_bits _ _ T) (q_bits hR _ _) fx1 hk
  · unfold cLaw_15
    exact law_dir (W := fun T => uX9_dye T) (q_dye hR) hk
  · unfold cLaw_16; simp only [c1, c2, c3]
    exact law_void (W := fun T => uX9_slip _ _ _ T) (q_slip hR _ _ _) fx2 hk
  · unfold cLaw_17; simp only [c1, c2, c3]
    exact law_int (W := fun T => uX9_seen _ _ T) (q_seen hR _ _) fx1 hk
  · unfold cLaw_18
    exact law_dir (W := fun T => uX9_blurred T) (q_blurred hR) hk
  · unfold cLaw_19; simp only [c1, c2, c3]
    exact law_dir (W := fun T => uX9_law _ _ _ T) (q_law hR _ _ _) hk
  · unfold cLaw_20; simp only [c1, c2, c3]
    exact law_int (W := fun T => uX9_rank _ T) (q_rank hR _) fx1 hk
  · unfold cLaw_21; simp only [c1, c2, c3]
    exact law_int (W := fun T => uX9_count _ T) (q_count hR _) fx1 hk
end
theorem tsw_ok {v : Int32} {cs : List (Option Unit)} {d : Option Unit} (hd : d = some ()) (hc : ∀ x ∈ cs, x = some ()) : tsw v cs d = some () := by
  unfold tsw
  split
  · exact hd
  · rw [List.getD_eq_getElem?_getD]
    cases e : cs[v.toNatClampNeg]? with
    | none => exact hd
    | some x => exact hc x (List.mem_of_getElem? e)
theorem law_all {xs : Nat → Int32} {L : Nat} (hL : L ≤ 2048) : ∀ (n m : Nat) (Z : St), n + m = 513 → m ≤ 512 → Rel Z (tM Z) → uLaw xs L n (nI (4 * m)) Z = some () := by
  intro n
  induction n with
  | zero => intro m Z h1 h2; omega
  | succ n ih =>
    intro m Z h1 h2 hR
    show hLaw xs L (fun i Z => lt (i + 4) (fun v => uLaw xs L n v Z)) (nI (4 * m)) Z = some ()
    unfold hLaw
    have e1 : (nI L - 4).toInt = (L : Int) - 4 := pk_sub_toInt (a := L) (b := 4) (by omega) (by omega)
    have e2 : (nI (4 * m)).toInt = ((4 * m : Nat) : Int) := nI_toInt (by omega)
    by_cases q : nI L - 4 < nI (4 * m)
    · rw [if_pos q]
    · rw [if_neg q]
      rw [fa_lt] at q
      rw [ckI (by omega) (by omega)]
      have hk : ∀ Z', Rel Z' (tM Z') → (fun (i : Int32) (Z : St) => lt (i + 4) (fun v => uLaw xs L n v Z)) (nI (4 * m)) Z' = some () := fun Z' hR' => by
        show uLaw xs L n (nI (4 * m) + nI 4) Z' = some ()
        rw [nI_add, show 4 * m + 4 = 4 * (m + 1) by omega]
        exact ih (m + 1) Z' (by omega) (by omega) hR'
      obtain ⟨h0, h1, h2, h3, h4, h5, h6, h7, h8, h9, h10, h11, h12, h13, h14, h15, h16, h17, h18, h19, h20, h21⟩ := cLaw_ok (xs := xs) (k := fun i Z => lt (i + 4) (fun v => uLaw xs L n v Z)) (i := 4 * m) hL (by omega) hR hk
      refine tsw_ok (hk Z hR) (fun x hx => ?_)
      simp only [List.mem_cons, List.not_mem_nil, or_false] at hx
      rcases hx with rfl | rfl | rfl | rfl | rfl | rfl | rfl | rfl | rfl | rfl | rfl | rfl | rfl | rfl | rfl | rfl | rfl | rfl | rfl | rfl | rfl | rfl <;> assumption
theorem law_end {xs : Nat → Int32} {L : Nat} (hL : L ≤ 2048) {S1 T1 : St} (hR : Rel S1 T1) : uLaw xs L 513 0 (zLaw S1 T1) = some () := by
  have e : tM (zLaw S1 T1) = T1 := tM_zLaw S1 T1
  refine law_all hL 513 0 _ rfl (by omega) ?_
  rw [e]
  exact Rel.cg (fun k hk => if_pos hk) hR
