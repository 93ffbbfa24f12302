section
-- ===== PART A: goes FIRST, ahead of the names: the tables' words, and 'selects' of the private methods out of them =====
/-- a private method of a class that the tables say can be made, by its rows of tables_1 -/
def lw_okq (q : MethodName × Nat) : Prop := (q.1.cls ≠ "java/lang/invoke/MethodHandle" ∧ q.1.cls ≠ "java/lang/invoke/VarHandle") ∧ Cond.instantiable q.1.cls q.2 ∈ tables_1 ∧ Cond.privateMethod q.1 ∈ tables_1 ∧ Cond.instanceMethod q.1 ∈ tables_1
theorem lw_p0 : lw_okq (⟨"TiedFrame$Cloth", "knotsOf", "(LTiedFrame$Plan;II)I"⟩, 7) := ⟨⟨by decide +kernel, by decide +kernel⟩, List.mem_of_getElem? (i := 53) (by decide +kernel), List.mem_of_getElem? (i := 251) (by decide +kernel), List.mem_of_getElem? (i := 252) (by decide +kernel)⟩
theorem lw_p1 : lw_okq (⟨"TiedFrame$Cloth", "takenBy", "(II)I"⟩, 7) := ⟨⟨by decide +kernel, by decide +kernel⟩, List.mem_of_getElem? (i := 53) (by decide +kernel), List.mem_of_getElem? (i := 259) (by decide +kernel), List.mem_of_getElem? (i := 260) (by decide +kernel)⟩
theorem lw_p2 : lw_okq (⟨"java/lang/Throwable", "fillInStackTrace", "(I)Ljava/lang/Throwable;"⟩, 6) := ⟨⟨by decide +kernel, by decide +kernel⟩, List.mem_of_getElem? (i := 380) (by decide +kernel), List.mem_of_getElem? (i := 378) (by decide +kernel), List.mem_of_getElem? (i := 379) (by decide +kernel)⟩
theorem lw_p3 : lw_okq (⟨"TiedFrame", "needThread", "(I)V"⟩, 9) := ⟨⟨by decide +kernel, by decide +kernel⟩, List.mem_of_getElem? (i := 21) (by decide +kernel), List.mem_of_getElem? (i := 434) (by decide +kernel), List.mem_of_getElem? (i := 435) (by decide +kernel)⟩
theorem lw_p4 : lw_okq (⟨"TiedFrame", "needRange", "(III)V"⟩, 9) := ⟨⟨by decide +kernel, by decide +kernel⟩, List.mem_of_getElem? (i := 21) (by decide +kernel), List.mem_of_getElem? (i := 522) (by decide +kernel), List.mem_of_getElem? (i := 523) (by decide +kernel)⟩
theorem lw_p5 : lw_okq (⟨"TiedFrame", "needPlace", "(I)V"⟩, 9) := ⟨⟨by decide +kernel, by decide +kernel⟩, List.mem_of_getElem? (i := 21) (by decide +kernel), List.mem_of_getElem? (i := 526) (by decide +kernel), List.mem_of_getElem? (i := 527) (by decide +kernel)⟩
theorem lw_p6 : lw_okq (⟨"TiedFrame$Cloth", "reach", "(III)I"⟩, 7) := ⟨⟨by decide +kernel, by decide +kernel⟩, List.mem_of_getElem? (i := 53) (by decide +kernel), List.mem_of_getElem? (i := 536) (by decide +kernel), List.mem_of_getElem? (i := 537) (by decide +kernel)⟩
theorem lw_p7 : lw_okq (⟨"TiedFrame$Planner", "gatherWays", "(I)Z"⟩, 9) := ⟨⟨by decide +kernel, by decide +kernel⟩, List.mem_of_getElem? (i := 95) (by decide +kernel), List.mem_of_getElem? (i := 624) (by decide +kernel), List.mem_of_getElem? (i := 625) (by decide +kernel)⟩
theorem lw_p8 : lw_okq (⟨"TiedFrame$Planner", "tiesOf", "(I)I"⟩, 9) := ⟨⟨by decide +kernel, by decide +kernel⟩, List.mem_of_getElem? (i := 95) (by decide +kernel), List.mem_of_getElem? (i := 639) (by decide +kernel), List.mem_of_getElem? (i := 640) (by decide +kernel)⟩
theorem lw_p9 : lw_okq (⟨"TiedFrame$Planner", "weigh", "(II)V"⟩, 9) := ⟨⟨by decide +kernel, by decide +kernel⟩, List.mem_of_getElem? (i := 95) (by decide +kernel), List.mem_of_getElem? (i := 648) (by decide +kernel), List.mem_of_getElem? (i := 649) (by decide +kernel)⟩
theorem lw_p10 : lw_okq (⟨"TiedFrame$Planner", "leastBits", "(III)I"⟩, 9) := ⟨⟨by decide +kernel, by decide +kernel⟩, List.mem_of_getElem? (i := 95) (by decide +kernel), List.mem_of_getElem? (i := 657) (by decide +kernel), List.mem_of_getElem? (i := 658) (by decide +kernel)⟩
theorem lw_p11 : lw_okq (⟨"TiedFrame$Planner", "keepsFewest", "(IIII)Z"⟩, 9) := ⟨⟨by decide +kernel, by decide +kernel⟩, List.mem_of_getElem? (i := 95) (by decide +kernel), List.mem_of_getElem? (i := 661) (by decide +kernel), List.mem_of_getElem? (i := 662) (by decide +kernel)⟩
theorem lw_p12 : lw_okq (⟨"TiedFrame$Planner", "tiesBelow", "(I)I"⟩, 9) := ⟨⟨by decide +kernel, by decide +kernel⟩, List.mem_of_getElem? (i := 95) (by decide +kernel), List.mem_of_getElem? (i := 690) (by decide +kernel), List.mem_of_getElem? (i := 691) (by decide +kernel)⟩
theorem lw_p13 : lw_okq (⟨"TiedFrameModel", "right", "(ZI)Z"⟩, 24) := ⟨⟨by decide +kernel, by decide +kernel⟩, List.mem_of_getElem? (i := 769) (by decide +kernel), List.mem_of_getElem? (i := 856) (by decide +kernel), List.mem_of_getElem? (i := 857) (by decide +kernel)⟩
theorem lw_p14 : lw_okq (⟨"TiedFrameModel", "undyed", "()V"⟩, 24) := ⟨⟨by decide +kernel, by decide +kernel⟩, List.mem_of_getElem? (i := 769) (by decide +kernel), List.mem_of_getElem? (i := 860) (by decide +kernel), List.mem_of_getElem? (i := 861) (by decide +kernel)⟩
theorem lw_p15 : lw_okq (⟨"TiedFrameModel", "isThread", "(I)Z"⟩, 24) := ⟨⟨by decide +kernel, by decide +kernel⟩, List.mem_of_getElem? (i := 769) (by decide +kernel), List.mem_of_getElem? (i := 868) (by decide +kernel), List.mem_of_getElem? (i := 869) (by decide +kernel)⟩
def lw_privs_1 : List (MethodName × Nat) := [(⟨"TiedFrame$Cloth", "knotsOf", "(LTiedFrame$Plan;II)I"⟩, 7), (⟨"TiedFrame$Cloth", "takenBy", "(II)I"⟩, 7), (⟨"java/lang/Throwable", "fillInStackTrace", "(I)Ljava/lang/Throwable;"⟩, 6), (⟨"TiedFrame", "needThread", "(I)V"⟩, 9), (⟨"TiedFrame", "needRange", "(III)V"⟩, 9), (⟨"TiedFrame", "needPlace", "(I)V"⟩, 9), (⟨"TiedFrame$Cloth", "reach", "(III)I"⟩, 7), (⟨"TiedFrame$Planner", "gatherWays", "(I)Z"⟩, 9), (⟨"TiedFrame$Planner", "tiesOf", "(I)I"⟩, 9), (⟨"TiedFrame$Planner", "weigh", "(II)V"⟩, 9), (⟨"TiedFrame$Planner", "leastBits", "(III)I"⟩, 9), (⟨"TiedFrame$Planner", "keepsFewest", "(IIII)Z"⟩, 9), (⟨"TiedFrame$Planner", "tiesBelow", "(I)I"⟩, 9), (⟨"TiedFrameModel", "right", "(ZI)Z"⟩, 24), (⟨"TiedFrameModel", "undyed", "()V"⟩, 24), (⟨"TiedFrameModel", "isThread", "(I)Z"⟩, 24)]
theorem lw_r1 : ∀ q ∈ lw_privs_1, lw_okq q := List.forall_mem_cons.mpr ⟨lw_p0, List.forall_mem_cons.mpr ⟨lw_p1, List.forall_mem_cons.mpr ⟨lw_p2, List.forall_mem_cons.mpr ⟨lw_p3, List.forall_mem_cons.mpr ⟨lw_p4, List.forall_mem_cons.mpr ⟨lw_p5, List.forall_mem_cons.mpr ⟨lw_p6, List.forall_mem_cons.mpr ⟨lw_p7, List.forall_mem_cons.mpr ⟨lw_p8, List.forall_mem_cons.mpr ⟨lw_p9, List.forall_mem_cons.mpr ⟨lw_p10, List.forall_mem_cons.mpr ⟨lw_p11, List.forall_mem_cons.mpr ⟨lw_p12, List.forall_mem_cons.mpr ⟨lw_p13, List.forall_mem_cons.mpr ⟨lw_p14, List.forall_mem_cons.mpr ⟨lw_p15, fun _ h => absurd h List.not_mem_nil⟩⟩⟩⟩⟩⟩⟩⟩⟩⟩⟩⟩⟩⟩⟩⟩
theorem lw_p16 : lw_okq (⟨"TiedFrameModel", "isBundle", "(I)Z"⟩, 24) := ⟨⟨by decide +kernel, by decide +kernel⟩, List.mem_of_getElem? (i := 769) (by decide +kernel), List.mem_of_getElem? (i := 872) (by decide +kernel), List.mem_of_getElem? (i := 873) (by decide +kernel)⟩
theorem lw_p17 : lw_okq (⟨"TiedFrameModel", "ties", "(IIIZ)I"⟩, 24) := ⟨⟨by decide +kernel, by decide +kernel⟩, List.mem_of_getElem? (i := 769) (by decide +kernel), List.mem_of_getElem? (i := 893) (by decide +kernel), List.mem_of_getElem? (i := 894) (by decide +kernel)⟩
theorem lw_p18 : lw_okq (⟨"TiedFrameModel", "isPlace", "(I)Z"⟩, 24) := ⟨⟨by decide +kernel, by decide +kernel⟩, List.mem_of_getElem? (i := 769) (by decide +kernel), List.mem_of_getElem? (i := 897) (by decide +kernel), List.mem_of_getElem? (i := 898) (by decide +kernel)⟩
theorem lw_p19 : lw_okq (⟨"TiedFrameModel", "binds", "(IIZ)I"⟩, 24) := ⟨⟨by decide +kernel, by decide +kernel⟩, List.mem_of_getElem? (i := 769) (by decide +kernel), List.mem_of_getElem? (i := 901) (by decide +kernel), List.mem_of_getElem? (i := 902) (by decide +kernel)⟩
theorem lw_p20 : lw_okq (⟨"TiedFrameModel", "taken", "()I"⟩, 24) := ⟨⟨by decide +kernel, by decide +kernel⟩, List.mem_of_getElem? (i := 769) (by decide +kernel), List.mem_of_getElem? (i := 913) (by decide +kernel), List.mem_of_getElem? (i := 914) (by decide +kernel)⟩
theorem lw_p21 : lw_okq (⟨"TiedFrameModel", "many", "(I)I"⟩, 24) := ⟨⟨by decide +kernel, by decide +kernel⟩, List.mem_of_getElem? (i := 769) (by decide +kernel), List.mem_of_getElem? (i := 917) (by decide +kernel), List.mem_of_getElem? (i := 918) (by decide +kernel)⟩
theorem lw_p22 : lw_okq (⟨"TiedFrameModel", "bathes", "(I)V"⟩, 24) := ⟨⟨by decide +kernel, by decide +kernel⟩, List.mem_of_getElem? (i := 769) (by decide +kernel), List.mem_of_getElem? (i := 921) (by decide +kernel), List.mem_of_getElem? (i := 922) (by decide +kernel)⟩
theorem lw_p23 : lw_okq (⟨"TiedFrameModel", "colourOf", "(II)I"⟩, 24) := ⟨⟨by decide +kernel, by decide +kernel⟩, List.mem_of_getElem? (i := 769) (by decide +kernel), List.mem_of_getElem? (i := 929) (by decide +kernel), List.mem_of_getElem? (i := 930) (by decide +kernel)⟩
theorem lw_p24 : lw_okq (⟨"TiedFrameModel", "find", "(I)I"⟩, 24) := ⟨⟨by decide +kernel, by decide +kernel⟩, List.mem_of_getElem? (i := 769) (by decide +kernel), List.mem_of_getElem? (i := 951) (by decide +kernel), List.mem_of_getElem? (i := 952) (by decide +kernel)⟩
theorem lw_p25 : lw_okq (⟨"TiedFrameModel", "becomes", "(II)I"⟩, 24) := ⟨⟨by decide +kernel, by decide +kernel⟩, List.mem_of_getElem? (i := 769) (by decide +kernel), List.mem_of_getElem? (i := 955) (by decide +kernel), List.mem_of_getElem? (i := 956) (by decide +kernel)⟩
theorem lw_p26 : lw_okq (⟨"TiedFrameModel", "wants", "(III)Z"⟩, 24) := ⟨⟨by decide +kernel, by decide +kernel⟩, List.mem_of_getElem? (i := 769) (by decide +kernel), List.mem_of_getElem? (i := 959) (by decide +kernel), List.mem_of_getElem? (i := 960) (by decide +kernel)⟩
theorem lw_p27 : lw_okq (⟨"TiedFrameModel", "keeps", "(II)V"⟩, 24) := ⟨⟨by decide +kernel, by decide +kernel⟩, List.mem_of_getElem? (i := 769) (by decide +kernel), List.mem_of_getElem? (i := 969) (by decide +kernel), List.mem_of_getElem? (i := 970) (by decide +kernel)⟩
theorem lw_p28 : lw_okq (⟨"TiedFrameModel", "takes", "(I)I"⟩, 24) := ⟨⟨by decide +kernel, by decide +kernel⟩, List.mem_of_getElem? (i := 769) (by decide +kernel), List.mem_of_getElem? (i := 989) (by decide +kernel), List.mem_of_getElem? (i := 990) (by decide +kernel)⟩
theorem lw_p29 : lw_okq (⟨"TiedFrameModel", "bindsFor", "(I)V"⟩, 24) := ⟨⟨by decide +kernel, by decide +kernel⟩, List.mem_of_getElem? (i := 769) (by decide +kernel), List.mem_of_getElem? (i := 993) (by decide +kernel), List.mem_of_getElem? (i := 994) (by decide +kernel)⟩
theorem lw_p30 : lw_okq (⟨"TiedFrameModel", "seenOf", "(II)I"⟩, 24) := ⟨⟨by decide +kernel, by decide +kernel⟩, List.mem_of_getElem? (i := 769) (by decide +kernel), List.mem_of_getElem? (i := 1005) (by decide +kernel), List.mem_of_getElem? (i := 1006) (by decide +kernel)⟩
theorem lw_p31 : lw_okq (⟨"TiedFrameModel", "rankOf", "(II)I"⟩, 24) := ⟨⟨by decide +kernel, by decide +kernel⟩, List.mem_of_getElem? (i := 769) (by decide +kernel), List.mem_of_getElem? (i := 1021) (by decide +kernel), List.mem_of_getElem? (i := 1022) (by decide +kernel)⟩
def lw_privs_2 : List (MethodName × Nat) := [(⟨"TiedFrameModel", "isBundle", "(I)Z"⟩, 24), (⟨"TiedFrameModel", "ties", "(IIIZ)I"⟩, 24), (⟨"TiedFrameModel", "isPlace", "(I)Z"⟩, 24), (⟨"TiedFrameModel", "binds", "(IIZ)I"⟩, 24), (⟨"TiedFrameModel", "taken", "()I"⟩, 24), (⟨"TiedFrameModel", "many", "(I)I"⟩, 24), (⟨"TiedFrameModel", "bathes", "(I)V"⟩, 24), (⟨"TiedFrameModel", "colourOf", "(II)I"⟩, 24), (⟨"TiedFrameModel", "find", "(I)I"⟩, 24), (⟨"TiedFrameModel", "becomes", "(II)I"⟩, 24), (⟨"TiedFrameModel", "wants", "(III)Z"⟩, 24), (⟨"TiedFrameModel", "keeps", "(II)V"⟩, 24), (⟨"TiedFrameModel", "takes", "(I)I"⟩, 24), (⟨"TiedFrameModel", "bindsFor", "(I)V"⟩, 24), (⟨"TiedFrameModel", "seenOf", "(II)I"⟩, 24), (⟨"TiedFrameModel", "rankOf", "(II)I"⟩, 24)]
theorem lw_r2 : ∀ q ∈ lw_privs_2, lw_okq q := List.forall_mem_cons.mpr ⟨lw_p16, List.forall_mem_cons.mpr ⟨lw_p17, List.forall_mem_cons.mpr ⟨lw_p18, List.forall_mem_cons.mpr ⟨lw_p19, List.forall_mem_cons.mpr ⟨lw_p20, List.forall_mem_cons.mpr ⟨lw_p21, List.forall_mem_cons.mpr ⟨lw_p22, List.forall_mem_cons.mpr ⟨lw_p23, List.forall_mem_cons.mpr ⟨lw_p24, List.forall_mem_cons.mpr ⟨lw_p25, List.forall_mem_cons.mpr ⟨lw_p26, List.forall_mem_cons.mpr ⟨lw_p27, List.forall_mem_cons.mpr ⟨lw_p28, List.forall_mem_cons.mpr ⟨lw_p29, List.forall_mem_cons.mpr ⟨lw_p30, List.forall_mem_cons.mpr ⟨lw_p31, fun _ h => absurd h List.not_mem_nil⟩⟩⟩⟩⟩⟩⟩⟩⟩⟩⟩⟩⟩⟩⟩⟩
theorem lw_p32 : lw_okq (⟨"TiedFrameModel", "strengthOf", "(I)I"⟩, 24) := ⟨⟨by decide +kernel, by decide +kernel⟩, List.mem_of_getElem? (i := 769) (by decide +kernel), List.mem_of_getElem? (i := 1029) (by decide +kernel), List.mem_of_getElem? (i := 1030) (by decide +kernel)⟩
def lw_privs_3 : List (MethodName × Nat) := [(⟨"TiedFrameModel", "strengthOf", "(I)I"⟩, 24)]
theorem lw_r3 : ∀ q ∈ lw_privs_3, lw_okq q := List.forall_mem_cons.mpr ⟨lw_p32, fun _ h => absurd h List.not_mem_nil⟩
def lw_privs : List (MethodName × Nat) := lw_privs_1 ++ (lw_privs_2 ++ (lw_privs_3))
def lw_tbl : List Cond := k2_sels lw_privs ++ tables_1
theorem lw_privs_ok : ∀ q ∈ lw_privs, lw_okq q := by
  show ∀ q ∈ lw_privs_1 ++ (lw_privs_2 ++ (lw_privs_3)), lw_okq q
  exact List.forall_mem_append.mpr ⟨lw_r1, List.forall_mem_append.mpr ⟨lw_r2, lw_r3⟩⟩
-- ===== end of PART A; then your names; then what follows =====
end
section
def va_AOA (t : FieldType) (U : State) : Prop := (Cond.arrayOver (.array t)).before #[] U = true
theorem va_AOA.use {t : FieldType} {A : Array Value} {U : State} (h : va_AOA t U) : (Cond.arrayOver (.array t)).before A U = true := h
theorem va_AOA.of {t : FieldType} {A : Array Value} {U : State} (h : (Cond.arrayOver (.array t)).before A U = true) : va_AOA t U := h
/-! ===== BEGIN words of one list among another's, by their places ===== -/
theorem goodIn_r {big : List Cond} (ws : List Cond) (ps : List Nat) (hp : ws = ps.filterMap (fun i => big[i]?)) (h : ws.all goodWord = true) : GoodIn big ws := by
  intro w hw
  have h1 := List.all_eq_true.mp h w hw
  rw [hp] at hw
  obtain ⟨i, -, hi⟩ := List.mem_filterMap.mp hw
  have hm : w ∈ big := by first | exact List.mem_of_getElem? hi | exact List.getElem?_mem hi
  exact ⟨hm, good_of_word h1⟩
theorem goodIn_app {big a b : List Cond} (ha : GoodIn big a) (hb : GoodIn big b) : GoodIn big (a ++ b) := fun w h => (List.mem_append.mp h).elim (ha w) (hb w)
theorem goodIn_ca {big a b : List Cond} {c : Cond} (ha : GoodIn big (c :: a)) (hb : GoodIn big b) : GoodIn big (c :: (a ++ b)) := fun w h => (List.mem_cons.mp h).elim (fun e => ha w (List.mem_cons.mpr (Or.inl e))) (fun h => (List.mem_append.mp h).elim (fun h => ha w (List.mem_cons.mpr (Or.inr h))) (hb w))
theorem goodIn_sub {big ws : List Cond} (hm : ∀ w ∈ ws, w ∈ big) (h : ws.all goodWord = true) : GoodIn big ws := fun w hw => ⟨hm w hw, good_of_word (List.all_eq_true.mp h w hw)⟩
/-! ===== END ===== -/

/-! ===== BEGIN new T[n][m]: the outer array a place, the inner ones among the pooled ===== -/
/-- f, but v at every address of l -/
def vr_up {α : Type} (f : Nat → α) (l : List Nat) (v : α) : Nat → α := fun a => if a ∈ l then v else f a
theorem vr_up_in {α : Type} {f : Nat → α} {l : List Nat} {v : α} {a : Nat} (h : a ∈ l) : vr_up f l v a = v := if_pos h
theorem vr_up_ne {α : Type} {f : Nat → α} {l : List Nat} {v : α} {a : Nat} (h : a ∉ l) : vr_up f l v a = f a := if_neg h
theorem vr_rows {L l : List Nat} {f : Nat → va_E} {e : va_E} (h : ∀ a, a ∈ l → a ∉ L) : va_pl L f ++ l.map (fun a => (a, e)) = va_pl (L ++ l) (vr_up f l e) := by
  unfold va_pl
  rw [List.map_append]
  congr 1
  · apply List.map_congr_left
    intro a ha
    rw [vr_up_ne (fun q => h a q ha)]
  · apply List.map_congr_left
    intro a ha
    rw [vr_up_in ha]
theorem vr_lay {X rows : va_W} {x : Nat × va_E} {pl : va_W} {D : va_G} {cl : List vw_C} {H : Heap} (hP : va_P D cl (((X ++ pl) ++ [x]) ++ rows) H) : va_P D cl ((X ++ [x]) ++ (pl ++ rows)) H := by
  rw [List.append_assoc (X ++ pl)] at hP
  have h := va_P.swap hP
  rw [← List.append_assoc X] at h
  have h2 := va_P.swap h
  rw [List.append_assoc (X ++ [x])] at h2
  exact h2
theorem vr_layD {X rows : va_W} {x : Nat × va_E} {pl : va_W} {A : Nat → Prop} (hD : va_D A (((X ++ pl) ++ [x]) ++ rows)) : va_D A ((X ++ [x]) ++ (pl ++ rows)) := by
  rw [List.append_assoc (X ++ pl)] at hD
  have h := va_D.swap hD
  rw [← List.append_assoc X] at h
  have h2 := va_D.swap h
  rw [List.append_assoc (X ++ [x])] at h2
  exact h2
theorem vr_outer (c : ClassId) (N h0 : Nat) : ∀ i : Nat, Jvm.Free.Multi.outerC c N h0 i = arrV c N (fun j => va_rf (if j < i then some (h0 + 1 + j) else none))
  | 0 => by
    show ({ cls := c, slots := Array.replicate N .null, vm := .none } : Cell) = _
    rw [arrV_new]
    refine congrArg (arrV c N) (funext fun j => ?_)
    simp [va_rf]
  | i + 1 => by
    show (Jvm.Free.Multi.outerC c N h0 i).setSlot i (.ref (h0 + 1 + i)) = _
    rw [vr_outer c N h0 i, arrV_store]
    refine congrArg (arrV c N) (funext fun j => ?_)
    by_cases e : j = i
    · subst e
      simp [updV, va_rf]
    · by_cases h : j < i
      · simp [updV, e, h, Nat.lt_succ_of_lt h]
      · simp [updV, e, h, show ¬ j < i + 1 by omega]
section VGM
variable {p : Program} {l : Launch} {e : Env} {R : Room} {s : State} {m : MethodId} {args : Array Value} {below : List Frame} {meth : Method} {c : Code} {H : Heap} {locs : List Loc} {cells slots : Nat} {Q : State → Prop}
variable {cc : ByteArray} {pc : Nat} {ls : Array Slot} {rest : List Value} {D : va_G} {cl : List vw_C} {A : Nat → Prop} {a : Nat} {tys : List (ClassId × FieldType)} {ws : va_W} {H0 : Heap}
theorem va_mna {X : va_W} {L : List Nat} {f : Nat → va_E} {cc : ByteArray} (hexec : p.tables.exec = Jvm.exec) (hb : c.code = cc) {own : String} {index : Nat} {ty : FieldType} {cy : ClassId} (hown : s.vm.findClass own = some m.cls) (hclink : (Cond.classLink own index ("[" ++ (FieldType.array ty).toString)).before args s = true) (hover : va_AOA ty s) (harr : (Cond.arrayClass ty).before args s = true) (hcy : s.vm.findClass (FieldType.array ty).toString = some cy)
    (hK : va_K D cl tys s) (hP : va_P D cl (X ++ va_pl L f) H) (hD : va_D A (X ++ va_pl L f)) (hS : va_S A H0 H locs) (hA : ∀ q, H0.size ≤ q → A q) {n k : Int32} {N' K' : Nat} {z : vp_A} (hn : ¬ n < 0) (hk : ¬ k < 0) (hN : n.toNatClampNeg = N') (hM : k.toNatClampNeg = K')
    (hb1 : N' * 4 ≤ 536870912) (hb2 : K' * componentBytes ty ≤ 536870912) (hb3 : K' ≤ 536870912) (hdf : fits ty (defaultValue ty) = true) (hdd : (defaultValue ty).isDefault = true) (hcells : cells + (1 + N') ≤ R.cells) (hslots : slots + (N' + N' * K') ≤ R.slots) (hz : ∀ c : ClassId, Jvm.Free.Multi.innerC c K' (defaultValue ty) = vp_cell c z) (hdg : decode cc pc = .ok (.multianewarray index 2, 4))
    (kk : ∀ (q : Nat) (r : Nat → Nat) (cA : ClassId) (H1 : Heap), (∀ i j : Nat, i < N' → j < N' → r i = r j → i = j) → (∀ i : Nat, i < N' → r i ∉ L) → va_K D cl (tys ++ [(cA, .array ty)]) s →
      va_P D cl ((X ++ [(q, .inl (cA, N', .inr (.inr (.inr (.inr (fun i => if i < N' then some (r i) else none))))))]) ++ va_pl (L ++ (List.range N').map r) (vr_up f ((List.range N').map r) (.inl (cy, z)))) H1 → va_D A ((X ++ [(q, .inl (cA, N', .inr (.inr (.inr (.inr (fun i => if i < N' then some (r i) else none))))))]) ++ va_pl (L ++ (List.range N').map r) (vr_up f ((List.range N').map r) (.inl (cy, z)))) → va_S A H0 H1 locs →
      W p l e R s m args below meth c H1 locs (cells + 1 + N') (slots + N' + N' * K') Q (F0 m (pc + 4) ls (.ref q :: rest))) : W p l e R s m args below meth c H locs cells slots Q (F0 m pc ls (.int k :: .int n :: rest)) := by
  subst hN
  subst hM
  intro T hT Xs
  obtain ⟨vm₁, cA, comp, -, fA, fC, hO, -, X', step⟩ := Xs.multianewarray2F hexec hown hclink (va_AOA.use hover) harr (g := F0 m pc ls (.int k :: .int n :: rest)) rfl (by rw [hb]; exact hdg) rfl hn hk hb1 hb2 hb3 hdf hdd hcells hslots
  have ec : some cy = some comp := hcy.symm.trans fC
  cases ec
  generalize hF : Jvm.Free.Multi.fill (T.setVm vm₁) cA cy n.toNatClampNeg k.toNatClampNeg (defaultValue ty) n.toNatClampNeg = F at X' step
  have hTh : (T.setVm vm₁).heap = H := hT
  obtain ⟨f1, f2, -, -⟩ := Jvm.Free.Multi.fill_facts (T.setVm vm₁) cA cy n.toNatClampNeg k.toNatClampNeg (defaultValue ty) n.toNatClampNeg
  rw [hF, hTh] at f1 f2
  have hold : ∀ x : Nat, x < H.size → F.heap[x]? = H[x]? := fun x hx => by
    have := Jvm.Free.Multi.fill_old (T.setVm vm₁) cA cy n.toNatClampNeg k.toNatClampNeg (defaultValue ty) (a := x) (by rw [hTh]; exact hx) n.toNatClampNeg
    rw [hF, hTh] at this
    exact this
  have hrow : ∀ j : Nat, j < n.toNatClampNeg → F.heap[H.size + 1 + j]? = some (vp_cell cy z) := fun j hj => by
    have := Jvm.Free.Multi.fill_inner (T.setVm vm₁) cA cy n.toNatClampNeg k.toNatClampNeg (defaultValue ty) n.toNatClampNeg j hj
    rw [hF, hTh, hz] at this
    exact this
  have hout : Jvm.Free.Multi.outerC cA n.toNatClampNeg H.size n.toNatClampNeg = vp_cell cA (n.toNatClampNeg, .inr (.inr (.inr (.inr (fun i => if i < n.toNatClampNeg then some (H.size + 1 + i) else none))))) := by
    rw [vp_cell_q]
    exact vr_outer cA n.toNatClampNeg H.size n.toNatClampNeg
  rw [hout] at f2
  have hlt : ∀ a, a ∈ L → a < H.size := fun a ha => by
    obtain ⟨k9, hk9⟩ := va_pl_get (X := X) (f := f) ha
    exact (hP k9 _ hk9).lt
  have hnl : ∀ i : Nat, i < n.toNatClampNeg → H.size + 1 + i ∉ L := fun i _ h => by
    have := hlt _ h
    omega
  have hnm : ∀ a, a ∈ (List.range n.toNatClampNeg).map (fun i => H.size + 1 + i) → a ∉ L := fun a ha h => by
    obtain ⟨i, -, rfl⟩ := List.mem_map.mp ha
    have := hlt _ h
    omega
  have hP0 : va_P D cl (X ++ va_pl L f) F.heap := hP.kept (fun k9 x hx => hold x.1 ((hP k9 x hx).lt))
  have hP1 : va_P D cl ((X ++ va_pl L f) ++ [(H.size, .inl (cA, n.toNatClampNeg, .inr (.inr (.inr (.inr (fun i => if i < n.toNatClampNeg then some (H.size + 1 + i) else none))))))]) F.heap := hP0.app (fun k9 x hx => by
    have h0 : k9 < 1 := (List.getElem?_eq_some_iff.mp hx).1
    rw [show k9 = 0 by omega] at hx
    cases hx
    exact f2)
  have hP2 : va_P D cl (((X ++ va_pl L f) ++ [(H.size, .inl (cA, n.toNatClampNeg, .inr (.inr (.inr (.inr (fun i => if i < n.toNatClampNeg then some (H.size + 1 + i) else none))))))]) ++ ((List.range n.toNatClampNeg).map (fun i => H.size + 1 + i)).map (fun a => (a, .inl (cy, z)))) F.heap := hP1.app (fun k9 x hx => by
    obtain ⟨a, ha, rfl⟩ := List.mem_map.mp (List.mem_of_getElem? hx)
    obtain ⟨i, hi, rfl⟩ := List.mem_map.mp ha
    exact hrow i (List.mem_range.mp hi))
  have hD2 : va_D A (((X ++ va_pl L f) ++ [(H.size, .inl (cA, n.toNatClampNeg, .inr (.inr (.inr (.inr (fun i => if i < n.toNatClampNeg then some (H.size + 1 + i) else none))))))]) ++ ((List.range n.toNatClampNeg).map (fun i => H.size + 1 + i)).map (fun a => (a, .inl (cy, z)))) := by
    have hD1 := hD.push (e := .inl (cA, n.toNatClampNeg, .inr (.inr (.inr (.inr (fun i => if i < n.toNatClampNeg then some (H.size + 1 + i) else none)))))) hP rfl (hA _ hS.1)
    generalize hW1 : (X ++ va_pl L f) ++ [(H.size, .inl (cA, n.toNatClampNeg, .inr (.inr (.inr (.inr (fun i => if i < n.toNatClampNeg then some (H.size + 1 + i) else none))))))] = W1 at hD1 hP1 ⊢
    have hle : ∀ (k9 : Nat) (x : Nat × va_E), W1[k9]? = some x → x.1 ≤ H.size := fun k9 x hx => by
      rw [← hW1] at hx
      by_cases hl : k9 < (X ++ va_pl L f).length
      · rw [List.getElem?_append_left hl] at hx
        exact Nat.le_of_lt ((hP k9 x hx).lt)
      · rw [List.getElem?_append_right (by omega)] at hx
        have h0 : k9 - (X ++ va_pl L f).length < 1 := (List.getElem?_eq_some_iff.mp hx).1
        rw [show k9 - (X ++ va_pl L f).length = 0 by omega] at hx
        cases hx
        exact Nat.le_refl _
    have hr : ∀ (k9 : Nat) (x : Nat × va_E), (((List.range n.toNatClampNeg).map (fun i => H.size + 1 + i)).map (fun a => ((a, .inl (cy, z)) : Nat × va_E)))[k9]? = some x → x.1 = H.size + 1 + k9 := fun k9 x hx => by
      rw [List.getElem?_map, List.getElem?_map] at hx
      by_cases h9 : k9 < n.toNatClampNeg
      · rw [List.getElem?_range h9] at hx
        cases hx
        rfl
      · have hn0 : (List.range n.toNatClampNeg)[k9]? = none := List.getElem?_eq_none (by rw [List.length_range]; omega)
        rw [hn0] at hx
        cases hx
    refine ⟨fun i j x y hi hj hxy => ?_, fun k9 x hx => ?_⟩
    · by_cases h1 : i < W1.length <;> by_cases h2 : j < W1.length
      · rw [List.getElem?_append_left h1] at hi
        rw [List.getElem?_append_left h2] at hj
        exact hD1.1 i j x y hi hj hxy
      · rw [List.getElem?_append_left h1] at hi
        rw [List.getElem?_append_right (by omega)] at hj
        have := hle _ _ hi
        have := hr _ _ hj
        omega
      · rw [List.getElem?_append_right (by omega)] at hi
        rw [List.getElem?_append_left h2] at hj
        have := hle _ _ hj
        have := hr _ _ hi
        omega
      · rw [List.getElem?_append_right (by omega)] at hi hj
        have := hr _ _ hi
        have := hr _ _ hj
        omega
    · by_cases h1 : k9 < W1.length
      · rw [List.getElem?_append_left h1] at hx
        exact hD1.2 k9 x hx
      · rw [List.getElem?_append_right (by omega)] at hx
        have := hr _ _ hx
        exact hA _ (by have := hS.1; omega)
  have hAr : ArrOfT s cA (.array ty) := fun N9 z9 => by
    obtain ⟨-, k9, hk9, cm9, hkk9⟩ := (hO 0 0 0).1
    exact ⟨(fun q hq => by cases hq), k9, hk9, cm9, hkk9⟩
  have hK2 : va_K D cl (tys ++ [(cA, .array ty)]) s := ⟨hK.1, fun k9 x hx => by
    by_cases hl : k9 < tys.length
    · rw [List.getElem?_append_left hl] at hx
      exact hK.2 k9 x hx
    · rw [List.getElem?_append_right (by omega)] at hx
      have h0 : k9 - tys.length < 1 := (List.getElem?_eq_some_iff.mp hx).1
      rw [show k9 - tys.length = 0 by omega] at hx
      cases hx
      exact ⟨hAr, fA⟩⟩
  obtain ⟨t, a1, b1⟩ := kk H.size (fun i => H.size + 1 + i) cA F.heap (fun i j _ _ h => by have h9 : H.size + 1 + i = H.size + 1 + j := h; omega) hnl hK2 (by rw [← vr_rows hnm]; exact vr_lay hP2) (by rw [← vr_rows hnm]; exact vr_layD hD2) ⟨by rw [f1]; have := hS.1; omega, fun x h1 h2 => (hold x (Nat.lt_of_lt_of_le h1 hS.1)).trans (hS.2.1 x h1 h2), hS.2.2⟩ F rfl X'
  refine ⟨t, step t ?_, b1⟩
  have e : T.heap.size = H.size := by rw [hT]
  rw [e]
  exact a1
end VGM
/-! ===== END ===== -/

/-! ===== BEGIN exceptions that leave a method, and their catching by the caller (launches without stack traces) ===== -/
section VXA
/-! The laws vx_back, vx_callV, vx_callS, vx_callSW, vx_throw0, vx_throwS follow proofs of the library, with one case more: JvmDerived/Free/Laws.lean (Back.of_free), Shelf42/LK1.lean (callV, callS), Shelf/KitTraced.lean (throwNew0V, throwNewS). -/
/-- where a method has thrown q: the class by its name, the cell, what was written, the world -/
def vx_T (XC : String → State → State → Prop) (st : State) (q : Addr) (t : State) (mc ms : Nat) (free : Addr → Prop) : Prop :=
  ∃ (E : String) (ce : Cell) (L : List Loc), XC E st t ∧ t.heap[q]? = some ce ∧ ce.vm = .none ∧ st.vm.findClass E = some ce.cls ∧ st.WarmedH t.vm ∧ st.sameButNew ({ t with vm := st.vm } : State) L mc ms ∧ ∀ z ∈ L, free z.base
def vx_Q (Qc : Array Value → State → Outcome → State → Prop) (XC : String → State → State → Prop) (mc ms : Nat) (free : Addr → Prop) : Array Value → State → Outcome → State → Prop := fun a st o t =>
  (Qc a st o t ∧ ∃ L, FrameEnd st o t L mc ms ∧ ∀ q ∈ L, free q.base) ∨ ∃ q, o = .threw q ∧ vx_T XC st q t mc ms free
/-- a callee that returns or throws -/
def vx_Met (l : Launch) (y : MethodName) (ws : List Cond) (rm : Room) (Pc : Array Value → State → Prop) (Qc : Array Value → State → Outcome → State → Prop) (XC : String → State → State → Prop) (mc ms : Nat) (free : Addr → Prop) : Prop :=
  MetFree l y (headSpec ws rm) Pc (fun _ _ _ _ _ => True) (vx_Q Qc XC mc ms free)
def vx_Post (XC : String → State → State → Prop) (mc ms : Nat) (free : Addr → Prop) : Pt → Array Value → Addr → Pt → Prop := fun A a q B =>
  ∃ (g : JFrame) (mk : MethodId) (t : State) (L : List Loc) (E : String) (ce : Cell), B.U.heap = t.heap ∧ B.U.vm = t.vm ∧ XC E (A.U.calling g mk a) t ∧ t.heap[q]? = some ce ∧ ce.vm = .none ∧ A.U.vm.findClass E = some ce.cls ∧ B.locs = A.locs ++ L ∧ (∀ z ∈ L, free z.base) ∧ B.cells = A.cells + mc ∧ B.slots = A.slots + ms
def vx_Back (l : Launch) (R : Room) (p : Program) (e : Env) (below : List Frame) (s : State) (sargs : Array Value) (y : MethodName) (len W9 : Nat)
    (Pre : Pt → Array Value → Prop) (Post : Pt → Array Value → Option Value → Pt → Prop) (PostX : Pt → Array Value → Addr → Pt → Prop) : Prop :=
  ∀ (m : MethodId) (meth : Method) (c : Code) (A : Pt) (g : JFrame) (ig : Instr) (mk : MethodId) (a : Array Value),
    Stand p l e R s m sargs below meth c A.U A.locs A.cells A.slots → g.method = m → g.locals.size = c.maxLocals → decode c.code g.pc = .ok (ig, len) →
    2 * g.monitorRoom + (g.stack.map fun v => v.category).sum ≤ W9 → A.U.methodNamed? y = some mk → Pre A a →
    (∃ (v : Option Value) (B : Pt), Stand p l e R s m sargs below meth c B.U B.locs B.cells B.slots ∧ Post A a v B ∧
      Steps p.tables e below (doInvoke e (A.U.setTop g) [] mk a).1 (B.U.setTop { g with pc := g.pc + len, stack := v.toList ++ g.stack })) ∨
    (∃ (q : Addr) (B : Pt), Stand p l e R s m sargs below meth c B.U B.locs B.cells B.slots ∧ PostX A a q B ∧
      Steps p.tables e below (doInvoke e (A.U.setTop g) [] mk a).1 ((B.U.setTop g).pushFrame (.throwing q)))
section Payer
variable {l : Launch} {R : Room} {p : Program} {e : Env} {below : List Frame} {s : State} {sargs : Array Value} {y : MethodName} {len W9 : Nat}
theorem vx_back {ws : List Cond} {rm : Room} {Pc : Array Value → State → Prop} {Qc : Array Value → State → Outcome → State → Prop} {XC : String → State → State → Prop} {mc ms : Nat} {free : Addr → Prop} {bytes : ByteArray} {maxL : Nat} {ret : Option FieldType}
    (hM : vx_Met l y ws rm Pc Qc XC mc ms free) (hblind : FrameBlind Pc) (hrc : rm.cells = mc) (hrs : rm.slots = ms)
    (hframes : rm.frames + 1 ≤ R.frames) (hlocals : W9 + (maxL + 11) + rm.locals ≤ R.locals)
    (hws : ∀ w ∈ ws, ∀ a' U, s.WarmedH U.vm → w.before a' U = true) (hcode : Cond.code y bytes maxL ret ∈ ws) (hinit : ∀ a' U, s.WarmedH U.vm → (Cond.initialized y.cls).before a' U = true) :
    vx_Back l R p e below s sargs y len W9 (PreOf R mc ms Pc) (PostOf Qc mc ms free) (vx_Post XC mc ms free) := by
  intro m meth c A g ig mk a X hg hsize hdg hW hn hp
  have h1 : (headSpec ws rm).pre.before a A.U = true := atoms_intro fun w hw => hws w hw _ _ X.warmed
  have h2 : (Cond.code y bytes maxL ret).before a A.U = true := hws _ hcode _ _ X.warmed
  have h3 : (Cond.initialized y.cls).before a A.U = true := hinit _ _ X.warmed
  have h4 : A.cells + (headSpec ws rm).room.cells ≤ R.cells := by rw [show (headSpec ws rm).room.cells = mc from hrc]; exact hp.1
  have h5 : A.slots + (headSpec ws rm).room.slots ≤ R.slots := by rw [show (headSpec ws rm).room.slots = ms from hrs]; exact hp.2.1
  have hPc : Pc a (A.U.calling g mk a) := hblind _ _ _ _ hp.2.2
  obtain ⟨U, Ls, c0, s0⟩ := A
  dsimp only [Pt.U, Pt.locs, Pt.cells, Pt.slots] at h1 h2 h3 h4 h5 X hn hPc ⊢
  obtain ⟨methY, cY, hmY, hcY, -, hlY, -, -, -, -⟩ := Cond.code_spec hn h2
  obtain ⟨kY, hkY, -⟩ := className_of_methodNamed hn
  have hinitY : kY.init = .initialized := Cond.initialized_spec (findClass_of_methodNamed hn) hkY h3
  have h : At U g.method c below := by rw [hg]; exact X.here
  have hlocals9 : W9 + (maxL + 11) + (headSpec ws rm).room.locals ≤ R.locals := hlocals
  have happ : (headSpec ws rm).appliesLoose y e.platform (U.calling g mk a) = true :=
    Spec.appliesLoose_calling (g := g) h hdg hn hkY hinitY
      (X.room_calling (g := g) (R' := (headSpec ws rm).room) hsize hmY hcY hframes (by rw [hlY]; omega) h4 h5) h1
  obtain ⟨mid, hmid⟩ := h.above
  have hfr : (U.setTop g).frames = (.java g :: mid) ++ below := by rw [State.frames_setTop' g h.top, hmid]; rfl
  obtain ⟨o, s₂, hsteps, -, hend, hq⟩ := Steps.callFree hM p X.admits X.cas X.clock (acts := []) hfr happ hPc trivial
  have hq' : vx_Q Qc XC mc ms free a (U.calling g mk a) o s₂ := hq
  rw [State.frames_setTop' g h.top] at hend
  obtain ⟨g₀, hg0⟩ := Option.isSome_iff_exists.mp h.top
  obtain ⟨r, hr⟩ := State.topJava?_eq_some.mp hg0
  have hr' : (({ U with heap := s₂.heap, slotsUsed := s₂.slotsUsed } : State).setVm s₂.vm).frames = .java g₀ :: r := hr
  rcases hq' with ⟨hqc, L, hfe, hL⟩ | ⟨q, rfl, E, ce, L, hx, hce, hcv, hcl, hW₂, hsm, hL⟩
  · obtain ⟨⟨v, rfl⟩, hW₂, e2, q2, q3, q4, q5, q6⟩ := id hfe
    have e3 : s₂ = ({ (U.calling g mk a).setFrames s₂.frames with heap := s₂.heap, slotsUsed := s₂.slotsUsed } : State).setVm s₂.vm := by
      have : s₂ = ({ s₂ with vm := (U.calling g mk a).vm } : State).setVm s₂.vm := rfl
      rw [e2] at this
      exact this
    obtain ⟨c₂, i₂, len₂, hc₂, hd₂, hf₂⟩ := hend
    have hW' : U.WarmedH s₂.vm := hW₂
    have hcc : c₂ = c := by
      have h1 : s₂.code? g.method = U.code? g.method := by
        rw [State.code?_eq, State.code?_eq, hW'.alike.method?]
      exact Option.some.inj (hc₂.symm.trans (h1.trans h.code))
    subst hcc
    have hlen : len₂ = len := by rw [hdg] at hd₂; cases hd₂; rfl
    subst hlen
    have hs₂ : s₂ = (({ U with heap := s₂.heap, slotsUsed := s₂.slotsUsed } : State).setVm s₂.vm).setTop { g with pc := g.pc + len₂, stack := v.toList ++ g.stack } := by
      refine e3.trans ?_
      rw [hf₂, State.calling_eq h.top, State.setFrames_setFrames, State.setTop_of_frames _ hr', hr]
      rfl
    have hsame : U.sameButNew ({ U with heap := s₂.heap, slotsUsed := s₂.slotsUsed } : State) L mc ms := by
      refine ⟨?_, q2, q3, q4, q5, q6⟩
      obtain ⟨t, ht, -⟩ := State.frames_cons hr
      show ({ U with heap := s₂.heap, slotsUsed := s₂.slotsUsed } : State) = { U.setFrames U.frames with heap := s₂.heap, slotsUsed := s₂.slotsUsed }
      rw [State.setFrames_self ht]
    subst hg
    refine Or.inl ⟨v, ⟨(({ U with heap := s₂.heap, slotsUsed := s₂.slotsUsed } : State).setVm s₂.vm), Ls ++ L, c0 + mc, s0 + ms⟩,
      ⟨X.admits, X.cas, X.clock, X.frames, X.room, X.hears, X.method, X.code, (X.here.setHeapUsed s₂.heap s₂.slotsUsed).setVm hW'.alike, X.tail, State.WarmedH.trans X.warmed hW', X.limits, X.bytes, X.same.trans (hsame.setVm s.vm)⟩,
      ⟨g, mk, s₂, L, rfl, rfl, hqc, rfl, hL, rfl, rfl⟩, ?_⟩
    show Steps p.tables e below _ ((({ U with heap := s₂.heap, slotsUsed := s₂.slotsUsed } : State).setVm s₂.vm).setTop { g with pc := g.pc + len₂, stack := v.toList ++ g.stack })
    rw [← hs₂]
    exact hsteps
  · obtain ⟨e2, q2, q3, q4, q5, q6⟩ := id hsm
    have e3 : s₂ = ({ (U.calling g mk a).setFrames s₂.frames with heap := s₂.heap, slotsUsed := s₂.slotsUsed } : State).setVm s₂.vm := by
      have : s₂ = ({ s₂ with vm := (U.calling g mk a).vm } : State).setVm s₂.vm := rfl
      rw [e2] at this
      exact this
    have hf₂ : s₂.frames = .throwing q :: .java g :: U.frames.tail := hend
    have hW' : U.WarmedH s₂.vm := hW₂
    have hs₂ : s₂ = ((({ U with heap := s₂.heap, slotsUsed := s₂.slotsUsed } : State).setVm s₂.vm).setTop g).pushFrame (.throwing q) := by
      refine e3.trans ?_
      rw [hf₂, State.calling_eq h.top, State.setFrames_setFrames, State.pushFrame, State.frames_setTop _ hr', State.setTop_of_frames _ hr', State.setFrames_setFrames, hr]
      rfl
    have hsame : U.sameButNew ({ U with heap := s₂.heap, slotsUsed := s₂.slotsUsed } : State) L mc ms := by
      refine ⟨?_, q2, q3, q4, q5, q6⟩
      obtain ⟨t, ht, -⟩ := State.frames_cons hr
      show ({ U with heap := s₂.heap, slotsUsed := s₂.slotsUsed } : State) = { U.setFrames U.frames with heap := s₂.heap, slotsUsed := s₂.slotsUsed }
      rw [State.setFrames_self ht]
    subst hg
    refine Or.inr ⟨q, ⟨(({ U with heap := s₂.heap, slotsUsed := s₂.slotsUsed } : State).setVm s₂.vm), Ls ++ L, c0 + mc, s0 + ms⟩,
      ⟨X.admits, X.cas, X.clock, X.frames, X.room, X.hears, X.method, X.code, (X.here.setHeapUsed s₂.heap s₂.slotsUsed).setVm hW'.alike, X.tail, State.WarmedH.trans X.warmed hW', X.limits, X.bytes, X.same.trans (hsame.setVm s.vm)⟩,
      ⟨g, mk, s₂, L, E, ce, rfl, rfl, hx, hce, hcv, hcl, rfl, hL, rfl, rfl⟩, ?_⟩
    show Steps p.tables e below _ (((({ U with heap := s₂.heap, slotsUsed := s₂.slotsUsed } : State).setVm s₂.vm).setTop g).pushFrame (.throwing q))
    rw [← hs₂]
    exact hsteps
end Payer
section Calls
variable {p : Program} {l : Launch} {e : Env} {R : Room} {s : State} {m : MethodId} {args : Array Value} {below : List Frame} {meth : Method} {c : Code} {T : State} {locs : List Loc} {cells slots : Nat}
theorem vx_callV (X : Stand p l e R s m args below meth c T locs cells slots) (hexec : p.tables.exec = Jvm.exec) {own C : String} {index : Nat} {y : MethodName} {bytes : ByteArray} {maxL : Nat} {ret : Option FieldType}
    (hown : s.vm.findClass own = some m.cls) (hlink : (Cond.methodLink own index y).before args s = true) (hinst : (Cond.instanceMethod y).before args s = true) (hsel : (Cond.selects C y y).before args s = true)
    (hcode : (Cond.code y bytes maxL ret).before args s = true) (hy : y.cls ≠ "java/lang/invoke/MethodHandle" ∧ y.cls ≠ "java/lang/invoke/VarHandle")
    {W9 : Nat} {Pre : Pt → Array Value → Prop} {Post : Pt → Array Value → Option Value → Pt → Prop} {PostX : Pt → Array Value → Addr → Pt → Prop} (hK : vx_Back l R p e below s args y 3 W9 Pre Post PostX)
    {b : Addr} {cellB : Cell} (hcell : T.heap[b]? = some cellB) (hobj : cellB.vm.isStatics = false) (hcls : s.vm.findClass C = some cellB.cls)
    {g : JFrame} (hg : g.method = m) (hsize : g.locals.size = c.maxLocals) {argsL rest : List Value} (hlen : ∀ sig, parseMethodDescriptor y.desc = some sig → argsL.length = sig.parameters.length)
    (hstack : g.stack = argsL.reverse ++ .ref b :: rest) (hW : 2 * g.monitorRoom + (rest.map fun v => v.category).sum ≤ W9) (hdg : decode c.code g.pc = .ok (.invokevirtual index, 3))
    (hpre : ∀ vm₁, s.WarmedH vm₁ → Pre ⟨T.setVm vm₁, locs, cells, slots⟩ (Value.ref b :: argsL).toArray) :
    (∃ (v : Option Value) (vm₁ : Vm) (B : Pt), s.WarmedH vm₁ ∧ Stand p l e R s m args below meth c B.U B.locs B.cells B.slots ∧ Post ⟨T.setVm vm₁, locs, cells, slots⟩ (Value.ref b :: argsL).toArray v B ∧
      ∀ target, Steps p.tables e below (B.U.setTop { g with pc := g.pc + 3, stack := v.toList ++ rest }) target → Steps p.tables e below (T.setTop g) target) ∨
    (∃ (q : Addr) (vm₁ : Vm) (B : Pt), s.WarmedH vm₁ ∧ Stand p l e R s m args below meth c B.U B.locs B.cells B.slots ∧ PostX ⟨T.setVm vm₁, locs, cells, slots⟩ (Value.ref b :: argsL).toArray q B ∧
      Steps p.tables e below (T.setTop g) ((B.U.setTop { g with stack := rest }).pushFrame (.throwing q))) := by
  obtain ⟨mk, methM, hnamed, hmethM, hstM, habM⟩ := Cond.instanceMethod_spec hinst
  obtain ⟨methM', cM, hmethM', -, -, -, -, -, -, hsigM⟩ := Cond.code_spec hnamed hcode
  cases hmethM.symm.trans hmethM'
  obtain ⟨c2, r2, m2, q1, q2, q3, q4, kP, hkP, hkPi⟩ := Cond.selects_spec hsel
  cases hcls.symm.trans q1
  cases (State.methodFound?_of_named hnamed hy).symm.trans q2
  cases hnamed.symm.trans q3
  have hselP : selectMethod e.platform s.vm cellB.cls mk = .method mk := by rw [Launch.admits_selectMethod X.admits]; exact q4
  obtain ⟨vm₁, X₁, hstep₁⟩ := X.invokevirtual hexec hown hlink hnamed hmethM hstM hkP hkPi hy (a := b) (cell := cellB) hcell
    (fun z h => by rw [h] at hobj; cases hobj) hselP hmethM habM hkP hkPi (g := g) hg (argsL := argsL) (rest := rest) (hlen _ hsigM) hstack hdg
  rcases hK m meth c ⟨T.setVm vm₁, locs, cells, slots⟩ { g with stack := rest } (.invokevirtual index) mk (Value.ref b :: argsL).toArray X₁ hg hsize hdg hW (X₁.named hnamed) (hpre vm₁ X₁.warmed) with ⟨v, B, X', hpost, hsteps⟩ | ⟨q, B, X', hpost, hsteps⟩
  · exact Or.inl ⟨v, vm₁, B, X₁.warmed, X', hpost, fun target h => hstep₁ _ fun acts => by rw [doInvoke_state]; exact hsteps.trans h⟩
  · exact Or.inr ⟨q, vm₁, B, X₁.warmed, X', hpost, hstep₁ _ fun acts => by rw [doInvoke_state]; exact hsteps⟩
theorem vx_callS (X : Stand p l e R s m args below meth c T locs cells slots) (hexec : p.tables.exec = Jvm.exec) {own : String} {index : Nat} {y : MethodName} {bytes : ByteArray} {maxL : Nat} {ret : Option FieldType}
    (hown : s.vm.findClass own = some m.cls) (hlink : (Cond.methodLink own index y).before args s = true) (hstat : (Cond.static y).before args s = true) (hinit : (Cond.initialized y.cls).before args s = true)
    (hcode : (Cond.code y bytes maxL ret).before args s = true) (hy : y.cls ≠ "java/lang/invoke/MethodHandle" ∧ y.cls ≠ "java/lang/invoke/VarHandle")
    {W9 : Nat} {Pre : Pt → Array Value → Prop} {Post : Pt → Array Value → Option Value → Pt → Prop} {PostX : Pt → Array Value → Addr → Pt → Prop} (hK : vx_Back l R p e below s args y 3 W9 Pre Post PostX)
    {g : JFrame} (hg : g.method = m) (hsize : g.locals.size = c.maxLocals) {argsL rest : List Value} (hlen : ∀ sig, parseMethodDescriptor y.desc = some sig → argsL.length = sig.parameters.length)
    (hstack : g.stack = argsL.reverse ++ rest) (hW : 2 * g.monitorRoom + (rest.map fun v => v.category).sum ≤ W9) (hdg : decode c.code g.pc = .ok (.invokestatic index, 3))
    (hpre : ∀ vm₁, s.WarmedH vm₁ → Pre ⟨T.setVm vm₁, locs, cells, slots⟩ argsL.toArray) :
    (∃ (v : Option Value) (vm₁ : Vm) (B : Pt), s.WarmedH vm₁ ∧ Stand p l e R s m args below meth c B.U B.locs B.cells B.slots ∧ Post ⟨T.setVm vm₁, locs, cells, slots⟩ argsL.toArray v B ∧
      ∀ target, Steps p.tables e below (B.U.setTop { g with pc := g.pc + 3, stack := v.toList ++ rest }) target → Steps p.tables e below (T.setTop g) target) ∨
    (∃ (q : Addr) (vm₁ : Vm) (B : Pt), s.WarmedH vm₁ ∧ Stand p l e R s m args below meth c B.U B.locs B.cells B.slots ∧ PostX ⟨T.setVm vm₁, locs, cells, slots⟩ argsL.toArray q B ∧
      Steps p.tables e below (T.setTop g) ((B.U.setTop { g with stack := rest }).pushFrame (.throwing q))) := by
  obtain ⟨mk, hnamed⟩ := Cond.code_named hcode
  obtain ⟨methM, cM, hmethM, -, -, -, -, -, -, hsigM⟩ := Cond.code_spec hnamed hcode
  have hstatic : methM.isStatic = true := Cond.static_spec hnamed hmethM hstat
  obtain ⟨kP, hkP, -⟩ := className_of_methodNamed hnamed
  have hinitP : kP.init = .initialized := Cond.initialized_spec (findClass_of_methodNamed hnamed) hkP hinit
  obtain ⟨vm₁, X₁, hstep₁⟩ := X.invokestatic hexec hown hlink hnamed hmethM hstatic hkP hinitP hy (g := g) hg (argsL := argsL) (rest := rest) (hlen _ hsigM) hstack hdg
  rcases hK m meth c ⟨T.setVm vm₁, locs, cells, slots⟩ { g with stack := rest } (.invokestatic index) mk argsL.toArray X₁ hg hsize hdg hW (X₁.named hnamed) (hpre vm₁ X₁.warmed) with ⟨v, B, X', hpost, hsteps⟩ | ⟨q, B, X', hpost, hsteps⟩
  · exact Or.inl ⟨v, vm₁, B, X₁.warmed, X', hpost, fun target h => hstep₁ _ fun acts => by rw [doInvoke_state]; exact hsteps.trans h⟩
  · exact Or.inr ⟨q, vm₁, B, X₁.warmed, X', hpost, hstep₁ _ fun acts => by rw [doInvoke_state]; exact hsteps⟩
end Calls
theorem vx_cls {s : State} {T : State} {vm₁ : Vm} {E : String} {k : ClassId} (hW : s.WarmedH vm₁) (h : (T.setVm vm₁).vm.findClass E = some k) : s.vm.findClass E = some k := by
  have h1 : vm₁.findClass E = some k := h
  rw [hW.alike.findClass] at h1
  exact h1
/-- the method's frame g, with q thrown over it -/
def vx_W (p : Program) (l : Launch) (e : Env) (R : Room) (s : State) (m : MethodId) (args : Array Value) (below : List Frame) (meth : Method) (c : Code) (H : Heap) (locs : List Loc) (cells slots : Nat) (Q : State → Prop) (g : JFrame) (q : Addr) : Prop :=
  ∀ T : State, T.heap = H → Stand p l e R s m args below meth c T locs cells slots → ∃ t, Steps p.tables e below ((T.setTop g).pushFrame (.throwing q)) t ∧ Q t
def vx_Run (p : Program) (l : Launch) (e : Env) (R : Room) (s : State) (m : MethodId) (args : Array Value) (below : List Frame) (meth : Method) (c : Code) (H : Heap) (locs : List Loc) (cells slots mc ms : Nat) (g : JFrame) (rest : List Value) (Qa : State → Outcome → State → Prop) (XC : String → State → State → Prop) (free : Addr → Prop) : Prop :=
  ∀ T : State, T.heap = H → Stand p l e R s m args below meth c T locs cells slots →
    (∃ (v : Option Value) (st₀ t T' : State) (L : List Loc), st₀.heap = H ∧ Stand p l e R s m args below meth c T' (locs ++ L) (cells + mc) (slots + ms) ∧ (∀ q ∈ L, free q.base) ∧ T'.heap = t.heap ∧ T'.vm = t.vm ∧ Qa st₀ (.returned v) t ∧
      Goes p e below T g T' { g with pc := g.pc + 3, stack := v.toList ++ rest }) ∨
    (∃ (q : Addr) (st₀ t T' : State) (L : List Loc) (E : String) (ce : Cell), st₀.heap = H ∧ Stand p l e R s m args below meth c T' (locs ++ L) (cells + mc) (slots + ms) ∧ (∀ z ∈ L, free z.base) ∧ T'.heap = t.heap ∧ T'.vm = t.vm ∧ XC E st₀ t ∧ t.heap[q]? = some ce ∧ ce.vm = .none ∧ s.vm.findClass E = some ce.cls ∧
      Steps p.tables e below (T.setTop g) ((T'.setTop { g with stack := rest }).pushFrame (.throwing q)))
def vx_X {S : Type} (px : S → Prop) (B : String → S → State → Prop) (A : Nat → Prop) : String → State → State → Prop := fun E st t => ∃ u : S, px u ∧ B E u t ∧ va_F A st t
section Runs
variable {p : Program} {l : Launch} {e : Env} {R : Room} {s : State} {m : MethodId} {args : Array Value} {below : List Frame} {meth : Method} {c : Code} {H : Heap} {locs : List Loc} {cells slots : Nat}
variable {y : MethodName} {bytes cc : ByteArray} {maxL nL mc ms n index : Nat} {ret : Option FieldType} {ws : List Cond} {rm : Room} {Pc : Array Value → State → Prop} {Qc : Array Value → State → Outcome → State → Prop} {XC : String → State → State → Prop} {free : Addr → Prop} {Ts : List Cond} {own C : String} {b : Addr} {As rest : List Value} {g : JFrame}
theorem vx_callBack (cb : CallB R s args own index y bytes maxL ret ws rm mc ms n) (hM : vx_Met l y ws rm Pc Qc XC mc ms free) (hbl : FrameBlind Pc) : vx_Back l R p e below s args y 3 8 (PreOf R mc ms Pc) (PostOf Qc mc ms free) (vx_Post XC mc ms free) := by
  obtain ⟨hrc, hrs, hfr, hlo, hws, hcw, -, hini, -⟩ := cb
  exact vx_back (bytes := bytes) (maxL := maxL) (ret := ret) hM hbl hrc hrs hfr hlo hws hcw (fun a' U hW => word_at hW (Or.inl (by first | rfl | simp [Cond.onTables, Cond.keeps, Cond.steady])) hini)
theorem vx_runV (S : CallFix p m c cc nL s args Ts own) (hM : vx_Met l y ws rm Pc Qc XC mc ms free) (cw : CallW R s args own C index y bytes maxL ret ws rm mc ms n) (hp : PreV s H C b Pc As)
    (hg : g.method = m) (hn : As.length = n) (hsize : g.locals.size = nL) (hstack : g.stack = As.reverse ++ .ref b :: rest) (hW : 2 * g.monitorRoom + (rest.map fun v => v.category).sum ≤ 8) (hdg : decode cc g.pc = .ok (.invokevirtual index, 3)) (hf : cells + mc ≤ R.cells ∧ slots + ms ≤ R.slots) :
    vx_Run p l e R s m args below meth c H locs cells slots mc ms g rest (Qc (Value.ref b :: As).toArray) XC free := by
  have hK : vx_Back l R p e below s args y 3 8 (PreOf R mc ms Pc) (PostOf Qc mc ms free) (vx_Post XC mc ms free) := vx_callBack cw.1 hM hp.1
  obtain ⟨⟨-, -, -, -, -, -, hcode, -, hy, hlen, hl⟩, hin, hse⟩ := cw
  obtain ⟨hx, hb, hml, ho, -⟩ := S
  obtain ⟨-, ⟨cellB, hcB, hoB, hclB⟩, hPc⟩ := hp
  intro T hT X
  rcases vx_callV X hx (C := C) (bytes := bytes) (maxL := maxL) (ret := ret) ho hl hin hse hcode hy hK (by rw [hT]; exact hcB) hoB hclB hg (hsize.trans hml.symm) (argsL := As) (rest := rest) (fun sig h => hn.trans (hlen sig h)) hstack hW (by rw [hb]; exact hdg)
    (fun vm₁ hW₁ => ⟨hf.1, hf.2, hPc (T.setVm vm₁) hT hW₁⟩) with ⟨v, vm₁, ⟨U', l2, c2, s2⟩, hW₁, X', ⟨g', mk, t, L, e1, e2, hq, h1, hL, h2, h3⟩, st⟩ | ⟨q, vm₁, ⟨U', l2, c2, s2⟩, hW₁, X', ⟨g', mk, t, L, E, ce, e1, e2, hq, hce, hcv, hcl, h1, hL, h2, h3⟩, st⟩
  · dsimp only [Pt.U, Pt.locs, Pt.cells, Pt.slots] at X' e1 e2 h1 h2 h3 st
    subst h1; subst h2; subst h3
    exact Or.inl ⟨v, (T.setVm vm₁).calling g' mk (Value.ref b :: As).toArray, t, U', L, hT, X', hL, e1, e2, hq, st⟩
  · dsimp only [Pt.U, Pt.locs, Pt.cells, Pt.slots] at X' e1 e2 h1 h2 h3 st hcl
    subst h1; subst h2; subst h3
    exact Or.inr ⟨q, (T.setVm vm₁).calling g' mk (Value.ref b :: As).toArray, t, U', L, E, ce, hT, X', hL, e1, e2, hq, hce, hcv, vx_cls hW₁ hcl, st⟩
theorem vx_runS (S : CallFix p m c cc nL s args Ts own) (hM : vx_Met l y ws rm Pc Qc XC mc ms free) (cw : CallB R s args own index y bytes maxL ret ws rm mc ms n ∧ (Cond.static y).before args s = true) (hp : PreS s H Pc As)
    (hg : g.method = m) (hn : As.length = n) (hsize : g.locals.size = nL) (hstack : g.stack = As.reverse ++ rest) (hW : 2 * g.monitorRoom + (rest.map fun v => v.category).sum ≤ 8) (hdg : decode cc g.pc = .ok (.invokestatic index, 3)) (hf : cells + mc ≤ R.cells ∧ slots + ms ≤ R.slots) :
    vx_Run p l e R s m args below meth c H locs cells slots mc ms g rest (Qc As.toArray) XC free := by
  have hK : vx_Back l R p e below s args y 3 8 (PreOf R mc ms Pc) (PostOf Qc mc ms free) (vx_Post XC mc ms free) := vx_callBack cw.1 hM hp.1
  obtain ⟨⟨-, -, -, -, -, -, hcode, hini, hy, hlen, hl⟩, hstt⟩ := cw
  obtain ⟨hx, hb, hml, ho, -⟩ := S
  intro T hT X
  rcases vx_callS X hx (bytes := bytes) (maxL := maxL) (ret := ret) ho hl hstt hini hcode hy hK hg (hsize.trans hml.symm) (argsL := As) (rest := rest) (fun sig h => hn.trans (hlen sig h)) hstack hW (by rw [hb]; exact hdg)
    (fun vm₁ hW₁ => ⟨hf.1, hf.2, hp.2 (T.setVm vm₁) hT hW₁⟩) with ⟨v, vm₁, ⟨U', l2, c2, s2⟩, hW₁, X', ⟨g', mk, t, L, e1, e2, hq, h1, hL, h2, h3⟩, st⟩ | ⟨q, vm₁, ⟨U', l2, c2, s2⟩, hW₁, X', ⟨g', mk, t, L, E, ce, e1, e2, hq, hce, hcv, hcl, h1, hL, h2, h3⟩, st⟩
  · dsimp only [Pt.U, Pt.locs, Pt.cells, Pt.slots] at X' e1 e2 h1 h2 h3 st
    subst h1; subst h2; subst h3
    exact Or.inl ⟨v, (T.setVm vm₁).calling g' mk As.toArray, t, U', L, hT, X', hL, e1, e2, hq, st⟩
  · dsimp only [Pt.U, Pt.locs, Pt.cells, Pt.slots] at X' e1 e2 h1 h2 h3 st hcl
    subst h1; subst h2; subst h3
    exact Or.inr ⟨q, (T.setVm vm₁).calling g' mk As.toArray, t, U', L, E, ce, hT, X', hL, e1, e2, hq, hce, hcv, vx_cls hW₁ hcl, st⟩
end Runs
section Rows
variable {p : Program} {l : Launch} {e : Env} {R : Room} {s : State} {m : MethodId} {args : Array Value} {below : List Frame} {meth : Method} {c : Code} {H : Heap} {locs : List Loc} {cells slots : Nat} {Q : State → Prop}
variable {mc ms : Nat} {free : Addr → Prop} {A0 A1 : Nat → Prop} {H0 : Heap} {a : Array Value} {pc : Nat} {ls : Array Slot} {st0 rest : List Value}
theorem vx_keep {st₀ t T' : State} {L : List Loc} (h0 : st₀.heap = H) (e1 : T'.heap = t.heap) (hS : va_S A0 H0 H locs) (hA : ∀ q, q < H.size → A1 q → A0 q) (hf : ∀ q, free q → A0 q) (hL : ∀ q ∈ L, free q.base) (hF : va_F A1 st₀ t) :
    H.size ≤ T'.heap.size ∧ (∀ q : Nat, q < H.size → ¬ A1 q → T'.heap[q]? = H[q]?) ∧ va_S A0 H0 T'.heap (locs ++ L) := by
  obtain ⟨hz, hk⟩ := hF
  rw [h0] at hz hk
  exact ⟨by rw [e1]; exact hz, fun q h1 h2 => by rw [e1]; exact hk q h1 h2,
    ⟨Nat.le_trans hS.1 (by rw [e1]; exact hz), fun q h1 h2 => by rw [e1, hk q (Nat.lt_of_lt_of_le h1 hS.1) (fun z => h2 (hA q (Nat.lt_of_lt_of_le h1 hS.1) z))]; exact hS.2.1 q h1 h2, fun q hq => by
      rcases List.mem_append.mp hq with h | h
      · exact hS.2.2 q h
      · exact hf _ (hL q h)⟩⟩
theorem vx_calli {S SX : Type} {post : Int32 → S → Prop} {px : SX → Prop} {B : S → State → Prop} {BX : String → SX → State → Prop} {AX : Nat → Prop} (hr : vx_Run p l e R s m args below meth c H locs cells slots mc ms (F0 m pc ls st0) rest (va_Qi post B A1 a) (vx_X px BX AX) free) (hS : va_S A0 H0 H locs) (hA : ∀ q, q < H.size → A1 q → A0 q) (hf : ∀ q, free q → A0 q) (hAX : ∀ q, q < H.size → AX q → A0 q)
    (kx : ∀ (E : String) (ce : Cell) (q9 : Addr) (u : SX) (t : State) (H1 : Heap) (locs1 : List Loc), t.heap = H1 → s.vm.Alike t.vm → px u → BX E u t → H.size ≤ H1.size → (∀ q : Nat, q < H.size → ¬ AX q → H1[q]? = H[q]?) → va_S A0 H0 H1 locs1 → H1[q9]? = some ce → ce.vm = .none → s.vm.findClass E = some ce.cls → vx_W p l e R s m args below meth c H1 locs1 (cells + mc) (slots + ms) Q (F0 m pc ls rest) q9)
    (kk : ∀ (r : Int32) (u : S) (t : State) (H1 : Heap) (locs1 : List Loc), t.heap = H1 → s.vm.Alike t.vm → post r u → B u t → H.size ≤ H1.size → (∀ q : Nat, q < H.size → ¬ A1 q → H1[q]? = H[q]?) → va_S A0 H0 H1 locs1 → W p l e R s m args below meth c H1 locs1 (cells + mc) (slots + ms) Q (F0 m (pc + 3) ls (.int r :: rest))) : W p l e R s m args below meth c H locs cells slots Q (F0 m pc ls st0) := by
  intro T hT X
  rcases hr T hT X with ⟨v, st₀, t, T', L, h0, X', hL, e1, e2, ⟨⟨r, u, hv, hp, hb⟩, hF⟩, st⟩ | ⟨q, st₀, t, T', L, E, ce, h0, X', hL, e1, e2, ⟨u, hp, hb, hF⟩, hce, hcv, hcl, st⟩
  · cases hv
    obtain ⟨k1, k2, k3⟩ := vx_keep h0 e1 hS hA hf hL hF
    obtain ⟨t2, a1, b1⟩ := kk r u t T'.heap (locs ++ L) e1.symm (by rw [← e2]; exact X'.warmed.alike) hp hb k1 k2 k3 T' rfl X'
    exact ⟨t2, st t2 a1, b1⟩
  · obtain ⟨k1, k2, k3⟩ := vx_keep h0 e1 hS hAX hf hL hF
    obtain ⟨t2, a1, b1⟩ := kx E ce q u t T'.heap (locs ++ L) e1.symm (by rw [← e2]; exact X'.warmed.alike) hp hb k1 k2 k3 (by rw [e1]; exact hce) hcv hcl T' rfl X'
    exact ⟨t2, st.trans a1, b1⟩
theorem vx_calll {S SX : Type} {post : Int64 → S → Prop} {px : SX → Prop} {B : S → State → Prop} {BX : String → SX → State → Prop} {AX : Nat → Prop} (hr : vx_Run p l e R s m args below meth c H locs cells slots mc ms (F0 m pc ls st0) rest (va_Ql post B A1 a) (vx_X px BX AX) free) (hS : va_S A0 H0 H locs) (hA : ∀ q, q < H.size → A1 q → A0 q) (hf : ∀ q, free q → A0 q) (hAX : ∀ q, q < H.size → AX q → A0 q)
    (kx : ∀ (E : String) (ce : Cell) (q9 : Addr) (u : SX) (t : State) (H1 : Heap) (locs1 : List Loc), t.heap = H1 → s.vm.Alike t.vm → px u → BX E u t → H.size ≤ H1.size → (∀ q : Nat, q < H.size → ¬ AX q → H1[q]? = H[q]?) → va_S A0 H0 H1 locs1 → H1[q9]? = some ce → ce.vm = .none → s.vm.findClass E = some ce.cls → vx_W p l e R s m args below meth c H1 locs1 (cells + mc) (slots + ms) Q (F0 m pc ls rest) q9)
    (kk : ∀ (r : Int64) (u : S) (t : State) (H1 : Heap) (locs1 : List Loc), t.heap = H1 → s.vm.Alike t.vm → post r u → B u t → H.size ≤ H1.size → (∀ q : Nat, q < H.size → ¬ A1 q → H1[q]? = H[q]?) → va_S A0 H0 H1 locs1 → W p l e R s m args below meth c H1 locs1 (cells + mc) (slots + ms) Q (F0 m (pc + 3) ls (.long r :: rest))) : W p l e R s m args below meth c H locs cells slots Q (F0 m pc ls st0) := by
  intro T hT X
  rcases hr T hT X with ⟨v, st₀, t, T', L, h0, X', hL, e1, e2, ⟨⟨r, u, hv, hp, hb⟩, hF⟩, st⟩ | ⟨q, st₀, t, T', L, E, ce, h0, X', hL, e1, e2, ⟨u, hp, hb, hF⟩, hce, hcv, hcl, st⟩
  · cases hv
    obtain ⟨k1, k2, k3⟩ := vx_keep h0 e1 hS hA hf hL hF
    obtain ⟨t2, a1, b1⟩ := kk r u t T'.heap (locs ++ L) e1.symm (by rw [← e2]; exact X'.warmed.alike) hp hb k1 k2 k3 T' rfl X'
    exact ⟨t2, st t2 a1, b1⟩
  · obtain ⟨k1, k2, k3⟩ := vx_keep h0 e1 hS hAX hf hL hF
    obtain ⟨t2, a1, b1⟩ := kx E ce q u t T'.heap (locs ++ L) e1.symm (by rw [← e2]; exact X'.warmed.alike) hp hb k1 k2 k3 (by rw [e1]; exact hce) hcv hcl T' rfl X'
    exact ⟨t2, st.trans a1, b1⟩
theorem vx_callf {S SX : Type} {post : UInt32 → S → Prop} {px : SX → Prop} {B : S → State → Prop} {BX : String → SX → State → Prop} {AX : Nat → Prop} (hr : vx_Run p l e R s m args below meth c H locs cells slots mc ms (F0 m pc ls st0) rest (va_Qf post B A1 a) (vx_X px BX AX) free) (hS : va_S A0 H0 H locs) (hA : ∀ q, q < H.size → A1 q → A0 q) (hf : ∀ q, free q → A0 q) (hAX : ∀ q, q < H.size → AX q → A0 q)
    (kx : ∀ (E : String) (ce : Cell) (q9 : Addr) (u : SX) (t : State) (H1 : Heap) (locs1 : List Loc), t.heap = H1 → s.vm.Alike t.vm → px u → BX E u t → H.size ≤ H1.size → (∀ q : Nat, q < H.size → ¬ AX q → H1[q]? = H[q]?) → va_S A0 H0 H1 locs1 → H1[q9]? = some ce → ce.vm = .none → s.vm.findClass E = some ce.cls → vx_W p l e R s m args below meth c H1 locs1 (cells + mc) (slots + ms) Q (F0 m pc ls rest) q9)
    (kk : ∀ (r : UInt32) (u : S) (t : State) (H1 : Heap) (locs1 : List Loc), t.heap = H1 → s.vm.Alike t.vm → post r u → B u t → H.size ≤ H1.size → (∀ q : Nat, q < H.size → ¬ A1 q → H1[q]? = H[q]?) → va_S A0 H0 H1 locs1 → W p l e R s m args below meth c H1 locs1 (cells + mc) (slots + ms) Q (F0 m (pc + 3) ls (.float r :: rest))) : W p l e R s m args below meth c H locs cells slots Q (F0 m pc ls st0) := by
  intro T hT X
  rcases hr T hT X with ⟨v, st₀, t, T', L, h0, X', hL, e1, e2, ⟨⟨r, u, hv, hp, hb⟩, hF⟩, st⟩ | ⟨q, st₀, t, T', L, E, ce, h0, X', hL, e1, e2, ⟨u, hp, hb, hF⟩, hce, hcv, hcl, st⟩
  · cases hv
    obtain ⟨k1, k2, k3⟩ := vx_keep h0 e1 hS hA hf hL hF
    obtain ⟨t2, a1, b1⟩ := kk r u t T'.heap (locs ++ L) e1.symm (by rw [← e2]; exact X'.warmed.alike) hp hb k1 k2 k3 T' rfl X'
    exact ⟨t2, st t2 a1, b1⟩
  · obtain ⟨k1, k2, k3⟩ := vx_keep h0 e1 hS hAX hf hL hF
    obtain ⟨t2, a1, b1⟩ := kx E ce q u t T'.heap (locs ++ L) e1.symm (by rw [← e2]; exact X'.warmed.alike) hp hb k1 k2 k3 (by rw [e1]; exact hce) hcv hcl T' rfl X'
    exact ⟨t2, st.trans a1, b1⟩
theorem vx_calld {S SX : Type} {post : UInt64 → S → Prop} {px : SX → Prop} {B : S → State → Prop} {BX : String → SX → State → Prop} {AX : Nat → Prop} (hr : vx_Run p l e R s m args below meth c H locs cells slots mc ms (F0 m pc ls st0) rest (va_Qd post B A1 a) (vx_X px BX AX) free) (hS : va_S A0 H0 H locs) (hA : ∀ q, q < H.size → A1 q → A0 q) (hf : ∀ q, free q → A0 q) (hAX : ∀ q, q < H.size → AX q → A0 q)
    (kx : ∀ (E : String) (ce : Cell) (q9 : Addr) (u : SX) (t : State) (H1 : Heap) (locs1 : List Loc), t.heap = H1 → s.vm.Alike t.vm → px u → BX E u t → H.size ≤ H1.size → (∀ q : Nat, q < H.size → ¬ AX q → H1[q]? = H[q]?) → va_S A0 H0 H1 locs1 → H1[q9]? = some ce → ce.vm = .none → s.vm.findClass E = some ce.cls → vx_W p l e R s m args below meth c H1 locs1 (cells + mc) (slots + ms) Q (F0 m pc ls rest) q9)
    (kk : ∀ (r : UInt64) (u : S) (t : State) (H1 : Heap) (locs1 : List Loc), t.heap = H1 → s.vm.Alike t.vm → post r u → B u t → H.size ≤ H1.size → (∀ q : Nat, q < H.size → ¬ A1 q → H1[q]? = H[q]?) → va_S A0 H0 H1 locs1 → W p l e R s m args below meth c H1 locs1 (cells + mc) (slots + ms) Q (F0 m (pc + 3) ls (.double r :: rest))) : W p l e R s m args below meth c H locs cells slots Q (F0 m pc ls st0) := by
  intro T hT X
  rcases hr T hT X with ⟨v, st₀, t, T', L, h0, X', hL, e1, e2, ⟨⟨r, u, hv, hp, hb⟩, hF⟩, st⟩ | ⟨q, st₀, t, T', L, E, ce, h0, X', hL, e1, e2, ⟨u, hp, hb, hF⟩, hce, hcv, hcl, st⟩
  · cases hv
    obtain ⟨k1, k2, k3⟩ := vx_keep h0 e1 hS hA hf hL hF
    obtain ⟨t2, a1, b1⟩ := kk r u t T'.heap (locs ++ L) e1.symm (by rw [← e2]; exact X'.warmed.alike) hp hb k1 k2 k3 T' rfl X'
    exact ⟨t2, st t2 a1, b1⟩
  · obtain ⟨k1, k2, k3⟩ := vx_keep h0 e1 hS hAX hf hL hF
    obtain ⟨t2, a1, b1⟩ := kx E ce q u t T'.heap (locs ++ L) e1.symm (by rw [← e2]; exact X'.warmed.alike) hp hb k1 k2 k3 (by rw [e1]; exact hce) hcv hcl T' rfl X'
    exact ⟨t2, st.trans a1, b1⟩
theorem vx_callv {S SX : Type} {post : S → Prop} {px : SX → Prop} {B : S → State → Prop} {BX : String → SX → State → Prop} {AX : Nat → Prop} (hr : vx_Run p l e R s m args below meth c H locs cells slots mc ms (F0 m pc ls st0) rest (va_Qv post B A1 a) (vx_X px BX AX) free) (hS : va_S A0 H0 H locs) (hA : ∀ q, q < H.size → A1 q → A0 q) (hf : ∀ q, free q → A0 q) (hAX : ∀ q, q < H.size → AX q → A0 q)
    (kx : ∀ (E : String) (ce : Cell) (q9 : Addr) (u : SX) (t : State) (H1 : Heap) (locs1 : List Loc), t.heap = H1 → s.vm.Alike t.vm → px u → BX E u t → H.size ≤ H1.size → (∀ q : Nat, q < H.size → ¬ AX q → H1[q]? = H[q]?) → va_S A0 H0 H1 locs1 → H1[q9]? = some ce → ce.vm = .none → s.vm.findClass E = some ce.cls → vx_W p l e R s m args below meth c H1 locs1 (cells + mc) (slots + ms) Q (F0 m pc ls rest) q9)
    (kk : ∀ (u : S) (t : State) (H1 : Heap) (locs1 : List Loc), t.heap = H1 → s.vm.Alike t.vm → post u → B u t → H.size ≤ H1.size → (∀ q : Nat, q < H.size → ¬ A1 q → H1[q]? = H[q]?) → va_S A0 H0 H1 locs1 → W p l e R s m args below meth c H1 locs1 (cells + mc) (slots + ms) Q (F0 m (pc + 3) ls (rest))) : W p l e R s m args below meth c H locs cells slots Q (F0 m pc ls st0) := by
  intro T hT X
  rcases hr T hT X with ⟨v, st₀, t, T', L, h0, X', hL, e1, e2, ⟨⟨u, hv, hp, hb⟩, hF⟩, st⟩ | ⟨q, st₀, t, T', L, E, ce, h0, X', hL, e1, e2, ⟨u, hp, hb, hF⟩, hce, hcv, hcl, st⟩
  · cases hv
    obtain ⟨k1, k2, k3⟩ := vx_keep h0 e1 hS hA hf hL hF
    obtain ⟨t2, a1, b1⟩ := kk u t T'.heap (locs ++ L) e1.symm (by rw [← e2]; exact X'.warmed.alike) hp hb k1 k2 k3 T' rfl X'
    exact ⟨t2, st t2 a1, b1⟩
  · obtain ⟨k1, k2, k3⟩ := vx_keep h0 e1 hS hAX hf hL hF
    obtain ⟨t2, a1, b1⟩ := kx E ce q u t T'.heap (locs ++ L) e1.symm (by rw [← e2]; exact X'.warmed.alike) hp hb k1 k2 k3 (by rw [e1]; exact hce) hcv hcl T' rfl X'
    exact ⟨t2, st.trans a1, b1⟩
/-- caught by the row x of this method's table; the rows ahead don't take it -/
theorem vx_catch {own name : String} {E : String} {ce : Cell} {q : Addr} (hown : s.vm.findClass own = some m.cls) (pre : List ExceptionTableEntry) (x : ExceptionTableEntry) (suf : List ExceptionTableEntry) (hsplit : c.exceptionTable.toList = pre ++ x :: suf)
    (hpass : ∀ z ∈ pre, covers z pc = false ∨ (z.catchType ≠ 0 ∧ ∃ nm : String, (Cond.classLink own z.catchType nm).before args s = true ∧ va_Nc E nm s)) (hx : covers x pc = true) (h0 : x.catchType ≠ 0)
    (hlink : (Cond.classLink own x.catchType name).before args s = true) (hcast : (Cond.castable E name).before args s = true) (hcell : H[q]? = some ce) (hv : ce.vm = .none) (hcl : s.vm.findClass E = some ce.cls)
    (kk : W p l e R s m args below meth c H locs cells slots Q (F0 m x.handlerPc ls [.ref q])) : vx_W p l e R s m args below meth c H locs cells slots Q (F0 m pc ls rest) q := by
  intro T hT X
  have hpl : e.platform.magicAccessors = ({} : Platform).magicAccessors := by rw [X.admits.platform]
  obtain ⟨c3, c4, hc3, hc4, hasg⟩ := Cond.castable_spec hcast
  cases Option.some.inj (hc3.symm.trans hcl)
  obtain ⟨c5, hc5, hcl5⟩ := Cond.classLink_spec hown hlink e.platform hpl
  cases Option.some.inj (hc4.symm.trans hc5)
  obtain ⟨vm', X', st⟩ := X.thenCaughtThrough q (g := F0 m pc ls rest) rfl (Steps.refl _) (by rw [hT]; exact hcell) (by rw [hv]; rfl) (by obtain ⟨k9, h9, -⟩ := Vm.findClass_spec hcl; exact ⟨k9, h9⟩) pre x suf hsplit
    (fun z hz => by
      rcases hpass z hz with h | ⟨hz0, nm, hl1, hn1⟩
      · exact Or.inl h
      · obtain ⟨c6, hc6, hcl6⟩ := Cond.classLink_spec hown hl1 e.platform hpl
        obtain ⟨a8, b8, h1, h2, h3⟩ := hn1
        cases Option.some.inj (h1.symm.trans hcl)
        cases Option.some.inj (h2.symm.trans hc6)
        exact Or.inr ⟨hz0, _, hcl6, h3⟩) hx (Or.inr ⟨h0, c4, hcl5, hasg⟩)
  obtain ⟨t, a1, b1⟩ := kk (T.setVm vm') hT X'
  exact ⟨t, st.trans a1, b1⟩
end Rows
section Ends
variable {p : Program} {l : Launch} {e : Env} {R : Room} {s : State} {m : MethodId} {args : Array Value} {below : List Frame} {meth : Method} {c : Code} {H : Heap} {locs : List Loc} {cells slots : Nat} {Q : State → Prop}
variable {mc ms : Nat} {free : Addr → Prop} {A0 A1 : Nat → Prop} {H0 : Heap} {a : Array Value} {ls : Array Slot} {st0 rest : List Value}
variable {Qc : Array Value → State → Outcome → State → Prop} {XC : String → State → State → Prop}
/-- what a body that may throw owes at its end -/
def vx_MQ (below : List Frame) (Qc : Array Value → State → Outcome → State → Prop) (XC : String → State → State → Prop) (a : Array Value) (s : State) (mc ms : Nat) (free : Addr → Prop) : State → Prop := fun t =>
  ∃ o, t.status = .running ∧ Ended t below o ∧ vx_Q Qc XC mc ms free a s o t
theorem vx_ret {g : JFrame} {mc ms : Nat} (k : W p l e R s m args below meth c H locs cells slots (MQ below Qc args s mc ms free) g) : W p l e R s m args below meth c H locs cells slots (vx_MQ below Qc XC args s mc ms free) g := by
  intro T hT X
  obtain ⟨t, a1, o, b1, b2, b3, b4⟩ := k T hT X
  exact ⟨t, a1, o, b1, b2, Or.inl ⟨b3, b4⟩⟩
/-- not caught here: it goes on to the caller -/
theorem vx_widen {g : JFrame} {q : Addr} {k n : Nat} (h1 : cells ≤ k) (h2 : slots ≤ n) (kk : vx_W p l e R s m args below meth c H locs k n Q g q) : vx_W p l e R s m args below meth c H locs cells slots Q g q := fun T hT X => kk T hT (stand_widen X h1 h2)
theorem vx_out {pc : Nat} {E : String} {ce : Cell} {q : Addr} {mc ms : Nat} (hout : ∀ x ∈ c.exceptionTable.toList, covers x pc = false) (hlocks : meth.locks = false) (hcell : H[q]? = some ce) (hv : ce.vm = .none) (hcl : s.vm.findClass E = some ce.cls)
    (hx : ∀ t : State, t.heap = H → s.vm.Alike t.vm → XC E s t) (hf : ∀ z ∈ locs, free z.base) (hc : cells ≤ mc) (hs : slots ≤ ms) :
    vx_W p l e R s m args below meth c H locs cells slots (vx_MQ below Qc XC args s mc ms free) (F0 m pc ls rest) q := by
  intro T hT X
  obtain ⟨st1, hrun, hend, hW, hsm⟩ := X.leaveThrown q (g := F0 m pc ls rest) rfl rfl rfl hout hlocks
  have hcell9 : (T.setFrames (.throwing q :: below)).heap[q]? = some ce := by
    show T.heap[q]? = some ce
    rw [hT]; exact hcell
  exact ⟨_, st1, .threw q, hrun, hend, Or.inr ⟨q, rfl, E, ce, locs, hx _ hT hW.alike, hcell9, hv, hcl, hW, hsm.mono hc hs, hf⟩⟩
theorem vx_frame {U : State} {k n : Nat} (h : s.sameButNew ({ U with vm := s.vm } : State) locs k n) : s.heap.size ≤ U.heap.size ∧ ∀ q : Nat, q < s.heap.size → (∀ z ∈ locs, z.base ≠ q) → U.heap[q]? = s.heap[q]? := by
  obtain ⟨-, h2, -, -, -, h6⟩ := h
  refine ⟨h2, fun q hq hz => ?_⟩
  obtain ⟨c9, e1, e2, e3, e4⟩ := h6 q _ (Array.getElem?_eq_getElem hq)
  have hs : c9.slots = (s.heap[q]).slots := Array.ext_getElem? fun i => e4 i fun hm => hz _ hm rfl
  have h9 : c9 = s.heap[q] := by
    rw [hs] at e2
    exact e2
  have e5 : U.heap[q]? = some c9 := e1
  rw [e5, h9, Array.getElem?_eq_getElem hq]
/-- the words of a throw but the four that speak of the heap -/
def vx_no (w : Cond) : Bool := decide (w ≠ .isRef (.static Bundle.tN "UNASSIGNED_STACK" Bundle.steD)) && decide (w ≠ .isRef (.static Bundle.tN "SUPPRESSED_SENTINEL" Bundle.listD)) && decide (w ≠ .laysStatic Bundle.tN "UNASSIGNED_STACK" Bundle.steD) && decide (w ≠ .laysStatic Bundle.tN "SUPPRESSED_SENTINEL" Bundle.listD)
def vx_at0 (own : String) (ic : Nat) (X : String) (names : List String) : List Cond := (Bundle.ownAtoms0 own ic X names).filter vx_no
def vx_atS (own : String) (ic : Nat) (X : String) (names : List String) : List Cond := (Bundle.ownAtoms own ic X names).filter vx_no
/-- a word that the tables alone decide, or a good one -/
def vx_ot (w : Cond) : Bool := w.onTables || goodWord w
theorem vx_ot_at {args a' : Array Value} {s U : State} {w : Cond} (hW : s.WarmedH U.vm) (hvm : s.vm = U.vm) (hg : vx_ot w = true) (h : w.before args s = true) : w.before a' U = true := by
  simp only [vx_ot, Bool.or_eq_true] at hg
  rcases hg with hg | hg
  · exact va_tabs hg hvm h
  · exact word_at hW (good_of_word hg) h
/-- a list's words: the good ones out of the method's own list, the others by premises of their own -/
theorem vx_hat {args : Array Value} {s : State} {L B : List Cond} (h1 : ∀ w ∈ L.filter goodWord, w.before args s = true) (h2 : ∀ w ∈ L.filter (fun w => !goodWord w), w ∈ B) (h3 : ∀ w ∈ B, w.before args s = true) : ∀ w ∈ L, w.before args s = true := by
  intro w hw
  by_cases g : goodWord w = true
  · exact h1 w (List.mem_filter.mpr ⟨hw, g⟩)
  · refine h3 w (h2 w (List.mem_filter.mpr ⟨hw, ?_⟩))
    show (!goodWord w) = true
    cases hgw : goodWord w
    · rfl
    · exact absurd hgw g
theorem vx_c {args : Array Value} {s : State} {w : Cond} {B : List Cond} (h : w.before args s = true) (t : ∀ w ∈ B, w.before args s = true) : ∀ w' ∈ w :: B, w'.before args s = true := fun w' h' => (List.mem_cons.mp h').elim (fun e => by rw [e]; exact h) (t w')
theorem vx_n {args : Array Value} {s : State} : ∀ w ∈ ([] : List Cond), w.before args s = true := fun _ h => nomatch h
theorem vx_own {args : Array Value} {s : State} {L : List Cond} (h1 : ∀ w ∈ L.filter vx_no, w.before args s = true)
    (hU : (Cond.isRef (.static Bundle.tN "UNASSIGNED_STACK" Bundle.steD)).before args s = true) (hN : (Cond.isRef (.static Bundle.tN "SUPPRESSED_SENTINEL" Bundle.listD)).before args s = true)
    (lU : (Cond.laysStatic Bundle.tN "UNASSIGNED_STACK" Bundle.steD).before args s = true) (lN : (Cond.laysStatic Bundle.tN "SUPPRESSED_SENTINEL" Bundle.listD).before args s = true) : ∀ w ∈ L, w.before args s = true := by
  intro w hw
  by_cases e1 : w = .isRef (.static Bundle.tN "UNASSIGNED_STACK" Bundle.steD)
  · rw [e1]; exact hU
  · by_cases e2 : w = .isRef (.static Bundle.tN "SUPPRESSED_SENTINEL" Bundle.listD)
    · rw [e2]; exact hN
    · by_cases e3 : w = .laysStatic Bundle.tN "UNASSIGNED_STACK" Bundle.steD
      · rw [e3]; exact lU
      · by_cases e4 : w = .laysStatic Bundle.tN "SUPPRESSED_SENTINEL" Bundle.listD
        · rw [e4]; exact lN
        · exact h1 w (List.mem_filter.mpr ⟨hw, by unfold vx_no; rw [decide_eq_true e1, decide_eq_true e2, decide_eq_true e3, decide_eq_true e4]; rfl⟩)
/-- where a static field lies, its class's statics cell in H -/
def vx_L (C n d : String) (A : Nat → Prop) (U : State) (H : Heap) : Prop := ∃ (c : ClassId) (k : Class) (i : Nat) (f : Field) (a : Nat) (cell : Cell), U.vm.findClass C = some c ∧ U.fieldFound? C n d = some (c, k, i, f) ∧ f.isStatic = true ∧ k.statics = some a ∧ H[a]? = some cell ∧ cell.vm.isStatics = true ∧ cell.cls = c ∧ f.slot < cell.slots.size ∧ k.staticTypes[f.slot]? = some f.type ∧ ¬ A a
theorem vx_L.moved {C n d : String} {A : Nat → Prop} {u U : State} {H : Heap} (hvm : u.vm.Alike U.vm) (h : vx_L C n d A u H) : vx_L C n d A U H := by
  obtain ⟨c, k, i, f, a, cell, h1, h2, h3, h4, h5, h6, h7, h8, h9, h10⟩ := h
  obtain ⟨k', hi', he⟩ := State.fieldFound?_setVm hvm h2
  exact ⟨c, k', i, f, a, cell, by rw [hvm.findClass]; exact h1, hi', h3, by rw [he]; exact h4, h5, h6, h7, h8, by rw [he]; exact h9, h10⟩
theorem vx_L.kept {C n d : String} {A : Nat → Prop} {U : State} {H H1 : Heap} (h : vx_L C n d A U H) (hq : ∀ a : Nat, a < H.size → ¬ A a → H1[a]? = H[a]?) : vx_L C n d A U H1 := by
  obtain ⟨c, k, i, f, a, cell, h1, h2, h3, h4, h5, h6, h7, h8, h9, h10⟩ := h
  exact ⟨c, k, i, f, a, cell, h1, h2, h3, h4, by rw [hq a (Array.getElem?_eq_some_iff.mp h5).1 h10]; exact h5, h6, h7, h8, h9, h10⟩
theorem vx_L.narrow {C n d : String} {A B : Nat → Prop} {U : State} {H : Heap} (h : vx_L C n d A U H) (hAB : ∀ q, B q → A q) : vx_L C n d B U H := by
  obtain ⟨c, k, i, f, a, cell, h1, h2, h3, h4, h5, h6, h7, h8, h9, h10⟩ := h
  exact ⟨c, k, i, f, a, cell, h1, h2, h3, h4, h5, h6, h7, h8, h9, fun z => h10 (hAB _ z)⟩
theorem vx_L.word {C n d : String} {A : Nat → Prop} {s : State} {args : Array Value} (h : vx_L C n d A s s.heap) : (Cond.laysStatic C n d).before args s = true := by
  obtain ⟨c, k, i, f, a, cell, h1, h2, h3, h4, h5, h6, h7, h8, h9, -⟩ := h
  show (Cond.laysStatic C n d).holds args s none s [] = true
  exact Cond.laysStatic_of h1 h2 h3 h4 h5 h6 h7 h8 h9
/-- .. and what it holds: null or some reference -/
def vx_Zq (C n d : String) (A : Nat → Prop) (U : State) (H : Heap) : Prop := va_Zq C n d A U H ∧ vx_L C n d A U H
theorem vx_Zq.moved {C n d : String} {A : Nat → Prop} {u U : State} {H : Heap} (hvm : u.vm.Alike U.vm) (h : vx_Zq C n d A u H) : vx_Zq C n d A U H := ⟨va_Zq.moved hvm h.1, vx_L.moved hvm h.2⟩
theorem vx_Zq.kept {C n d : String} {A : Nat → Prop} {U : State} {H H1 : Heap} (h : vx_Zq C n d A U H) (hq : ∀ a : Nat, a < H.size → ¬ A a → H1[a]? = H[a]?) : vx_Zq C n d A U H1 := ⟨va_Zq.kept h.1 hq, vx_L.kept h.2 hq⟩
theorem vx_Zq.narrow {C n d : String} {A B : Nat → Prop} {U : State} {H : Heap} (h : vx_Zq C n d A U H) (hAB : ∀ q, B q → A q) : vx_Zq C n d B U H := ⟨va_Zq.narrow h.1 hAB, vx_L.narrow h.2 hAB⟩
theorem vx_Zqof {args : Array Value} {s : State} {C n d : String} {A : Nat → Prop} (hl : (Cond.laysStatic C n d).before args s = true) (hini : (Cond.initialized C).before args s = true) (h : (Cond.isRef (.static C n d)).before args s = true) (hA : ∀ a : Nat, a < s.heap.size → ¬ A a) : vx_Zq C n d A s s.heap := by
  refine ⟨va_Zqof hl hini h hA, ?_⟩
  obtain ⟨c, k, i, f, a, cell, h1, h2, h3, h4, h5, h6, h7, h8, h9⟩ := Cond.laysStatic_spec hl
  exact ⟨c, k, i, f, a, cell, h1, h2, h3, h4, h5, h6, h7, h8, h9, hA a (Array.getElem?_eq_some_iff.mp h5).1⟩
theorem vx_isRef {C n d : String} {v : Value} {A : Nat → Prop} {s : State} {args : Array Value} (h : va_Z C n d v A s s.heap) (hv : v.isRef = true) : (Cond.isRef (.static C n d)).before args s = true := by
  obtain ⟨cf, kf, fi, f, a, cell, h1, h2, h3, h4, h5, h6, h7, -⟩ := h
  have he : (Term.static C n d).eval args s none [] s = some v := by
    simp [Term.eval, State.fieldNamed?, h1, h2, h4, h5, h6, h7]
  simp only [Cond.before, Cond.holds, Cond.value, he]
  cases v <;> simp_all [Value.isRef]
theorem vx_isRefq {C n d : String} {A : Nat → Prop} {s : State} {args : Array Value} (h : va_Zq C n d A s s.heap) : (Cond.isRef (.static C n d)).before args s = true := by
  rcases h with h | ⟨t, h⟩
  · exact vx_isRef h rfl
  · exact vx_isRef h rfl
/-- the same frame, seen from here: as if the method were called anew in this heap -/
theorem vx_rebase {T : State} (X : Stand p l e R s m args below meth c T locs cells slots) {R' : Room} (hf : R'.frames ≤ R.frames) (hl : R'.locals ≤ R.locals) (hc : cells + R'.cells ≤ R.cells) (hs : slots + R'.slots ≤ R.slots) :
    Stand p l e R' ((T.setVm s.vm).setFrames (.invoking m args :: below)) m args below meth c T [] 0 0 := by
  have htop : (T.setVm s.vm).topJava?.isSome := X.here.top
  have hF : ((T.setVm s.vm).setFrames (.invoking m args :: below)).frames = .invoking m args :: below := State.frames_setFrames _ (State.cur_lt_of_top htop)
  obtain ⟨g₀, hg0⟩ := Option.isSome_iff_exists.mp htop
  obtain ⟨r, hr⟩ := State.topJava?_eq_some.mp hg0
  have hl9 : e.platform.stackLimits (T.setVm s.vm).me = e.platform.stackLimits s.me := X.limits
  have hb9 : (T.setVm s.vm).me.stackBytes = s.me.stackBytes := X.bytes
  refine ⟨X.admits, X.cas, X.clock, hF, ?_, X.hears, X.method, X.code, X.here, X.tail, X.warmed, ?_, ?_, ?_⟩
  · have h := X.room
    have hU : ((T.setVm s.vm).setFrames (.invoking m args :: below)).localsInUse = s.localsInUse := by
      rw [State.localsInUse_invoking hF (meth := meth) (c := c) X.method X.code, State.localsInUse_invoking X.frames X.method X.code]
    simp only [State.hasRoom, Bool.and_eq_true, decide_eq_true_eq] at h ⊢
    obtain ⟨⟨⟨⟨h1, h2, h3, h4, h5, h6⟩, h7⟩, h8⟩, h9⟩ := h
    rw [X.frames, List.length_cons] at h2 h3
    have q1 := X.heapSize
    have q2 := X.used
    simp only [hF, hU, List.length_cons, State.stackLimits_setFrames, State.stackBytes_setFrames, hl9, hb9]
    refine ⟨⟨⟨⟨by omega, by omega, by omega, by omega, by omega, h6⟩, ?_⟩, ?_⟩, X.book⟩
    · show T.heap.size + R'.cells ≤ e.platform.maxCells
      omega
    · show T.slotsUsed + R'.slots ≤ e.platform.maxSlots
      omega
  · rw [State.stackLimits_setFrames]; rfl
  · rw [State.stackBytes_setFrames]; rfl
  · refine ⟨?_, Nat.le_refl _, Nat.le_refl _, ?_, ?_, fun a c9 h9 => ⟨c9, h9, rfl, rfl, fun _ _ => rfl⟩⟩
    · obtain ⟨t, ht, -⟩ := State.frames_cons hr
      show T.setVm s.vm = { ((T.setVm s.vm).setFrames (.invoking m args :: below)).setFrames (T.setVm s.vm).frames with heap := T.heap, slotsUsed := T.slotsUsed }
      rw [State.setFrames_setFrames, State.setFrames_self ht]
      rfl
    · show T.slotsUsed = T.slotsUsed + ((T.heap.toList.drop T.heap.size).map (·.slots.size)).sum
      rw [List.drop_eq_nil_of_le (Nat.le_of_eq Array.length_toList)]
      rfl
    · show ((T.heap.toList.drop T.heap.size).map (·.slots.size)).sum ≤ 0
      rw [List.drop_eq_nil_of_le (Nat.le_of_eq Array.length_toList)]
      exact Nat.le_refl _
/-- 'throw new E()': new; dup; invokespecial; athrow -/
theorem vx_throw0 {cc : ByteArray} {pc : Nat} (hexec : p.tables.exec = Jvm.exec) (hb : c.code = cc) (hl : l.stackTraces = false) {own cls : String} {names : List String} {ik ic mc ms : Nat} {A : Nat → Prop}
    (hown : s.vm.findClass own = some m.cls) (hcls : Bundle.fit cls = true) (hnames : ∀ n ∈ names, Bundle.fit n = true)
    (hk : (Cond.classLink own ik cls).before args s = true) (hini : (Cond.initialized cls).before args s = true) (hat : ∀ w ∈ vx_at0 own ic cls names, w.before args s = true)
    (hgood : ∀ w ∈ Cond.classLink own ik cls :: Cond.initialized cls :: vx_at0 own ic cls names, vx_ot w = true)
    (hU : vx_Zq Bundle.tN "UNASSIGNED_STACK" Bundle.steD A s s.heap) (hN : vx_Zq Bundle.tN "SUPPRESSED_SENTINEL" Bundle.listD A s s.heap) (hS : va_S A s.heap H locs) (hsize : ls.size = c.maxLocals)
    (d0 : decode cc pc = .ok (.new ik, 3)) (d3 : decode cc (pc + 3) = .ok (.dup, 1)) (d4 : decode cc (pc + 4) = .ok (.invokespecial ic, 3)) (d7 : decode cc (pc + 7) = .ok (.athrow, 1))
    (hout : ∀ x ∈ c.exceptionTable.toList, covers x (pc + 7) = false)
    (hRframes : names.length + 3 < R.frames) (hRlocals : (rest.map fun v => v.category).sum + (13 * (names.length + 1) + 42) ≤ R.locals) (hRcells : cells + 1 ≤ R.cells) (hRslots : slots + 6 ≤ R.slots) (hlocks : meth.locks = false)
    (hx : ∀ t : State, s.vm.Alike t.vm → H.size ≤ t.heap.size → (∀ q : Nat, q < H.size → t.heap[q]? = H[q]?) → XC cls s t)
    (hf : ∀ z ∈ locs, free z.base) (hc : cells + 1 ≤ mc) (hs : slots + 6 ≤ ms) :
    W p l e R s m args below meth c H locs cells slots (vx_MQ below Qc XC args s mc ms free) (F0 m pc ls rest) := by
  intro T hT X
  have htr : e.platform.stackTraces = false := (show e.platform.stackTraces = l.stackTraces by rw [X.admits.platform]).trans hl
  have Y := vx_rebase X (R' := { frames := R.frames, locals := R.locals, cells := 1, slots := 6 }) (Nat.le_refl _) (Nat.le_refl _) hRcells hRslots
  obtain ⟨s', hA⟩ : ∃ z, z = (T.setVm s.vm).setFrames (.invoking m args :: below) := ⟨_, rfl⟩
  rw [← hA] at Y
  have hvm : s'.vm = s.vm := by rw [hA]; rfl
  have hhp : s'.heap = H := by rw [hA]; exact hT
  have hW0 : s.WarmedH s'.vm := by rw [hvm]; exact State.WarmedH.refl s
  have hat' : ∀ w ∈ vx_at0 own ic cls names, w.before args s' = true := fun w hw => vx_ot_at hW0 hvm.symm (hgood w (List.mem_cons_of_mem _ (List.mem_cons_of_mem _ hw))) (hat w hw)
  have hk' : (Cond.classLink own ik cls).before args s' = true := vx_ot_at hW0 hvm.symm (hgood _ List.mem_cons_self) hk
  have hini' : (Cond.initialized cls).before args s' = true := vx_ot_at hW0 hvm.symm (hgood _ (List.mem_cons_of_mem _ List.mem_cons_self)) hini
  have hU' : vx_Zq Bundle.tN "UNASSIGNED_STACK" Bundle.steD A s' s'.heap := by rw [hhp]; exact vx_Zq.moved hW0.alike (hU.kept hS.2.1)
  have hN' : vx_Zq Bundle.tN "SUPPRESSED_SENTINEL" Bundle.listD A s' s'.heap := by rw [hhp]; exact vx_Zq.moved hW0.alike (hN.kept hS.2.1)
  have h : ∀ w ∈ Bundle.ownAtoms0 own ic cls names, w.before args s' = true := vx_own hat' (vx_isRefq hU'.1) (vx_isRefq hN'.1) hU'.2.word hN'.2.word
  have hown' : s'.vm.findClass own = some m.cls := by rw [hvm]; exact hown
  have hins : (Cond.instantiable cls 6).before args s' = true := h _ (by simp [Bundle.ownAtoms0])
  obtain ⟨vm₁, cX, kX, hfX, hkX, -, -, X₁, st1⟩ := Y.newCold hexec (own := own) (C := cls) (index := ik) (n := 6) hown' hk' hins hini'
    (g := F0 m pc ls rest) rfl (by rw [hb]; exact d0) (Nat.le_refl _) (Nat.le_refl _)
  generalize hT1 : (T.setVm vm₁).pushCell { cls := cX, slots := kX.instanceTypes.map defaultValue, vm := .none } = T1 at X₁ st1
  have hcat : (Value.ref T.heap.size).category = 1 := rfl
  have hcellA : T1.heap[T.heap.size]? = some (freshCell cX kX) := by rw [← hT1]; exact State.heap_pushCell_size _ _
  have d3' : decode c.code (pc + 3) = .ok (.dup, 1) := by rw [hb]; exact d3
  obtain ⟨U, hsteps, hrun, hend, hW, hsame, ce, hce, hO⟩ := X₁.ctorThrow0 hexec htr (own := own) (cls := cls) (names := names) (ic := ic) hown' hcls hnames h (fun x hx => nomatch hx) hfX hkX hcellA (by rw [hhp, hT]; exact Nat.le_refl _)
    (g := { method := m, pc := pc + 4, locals := ls, stack := .ref T.heap.size :: .ref T.heap.size :: rest, locked := none }) rfl hsize rfl rfl (rest := rest) rfl
    (by rw [hb]; exact d4) (by rw [hb]; exact d7) hout hRframes (by simp only [List.map_cons, List.sum_cons, hcat]; omega) hlocks
  obtain ⟨f1, f2⟩ := vx_frame hsame
  rw [hhp] at f1 f2
  have hWs : s.WarmedH U.vm := State.WarmedH.trans hW0 hW
  have hcl : s.vm.findClass cls = some ce.cls := by
    have h9 := hO.cls
    rw [hvm] at h9
    exact h9
  have hall : s.sameButNew ({ U with vm := s.vm } : State) locs mc ms := by
    subst hA
    obtain ⟨e1, e2⟩ := hsame
    rw [State.setFrames_setFrames] at e1
    have h2 : (T.setVm s.vm).sameButNew ({ U with vm := s.vm } : State) [] (0 + 1) (0 + 6) := ⟨e1, e2⟩
    have h3 := X.same.trans h2
    rw [List.append_nil] at h3
    exact h3.mono hc hs
  refine ⟨U, ?_, .threw T.heap.size, hrun, hend, Or.inr ⟨T.heap.size, rfl, cls, ce, locs, hx U hWs.alike f1 (fun q hq => f2 q hq (fun z hz => nomatch hz)), hce, hO.vm, hcl, hWs, hall, hf⟩⟩
  refine st1 _ ?_
  show Steps p.tables e below (T1.setTop { method := m, pc := pc + 3, locals := ls, stack := .ref T.heap.size :: rest, locked := none }) _
  jvm_step X₁.here [X₁.here.top, hexec, d3', Value.category]
  exact hsteps
/-- 'throw new E("text")': new; dup; ldc; invokespecial; athrow -/
theorem vx_throwS {cc : ByteArray} {pc : Nat} (hexec : p.tables.exec = Jvm.exec) (hb : c.code = cc) (hl : l.stackTraces = false) {own cls text : String} {names : List String} {ik is ic mc ms sa : Nat} {A : Nat → Prop}
    (hown : s.vm.findClass own = some m.cls) (hcls : Bundle.fit cls = true) (hnames : ∀ n ∈ names, Bundle.fit n = true)
    (hk : (Cond.classLink own ik cls).before args s = true) (hini : (Cond.initialized cls).before args s = true) (hstr : vk_R own is text sa s) (hat : ∀ w ∈ vx_atS own ic cls names, w.before args s = true)
    (hgood : ∀ w ∈ Cond.classLink own ik cls :: Cond.initialized cls :: vx_atS own ic cls names, vx_ot w = true)
    (hU : vx_Zq Bundle.tN "UNASSIGNED_STACK" Bundle.steD A s s.heap) (hN : vx_Zq Bundle.tN "SUPPRESSED_SENTINEL" Bundle.listD A s s.heap) (hS : va_S A s.heap H locs) (hsize : ls.size = c.maxLocals)
    (d0 : decode cc pc = .ok (.new ik, 3)) (d3 : decode cc (pc + 3) = .ok (.dup, 1)) (d4 : decode cc (pc + 4) = .ok (.ldc is, 2)) (d6 : decode cc (pc + 6) = .ok (.invokespecial ic, 3)) (d9 : decode cc (pc + 9) = .ok (.athrow, 1))
    (hout : ∀ x ∈ c.exceptionTable.toList, covers x (pc + 9) = false)
    (hRframes : names.length + 3 < R.frames) (hRlocals : (rest.map fun v => v.category).sum + (13 * (names.length + 1) + 43) ≤ R.locals) (hRcells : cells + 1 ≤ R.cells) (hRslots : slots + 6 ≤ R.slots) (hlocks : meth.locks = false)
    (hx : ∀ t : State, s.vm.Alike t.vm → H.size ≤ t.heap.size → (∀ q : Nat, q < H.size → t.heap[q]? = H[q]?) → XC cls s t)
    (hf : ∀ z ∈ locs, free z.base) (hc : cells + 1 ≤ mc) (hs : slots + 6 ≤ ms) :
    W p l e R s m args below meth c H locs cells slots (vx_MQ below Qc XC args s mc ms free) (F0 m pc ls rest) := by
  intro T hT X
  have htr : e.platform.stackTraces = false := (show e.platform.stackTraces = l.stackTraces by rw [X.admits.platform]).trans hl
  have Y := vx_rebase X (R' := { frames := R.frames, locals := R.locals, cells := 1, slots := 6 }) (Nat.le_refl _) (Nat.le_refl _) hRcells hRslots
  obtain ⟨s', hA⟩ : ∃ z, z = (T.setVm s.vm).setFrames (.invoking m args :: below) := ⟨_, rfl⟩
  rw [← hA] at Y
  have hvm : s'.vm = s.vm := by rw [hA]; rfl
  have hhp : s'.heap = H := by rw [hA]; exact hT
  have hW0 : s.WarmedH s'.vm := by rw [hvm]; exact State.WarmedH.refl s
  have hat' : ∀ w ∈ vx_atS own ic cls names, w.before args s' = true := fun w hw => vx_ot_at hW0 hvm.symm (hgood w (List.mem_cons_of_mem _ (List.mem_cons_of_mem _ hw))) (hat w hw)
  have hk' : (Cond.classLink own ik cls).before args s' = true := vx_ot_at hW0 hvm.symm (hgood _ List.mem_cons_self) hk
  have hini' : (Cond.initialized cls).before args s' = true := vx_ot_at hW0 hvm.symm (hgood _ (List.mem_cons_of_mem _ List.mem_cons_self)) hini
  have hU' : vx_Zq Bundle.tN "UNASSIGNED_STACK" Bundle.steD A s' s'.heap := by rw [hhp]; exact vx_Zq.moved hW0.alike (hU.kept hS.2.1)
  have hN' : vx_Zq Bundle.tN "SUPPRESSED_SENTINEL" Bundle.listD A s' s'.heap := by rw [hhp]; exact vx_Zq.moved hW0.alike (hN.kept hS.2.1)
  have h : ∀ w ∈ Bundle.ownAtoms own ic cls names, w.before args s' = true := vx_own hat' (vx_isRefq hU'.1) (vx_isRefq hN'.1) hU'.2.word hN'.2.word
  have hown' : s'.vm.findClass own = some m.cls := by rw [hvm]; exact hown
  have hins : (Cond.instantiable cls 6).before args s' = true := h _ (by simp [Bundle.ownAtoms])
  obtain ⟨vm₁, cX, kX, hfX, hkX, -, -, X₁, st1⟩ := Y.newCold hexec (own := own) (C := cls) (index := ik) (n := 6) hown' hk' hins hini'
    (g := F0 m pc ls rest) rfl (by rw [hb]; exact d0) (Nat.le_refl _) (Nat.le_refl _)
  generalize hT1 : (T.setVm vm₁).pushCell { cls := cX, slots := kX.instanceTypes.map defaultValue, vm := .none } = T1 at X₁ st1
  have hcat : (Value.ref T.heap.size).category = 1 := rfl
  have hcellA : T1.heap[T.heap.size]? = some (freshCell cX kX) := by rw [← hT1]; exact State.heap_pushCell_size _ _
  have d3' : decode c.code (pc + 3) = .ok (.dup, 1) := by rw [hb]; exact d3
  have d4' : decode c.code (pc + 4) = .ok (.ldc is, 2) := by rw [hb]; exact d4
  have hstr' : vk_R own is text sa s' := vk_R.warm hW0 hstr
  obtain ⟨U, hsteps, hrun, hend, hW, hsame, ce, hce, hO⟩ := X₁.ctorThrowS hexec htr (own := own) (cls := cls) (names := names) (ic := ic) hown' hcls hnames h (fun x hx => nomatch hx) hfX hkX hcellA (by rw [hhp, hT]; exact Nat.le_refl _) (msg := .ref sa) rfl
    (g := { method := m, pc := pc + 6, locals := ls, stack := .ref sa :: .ref T.heap.size :: .ref T.heap.size :: rest, locked := none }) rfl hsize rfl rfl (rest := rest) rfl
    (by rw [hb]; exact d6) (by rw [hb]; exact d9) hout hRframes (by simp only [List.map_cons, List.sum_cons, hcat]; omega) hlocks
  obtain ⟨f1, f2⟩ := vx_frame hsame
  rw [hhp] at f1 f2
  have hWs : s.WarmedH U.vm := State.WarmedH.trans hW0 hW
  have hcl : s.vm.findClass cls = some ce.cls := by
    have h9 := hO.cls
    rw [hvm] at h9
    exact h9
  have hall : s.sameButNew ({ U with vm := s.vm } : State) locs mc ms := by
    subst hA
    obtain ⟨e1, e2⟩ := hsame
    rw [State.setFrames_setFrames] at e1
    have h2 : (T.setVm s.vm).sameButNew ({ U with vm := s.vm } : State) [] (0 + 1) (0 + 6) := ⟨e1, e2⟩
    have h3 := X.same.trans h2
    rw [List.append_nil] at h3
    exact h3.mono hc hs
  refine ⟨U, ?_, .threw T.heap.size, hrun, hend, Or.inr ⟨T.heap.size, rfl, cls, ce, locs, hx U hWs.alike f1 (fun q hq => f2 q hq (fun z hz => nomatch hz)), hce, hO.vm, hcl, hWs, hall, hf⟩⟩
  refine st1 _ ?_
  show Steps p.tables e below (T1.setTop { method := m, pc := pc + 3, locals := ls, stack := .ref T.heap.size :: rest, locked := none }) _
  jvm_step X₁.here [X₁.here.top, hexec, d3', Value.category]
  exact X₁.ldcString hexec (own := own) (text := text) (index := is) (a := sa) hown' hstr'.1 hstr'.2
    (g := { method := m, pc := pc + 4, locals := ls, stack := .ref T.heap.size :: .ref T.heap.size :: rest, locked := none }) rfl d4' _ hsteps
/-- 'throw new E("text")', the text by a wide index -/
theorem vx_throwSW {cc : ByteArray} {pc : Nat} (hexec : p.tables.exec = Jvm.exec) (hb : c.code = cc) (hl : l.stackTraces = false) {own cls text : String} {names : List String} {ik is ic mc ms sa : Nat} {A : Nat → Prop}
    (hown : s.vm.findClass own = some m.cls) (hcls : Bundle.fit cls = true) (hnames : ∀ n ∈ names, Bundle.fit n = true)
    (hk : (Cond.classLink own ik cls).before args s = true) (hini : (Cond.initialized cls).before args s = true) (hstr : vk_R own is text sa s) (hat : ∀ w ∈ vx_atS own ic cls names, w.before args s = true)
    (hgood : ∀ w ∈ Cond.classLink own ik cls :: Cond.initialized cls :: vx_atS own ic cls names, vx_ot w = true)
    (hU : vx_Zq Bundle.tN "UNASSIGNED_STACK" Bundle.steD A s s.heap) (hN : vx_Zq Bundle.tN "SUPPRESSED_SENTINEL" Bundle.listD A s s.heap) (hS : va_S A s.heap H locs) (hsize : ls.size = c.maxLocals)
    (d0 : decode cc pc = .ok (.new ik, 3)) (d3 : decode cc (pc + 3) = .ok (.dup, 1)) (d4 : decode cc (pc + 4) = .ok (.ldc_w is, 3)) (d7 : decode cc (pc + 7) = .ok (.invokespecial ic, 3)) (d10 : decode cc (pc + 10) = .ok (.athrow, 1))
    (hout : ∀ x ∈ c.exceptionTable.toList, covers x (pc + 10) = false)
    (hRframes : names.length + 3 < R.frames) (hRlocals : (rest.map fun v => v.category).sum + (13 * (names.length + 1) + 43) ≤ R.locals) (hRcells : cells + 1 ≤ R.cells) (hRslots : slots + 6 ≤ R.slots) (hlocks : meth.locks = false)
    (hx : ∀ t : State, s.vm.Alike t.vm → H.size ≤ t.heap.size → (∀ q : Nat, q < H.size → t.heap[q]? = H[q]?) → XC cls s t)
    (hf : ∀ z ∈ locs, free z.base) (hc : cells + 1 ≤ mc) (hs : slots + 6 ≤ ms) :
    W p l e R s m args below meth c H locs cells slots (vx_MQ below Qc XC args s mc ms free) (F0 m pc ls rest) := by
  intro T hT X
  have htr : e.platform.stackTraces = false := (show e.platform.stackTraces = l.stackTraces by rw [X.admits.platform]).trans hl
  have Y := vx_rebase X (R' := { frames := R.frames, locals := R.locals, cells := 1, slots := 6 }) (Nat.le_refl _) (Nat.le_refl _) hRcells hRslots
  obtain ⟨s', hA⟩ : ∃ z, z = (T.setVm s.vm).setFrames (.invoking m args :: below) := ⟨_, rfl⟩
  rw [← hA] at Y
  have hvm : s'.vm = s.vm := by rw [hA]; rfl
  have hhp : s'.heap = H := by rw [hA]; exact hT
  have hW0 : s.WarmedH s'.vm := by rw [hvm]; exact State.WarmedH.refl s
  have hat' : ∀ w ∈ vx_atS own ic cls names, w.before args s' = true := fun w hw => vx_ot_at hW0 hvm.symm (hgood w (List.mem_cons_of_mem _ (List.mem_cons_of_mem _ hw))) (hat w hw)
  have hk' : (Cond.classLink own ik cls).before args s' = true := vx_ot_at hW0 hvm.symm (hgood _ List.mem_cons_self) hk
  have hini' : (Cond.initialized cls).before args s' = true := vx_ot_at hW0 hvm.symm (hgood _ (List.mem_cons_of_mem _ List.mem_cons_self)) hini
  have hU' : vx_Zq Bundle.tN "UNASSIGNED_STACK" Bundle.steD A s' s'.heap := by rw [hhp]; exact vx_Zq.moved hW0.alike (hU.kept hS.2.1)
  have hN' : vx_Zq Bundle.tN "SUPPRESSED_SENTINEL" Bundle.listD A s' s'.heap := by rw [hhp]; exact vx_Zq.moved hW0.alike (hN.kept hS.2.1)
  have h : ∀ w ∈ Bundle.ownAtoms own ic cls names, w.before args s' = true := vx_own hat' (vx_isRefq hU'.1) (vx_isRefq hN'.1) hU'.2.word hN'.2.word
  have hown' : s'.vm.findClass own = some m.cls := by rw [hvm]; exact hown
  have hins : (Cond.instantiable cls 6).before args s' = true := h _ (by simp [Bundle.ownAtoms])
  obtain ⟨vm₁, cX, kX, hfX, hkX, -, -, X₁, st1⟩ := Y.newCold hexec (own := own) (C := cls) (index := ik) (n := 6) hown' hk' hins hini'
    (g := F0 m pc ls rest) rfl (by rw [hb]; exact d0) (Nat.le_refl _) (Nat.le_refl _)
  generalize hT1 : (T.setVm vm₁).pushCell { cls := cX, slots := kX.instanceTypes.map defaultValue, vm := .none } = T1 at X₁ st1
  have hcat : (Value.ref T.heap.size).category = 1 := rfl
  have hcellA : T1.heap[T.heap.size]? = some (freshCell cX kX) := by rw [← hT1]; exact State.heap_pushCell_size _ _
  have d3' : decode c.code (pc + 3) = .ok (.dup, 1) := by rw [hb]; exact d3
  have d4' : decode c.code (pc + 4) = .ok (.ldc_w is, 3) := by rw [hb]; exact d4
  have hstr' : vk_R own is text sa s' := vk_R.warm hW0 hstr
  obtain ⟨U, hsteps, hrun, hend, hW, hsame, ce, hce, hO⟩ := X₁.ctorThrowS hexec htr (own := own) (cls := cls) (names := names) (ic := ic) hown' hcls hnames h (fun x hx => nomatch hx) hfX hkX hcellA (by rw [hhp, hT]; exact Nat.le_refl _) (msg := .ref sa) rfl
    (g := { method := m, pc := pc + 7, locals := ls, stack := .ref sa :: .ref T.heap.size :: .ref T.heap.size :: rest, locked := none }) rfl hsize rfl rfl (rest := rest) rfl
    (by rw [hb]; exact d7) (by rw [hb]; exact d10) hout hRframes (by simp only [List.map_cons, List.sum_cons, hcat]; omega) hlocks
  obtain ⟨f1, f2⟩ := vx_frame hsame
  rw [hhp] at f1 f2
  have hWs : s.WarmedH U.vm := State.WarmedH.trans hW0 hW
  have hcl : s.vm.findClass cls = some ce.cls := by
    have h9 := hO.cls
    rw [hvm] at h9
    exact h9
  have hall : s.sameButNew ({ U with vm := s.vm } : State) locs mc ms := by
    subst hA
    obtain ⟨e1, e2⟩ := hsame
    rw [State.setFrames_setFrames] at e1
    have h2 : (T.setVm s.vm).sameButNew ({ U with vm := s.vm } : State) [] (0 + 1) (0 + 6) := ⟨e1, e2⟩
    have h3 := X.same.trans h2
    rw [List.append_nil] at h3
    exact h3.mono hc hs
  refine ⟨U, ?_, .threw T.heap.size, hrun, hend, Or.inr ⟨T.heap.size, rfl, cls, ce, locs, hx U hWs.alike f1 (fun q hq => f2 q hq (fun z hz => nomatch hz)), hce, hO.vm, hcl, hWs, hall, hf⟩⟩
  refine st1 _ ?_
  show Steps p.tables e below (T1.setTop { method := m, pc := pc + 3, locals := ls, stack := .ref T.heap.size :: rest, locked := none }) _
  jvm_step X₁.here [X₁.here.top, hexec, d3', Value.category]
  exact X₁.ldcStringW hexec (own := own) (text := text) (index := is) (a := sa) hown' hstr'.1 hstr'.2
    (g := { method := m, pc := pc + 4, locals := ls, stack := .ref T.heap.size :: .ref T.heap.size :: rest, locked := none }) rfl d4' _ hsteps
end Ends
section Bodies
variable {l : Launch}
theorem vx_ofW {y : MethodName} {ws ws' : List Cond} {rm : Room} {Pc : Array Value → State → Prop} {Qc : Array Value → State → Outcome → State → Prop} {XC : String → State → State → Prop} {mc ms : Nat} {free : Addr → Prop} {cc : ByteArray} {maxL : Nat} {ret : Option FieldType}
    (hy : plainName y.cls = true) (hw : ws = Cond.code y cc maxL ret :: ws')
    (body : ∀ p e s m args below meth c s₁, BodyLoose p l y (headSpec ws rm) cc maxL ret e s m args below meth c s₁ → c.maxLocals = maxL → (∀ x ∈ c.exceptionTable.toList, False) → Pc args s →
      W p l e (headSpec ws rm).room s m args below meth c s.heap [] 0 0 (vx_MQ below Qc XC args s mc ms free) (entryFrame m args maxL)) : vx_Met l y ws rm Pc Qc XC mc ms free := by
  refine MetFree.of_bodyS (code := cc) (maxLocals := maxL) (ret := ret) hy ?_ ?_
  · intro args s m h hn
    obtain ⟨meth, c, h1, h2, h3, h4, h5, h6, -, -⟩ := Cond.code_spec hn (atoms_spec (ws := ws) h _ (by rw [hw]; exact List.mem_cons_self))
    exact ⟨meth, c, h1, h2, h3, h4, h5, h6⟩
  · intro p e s m args below meth c s₁ B hml hP _
    have hh0 : s₁.heap = s.heap := by rw [B.state]; rfl
    have ht : ∀ x ∈ c.exceptionTable.toList, False := by
      obtain ⟨meth9, c9, h1, h2, -, -, -, -, h7, -⟩ := Cond.code_spec B.named (atoms_spec (ws := ws) B.pre _ (by rw [hw]; exact List.mem_cons_self))
      cases Option.some.inj (h1.symm.trans B.method)
      cases Option.some.inj (h2.symm.trans (Stand.of_body B).code)
      intro x hx
      rw [Array.isEmpty_iff.mp h7] at hx
      cases hx
    obtain ⟨t, a1, o, b1, b2, b3⟩ := body p e s m args below meth c s₁ B hml ht hP s₁ hh0 (Stand.of_body B)
    exact ⟨t, o, a1, b1, b2, b3⟩
/-- the table of a body with handlers -/
theorem vx_table {p : Program} {x y : MethodName} {S : Spec} {cc bytes : ByteArray} {maxL maxL' : Nat} {ret ret' : Option FieldType} {e : Env} {s s₁ : State} {m : MethodId} {args : Array Value} {below : List Frame} {meth : Method} {c : Code} {hh : List (Nat × Nat × Nat × Nat)}
    (B : BodyLoose p l y S cc maxL ret e s m args below meth c s₁) (h : (Cond.codeWith y bytes maxL' ret' hh).before args s = true) : c.exceptionTable.toList = tableOf hh := by
  obtain ⟨m9, meth9, c9, hn9, h1, h2, -, -, h6, -⟩ := Cond.codeWith_spec h
  cases Option.some.inj (hn9.symm.trans B.named)
  cases Option.some.inj (h1.symm.trans B.method)
  cases Option.some.inj (h2.symm.trans (Stand.of_body B).code)
  rw [← h6, table_eq]
end Bodies
end VXA
/-! ===== END ===== -/
/-! ===== BEGIN a static call of a method with an exception table ===== -/
section VXS
variable {p : Program} {l : Launch} {e : Env} {R : Room} {s : State} {m : MethodId} {args : Array Value} {below : List Frame} {meth : Method} {c : Code} {T : State} {H : Heap} {locs : List Loc} {cells slots : Nat}
abbrev vx_CSW (R : Room) (s : State) (args : Array Value) (own : String) (index : Nat) (y : MethodName) (bytes : ByteArray) (maxL : Nat) (ret : Option FieldType) (hh : List (Nat × Nat × Nat × Nat)) (ws : List Cond) (rm : Room) (mc ms n : Nat) : Prop :=
  (rm.cells = mc ∧ rm.slots = ms ∧ rm.frames + 1 ≤ R.frames ∧ 8 + (maxL + 11) + rm.locals ≤ R.locals ∧ (∀ w ∈ ws, ∀ (a' : Array Value) (U : State), s.WarmedH U.vm → w.before a' U = true) ∧ Cond.codeWith y bytes maxL ret hh ∈ ws) ∧
  (Cond.codeWith y bytes maxL ret hh).before args s = true ∧ (Cond.initialized y.cls).before args s = true ∧ (y.cls ≠ "java/lang/invoke/MethodHandle" ∧ y.cls ≠ "java/lang/invoke/VarHandle") ∧
  (∀ sig, parseMethodDescriptor y.desc = some sig → n = sig.parameters.length) ∧ (Cond.methodLink own index y).before args s = true ∧ (Cond.static y).before args s = true
theorem vx_cwSW {own : String} {index maxL mc ms : Nat} {y : MethodName} {bytes : ByteArray} {ret : Option FieldType} {hh : List (Nat × Nat × Nat × Nat)} {Ts ws ws' : List Cond} {rm : Room} (n : Nat) (ht : ∀ w ∈ Ts, w.before args s = true) (hT : GoodIn Ts (va_wsS own index y ws)) (hw : ws = Cond.codeWith y bytes maxL ret hh :: ws') (hrc : rm.cells = mc) (hrs : rm.slots = ms)
    (hd : y.cls ≠ "java/lang/invoke/MethodHandle" ∧ y.cls ≠ "java/lang/invoke/VarHandle" ∧ (parseMethodDescriptor y.desc).map (fun d => d.parameters.length) = some n) (hR : rm.frames + 1 ≤ R.frames ∧ 8 + (maxL + 11) + rm.locals ≤ R.locals) :
    vx_CSW R s args own index y bytes maxL ret hh ws rm mc ms n := by
  have ok : ∀ w ∈ va_wsS own index y ws, w.before args s = true := fun w h => ht w (hT w h).1
  have hG : GoodIn Ts ws := fun w h => hT w (by unfold va_wsS; exact List.mem_append_right _ h)
  have hc : Cond.codeWith y bytes maxL ret hh ∈ ws := by rw [hw]; exact List.mem_cons_self
  refine ⟨⟨hrc, hrs, hR.1, hR.2, pay_in ht hG, hc⟩, ht _ (hG _ hc).1, ok _ (by simp [va_wsS]), ⟨hd.1, hd.2.1⟩, fun sig h => ?_, ok _ (by simp [va_wsS]), ok _ (by simp [va_wsS])⟩
  have h2 := hd.2.2
  rw [h] at h2
  exact (Option.some.inj h2).symm
theorem vx_callSW (X : Stand p l e R s m args below meth c T locs cells slots) (hexec : p.tables.exec = Jvm.exec) {own : String} {index : Nat} {y : MethodName} {bytes : ByteArray} {maxL : Nat} {ret : Option FieldType} {hh : List (Nat × Nat × Nat × Nat)}
    (hown : s.vm.findClass own = some m.cls) (hlink : (Cond.methodLink own index y).before args s = true) (hstat : (Cond.static y).before args s = true) (hinit : (Cond.initialized y.cls).before args s = true)
    (hcode : (Cond.codeWith y bytes maxL ret hh).before args s = true) (hy : y.cls ≠ "java/lang/invoke/MethodHandle" ∧ y.cls ≠ "java/lang/invoke/VarHandle")
    {W9 : Nat} {Pre : Pt → Array Value → Prop} {Post : Pt → Array Value → Option Value → Pt → Prop} (hK : Back l R p e below s args y 3 W9 Pre Post)
    {g : JFrame} (hg : g.method = m) (hsize : g.locals.size = c.maxLocals) {argsL rest : List Value} (hlen : ∀ sig, parseMethodDescriptor y.desc = some sig → argsL.length = sig.parameters.length)
    (hstack : g.stack = argsL.reverse ++ rest) (hW : 2 * g.monitorRoom + (rest.map fun v => v.category).sum ≤ W9) (hdg : decode c.code g.pc = .ok (.invokestatic index, 3))
    (hpre : ∀ vm₁, s.WarmedH vm₁ → Pre ⟨T.setVm vm₁, locs, cells, slots⟩ argsL.toArray) :
    ∃ (v : Option Value) (vm₁ : Vm) (B : Pt), s.WarmedH vm₁ ∧ Stand p l e R s m args below meth c B.U B.locs B.cells B.slots ∧ Post ⟨T.setVm vm₁, locs, cells, slots⟩ argsL.toArray v B ∧
      ∀ target, Steps p.tables e below (B.U.setTop { g with pc := g.pc + 3, stack := v.toList ++ rest }) target → Steps p.tables e below (T.setTop g) target := by
  obtain ⟨mk, methM, cM, hnamed, hmethM, -, -, -, -, -, -, hsigM⟩ := Cond.codeWith_spec hcode
  have hstatic : methM.isStatic = true := Cond.static_spec hnamed hmethM hstat
  obtain ⟨kP, hkP, -⟩ := className_of_methodNamed hnamed
  have hinitP : kP.init = .initialized := Cond.initialized_spec (findClass_of_methodNamed hnamed) hkP hinit
  obtain ⟨vm₁, X₁, hstep₁⟩ := X.invokestatic hexec hown hlink hnamed hmethM hstatic hkP hinitP hy (g := g) hg (argsL := argsL) (rest := rest) (hlen _ hsigM) hstack hdg
  obtain ⟨v, B, X', hpost, hsteps⟩ := hK m meth c ⟨T.setVm vm₁, locs, cells, slots⟩ { g with stack := rest } (.invokestatic index) mk argsL.toArray X₁ hg hsize hdg hW (X₁.named hnamed) (hpre vm₁ X₁.warmed)
  exact ⟨v, vm₁, B, X₁.warmed, X', hpost, fun target h => hstep₁ _ fun acts => by rw [doInvoke_state]; exact hsteps.trans h⟩
theorem vx_runSW {y : MethodName} {bytes cc : ByteArray} {maxL nL mc ms n index : Nat} {ret : Option FieldType} {hh : List (Nat × Nat × Nat × Nat)} {ws : List Cond} {rm : Room} {Pc : Array Value → State → Prop} {Qc : Array Value → State → Outcome → State → Prop} {free : Addr → Prop} {Ts : List Cond} {own : String} {As rest : List Value} {g : JFrame}
    (S : CallFix p m c cc nL s args Ts own) (hM : Met l y ws rm Pc Qc mc ms free) (cw : vx_CSW R s args own index y bytes maxL ret hh ws rm mc ms n) (hp : PreS s H Pc As)
    (hg : g.method = m) (hn : As.length = n) (hsize : g.locals.size = nL) (hstack : g.stack = As.reverse ++ rest) (hW : 2 * g.monitorRoom + (rest.map fun v => v.category).sum ≤ 8) (hdg : decode cc g.pc = .ok (.invokestatic index, 3)) (hf : cells + mc ≤ R.cells ∧ slots + ms ≤ R.slots) :
    va_Run p l e R s m args below meth c H locs cells slots mc ms g rest (Qc As.toArray) (free) := by
  obtain ⟨⟨hrc, hrs, hfr, hlo, hws, hcw⟩, hcode, hini, hy, hlen, hl, hstt⟩ := cw
  have hK : Back l R p e below s args y 3 8 (PreOf R mc ms Pc) (PostOf Qc mc ms free) := va_backW (hh := hh) (bytes := bytes) (maxL := maxL) (ret := ret) hM hp.1 hrc hrs hfr hlo hws hcw (fun a' U hW => word_at hW (Or.inl (by first | rfl | simp [Cond.onTables, Cond.keeps, Cond.steady])) hini)
  obtain ⟨hx, hb, hml, ho, -⟩ := S
  intro T hT X
  obtain ⟨v, vm₁, ⟨U', l2, c2, s2⟩, hW₁, X', ⟨g', mk, t, L, e1, e2, hq, h1, hL, h2, h3⟩, st⟩ := vx_callSW X hx (hh := hh) (bytes := bytes) (maxL := maxL) (ret := ret) ho hl hstt hini hcode hy hK hg (hsize.trans hml.symm) (argsL := As) (rest := rest) (fun sig h => hn.trans (hlen sig h)) hstack hW (by rw [hb]; exact hdg)
    (fun vm₁ hW₁ => ⟨hf.1, hf.2, hp.2 (T.setVm vm₁) hT hW₁⟩)
  dsimp only [Pt.U, Pt.locs, Pt.cells, Pt.slots] at X' e1 e2 h1 h2 h3 st
  subst h1; subst h2; subst h3
  exact ⟨v, (T.setVm vm₁).calling g' mk As.toArray, t, U', L, hT, X', hL, e1, e2, hq, st⟩
/-- not caught here, past rows that name other classes: it goes on to the caller -/
theorem vx_outP {p : Program} {l : Launch} {e : Env} {R : Room} {s : State} {m : MethodId} {args : Array Value} {below : List Frame} {meth : Method} {c : Code} {H : Heap} {locs : List Loc} {cells slots : Nat} {free : Addr → Prop} {ls : Array Slot} {rest : List Value} {Qc : Array Value → State → Outcome → State → Prop} {XC : String → State → State → Prop}
    {pc : Nat} {own E : String} {ce : Cell} {q : Addr} {mc ms : Nat} (hown : s.vm.findClass own = some m.cls) (hlocks : meth.locks = false)
    (hpass : ∀ z ∈ c.exceptionTable.toList, covers z pc = false ∨ (z.catchType ≠ 0 ∧ ∃ nm : String, (Cond.classLink own z.catchType nm).before args s = true ∧ va_Nc E nm s)) (hcell : H[q]? = some ce) (hv : ce.vm = .none) (hcl : s.vm.findClass E = some ce.cls)
    (hx : ∀ t : State, t.heap = H → s.vm.Alike t.vm → XC E s t) (hf : ∀ z ∈ locs, free z.base) (hc : cells ≤ mc) (hs : slots ≤ ms) :
    vx_W p l e R s m args below meth c H locs cells slots (vx_MQ below Qc XC args s mc ms free) (F0 m pc ls rest) q := by
  intro T hT X
  have hpl : e.platform.magicAccessors = ({} : Platform).magicAccessors := by rw [X.admits.platform]
  obtain ⟨vm', hW', X', st⟩ := X.outThrough hlocks q (g := F0 m pc ls rest) rfl rfl rfl (cell := ce) (by rw [hT]; exact hcell) (by rw [hv]; rfl)
    (by obtain ⟨k9, h9, -⟩ := Vm.findClass_spec hcl; exact ⟨k9, h9⟩) (fun z hz => by
      rcases hpass z hz with h | ⟨hz0, nm, hl1, hn1⟩
      · exact Or.inl h
      · obtain ⟨c6, hc6, hcl6⟩ := Cond.classLink_spec hown hl1 e.platform hpl
        obtain ⟨a8, b8, h1, h2, h3⟩ := hn1
        cases Option.some.inj (h1.symm.trans hcl)
        cases Option.some.inj (h2.symm.trans hc6)
        exact Or.inr ⟨hz0, _, hcl6, h3⟩)
  obtain ⟨g₀, hfr⟩ := X'.frames_eq
  have hcell9 : ((T.setVm vm').setFrames (.throwing q :: below)).heap[q]? = some ce := by
    show T.heap[q]? = some ce
    rw [hT]; exact hcell
  have hend : Ended ((T.setVm vm').setFrames (.throwing q :: below)) below (.threw q) := State.frames_setFrames _ (State.cur_lt_of_frames hfr)
  refine ⟨(T.setVm vm').setFrames (.throwing q :: below), ?_, .threw q, X'.here.running, hend, Or.inr ⟨q, rfl, E, ce, locs, hx _ hT (X'.ends _).1.alike, hcell9, hv, hcl, (X'.ends _).1, (X'.ends _).2.mono hc hs, hf⟩⟩
  rw [X.pushThrowing_eq]
  exact st
/-- a thing of a world lies in the heap -/
theorem vx_lt {D : va_G} {cl : List vw_C} {ws : va_W} {H1 : Heap} (h : va_P D cl ws H1) {k : Nat} {q : Nat × va_E} (hk : ws[k]? = some q) : q.1 < H1.size := (h k q hk).lt
end VXS
/-! ===== END ===== -/
/-! ===== BEGIN methods with a table of their own: called by a name, returning or throwing ===== -/
section VXH
/-! vx_backW, vx_callVX, vx_callSX, vx_callVW, vx_runVW, vx_runVX, vx_runSX, vx_ofWH follow the same proofs as their sisters above (Free/Laws.lean, Shelf42/LK1.lean); vx_outP calls Shelf42/NT130.lean (outThrough). -/
section
variable {l : Launch} {R : Room} {p : Program} {e : Env} {below : List Frame} {s : State} {sargs : Array Value} {y : MethodName} {len W9 : Nat}
theorem vx_backW {ws : List Cond} {rm : Room} {Pc : Array Value → State → Prop} {Qc : Array Value → State → Outcome → State → Prop} {XC : String → State → State → Prop} {mc ms : Nat} {free : Addr → Prop} {bytes : ByteArray} {maxL : Nat} {ret : Option FieldType} {hh : List (Nat × Nat × Nat × Nat)}
    (hM : vx_Met l y ws rm Pc Qc XC mc ms free) (hblind : FrameBlind Pc) (hrc : rm.cells = mc) (hrs : rm.slots = ms)
    (hframes : rm.frames + 1 ≤ R.frames) (hlocals : W9 + (maxL + 11) + rm.locals ≤ R.locals)
    (hws : ∀ w ∈ ws, ∀ a' U, s.WarmedH U.vm → w.before a' U = true) (hcode : Cond.codeWith y bytes maxL ret hh ∈ ws) (hinit : ∀ a' U, s.WarmedH U.vm → (Cond.initialized y.cls).before a' U = true) :
    vx_Back l R p e below s sargs y len W9 (PreOf R mc ms Pc) (PostOf Qc mc ms free) (vx_Post XC mc ms free) := by
  intro m meth c A g ig mk a X hg hsize hdg hW hn hp
  have h1 : (headSpec ws rm).pre.before a A.U = true := atoms_intro fun w hw => hws w hw _ _ X.warmed
  have h2 : (Cond.codeWith y bytes maxL ret hh).before a A.U = true := hws _ hcode _ _ X.warmed
  have h3 : (Cond.initialized y.cls).before a A.U = true := hinit _ _ X.warmed
  have h4 : A.cells + (headSpec ws rm).room.cells ≤ R.cells := by rw [show (headSpec ws rm).room.cells = mc from hrc]; exact hp.1
  have h5 : A.slots + (headSpec ws rm).room.slots ≤ R.slots := by rw [show (headSpec ws rm).room.slots = ms from hrs]; exact hp.2.1
  have hPc : Pc a (A.U.calling g mk a) := hblind _ _ _ _ hp.2.2
  obtain ⟨U, Ls, c0, s0⟩ := A
  dsimp only [Pt.U, Pt.locs, Pt.cells, Pt.slots] at h1 h2 h3 h4 h5 X hn hPc ⊢
  obtain ⟨m9, methY, cY, hn9, hmY, hcY, -, hlY, -⟩ := Cond.codeWith_spec h2
  cases Option.some.inj (hn9.symm.trans hn)
  obtain ⟨kY, hkY, -⟩ := className_of_methodNamed hn
  have hinitY : kY.init = .initialized := Cond.initialized_spec (findClass_of_methodNamed hn) hkY h3
  have h : At U g.method c below := by rw [hg]; exact X.here
  have hlocals9 : W9 + (maxL + 11) + (headSpec ws rm).room.locals ≤ R.locals := hlocals
  have happ : (headSpec ws rm).appliesLoose y e.platform (U.calling g mk a) = true :=
    Spec.appliesLoose_calling (g := g) h hdg hn hkY hinitY
      (X.room_calling (g := g) (R' := (headSpec ws rm).room) hsize hmY hcY hframes (by rw [hlY]; omega) h4 h5) h1
  obtain ⟨mid, hmid⟩ := h.above
  have hfr : (U.setTop g).frames = (.java g :: mid) ++ below := by rw [State.frames_setTop' g h.top, hmid]; rfl
  obtain ⟨o, s₂, hsteps, -, hend, hq⟩ := Steps.callFree hM p X.admits X.cas X.clock (acts := []) hfr happ hPc trivial
  have hq' : vx_Q Qc XC mc ms free a (U.calling g mk a) o s₂ := hq
  rw [State.frames_setTop' g h.top] at hend
  obtain ⟨g₀, hg0⟩ := Option.isSome_iff_exists.mp h.top
  obtain ⟨r, hr⟩ := State.topJava?_eq_some.mp hg0
  have hr' : (({ U with heap := s₂.heap, slotsUsed := s₂.slotsUsed } : State).setVm s₂.vm).frames = .java g₀ :: r := hr
  rcases hq' with ⟨hqc, L, hfe, hL⟩ | ⟨q, rfl, E, ce, L, hx, hce, hcv, hcl, hW₂, hsm, hL⟩
  · obtain ⟨⟨v, rfl⟩, hW₂, e2, q2, q3, q4, q5, q6⟩ := id hfe
    have e3 : s₂ = ({ (U.calling g mk a).setFrames s₂.frames with heap := s₂.heap, slotsUsed := s₂.slotsUsed } : State).setVm s₂.vm := by
      have : s₂ = ({ s₂ with vm := (U.calling g mk a).vm } : State).setVm s₂.vm := rfl
      rw [e2] at this
      exact this
    obtain ⟨c₂, i₂, len₂, hc₂, hd₂, hf₂⟩ := hend
    have hW' : U.WarmedH s₂.vm := hW₂
    have hcc : c₂ = c := by
      have h1 : s₂.code? g.method = U.code? g.method := by
        rw [State.code?_eq, State.code?_eq, hW'.alike.method?]
      exact Option.some.inj (hc₂.symm.trans (h1.trans h.code))
    subst hcc
    have hlen : len₂ = len := by rw [hdg] at hd₂; cases hd₂; rfl
    subst hlen
    have hs₂ : s₂ = (({ U with heap := s₂.heap, slotsUsed := s₂.slotsUsed } : State).setVm s₂.vm).setTop { g with pc := g.pc + len₂, stack := v.toList ++ g.stack } := by
      refine e3.trans ?_
      rw [hf₂, State.calling_eq h.top, State.setFrames_setFrames, State.setTop_of_frames _ hr', hr]
      rfl
    have hsame : U.sameButNew ({ U with heap := s₂.heap, slotsUsed := s₂.slotsUsed } : State) L mc ms := by
      refine ⟨?_, q2, q3, q4, q5, q6⟩
      obtain ⟨t, ht, -⟩ := State.frames_cons hr
      show ({ U with heap := s₂.heap, slotsUsed := s₂.slotsUsed } : State) = { U.setFrames U.frames with heap := s₂.heap, slotsUsed := s₂.slotsUsed }
      rw [State.setFrames_self ht]
    subst hg
    refine Or.inl ⟨v, ⟨(({ U with heap := s₂.heap, slotsUsed := s₂.slotsUsed } : State).setVm s₂.vm), Ls ++ L, c0 + mc, s0 + ms⟩,
      ⟨X.admits, X.cas, X.clock, X.frames, X.room, X.hears, X.method, X.code, (X.here.setHeapUsed s₂.heap s₂.slotsUsed).setVm hW'.alike, X.tail, State.WarmedH.trans X.warmed hW', X.limits, X.bytes, X.same.trans (hsame.setVm s.vm)⟩,
      ⟨g, mk, s₂, L, rfl, rfl, hqc, rfl, hL, rfl, rfl⟩, ?_⟩
    show Steps p.tables e below _ ((({ U with heap := s₂.heap, slotsUsed := s₂.slotsUsed } : State).setVm s₂.vm).setTop { g with pc := g.pc + len₂, stack := v.toList ++ g.stack })
    rw [← hs₂]
    exact hsteps
  · obtain ⟨e2, q2, q3, q4, q5, q6⟩ := id hsm
    have e3 : s₂ = ({ (U.calling g mk a).setFrames s₂.frames with heap := s₂.heap, slotsUsed := s₂.slotsUsed } : State).setVm s₂.vm := by
      have : s₂ = ({ s₂ with vm := (U.calling g mk a).vm } : State).setVm s₂.vm := rfl
      rw [e2] at this
      exact this
    have hf₂ : s₂.frames = .throwing q :: .java g :: U.frames.tail := hend
    have hW' : U.WarmedH s₂.vm := hW₂
    have hs₂ : s₂ = ((({ U with heap := s₂.heap, slotsUsed := s₂.slotsUsed } : State).setVm s₂.vm).setTop g).pushFrame (.throwing q) := by
      refine e3.trans ?_
      rw [hf₂, State.calling_eq h.top, State.setFrames_setFrames, State.pushFrame, State.frames_setTop _ hr', State.setTop_of_frames _ hr', State.setFrames_setFrames, hr]
      rfl
    have hsame : U.sameButNew ({ U with heap := s₂.heap, slotsUsed := s₂.slotsUsed } : State) L mc ms := by
      refine ⟨?_, q2, q3, q4, q5, q6⟩
      obtain ⟨t, ht, -⟩ := State.frames_cons hr
      show ({ U with heap := s₂.heap, slotsUsed := s₂.slotsUsed } : State) = { U.setFrames U.frames with heap := s₂.heap, slotsUsed := s₂.slotsUsed }
      rw [State.setFrames_self ht]
    subst hg
    refine Or.inr ⟨q, ⟨(({ U with heap := s₂.heap, slotsUsed := s₂.slotsUsed } : State).setVm s₂.vm), Ls ++ L, c0 + mc, s0 + ms⟩,
      ⟨X.admits, X.cas, X.clock, X.frames, X.room, X.hears, X.method, X.code, (X.here.setHeapUsed s₂.heap s₂.slotsUsed).setVm hW'.alike, X.tail, State.WarmedH.trans X.warmed hW', X.limits, X.bytes, X.same.trans (hsame.setVm s.vm)⟩,
      ⟨g, mk, s₂, L, E, ce, rfl, rfl, hx, hce, hcv, hcl, rfl, hL, rfl, rfl⟩, ?_⟩
    show Steps p.tables e below _ (((({ U with heap := s₂.heap, slotsUsed := s₂.slotsUsed } : State).setVm s₂.vm).setTop g).pushFrame (.throwing q))
    rw [← hs₂]
    exact hsteps
end
variable {p : Program} {l : Launch} {e : Env} {R : Room} {s : State} {m : MethodId} {args : Array Value} {below : List Frame} {meth : Method} {c : Code} {T : State} {H : Heap} {locs : List Loc} {cells slots : Nat}
theorem vx_callVX (X : Stand p l e R s m args below meth c T locs cells slots) (hexec : p.tables.exec = Jvm.exec) {own C : String} {index : Nat} {y : MethodName} {bytes : ByteArray} {maxL : Nat} {ret : Option FieldType} {hh : List (Nat × Nat × Nat × Nat)}
    (hown : s.vm.findClass own = some m.cls) (hlink : (Cond.methodLink own index y).before args s = true) (hinst : (Cond.instanceMethod y).before args s = true) (hsel : (Cond.selects C y y).before args s = true)
    (hcode : (Cond.codeWith y bytes maxL ret hh).before args s = true) (hy : y.cls ≠ "java/lang/invoke/MethodHandle" ∧ y.cls ≠ "java/lang/invoke/VarHandle")
    {W9 : Nat} {Pre : Pt → Array Value → Prop} {Post : Pt → Array Value → Option Value → Pt → Prop} {PostX : Pt → Array Value → Addr → Pt → Prop} (hK : vx_Back l R p e below s args y 3 W9 Pre Post PostX)
    {b : Addr} {cellB : Cell} (hcell : T.heap[b]? = some cellB) (hobj : cellB.vm.isStatics = false) (hcls : s.vm.findClass C = some cellB.cls)
    {g : JFrame} (hg : g.method = m) (hsize : g.locals.size = c.maxLocals) {argsL rest : List Value} (hlen : ∀ sig, parseMethodDescriptor y.desc = some sig → argsL.length = sig.parameters.length)
    (hstack : g.stack = argsL.reverse ++ .ref b :: rest) (hW : 2 * g.monitorRoom + (rest.map fun v => v.category).sum ≤ W9) (hdg : decode c.code g.pc = .ok (.invokevirtual index, 3))
    (hpre : ∀ vm₁, s.WarmedH vm₁ → Pre ⟨T.setVm vm₁, locs, cells, slots⟩ (Value.ref b :: argsL).toArray) :
    (∃ (v : Option Value) (vm₁ : Vm) (B : Pt), s.WarmedH vm₁ ∧ Stand p l e R s m args below meth c B.U B.locs B.cells B.slots ∧ Post ⟨T.setVm vm₁, locs, cells, slots⟩ (Value.ref b :: argsL).toArray v B ∧
      ∀ target, Steps p.tables e below (B.U.setTop { g with pc := g.pc + 3, stack := v.toList ++ rest }) target → Steps p.tables e below (T.setTop g) target) ∨
    (∃ (q : Addr) (vm₁ : Vm) (B : Pt), s.WarmedH vm₁ ∧ Stand p l e R s m args below meth c B.U B.locs B.cells B.slots ∧ PostX ⟨T.setVm vm₁, locs, cells, slots⟩ (Value.ref b :: argsL).toArray q B ∧
      Steps p.tables e below (T.setTop g) ((B.U.setTop { g with stack := rest }).pushFrame (.throwing q))) := by
  obtain ⟨mk, methM, hnamed, hmethM, hstM, habM⟩ := Cond.instanceMethod_spec hinst
  obtain ⟨m8, methM', cM, hn8, hmethM', -, -, -, -, -, -, hsigM⟩ := Cond.codeWith_spec hcode
  cases Option.some.inj (hn8.symm.trans hnamed)
  cases hmethM.symm.trans hmethM'
  obtain ⟨c2, r2, m2, q1, q2, q3, q4, kP, hkP, hkPi⟩ := Cond.selects_spec hsel
  cases hcls.symm.trans q1
  cases (State.methodFound?_of_named hnamed hy).symm.trans q2
  cases hnamed.symm.trans q3
  have hselP : selectMethod e.platform s.vm cellB.cls mk = .method mk := by rw [Launch.admits_selectMethod X.admits]; exact q4
  obtain ⟨vm₁, X₁, hstep₁⟩ := X.invokevirtual hexec hown hlink hnamed hmethM hstM hkP hkPi hy (a := b) (cell := cellB) hcell
    (fun z h => by rw [h] at hobj; cases hobj) hselP hmethM habM hkP hkPi (g := g) hg (argsL := argsL) (rest := rest) (hlen _ hsigM) hstack hdg
  rcases hK m meth c ⟨T.setVm vm₁, locs, cells, slots⟩ { g with stack := rest } (.invokevirtual index) mk (Value.ref b :: argsL).toArray X₁ hg hsize hdg hW (X₁.named hnamed) (hpre vm₁ X₁.warmed) with ⟨v, B, X', hpost, hsteps⟩ | ⟨q, B, X', hpost, hsteps⟩
  · exact Or.inl ⟨v, vm₁, B, X₁.warmed, X', hpost, fun target h => hstep₁ _ fun acts => by rw [doInvoke_state]; exact hsteps.trans h⟩
  · exact Or.inr ⟨q, vm₁, B, X₁.warmed, X', hpost, hstep₁ _ fun acts => by rw [doInvoke_state]; exact hsteps⟩
theorem vx_callSX (X : Stand p l e R s m args below meth c T locs cells slots) (hexec : p.tables.exec = Jvm.exec) {own : String} {index : Nat} {y : MethodName} {bytes : ByteArray} {maxL : Nat} {ret : Option FieldType} {hh : List (Nat × Nat × Nat × Nat)}
    (hown : s.vm.findClass own = some m.cls) (hlink : (Cond.methodLink own index y).before args s = true) (hstat : (Cond.static y).before args s = true) (hinit : (Cond.initialized y.cls).before args s = true)
    (hcode : (Cond.codeWith y bytes maxL ret hh).before args s = true) (hy : y.cls ≠ "java/lang/invoke/MethodHandle" ∧ y.cls ≠ "java/lang/invoke/VarHandle")
    {W9 : Nat} {Pre : Pt → Array Value → Prop} {Post : Pt → Array Value → Option Value → Pt → Prop} {PostX : Pt → Array Value → Addr → Pt → Prop} (hK : vx_Back l R p e below s args y 3 W9 Pre Post PostX)
    {g : JFrame} (hg : g.method = m) (hsize : g.locals.size = c.maxLocals) {argsL rest : List Value} (hlen : ∀ sig, parseMethodDescriptor y.desc = some sig → argsL.length = sig.parameters.length)
    (hstack : g.stack = argsL.reverse ++ rest) (hW : 2 * g.monitorRoom + (rest.map fun v => v.category).sum ≤ W9) (hdg : decode c.code g.pc = .ok (.invokestatic index, 3))
    (hpre : ∀ vm₁, s.WarmedH vm₁ → Pre ⟨T.setVm vm₁, locs, cells, slots⟩ argsL.toArray) :
    (∃ (v : Option Value) (vm₁ : Vm) (B : Pt), s.WarmedH vm₁ ∧ Stand p l e R s m args below meth c B.U B.locs B.cells B.slots ∧ Post ⟨T.setVm vm₁, locs, cells, slots⟩ argsL.toArray v B ∧
      ∀ target, Steps p.tables e below (B.U.setTop { g with pc := g.pc + 3, stack := v.toList ++ rest }) target → Steps p.tables e below (T.setTop g) target) ∨
    (∃ (q : Addr) (vm₁ : Vm) (B : Pt), s.WarmedH vm₁ ∧ Stand p l e R s m args below meth c B.U B.locs B.cells B.slots ∧ PostX ⟨T.setVm vm₁, locs, cells, slots⟩ argsL.toArray q B ∧
      Steps p.tables e below (T.setTop g) ((B.U.setTop { g with stack := rest }).pushFrame (.throwing q))) := by
  obtain ⟨mk, methM, cM, hnamed, hmethM, -, -, -, -, -, -, hsigM⟩ := Cond.codeWith_spec hcode
  have hstatic : methM.isStatic = true := Cond.static_spec hnamed hmethM hstat
  obtain ⟨kP, hkP, -⟩ := className_of_methodNamed hnamed
  have hinitP : kP.init = .initialized := Cond.initialized_spec (findClass_of_methodNamed hnamed) hkP hinit
  obtain ⟨vm₁, X₁, hstep₁⟩ := X.invokestatic hexec hown hlink hnamed hmethM hstatic hkP hinitP hy (g := g) hg (argsL := argsL) (rest := rest) (hlen _ hsigM) hstack hdg
  rcases hK m meth c ⟨T.setVm vm₁, locs, cells, slots⟩ { g with stack := rest } (.invokestatic index) mk argsL.toArray X₁ hg hsize hdg hW (X₁.named hnamed) (hpre vm₁ X₁.warmed) with ⟨v, B, X', hpost, hsteps⟩ | ⟨q, B, X', hpost, hsteps⟩
  · exact Or.inl ⟨v, vm₁, B, X₁.warmed, X', hpost, fun target h => hstep₁ _ fun acts => by rw [doInvoke_state]; exact hsteps.trans h⟩
  · exact Or.inr ⟨q, vm₁, B, X₁.warmed, X', hpost, hstep₁ _ fun acts => by rw [doInvoke_state]; exact hsteps⟩
theorem vx_callVW (X : Stand p l e R s m args below meth c T locs cells slots) (hexec : p.tables.exec = Jvm.exec) {own C : String} {index : Nat} {y : MethodName} {bytes : ByteArray} {maxL : Nat} {ret : Option FieldType} {hh : List (Nat × Nat × Nat × Nat)}
    (hown : s.vm.findClass own = some m.cls) (hlink : (Cond.methodLink own index y).before args s = true) (hinst : (Cond.instanceMethod y).before args s = true) (hsel : (Cond.selects C y y).before args s = true)
    (hcode : (Cond.codeWith y bytes maxL ret hh).before args s = true) (hy : y.cls ≠ "java/lang/invoke/MethodHandle" ∧ y.cls ≠ "java/lang/invoke/VarHandle")
    {W9 : Nat} {Pre : Pt → Array Value → Prop} {Post : Pt → Array Value → Option Value → Pt → Prop} (hK : Back l R p e below s args y 3 W9 Pre Post)
    {b : Addr} {cellB : Cell} (hcell : T.heap[b]? = some cellB) (hobj : cellB.vm.isStatics = false) (hcls : s.vm.findClass C = some cellB.cls)
    {g : JFrame} (hg : g.method = m) (hsize : g.locals.size = c.maxLocals) {argsL rest : List Value} (hlen : ∀ sig, parseMethodDescriptor y.desc = some sig → argsL.length = sig.parameters.length)
    (hstack : g.stack = argsL.reverse ++ .ref b :: rest) (hW : 2 * g.monitorRoom + (rest.map fun v => v.category).sum ≤ W9) (hdg : decode c.code g.pc = .ok (.invokevirtual index, 3))
    (hpre : ∀ vm₁, s.WarmedH vm₁ → Pre ⟨T.setVm vm₁, locs, cells, slots⟩ (Value.ref b :: argsL).toArray) :
    ∃ (v : Option Value) (vm₁ : Vm) (B : Pt), s.WarmedH vm₁ ∧ Stand p l e R s m args below meth c B.U B.locs B.cells B.slots ∧ Post ⟨T.setVm vm₁, locs, cells, slots⟩ (Value.ref b :: argsL).toArray v B ∧
      ∀ target, Steps p.tables e below (B.U.setTop { g with pc := g.pc + 3, stack := v.toList ++ rest }) target → Steps p.tables e below (T.setTop g) target := by
  obtain ⟨mk, methM, hnamed, hmethM, hstM, habM⟩ := Cond.instanceMethod_spec hinst
  obtain ⟨m8, methM', cM, hn8, hmethM', -, -, -, -, -, -, hsigM⟩ := Cond.codeWith_spec hcode
  cases Option.some.inj (hn8.symm.trans hnamed)
  cases hmethM.symm.trans hmethM'
  obtain ⟨c2, r2, m2, q1, q2, q3, q4, kP, hkP, hkPi⟩ := Cond.selects_spec hsel
  cases hcls.symm.trans q1
  cases (State.methodFound?_of_named hnamed hy).symm.trans q2
  cases hnamed.symm.trans q3
  have hselP : selectMethod e.platform s.vm cellB.cls mk = .method mk := by rw [Launch.admits_selectMethod X.admits]; exact q4
  obtain ⟨vm₁, X₁, hstep₁⟩ := X.invokevirtual hexec hown hlink hnamed hmethM hstM hkP hkPi hy (a := b) (cell := cellB) hcell
    (fun z h => by rw [h] at hobj; cases hobj) hselP hmethM habM hkP hkPi (g := g) hg (argsL := argsL) (rest := rest) (hlen _ hsigM) hstack hdg
  obtain ⟨v, B, X', hpost, hsteps⟩ := hK m meth c ⟨T.setVm vm₁, locs, cells, slots⟩ { g with stack := rest } (.invokevirtual index) mk (Value.ref b :: argsL).toArray X₁ hg hsize hdg hW (X₁.named hnamed) (hpre vm₁ X₁.warmed)
  exact ⟨v, vm₁, B, X₁.warmed, X', hpost, fun target h => hstep₁ _ fun acts => by rw [doInvoke_state]; exact hsteps.trans h⟩
abbrev vx_CVW (R : Room) (s : State) (args : Array Value) (own C : String) (index : Nat) (y : MethodName) (bytes : ByteArray) (maxL : Nat) (ret : Option FieldType) (hh : List (Nat × Nat × Nat × Nat)) (ws : List Cond) (rm : Room) (mc ms n : Nat) : Prop :=
  (rm.cells = mc ∧ rm.slots = ms ∧ rm.frames + 1 ≤ R.frames ∧ 8 + (maxL + 11) + rm.locals ≤ R.locals ∧ (∀ w ∈ ws, ∀ (a' : Array Value) (U : State), s.WarmedH U.vm → w.before a' U = true) ∧ Cond.codeWith y bytes maxL ret hh ∈ ws) ∧
  (Cond.codeWith y bytes maxL ret hh).before args s = true ∧ (Cond.initialized y.cls).before args s = true ∧ (y.cls ≠ "java/lang/invoke/MethodHandle" ∧ y.cls ≠ "java/lang/invoke/VarHandle") ∧
  (∀ sig, parseMethodDescriptor y.desc = some sig → n = sig.parameters.length) ∧ (Cond.methodLink own index y).before args s = true ∧ (Cond.instanceMethod y).before args s = true ∧ (Cond.selects C y y).before args s = true
theorem vx_cwVW {own C : String} {index maxL mc ms : Nat} {y : MethodName} {bytes : ByteArray} {ret : Option FieldType} {hh : List (Nat × Nat × Nat × Nat)} {Ts ws ws' : List Cond} {rm : Room} (n : Nat) (ht : ∀ w ∈ Ts, w.before args s = true) (hT : GoodIn Ts (wsV own index C y ws)) (hw : ws = Cond.codeWith y bytes maxL ret hh :: ws') (hrc : rm.cells = mc) (hrs : rm.slots = ms)
    (hd : y.cls = C ∧ y.cls ≠ "java/lang/invoke/MethodHandle" ∧ y.cls ≠ "java/lang/invoke/VarHandle" ∧ (parseMethodDescriptor y.desc).map (fun d => d.parameters.length) = some n) (hR : rm.frames + 1 ≤ R.frames ∧ 8 + (maxL + 11) + rm.locals ≤ R.locals) :
    vx_CVW R s args own C index y bytes maxL ret hh ws rm mc ms n := by
  obtain ⟨hC, hd⟩ := hd
  subst hC
  have ok : ∀ w ∈ wsV own index y.cls y ws, w.before args s = true := fun w h => ht w (hT w h).1
  have hG : GoodIn Ts ws := fun w h => hT w (by unfold wsV; exact List.mem_append_right _ h)
  have hc : Cond.codeWith y bytes maxL ret hh ∈ ws := by rw [hw]; exact List.mem_cons_self
  refine ⟨⟨hrc, hrs, hR.1, hR.2, pay_in ht hG, hc⟩, ht _ (hG _ hc).1, ok _ (by simp [wsV]), ⟨hd.1, hd.2.1⟩, fun sig h => ?_, ok _ (by simp [wsV]), ok _ (by simp [wsV]), ok _ (by simp [wsV])⟩
  have h2 := hd.2.2
  rw [h] at h2
  exact (Option.some.inj h2).symm
theorem vx_runVW {y : MethodName} {bytes cc : ByteArray} {maxL nL mc ms n index : Nat} {ret : Option FieldType} {hh : List (Nat × Nat × Nat × Nat)} {ws : List Cond} {rm : Room} {Pc : Array Value → State → Prop} {Qc : Array Value → State → Outcome → State → Prop} {free : Addr → Prop} {Ts : List Cond} {own C : String} {b : Addr} {As rest : List Value} {g : JFrame}
    (S : CallFix p m c cc nL s args Ts own) (hM : Met l y ws rm Pc Qc mc ms free) (cw : vx_CVW R s args own C index y bytes maxL ret hh ws rm mc ms n) (hp : PreV s H C b Pc As)
    (hg : g.method = m) (hn : As.length = n) (hsize : g.locals.size = nL) (hstack : g.stack = As.reverse ++ .ref b :: rest) (hW : 2 * g.monitorRoom + (rest.map fun v => v.category).sum ≤ 8) (hdg : decode cc g.pc = .ok (.invokevirtual index, 3)) (hf : cells + mc ≤ R.cells ∧ slots + ms ≤ R.slots) :
    va_Run p l e R s m args below meth c H locs cells slots mc ms g rest (Qc (Value.ref b :: As).toArray) free := by
  obtain ⟨⟨hrc, hrs, hfr, hlo, hws, hcw⟩, hcode, hini, hy, hlen, hl, hin, hse⟩ := cw
  have hK : Back l R p e below s args y 3 8 (PreOf R mc ms Pc) (PostOf Qc mc ms free) := va_backW (hh := hh) (bytes := bytes) (maxL := maxL) (ret := ret) hM hp.1 hrc hrs hfr hlo hws hcw (fun a' U hW => word_at hW (Or.inl (by first | rfl | simp [Cond.onTables, Cond.keeps, Cond.steady])) hini)
  obtain ⟨hx, hb, hml, ho, -⟩ := S
  obtain ⟨-, ⟨cellB, hcB, hoB, hclB⟩, hPc⟩ := hp
  intro T hT X
  obtain ⟨v, vm₁, ⟨U', l2, c2, s2⟩, hW₁, X', ⟨g', mk, t, L, e1, e2, hq, h1, hL, h2, h3⟩, st⟩ := vx_callVW X hx (C := C) (hh := hh) (bytes := bytes) (maxL := maxL) (ret := ret) ho hl hin hse hcode hy hK (by rw [hT]; exact hcB) hoB hclB hg (hsize.trans hml.symm) (argsL := As) (rest := rest) (fun sig h => hn.trans (hlen sig h)) hstack hW (by rw [hb]; exact hdg)
    (fun vm₁ hW₁ => ⟨hf.1, hf.2, hPc (T.setVm vm₁) hT hW₁⟩)
  dsimp only [Pt.U, Pt.locs, Pt.cells, Pt.slots] at X' e1 e2 h1 h2 h3 st
  subst h1; subst h2; subst h3
  exact ⟨v, (T.setVm vm₁).calling g' mk (Value.ref b :: As).toArray, t, U', L, hT, X', hL, e1, e2, hq, st⟩
section
variable {y : MethodName} {bytes cc : ByteArray} {maxL nL mc ms n index : Nat} {ret : Option FieldType} {ws : List Cond} {rm : Room} {Pc : Array Value → State → Prop} {Qc : Array Value → State → Outcome → State → Prop} {XC : String → State → State → Prop} {free : Addr → Prop} {Ts : List Cond} {own C : String} {b : Addr} {As rest : List Value} {g : JFrame}
theorem vx_runVX {hh : List (Nat × Nat × Nat × Nat)} (S : CallFix p m c cc nL s args Ts own) (hM : vx_Met l y ws rm Pc Qc XC mc ms free) (cw : vx_CVW R s args own C index y bytes maxL ret hh ws rm mc ms n) (hp : PreV s H C b Pc As)
    (hg : g.method = m) (hn : As.length = n) (hsize : g.locals.size = nL) (hstack : g.stack = As.reverse ++ .ref b :: rest) (hW : 2 * g.monitorRoom + (rest.map fun v => v.category).sum ≤ 8) (hdg : decode cc g.pc = .ok (.invokevirtual index, 3)) (hf : cells + mc ≤ R.cells ∧ slots + ms ≤ R.slots) :
    vx_Run p l e R s m args below meth c H locs cells slots mc ms g rest (Qc (Value.ref b :: As).toArray) XC free := by
  obtain ⟨⟨hrc, hrs, hfr, hlo, hws, hcw⟩, hcode, hini, hy, hlen, hl, hin, hse⟩ := cw
  have hK : vx_Back l R p e below s args y 3 8 (PreOf R mc ms Pc) (PostOf Qc mc ms free) (vx_Post XC mc ms free) := vx_backW (hh := hh) (bytes := bytes) (maxL := maxL) (ret := ret) hM hp.1 hrc hrs hfr hlo hws hcw (fun a' U hW => word_at hW (Or.inl (by first | rfl | simp [Cond.onTables, Cond.keeps, Cond.steady])) hini)
  obtain ⟨hx, hb, hml, ho, -⟩ := S
  obtain ⟨-, ⟨cellB, hcB, hoB, hclB⟩, hPc⟩ := hp
  intro T hT X
  rcases vx_callVX X hx (C := C) (hh := hh) (bytes := bytes) (maxL := maxL) (ret := ret) ho hl hin hse hcode hy hK (by rw [hT]; exact hcB) hoB hclB hg (hsize.trans hml.symm) (argsL := As) (rest := rest) (fun sig h => hn.trans (hlen sig h)) hstack hW (by rw [hb]; exact hdg)
    (fun vm₁ hW₁ => ⟨hf.1, hf.2, hPc (T.setVm vm₁) hT hW₁⟩) with ⟨v, vm₁, ⟨U', l2, c2, s2⟩, hW₁, X', ⟨g', mk, t, L, e1, e2, hq, h1, hL, h2, h3⟩, st⟩ | ⟨q, vm₁, ⟨U', l2, c2, s2⟩, hW₁, X', ⟨g', mk, t, L, E, ce, e1, e2, hq, hce, hcv, hcl, h1, hL, h2, h3⟩, st⟩
  · dsimp only [Pt.U, Pt.locs, Pt.cells, Pt.slots] at X' e1 e2 h1 h2 h3 st
    subst h1; subst h2; subst h3
    exact Or.inl ⟨v, (T.setVm vm₁).calling g' mk (Value.ref b :: As).toArray, t, U', L, hT, X', hL, e1, e2, hq, st⟩
  · dsimp only [Pt.U, Pt.locs, Pt.cells, Pt.slots] at X' e1 e2 h1 h2 h3 st hcl
    subst h1; subst h2; subst h3
    exact Or.inr ⟨q, (T.setVm vm₁).calling g' mk (Value.ref b :: As).toArray, t, U', L, E, ce, hT, X', hL, e1, e2, hq, hce, hcv, vx_cls hW₁ hcl, st⟩
theorem vx_runSX {hh : List (Nat × Nat × Nat × Nat)} (S : CallFix p m c cc nL s args Ts own) (hM : vx_Met l y ws rm Pc Qc XC mc ms free) (cw : vx_CSW R s args own index y bytes maxL ret hh ws rm mc ms n) (hp : PreS s H Pc As)
    (hg : g.method = m) (hn : As.length = n) (hsize : g.locals.size = nL) (hstack : g.stack = As.reverse ++ rest) (hW : 2 * g.monitorRoom + (rest.map fun v => v.category).sum ≤ 8) (hdg : decode cc g.pc = .ok (.invokestatic index, 3)) (hf : cells + mc ≤ R.cells ∧ slots + ms ≤ R.slots) :
    vx_Run p l e R s m args below meth c H locs cells slots mc ms g rest (Qc As.toArray) XC free := by
  obtain ⟨⟨hrc, hrs, hfr, hlo, hws, hcw⟩, hcode, hini, hy, hlen, hl, hstt⟩ := cw
  have hK : vx_Back l R p e below s args y 3 8 (PreOf R mc ms Pc) (PostOf Qc mc ms free) (vx_Post XC mc ms free) := vx_backW (hh := hh) (bytes := bytes) (maxL := maxL) (ret := ret) hM hp.1 hrc hrs hfr hlo hws hcw (fun a' U hW => word_at hW (Or.inl (by first | rfl | simp [Cond.onTables, Cond.keeps, Cond.steady])) hini)
  obtain ⟨hx, hb, hml, ho, -⟩ := S
  intro T hT X
  rcases vx_callSX X hx (hh := hh) (bytes := bytes) (maxL := maxL) (ret := ret) ho hl hstt hini hcode hy hK hg (hsize.trans hml.symm) (argsL := As) (rest := rest) (fun sig h => hn.trans (hlen sig h)) hstack hW (by rw [hb]; exact hdg)
    (fun vm₁ hW₁ => ⟨hf.1, hf.2, hp.2 (T.setVm vm₁) hT hW₁⟩) with ⟨v, vm₁, ⟨U', l2, c2, s2⟩, hW₁, X', ⟨g', mk, t, L, e1, e2, hq, h1, hL, h2, h3⟩, st⟩ | ⟨q, vm₁, ⟨U', l2, c2, s2⟩, hW₁, X', ⟨g', mk, t, L, E, ce, e1, e2, hq, hce, hcv, hcl, h1, hL, h2, h3⟩, st⟩
  · dsimp only [Pt.U, Pt.locs, Pt.cells, Pt.slots] at X' e1 e2 h1 h2 h3 st
    subst h1; subst h2; subst h3
    exact Or.inl ⟨v, (T.setVm vm₁).calling g' mk As.toArray, t, U', L, hT, X', hL, e1, e2, hq, st⟩
  · dsimp only [Pt.U, Pt.locs, Pt.cells, Pt.slots] at X' e1 e2 h1 h2 h3 st hcl
    subst h1; subst h2; subst h3
    exact Or.inr ⟨q, (T.setVm vm₁).calling g' mk As.toArray, t, U', L, E, ce, hT, X', hL, e1, e2, hq, hce, hcv, vx_cls hW₁ hcl, st⟩
end
end VXH
theorem vx_ofWH {l : Launch} {y : MethodName} {ws ws' : List Cond} {rm : Room} {Pc : Array Value → State → Prop} {Qc : Array Value → State → Outcome → State → Prop} {XC : String → State → State → Prop} {mc ms : Nat} {free : Addr → Prop} {cc : ByteArray} {maxL : Nat} {ret : Option FieldType} {hh : List (Nat × Nat × Nat × Nat)}
    (hy : plainName y.cls = true) (hw : ws = Cond.codeWith y cc maxL ret hh :: ws')
    (body : ∀ p e s m args below meth c s₁, BodyLoose p l y (headSpec ws rm) cc maxL ret e s m args below meth c s₁ → c.maxLocals = maxL → Pc args s →
      W p l e (headSpec ws rm).room s m args below meth c s.heap [] 0 0 (vx_MQ below Qc XC args s mc ms free) (entryFrame m args maxL)) : vx_Met l y ws rm Pc Qc XC mc ms free := by
  refine MetFree.of_bodyS (code := cc) (maxLocals := maxL) (ret := ret) hy ?_ ?_
  · intro args s m h hn
    obtain ⟨m9, meth, c, hn9, h1, h2, h3, h4, -, h5, h6, -⟩ := Cond.codeWith_spec (atoms_spec (ws := ws) h _ (by rw [hw]; exact List.mem_cons_self))
    cases hn.symm.trans hn9
    exact ⟨meth, c, h1, h2, h3, h4, h5, h6⟩
  · intro p e s m args below meth c s₁ B hml hP _
    have hh0 : s₁.heap = s.heap := by rw [B.state]; rfl
    obtain ⟨t, a1, o, b1, b2, b3⟩ := body p e s m args below meth c s₁ B hml hP s₁ hh0 (Stand.of_body B)
    exact ⟨t, o, a1, b1, b2, b3⟩
/-! ===== END ===== -/
end
section
/-! ===== BEGIN printed: names, fields, word lists, decode rows ===== -/
def RX0 : String := "TiedFrame$Cloth"
def TX0 : u_T := fun k => match k with
  | 0 => ("TiedFrame$Cloth", "threads", "I", false)
  | 1 => ("TiedFrame$Cloth", "places", "I", false)
  | 2 => ("TiedFrame$Cloth", "home", "[I", true)
  | 3 => ("TiedFrame$Cloth", "crowd", "[I", true)
  | 4 => ("TiedFrame$Cloth", "folded", "[Z", true)
  | 5 => ("TiedFrame$Cloth", "knots", "[I", true)
  | _ => ("TiedFrame$Cloth", "colours", "[[I", true)
def tyX0 : Nat → FieldType := fun k => match k with
  | 0 => .int
  | 1 => .int
  | 2 => .array .int
  | 3 => .array .int
  | 4 => .array .boolean
  | 5 => .array .int
  | _ => .array (.array .int)
abbrev wsX00 : List Cond := u_ws RX0 TX0 7
theorem nmX0 : ∀ a, a < 7 → ∀ b, b < 7 → a ≠ b → (TX0 a).2.1 ≠ (TX0 b).2.1 := by decide +kernel
theorem tyX0_ok : ∀ k, k < 7 → parseFieldDescriptor (TX0 k).2.2.1 = some (tyX0 k) := by decide +kernel
abbrev cX0_init : ByteArray := prog_2_method_1_code
def yX0_init : MethodName := ⟨RX0, "<init>", "()V"⟩
abbrev cX0_stretch : ByteArray := prog_2_method_2_code
def yX0_stretch : MethodName := ⟨RX0, "stretch", "(II)V"⟩
abbrev cX0_wash : ByteArray := prog_2_method_3_code
def yX0_wash : MethodName := ⟨RX0, "wash", "()V"⟩
abbrev cX0_move : ByteArray := prog_2_method_4_code
def yX0_move : MethodName := ⟨RX0, "move", "(II)V"⟩
abbrev cX0_setFolded : ByteArray := prog_2_method_5_code
def yX0_setFolded : MethodName := ⟨RX0, "setFolded", "(IZ)V"⟩
abbrev cX0_threads : ByteArray := prog_2_method_6_code
def yX0_threads : MethodName := ⟨RX0, "threads", "()I"⟩
abbrev cX0_places : ByteArray := prog_2_method_7_code
def yX0_places : MethodName := ⟨RX0, "places", "()I"⟩
abbrev cX0_bundleOf : ByteArray := prog_2_method_8_code
def yX0_bundleOf : MethodName := ⟨RX0, "bundleOf", "(I)I"⟩
abbrev cX0_threadsIn : ByteArray := prog_2_method_9_code
def yX0_threadsIn : MethodName := ⟨RX0, "threadsIn", "(I)I"⟩
abbrev cX0_isFolded : ByteArray := prog_2_method_10_code
def yX0_isFolded : MethodName := ⟨RX0, "isFolded", "(I)Z"⟩
abbrev cX0_isBound : ByteArray := prog_2_method_11_code
def yX0_isBound : MethodName := ⟨RX0, "isBound", "(II)Z"⟩
abbrev cX0_colourAt : ByteArray := prog_2_method_12_code
def yX0_colourAt : MethodName := ⟨RX0, "colourAt", "(II)I"⟩
abbrev cX0_freePlaces : ByteArray := prog_2_method_13_code
def yX0_freePlaces : MethodName := ⟨RX0, "freePlaces", "(I)I"⟩
abbrev cX0_underFold : ByteArray := prog_2_method_14_code
def yX0_underFold : MethodName := ⟨RX0, "underFold", "(II)I"⟩
abbrev cX0_reach : ByteArray := prog_2_method_15_code
def yX0_reach : MethodName := ⟨RX0, "reach", "(III)I"⟩
abbrev cX0_bind : ByteArray := prog_2_method_16_code
def yX0_bind : MethodName := ⟨RX0, "bind", "(III)I"⟩
abbrev cX0_loosen : ByteArray := prog_2_method_17_code
def yX0_loosen : MethodName := ⟨RX0, "loosen", "(III)I"⟩
abbrev cX0_bindAs : ByteArray := prog_2_method_18_code
def yX0_bindAs : MethodName := ⟨RX0, "bindAs", "(LTiedFrame$Plan;I)V"⟩
abbrev cX0_knotsOf : ByteArray := prog_2_method_19_code
def yX0_knotsOf : MethodName := ⟨RX0, "knotsOf", "(LTiedFrame$Plan;II)I"⟩
abbrev cX0_takesUp : ByteArray := prog_2_method_20_code
def yX0_takesUp : MethodName := ⟨RX0, "takesUp", "()I"⟩
abbrev cX0_wouldTakeUp : ByteArray := prog_2_method_21_code
def yX0_wouldTakeUp : MethodName := ⟨RX0, "wouldTakeUp", "(LTiedFrame$Plan;I)I"⟩
abbrev cX0_takenBy : ByteArray := prog_2_method_22_code
def yX0_takenBy : MethodName := ⟨RX0, "takenBy", "(II)I"⟩
abbrev cX0_dip : ByteArray := prog_2_method_23_code
def yX0_dip : MethodName := ⟨RX0, "dip", "(ILTiedFrame$Mixing;)V"⟩
abbrev cX0_coloursWorn : ByteArray := prog_2_method_24_code
def yX0_coloursWorn : MethodName := ⟨RX0, "coloursWorn", "()I"⟩
def RX1 : String := "TiedFrame$Laws"
def TX1 : u_T := fun k => match k with
  | 0 => ("TiedFrame$Laws", "days", "[I", true)
  | 1 => ("TiedFrame$Laws", "colours", "[I", true)
  | 2 => ("TiedFrame$Laws", "ranks", "[I", true)
  | _ => ("TiedFrame$Laws", "size", "I", false)
def tyX1 : Nat → FieldType := fun k => match k with
  | 0 => .array .int
  | 1 => .array .int
  | 2 => .array .int
  | _ => .int
abbrev wsX10 : List Cond := u_ws RX1 TX1 4
theorem nmX1 : ∀ a, a < 4 → ∀ b, b < 4 → a ≠ b → (TX1 a).2.1 ≠ (TX1 b).2.1 := by decide +kernel
theorem tyX1_ok : ∀ k, k < 4 → parseFieldDescriptor (TX1 k).2.2.1 = some (tyX1 k) := by decide +kernel
abbrev cX1_init : ByteArray := prog_3_method_1_code
def yX1_init : MethodName := ⟨RX1, "<init>", "()V"⟩
abbrev cX1_size : ByteArray := prog_3_method_2_code
def yX1_size : MethodName := ⟨RX1, "size", "()I"⟩
abbrev cX1_add : ByteArray := prog_3_method_3_code
def yX1_add : MethodName := ⟨RX1, "add", "(III)V"⟩
abbrev cX1_inForce : ByteArray := prog_3_method_4_code
def yX1_inForce : MethodName := ⟨RX1, "inForce", "(II)I"⟩
def RX2 : String := "TiedFrame$Mixing"
def TX2 : u_T := fun k => match k with
  | _ => ("TiedFrame$Mixing", "to", "[I", true)
def tyX2 : Nat → FieldType := fun k => match k with
  | _ => .array .int
abbrev wsX20 : List Cond := u_ws RX2 TX2 1
theorem nmX2 : ∀ a, a < 1 → ∀ b, b < 1 → a ≠ b → (TX2 a).2.1 ≠ (TX2 b).2.1 := by decide +kernel
theorem tyX2_ok : ∀ k, k < 1 → parseFieldDescriptor (TX2 k).2.2.1 = some (tyX2 k) := by decide +kernel
abbrev cX2_init : ByteArray := prog_4_method_1_code
def yX2_init : MethodName := ⟨RX2, "<init>", "()V"⟩
abbrev cX2_comesOf : ByteArray := prog_4_method_2_code
def yX2_comesOf : MethodName := ⟨RX2, "comesOf", "(II)I"⟩
abbrev cX2_tell : ByteArray := prog_4_method_3_code
def yX2_tell : MethodName := ⟨RX2, "tell", "(III)V"⟩
def RX3 : String := "TiedFrame$Picture"
def TX3 : u_T := fun k => match k with
  | _ => ("TiedFrame$Picture", "wanted", "[[I", true)
def tyX3 : Nat → FieldType := fun k => match k with
  | _ => .array (.array .int)
abbrev wsX30 : List Cond := u_ws RX3 TX3 1
theorem nmX3 : ∀ a, a < 1 → ∀ b, b < 1 → a ≠ b → (TX3 a).2.1 ≠ (TX3 b).2.1 := by decide +kernel
theorem tyX3_ok : ∀ k, k < 1 → parseFieldDescriptor (TX3 k).2.2.1 = some (tyX3 k) := by decide +kernel
abbrev cX3_init : ByteArray := prog_5_method_1_code
def yX3_init : MethodName := ⟨RX3, "<init>", "()V"⟩
abbrev cX3_clear : ByteArray := prog_5_method_2_code
def yX3_clear : MethodName := ⟨RX3, "clear", "()V"⟩
abbrev cX3_wantedAt : ByteArray := prog_5_method_3_code
def yX3_wantedAt : MethodName := ⟨RX3, "wantedAt", "(II)I"⟩
abbrev cX3_ask : ByteArray := prog_5_method_4_code
def yX3_ask : MethodName := ⟨RX3, "ask", "(III)V"⟩
def RX4 : String := "TiedFrame$Plan"
def TX4 : u_T := fun k => match k with
  | 0 => ("TiedFrame$Plan", "exists", "Z", false)
  | 1 => ("TiedFrame$Plan", "row", "I", false)
  | 2 => ("TiedFrame$Plan", "ties", "I", false)
  | _ => ("TiedFrame$Plan", "bits", "[[I", true)
def tyX4 : Nat → FieldType := fun k => match k with
  | 0 => .boolean
  | 1 => .int
  | 2 => .int
  | _ => .array (.array .int)
abbrev wsX40 : List Cond := u_ws RX4 TX4 4
theorem nmX4 : ∀ a, a < 4 → ∀ b, b < 4 → a ≠ b → (TX4 a).2.1 ≠ (TX4 b).2.1 := by decide +kernel
theorem tyX4_ok : ∀ k, k < 4 → parseFieldDescriptor (TX4 k).2.2.1 = some (tyX4 k) := by decide +kernel
abbrev cX4_init : ByteArray := prog_6_method_1_code
def yX4_init : MethodName := ⟨RX4, "<init>", "()V"⟩
abbrev cX4_drop : ByteArray := prog_6_method_2_code
def yX4_drop : MethodName := ⟨RX4, "drop", "()V"⟩
abbrev cX4_begin : ByteArray := prog_6_method_3_code
def yX4_begin : MethodName := ⟨RX4, "begin", "(I)V"⟩
abbrev cX4_addTies : ByteArray := prog_6_method_4_code
def yX4_addTies : MethodName := ⟨RX4, "addTies", "(I)V"⟩
abbrev cX4_write : ByteArray := prog_6_method_5_code
def yX4_write : MethodName := ⟨RX4, "write", "(III)V"⟩
abbrev cX4_exists : ByteArray := prog_6_method_6_code
def yX4_exists : MethodName := ⟨RX4, "exists", "()Z"⟩
abbrev cX4_row : ByteArray := prog_6_method_7_code
def yX4_row : MethodName := ⟨RX4, "row", "()I"⟩
abbrev cX4_ties : ByteArray := prog_6_method_8_code
def yX4_ties : MethodName := ⟨RX4, "ties", "()I"⟩
abbrev cX4_bitsAt : ByteArray := prog_6_method_9_code
def yX4_bitsAt : MethodName := ⟨RX4, "bitsAt", "(II)I"⟩
def RX5 : String := "TiedFrame$Planner"
def TX5 : u_T := fun k => match k with
  | 0 => ("TiedFrame$Planner", "span", "[I", true)
  | 1 => ("TiedFrame$Planner", "aim", "[[I", true)
  | 2 => ("TiedFrame$Planner", "aims", "I", false)
  | 3 => ("TiedFrame$Planner", "row", "I", false)
  | 4 => ("TiedFrame$Planner", "outcome", "[I", true)
  | 5 => ("TiedFrame$Planner", "ways", "[I", true)
  | 6 => ("TiedFrame$Planner", "freshWays", "[I", true)
  | 7 => ("TiedFrame$Planner", "rest", "[[I", true)
  | _ => ("TiedFrame$Planner", "starts", "[[I", true)
def tyX5 : Nat → FieldType := fun k => match k with
  | 0 => .array .int
  | 1 => .array (.array .int)
  | 2 => .int
  | 3 => .int
  | 4 => .array .int
  | 5 => .array .int
  | 6 => .array .int
  | 7 => .array (.array .int)
  | _ => .array (.array .int)
abbrev wsX50 : List Cond := u_ws RX5 TX5 9
theorem nmX5 : ∀ a, a < 9 → ∀ b, b < 9 → a ≠ b → (TX5 a).2.1 ≠ (TX5 b).2.1 := by decide +kernel
theorem tyX5_ok : ∀ k, k < 9 → parseFieldDescriptor (TX5 k).2.2.1 = some (tyX5 k) := by decide +kernel
abbrev cX5_init : ByteArray := prog_7_method_1_code
def yX5_init : MethodName := ⟨RX5, "<init>", "()V"⟩
abbrev cX5_aimAt : ByteArray := prog_7_method_2_code
def yX5_aimAt : MethodName := ⟨RX5, "aimAt", "(LTiedFrame$Cloth;LTiedFrame$Picture;)Z"⟩
abbrev cX5_tryRow : ByteArray := prog_7_method_3_code
def yX5_tryRow : MethodName := ⟨RX5, "tryRow", "(ILTiedFrame$Mixing;)Z"⟩
abbrev cX5_gatherWays : ByteArray := prog_7_method_4_code
def yX5_gatherWays : MethodName := ⟨RX5, "gatherWays", "(I)Z"⟩
abbrev cX5_freshOf : ByteArray := prog_7_method_5_code
def yX5_freshOf : MethodName := ⟨RX5, "freshOf", "(I)I"⟩
abbrev cX5_bestRow : ByteArray := prog_7_method_6_code
def yX5_bestRow : MethodName := ⟨RX5, "bestRow", "(ILTiedFrame$Mixing;)I"⟩
abbrev cX5_rowOfTurn : ByteArray := prog_7_method_7_code
def yX5_rowOfTurn : MethodName := ⟨RX5, "rowOfTurn", "(II)I"⟩
abbrev cX5_tiesBelow : ByteArray := prog_7_method_8_code
def yX5_tiesBelow : MethodName := ⟨RX5, "tiesBelow", "(I)I"⟩
abbrev cX5_tiesOf : ByteArray := prog_7_method_9_code
def yX5_tiesOf : MethodName := ⟨RX5, "tiesOf", "(I)I"⟩
abbrev cX5_weigh : ByteArray := prog_7_method_10_code
def yX5_weigh : MethodName := ⟨RX5, "weigh", "(II)V"⟩
abbrev cX5_writeInto : ByteArray := prog_7_method_11_code
def yX5_writeInto : MethodName := ⟨RX5, "writeInto", "(LTiedFrame$Plan;LTiedFrame$Cloth;)V"⟩
abbrev cX5_leastBits : ByteArray := prog_7_method_12_code
def yX5_leastBits : MethodName := ⟨RX5, "leastBits", "(III)I"⟩
abbrev cX5_keepsFewest : ByteArray := prog_7_method_13_code
def yX5_keepsFewest : MethodName := ⟨RX5, "keepsFewest", "(IIII)Z"⟩
def RX6 : String := "TiedFrame$Slips"
def TX6 : u_T := fun k => match k with
  | 0 => ("TiedFrame$Slips", "lows", "[I", true)
  | _ => ("TiedFrame$Slips", "highs", "[I", true)
def tyX6 : Nat → FieldType := fun k => match k with
  | 0 => .array .int
  | _ => .array .int
abbrev wsX60 : List Cond := u_ws RX6 TX6 2
theorem nmX6 : ∀ a, a < 2 → ∀ b, b < 2 → a ≠ b → (TX6 a).2.1 ≠ (TX6 b).2.1 := by decide +kernel
theorem tyX6_ok : ∀ k, k < 2 → parseFieldDescriptor (TX6 k).2.2.1 = some (tyX6 k) := by decide +kernel
abbrev cX6_init : ByteArray := prog_8_method_1_code
def yX6_init : MethodName := ⟨RX6, "<init>", "()V"⟩
abbrev cX6_clear : ByteArray := prog_8_method_2_code
def yX6_clear : MethodName := ⟨RX6, "clear", "()V"⟩
abbrev cX6_let : ByteArray := prog_8_method_3_code
def yX6_let : MethodName := ⟨RX6, "let", "(III)V"⟩
abbrev cX6_showsAt : ByteArray := prog_8_method_4_code
def yX6_showsAt : MethodName := ⟨RX6, "showsAt", "(IILTiedFrame$Cloth;)I"⟩
def RX7 : String := "TiedFrame$Vats"
def TX7 : u_T := fun k => match k with
  | 0 => ("TiedFrame$Vats", "strength", "[I", true)
  | _ => ("TiedFrame$Vats", "due", "[I", true)
def tyX7 : Nat → FieldType := fun k => match k with
  | 0 => .array .int
  | _ => .array .int
abbrev wsX70 : List Cond := u_ws RX7 TX7 2
theorem nmX7 : ∀ a, a < 2 → ∀ b, b < 2 → a ≠ b → (TX7 a).2.1 ≠ (TX7 b).2.1 := by decide +kernel
theorem tyX7_ok : ∀ k, k < 2 → parseFieldDescriptor (TX7 k).2.2.1 = some (tyX7 k) := by decide +kernel
abbrev cX7_init : ByteArray := prog_9_method_1_code
def yX7_init : MethodName := ⟨RX7, "<init>", "()V"⟩
abbrev cX7_strengthOf : ByteArray := prog_9_method_2_code
def yX7_strengthOf : MethodName := ⟨RX7, "strengthOf", "(I)I"⟩
abbrev cX7_fill : ByteArray := prog_9_method_3_code
def yX7_fill : MethodName := ⟨RX7, "fill", "(II)V"⟩
abbrev cX7_lose : ByteArray := prog_9_method_4_code
def yX7_lose : MethodName := ⟨RX7, "lose", "(II)V"⟩
abbrev cX7_sufficeFor : ByteArray := prog_9_method_5_code
def yX7_sufficeFor : MethodName := ⟨RX7, "sufficeFor", "(LTiedFrame$Plan;LTiedFrame$Cloth;)Z"⟩
def RX8 : String := "TiedFrame"
def TX8 : u_T := fun k => match k with
  | 0 => ("TiedFrame", "mixing", "LTiedFrame$Mixing;", true)
  | 1 => ("TiedFrame", "vats", "LTiedFrame$Vats;", true)
  | 2 => ("TiedFrame", "cloth", "LTiedFrame$Cloth;", true)
  | 3 => ("TiedFrame", "picture", "LTiedFrame$Picture;", true)
  | 4 => ("TiedFrame", "planner", "LTiedFrame$Planner;", true)
  | 5 => ("TiedFrame", "held", "LTiedFrame$Plan;", true)
  | 6 => ("TiedFrame", "slips", "LTiedFrame$Slips;", true)
  | 7 => ("TiedFrame", "laws", "LTiedFrame$Laws;", true)
  | _ => ("TiedFrame", "bathsEver", "I", false)
def tyX8 : Nat → FieldType := fun k => match k with
  | 0 => .object "TiedFrame$Mixing"
  | 1 => .object "TiedFrame$Vats"
  | 2 => .object "TiedFrame$Cloth"
  | 3 => .object "TiedFrame$Picture"
  | 4 => .object "TiedFrame$Planner"
  | 5 => .object "TiedFrame$Plan"
  | 6 => .object "TiedFrame$Slips"
  | 7 => .object "TiedFrame$Laws"
  | _ => .int
abbrev wsX80 : List Cond := u_ws RX8 TX8 9
theorem nmX8 : ∀ a, a < 9 → ∀ b, b < 9 → a ≠ b → (TX8 a).2.1 ≠ (TX8 b).2.1 := by decide +kernel
theorem tyX8_ok : ∀ k, k < 9 → parseFieldDescriptor (TX8 k).2.2.1 = some (tyX8 k) := by decide +kernel
abbrev cX8_init : ByteArray := prog_1_method_1_code
def yX8_init : MethodName := ⟨RX8, "<init>", "()V"⟩
abbrev cX8_frame : ByteArray := prog_1_method_2_code
def yX8_frame : MethodName := ⟨RX8, "frame", "(II)V"⟩
abbrev cX8_into : ByteArray := prog_1_method_3_code
def yX8_into : MethodName := ⟨RX8, "into", "(II)I"⟩
abbrev cX8_fold : ByteArray := prog_1_method_4_code
def yX8_fold : MethodName := ⟨RX8, "fold", "(IZ)Z"⟩
abbrev cX8_table : ByteArray := prog_1_method_5_code
def yX8_table : MethodName := ⟨RX8, "table", "(III)I"⟩
abbrev cX8_vat : ByteArray := prog_1_method_6_code
def yX8_vat : MethodName := ⟨RX8, "vat", "(II)I"⟩
abbrev cX8_tie : ByteArray := prog_1_method_7_code
def yX8_tie : MethodName := ⟨RX8, "tie", "(III)I"⟩
abbrev cX8_untie : ByteArray := prog_1_method_8_code
def yX8_untie : MethodName := ⟨RX8, "untie", "(III)I"⟩
abbrev cX8_bath : ByteArray := prog_1_method_9_code
def yX8_bath : MethodName := ⟨RX8, "bath", "(I)I"⟩
abbrev cX8_colour : ByteArray := prog_1_method_10_code
def yX8_colour : MethodName := ⟨RX8, "colour", "(II)I"⟩
abbrev cX8_bound : ByteArray := prog_1_method_11_code
def yX8_bound : MethodName := ⟨RX8, "bound", "(II)Z"⟩
abbrev cX8_want : ByteArray := prog_1_method_12_code
def yX8_want : MethodName := ⟨RX8, "want", "(III)I"⟩
abbrev cX8_plan : ByteArray := prog_1_method_13_code
def yX8_plan : MethodName := ⟨RX8, "plan", "(I)I"⟩
abbrev cX8_best : ByteArray := prog_1_method_14_code
def yX8_best : MethodName := ⟨RX8, "best", "(I)I"⟩
abbrev cX8_kept : ByteArray := prog_1_method_15_code
def yX8_kept : MethodName := ⟨RX8, "kept", "(I)I"⟩
abbrev cX8_bits : ByteArray := prog_1_method_16_code
def yX8_bits : MethodName := ⟨RX8, "bits", "(II)I"⟩
abbrev cX8_dye : ByteArray := prog_1_method_17_code
def yX8_dye : MethodName := ⟨RX8, "dye", "()I"⟩
abbrev cX8_slip : ByteArray := prog_1_method_18_code
def yX8_slip : MethodName := ⟨RX8, "slip", "(III)V"⟩
abbrev cX8_seen : ByteArray := prog_1_method_19_code
def yX8_seen : MethodName := ⟨RX8, "seen", "(II)I"⟩
abbrev cX8_blurred : ByteArray := prog_1_method_20_code
def yX8_blurred : MethodName := ⟨RX8, "blurred", "()I"⟩
abbrev cX8_law : ByteArray := prog_1_method_21_code
def yX8_law : MethodName := ⟨RX8, "law", "(III)I"⟩
abbrev cX8_rank : ByteArray := prog_1_method_22_code
def yX8_rank : MethodName := ⟨RX8, "rank", "(I)I"⟩
abbrev cX8_count : ByteArray := prog_1_method_23_code
def yX8_count : MethodName := ⟨RX8, "count", "(I)I"⟩
abbrev cX8_needThread : ByteArray := prog_1_method_24_code
def yX8_needThread : MethodName := ⟨RX8, "needThread", "(I)V"⟩
abbrev cX8_needPlace : ByteArray := prog_1_method_25_code
def yX8_needPlace : MethodName := ⟨RX8, "needPlace", "(I)V"⟩
abbrev cX8_needBundle : ByteArray := prog_1_method_26_code
def yX8_needBundle : MethodName := ⟨RX8, "needBundle", "(I)V"⟩
abbrev cX8_needDye : ByteArray := prog_1_method_27_code
def yX8_needDye : MethodName := ⟨RX8, "needDye", "(I)V"⟩
abbrev cX8_needRange : ByteArray := prog_1_method_28_code
def yX8_needRange : MethodName := ⟨RX8, "needRange", "(III)V"⟩
abbrev cX8_isColour : ByteArray := prog_1_method_29_code
def yX8_isColour : MethodName := ⟨RX8, "isColour", "(I)Z"⟩
abbrev cX8_isDay : ByteArray := prog_1_method_30_code
def yX8_isDay : MethodName := ⟨RX8, "isDay", "(I)Z"⟩
abbrev cX8_isRow : ByteArray := prog_1_method_31_code
def yX8_isRow : MethodName := ⟨RX8, "isRow", "(I)Z"⟩
abbrev cX8_bathsOf : ByteArray := prog_1_method_32_code
def yX8_bathsOf : MethodName := ⟨RX8, "bathsOf", "(I)I"⟩
abbrev cX8_dyeOf : ByteArray := prog_1_method_33_code
def yX8_dyeOf : MethodName := ⟨RX8, "dyeOf", "(II)I"⟩
def RX9 : String := "TiedFrameModel"
def TX9 : u_T := fun k => match k with
  | 0 => ("TiedFrameModel", "thrown", "I", false)
  | 1 => ("TiedFrameModel", "threads", "I", false)
  | 2 => ("TiedFrameModel", "places", "I", false)
  | 3 => ("TiedFrameModel", "baths", "I", false)
  | 4 => ("TiedFrameModel", "laws", "I", false)
  | 5 => ("TiedFrameModel", "bundleOf", "[I", true)
  | 6 => ("TiedFrameModel", "colours", "[I", true)
  | 7 => ("TiedFrameModel", "table", "[I", true)
  | 8 => ("TiedFrameModel", "vats", "[I", true)
  | 9 => ("TiedFrameModel", "wanted", "[I", true)
  | 10 => ("TiedFrameModel", "low", "[I", true)
  | 11 => ("TiedFrameModel", "high", "[I", true)
  | 12 => ("TiedFrameModel", "isFolded", "[Z", true)
  | 13 => ("TiedFrameModel", "isBound", "[Z", true)
  | 14 => ("TiedFrameModel", "lawDay", "[I", true)
  | 15 => ("TiedFrameModel", "lawColour", "[I", true)
  | 16 => ("TiedFrameModel", "lawRank", "[I", true)
  | 17 => ("TiedFrameModel", "hasPlan", "Z", false)
  | 18 => ("TiedFrameModel", "planRow", "I", false)
  | 19 => ("TiedFrameModel", "planTies", "I", false)
  | 20 => ("TiedFrameModel", "planBits", "[I", true)
  | 21 => ("TiedFrameModel", "bits", "[I", true)
  | 22 => ("TiedFrameModel", "rest", "[I", true)
  | _ => ("TiedFrameModel", "needs", "[I", true)
def tyX9 : Nat → FieldType := fun k => match k with
  | 0 => .int
  | 1 => .int
  | 2 => .int
  | 3 => .int
  | 4 => .int
  | 5 => .array .int
  | 6 => .array .int
  | 7 => .array .int
  | 8 => .array .int
  | 9 => .array .int
  | 10 => .array .int
  | 11 => .array .int
  | 12 => .array .boolean
  | 13 => .array .boolean
  | 14 => .array .int
  | 15 => .array .int
  | 16 => .array .int
  | 17 => .boolean
  | 18 => .int
  | 19 => .int
  | 20 => .array .int
  | 21 => .array .int
  | 22 => .array .int
  | _ => .array .int
abbrev wsX90 : List Cond := u_ws RX9 TX9 24
theorem nmX9 : ∀ a, a < 24 → ∀ b, b < 24 → a ≠ b → (TX9 a).2.1 ≠ (TX9 b).2.1 := by decide +kernel
theorem tyX9_ok : ∀ k, k < 24 → parseFieldDescriptor (TX9 k).2.2.1 = some (tyX9 k) := by decide +kernel
abbrev cX9_init : ByteArray := prog_11_method_1_code
def yX9_init : MethodName := ⟨RX9, "<init>", "()V"⟩
abbrev cX9_thrown : ByteArray := prog_11_method_2_code
def yX9_thrown : MethodName := ⟨RX9, "thrown", "()I"⟩
abbrev cX9_right : ByteArray := prog_11_method_3_code
def yX9_right : MethodName := ⟨RX9, "right", "(ZI)Z"⟩
abbrev cX9_undyed : ByteArray := prog_11_method_4_code
def yX9_undyed : MethodName := ⟨RX9, "undyed", "()V"⟩
abbrev cX9_frame : ByteArray := prog_11_method_5_code
def yX9_frame : MethodName := ⟨RX9, "frame", "(II)V"⟩
abbrev cX9_isThread : ByteArray := prog_11_method_6_code
def yX9_isThread : MethodName := ⟨RX9, "isThread", "(I)Z"⟩
abbrev cX9_isBundle : ByteArray := prog_11_method_7_code
def yX9_isBundle : MethodName := ⟨RX9, "isBundle", "(I)Z"⟩
abbrev cX9_isPlace : ByteArray := prog_11_method_8_code
def yX9_isPlace : MethodName := ⟨RX9, "isPlace", "(I)Z"⟩
abbrev cX9_into : ByteArray := prog_11_method_9_code
def yX9_into : MethodName := ⟨RX9, "into", "(II)I"⟩
abbrev cX9_fold : ByteArray := prog_11_method_10_code
def yX9_fold : MethodName := ⟨RX9, "fold", "(IZ)Z"⟩
abbrev cX9_table : ByteArray := prog_11_method_11_code
def yX9_table : MethodName := ⟨RX9, "table", "(III)I"⟩
abbrev cX9_vat : ByteArray := prog_11_method_12_code
def yX9_vat : MethodName := ⟨RX9, "vat", "(II)I"⟩
abbrev cX9_many : ByteArray := prog_11_method_13_code
def yX9_many : MethodName := ⟨RX9, "many", "(I)I"⟩
abbrev cX9_binds : ByteArray := prog_11_method_14_code
def yX9_binds : MethodName := ⟨RX9, "binds", "(IIZ)I"⟩
abbrev cX9_ties : ByteArray := prog_11_method_15_code
def yX9_ties : MethodName := ⟨RX9, "ties", "(IIIZ)I"⟩
abbrev cX9_tie : ByteArray := prog_11_method_16_code
def yX9_tie : MethodName := ⟨RX9, "tie", "(III)I"⟩
abbrev cX9_untie : ByteArray := prog_11_method_17_code
def yX9_untie : MethodName := ⟨RX9, "untie", "(III)I"⟩
abbrev cX9_taken : ByteArray := prog_11_method_18_code
def yX9_taken : MethodName := ⟨RX9, "taken", "()I"⟩
abbrev cX9_bathes : ByteArray := prog_11_method_19_code
def yX9_bathes : MethodName := ⟨RX9, "bathes", "(I)V"⟩
abbrev cX9_bath : ByteArray := prog_11_method_20_code
def yX9_bath : MethodName := ⟨RX9, "bath", "(I)I"⟩
abbrev cX9_colourOf : ByteArray := prog_11_method_21_code
def yX9_colourOf : MethodName := ⟨RX9, "colourOf", "(II)I"⟩
abbrev cX9_colour : ByteArray := prog_11_method_22_code
def yX9_colour : MethodName := ⟨RX9, "colour", "(II)I"⟩
abbrev cX9_bound : ByteArray := prog_11_method_23_code
def yX9_bound : MethodName := ⟨RX9, "bound", "(II)Z"⟩
abbrev cX9_want : ByteArray := prog_11_method_24_code
def yX9_want : MethodName := ⟨RX9, "want", "(III)I"⟩
abbrev cX9_bathsOf : ByteArray := prog_11_method_25_code
def yX9_bathsOf : MethodName := ⟨RX9, "bathsOf", "(I)I"⟩
abbrev cX9_isRow : ByteArray := prog_11_method_26_code
def yX9_isRow : MethodName := ⟨RX9, "isRow", "(I)Z"⟩
abbrev cX9_becomes : ByteArray := prog_11_method_27_code
def yX9_becomes : MethodName := ⟨RX9, "becomes", "(II)I"⟩
abbrev cX9_wants : ByteArray := prog_11_method_28_code
def yX9_wants : MethodName := ⟨RX9, "wants", "(III)Z"⟩
abbrev cX9_ones : ByteArray := prog_11_method_29_code
def yX9_ones : MethodName := ⟨RX9, "ones", "(I)I"⟩
abbrev cX9_newly : ByteArray := prog_11_method_30_code
def yX9_newly : MethodName := ⟨RX9, "newly", "(I)I"⟩
abbrev cX9_find : ByteArray := prog_11_method_31_code
def yX9_find : MethodName := ⟨RX9, "find", "(I)I"⟩
abbrev cX9_keeps : ByteArray := prog_11_method_32_code
def yX9_keeps : MethodName := ⟨RX9, "keeps", "(II)V"⟩
abbrev cX9_plan : ByteArray := prog_11_method_33_code
def yX9_plan : MethodName := ⟨RX9, "plan", "(I)I"⟩
abbrev cX9_best : ByteArray := prog_11_method_34_code
def yX9_best : MethodName := ⟨RX9, "best", "(I)I"⟩
abbrev cX9_kept : ByteArray := prog_11_method_35_code
def yX9_kept : MethodName := ⟨RX9, "kept", "(I)I"⟩
abbrev cX9_bits : ByteArray := prog_11_method_36_code
def yX9_bits : MethodName := ⟨RX9, "bits", "(II)I"⟩
abbrev cX9_bindsFor : ByteArray := prog_11_method_37_code
def yX9_bindsFor : MethodName := ⟨RX9, "bindsFor", "(I)V"⟩
abbrev cX9_takes : ByteArray := prog_11_method_38_code
def yX9_takes : MethodName := ⟨RX9, "takes", "(I)I"⟩
abbrev cX9_dye : ByteArray := prog_11_method_39_code
def yX9_dye : MethodName := ⟨RX9, "dye", "()I"⟩
abbrev cX9_slip : ByteArray := prog_11_method_40_code
def yX9_slip : MethodName := ⟨RX9, "slip", "(III)V"⟩
abbrev cX9_seenOf : ByteArray := prog_11_method_41_code
def yX9_seenOf : MethodName := ⟨RX9, "seenOf", "(II)I"⟩
abbrev cX9_seen : ByteArray := prog_11_method_42_code
def yX9_seen : MethodName := ⟨RX9, "seen", "(II)I"⟩
abbrev cX9_blurred : ByteArray := prog_11_method_43_code
def yX9_blurred : MethodName := ⟨RX9, "blurred", "()I"⟩
abbrev cX9_law : ByteArray := prog_11_method_44_code
def yX9_law : MethodName := ⟨RX9, "law", "(III)I"⟩
abbrev cX9_rankOf : ByteArray := prog_11_method_45_code
def yX9_rankOf : MethodName := ⟨RX9, "rankOf", "(II)I"⟩
abbrev cX9_rank : ByteArray := prog_11_method_46_code
def yX9_rank : MethodName := ⟨RX9, "rank", "(I)I"⟩
abbrev cX9_strengthOf : ByteArray := prog_11_method_47_code
def yX9_strengthOf : MethodName := ⟨RX9, "strengthOf", "(I)I"⟩
abbrev cX9_count : ByteArray := prog_11_method_48_code
def yX9_count : MethodName := ⟨RX9, "count", "(I)I"⟩
def RJ6 : String := "java/lang/Integer"
def TJ6 : u_T := fun k => match k with
  | _ => ("", "", "", false)
def tyJ6 : Nat → FieldType := fun k => match k with
  | _ => .int
abbrev wsJ60 : List Cond := u_ws RJ6 TJ6 0
theorem nmJ6 : ∀ a, a < 0 → ∀ b, b < 0 → a ≠ b → (TJ6 a).2.1 ≠ (TJ6 b).2.1 := by decide +kernel
theorem tyJ6_ok : ∀ k, k < 0 → parseFieldDescriptor (TJ6 k).2.2.1 = some (tyJ6 k) := by decide +kernel
abbrev cJ6_bitCount_0f7a4 : ByteArray := prog_15_method_49_code
def yJ6_bitCount_0f7a4 : MethodName := ⟨RJ6, "bitCount", "(I)I"⟩
def RJ9 : String := "java/lang/Math"
def TJ9 : u_T := fun k => match k with
  | _ => ("", "", "", false)
def tyJ9 : Nat → FieldType := fun k => match k with
  | _ => .int
abbrev wsJ90 : List Cond := u_ws RJ9 TJ9 0
theorem nmJ9 : ∀ a, a < 0 → ∀ b, b < 0 → a ≠ b → (TJ9 a).2.1 ≠ (TJ9 b).2.1 := by decide +kernel
theorem tyJ9_ok : ∀ k, k < 0 → parseFieldDescriptor (TJ9 k).2.2.1 = some (tyJ9 k) := by decide +kernel
abbrev cJ9_max_7cf53 : ByteArray := prog_16_method_65_code
def yJ9_max_7cf53 : MethodName := ⟨RJ9, "max", "(II)I"⟩
def RJ0 : String := "java/lang/String"
def TJ0 : u_T := fun k => match k with
  | _ => ("", "", "", false)
def tyJ0 : Nat → FieldType := fun k => match k with
  | _ => .int
abbrev wsJ00 : List Cond := u_ws RJ0 TJ0 0
theorem nmJ0 : ∀ a, a < 0 → ∀ b, b < 0 → a ≠ b → (TJ0 a).2.1 ≠ (TJ0 b).2.1 := by decide +kernel
theorem tyJ0_ok : ∀ k, k < 0 → parseFieldDescriptor (TJ0 k).2.2.1 = some (tyJ0 k) := by decide +kernel
def RJ10 : String := "java/lang/System"
def TJ10 : u_T := fun k => match k with
  | _ => ("", "", "", false)
def tyJ10 : Nat → FieldType := fun k => match k with
  | _ => .int
abbrev wsJ100 : List Cond := u_ws RJ10 TJ10 0
theorem nmJ10 : ∀ a, a < 0 → ∀ b, b < 0 → a ≠ b → (TJ10 a).2.1 ≠ (TJ10 b).2.1 := by decide +kernel
theorem tyJ10_ok : ∀ k, k < 0 → parseFieldDescriptor (TJ10 k).2.2.1 = some (tyJ10 k) := by decide +kernel
def RL : String := "TiedFrameLaw"
abbrev cL_frame : ByteArray := method_3_code
def yL_frame : MethodName := ⟨RL, "frame", "(LTiedFrame;II)I"⟩
abbrev cL_into : ByteArray := method_4_code
def yL_into : MethodName := ⟨RL, "into", "(LTiedFrame;II[J)I"⟩
abbrev cL_fold : ByteArray := method_5_code
def yL_fold : MethodName := ⟨RL, "fold", "(LTiedFrame;IZ[J)I"⟩
abbrev cL_table : ByteArray := method_6_code
def yL_table : MethodName := ⟨RL, "table", "(LTiedFrame;III[J)I"⟩
abbrev cL_vat : ByteArray := method_7_code
def yL_vat : MethodName := ⟨RL, "vat", "(LTiedFrame;II[J)I"⟩
abbrev cL_tie : ByteArray := method_8_code
def yL_tie : MethodName := ⟨RL, "tie", "(LTiedFrame;III[J)I"⟩
abbrev cL_untie : ByteArray := method_9_code
def yL_untie : MethodName := ⟨RL, "untie", "(LTiedFrame;III[J)I"⟩
abbrev cL_bath : ByteArray := method_10_code
def yL_bath : MethodName := ⟨RL, "bath", "(LTiedFrame;I[J)I"⟩
abbrev cL_colour : ByteArray := method_11_code
def yL_colour : MethodName := ⟨RL, "colour", "(LTiedFrame;II[J)I"⟩
abbrev cL_bound : ByteArray := method_12_code
def yL_bound : MethodName := ⟨RL, "bound", "(LTiedFrame;II[J)I"⟩
abbrev cL_want : ByteArray := method_13_code
def yL_want : MethodName := ⟨RL, "want", "(LTiedFrame;III[J)I"⟩
abbrev cL_plan : ByteArray := method_14_code
def yL_plan : MethodName := ⟨RL, "plan", "(LTiedFrame;I[J)I"⟩
abbrev cL_best : ByteArray := method_15_code
def yL_best : MethodName := ⟨RL, "best", "(LTiedFrame;I[J)I"⟩
abbrev cL_kept : ByteArray := method_16_code
def yL_kept : MethodName := ⟨RL, "kept", "(LTiedFrame;I[J)I"⟩
abbrev cL_bits : ByteArray := method_17_code
def yL_bits : MethodName := ⟨RL, "bits", "(LTiedFrame;II[J)I"⟩
abbrev cL_slip : ByteArray := method_18_code
def yL_slip : MethodName := ⟨RL, "slip", "(LTiedFrame;III)I"⟩
abbrev cL_seen : ByteArray := method_19_code
def yL_seen : MethodName := ⟨RL, "seen", "(LTiedFrame;II[J)I"⟩
abbrev cL_rank : ByteArray := method_20_code
def yL_rank : MethodName := ⟨RL, "rank", "(LTiedFrame;I[J)I"⟩
abbrev cL_count : ByteArray := method_21_code
def yL_count : MethodName := ⟨RL, "count", "(LTiedFrame;I[J)I"⟩
abbrev cL_law : ByteArray := code
def yL_law : MethodName := ⟨RL, "law", "([I)Z"⟩
def wsX0_init : List Cond := .code yX0_init cX0_init 1 none :: ([.methodLink RX0 3 objectInit, .instanceMethod objectInit, .code objectInit ⟨#[0xb1]⟩ 1 none, .arrayClass .int, .fieldLink RX0 9 "TiedFrame$Cloth" "home" "[I", .fieldLink RX0 15 "TiedFrame$Cloth" "crowd" "[I", .arrayClass .boolean, .fieldLink RX0 18 "TiedFrame$Cloth" "folded" "[Z", .fieldLink RX0 22 "TiedFrame$Cloth" "knots" "[I", .classLink RX0 25 "[[I", .fieldLink RX0 27 "TiedFrame$Cloth" "colours" "[[I"] ++ wsX00)
def wsX0_wash : List Cond := .code yX0_wash cX0_wash 3 none :: ([.fieldLink RX0 22 "TiedFrame$Cloth" "knots" "[I", .fieldLink RX0 27 "TiedFrame$Cloth" "colours" "[[I"] ++ wsX00)
def wsX0_stretch : List Cond := .code yX0_stretch cX0_stretch 4 none :: ([.fieldLink RX0 30 "TiedFrame$Cloth" "threads" "I", .fieldLink RX0 34 "TiedFrame$Cloth" "places" "I", .fieldLink RX0 9 "TiedFrame$Cloth" "home" "[I", .fieldLink RX0 15 "TiedFrame$Cloth" "crowd" "[I", .fieldLink RX0 18 "TiedFrame$Cloth" "folded" "[Z", .methodLink RX0 37 yX0_wash, .instanceMethod yX0_wash, .selects RX0 yX0_wash yX0_wash, .initialized RX0, .code yX0_wash cX0_wash 3 none, .fieldLink RX0 22 "TiedFrame$Cloth" "knots" "[I", .fieldLink RX0 27 "TiedFrame$Cloth" "colours" "[[I"] ++ wsX00)
def wsX0_move : List Cond := .code yX0_move cX0_move 3 none :: ([.fieldLink RX0 15 "TiedFrame$Cloth" "crowd" "[I", .fieldLink RX0 9 "TiedFrame$Cloth" "home" "[I", .methodLink RX0 37 yX0_wash, .instanceMethod yX0_wash, .selects RX0 yX0_wash yX0_wash, .initialized RX0, .code yX0_wash cX0_wash 3 none, .fieldLink RX0 22 "TiedFrame$Cloth" "knots" "[I", .fieldLink RX0 27 "TiedFrame$Cloth" "colours" "[[I"] ++ wsX00)
def wsX0_setFolded : List Cond := .code yX0_setFolded cX0_setFolded 3 none :: ([.fieldLink RX0 18 "TiedFrame$Cloth" "folded" "[Z", .methodLink RX0 37 yX0_wash, .instanceMethod yX0_wash, .selects RX0 yX0_wash yX0_wash, .initialized RX0, .code yX0_wash cX0_wash 3 none, .fieldLink RX0 22 "TiedFrame$Cloth" "knots" "[I", .fieldLink RX0 27 "TiedFrame$Cloth" "colours" "[[I"] ++ wsX00)
def wsX0_threads : List Cond := .code yX0_threads cX0_threads 1 (some .int) :: ([.fieldLink RX0 30 "TiedFrame$Cloth" "threads" "I"] ++ wsX00)
def wsX0_places : List Cond := .code yX0_places cX0_places 1 (some .int) :: ([.fieldLink RX0 34 "TiedFrame$Cloth" "places" "I"] ++ wsX00)
def wsX0_bundleOf : List Cond := .code yX0_bundleOf cX0_bundleOf 2 (some .int) :: ([.fieldLink RX0 9 "TiedFrame$Cloth" "home" "[I"] ++ wsX00)
def wsX0_threadsIn : List Cond := .code yX0_threadsIn cX0_threadsIn 2 (some .int) :: ([.fieldLink RX0 15 "TiedFrame$Cloth" "crowd" "[I"] ++ wsX00)
def wsX0_isFolded : List Cond := .code yX0_isFolded cX0_isFolded 2 (some .boolean) :: ([.fieldLink RX0 18 "TiedFrame$Cloth" "folded" "[Z"] ++ wsX00)
def wsX0_isBound : List Cond := .code yX0_isBound cX0_isBound 3 (some .boolean) :: ([.fieldLink RX0 22 "TiedFrame$Cloth" "knots" "[I"] ++ wsX00)
def wsX0_colourAt : List Cond := .code yX0_colourAt cX0_colourAt 3 (some .int) :: ([.fieldLink RX0 27 "TiedFrame$Cloth" "colours" "[[I", .fieldLink RX0 9 "TiedFrame$Cloth" "home" "[I"] ++ wsX00)
def wsX0_freePlaces : List Cond := .code yX0_freePlaces cX0_freePlaces 2 (some .int) :: ([.fieldLink RX0 18 "TiedFrame$Cloth" "folded" "[Z", .fieldLink RX0 34 "TiedFrame$Cloth" "places" "I"] ++ wsX00)
def wsX0_underFold : List Cond := .code yX0_underFold cX0_underFold 3 (some .int) :: ([.fieldLink RX0 34 "TiedFrame$Cloth" "places" "I", .methodLink RX0 40 yX0_freePlaces, .instanceMethod yX0_freePlaces, .selects RX0 yX0_freePlaces yX0_freePlaces, .initialized RX0, .code yX0_freePlaces cX0_freePlaces 2 (some .int), .fieldLink RX0 18 "TiedFrame$Cloth" "folded" "[Z"] ++ wsX00)
def wsX0_reach : List Cond := .code yX0_reach cX0_reach 6 (some .int) :: ([.fieldLink RX0 18 "TiedFrame$Cloth" "folded" "[Z", .fieldLink RX0 34 "TiedFrame$Cloth" "places" "I"] ++ wsX00)
def wsJ6_bitCount_0f7a4 : List Cond := .code yJ6_bitCount_0f7a4 cJ6_bitCount_0f7a4 1 (some .int) :: ([.constant RJ6 265 (1431655765), .constant RJ6 266 (858993459), .constant RJ6 267 (252645135)])
def wsX0_bind : List Cond := .code yX0_bind cX0_bind 5 (some .int) :: ([.fieldLink RX0 22 "TiedFrame$Cloth" "knots" "[I", .methodLink RX0 44 yX0_reach, .instanceMethod yX0_reach, .selects RX0 yX0_reach yX0_reach, .initialized RX0, .code yX0_reach cX0_reach 6 (some .int), .fieldLink RX0 18 "TiedFrame$Cloth" "folded" "[Z", .fieldLink RX0 34 "TiedFrame$Cloth" "places" "I", .methodLink RX0 48 yJ6_bitCount_0f7a4, .static yJ6_bitCount_0f7a4, .initialized RJ6, .code yJ6_bitCount_0f7a4 cJ6_bitCount_0f7a4 1 (some .int), .constant RJ6 265 (1431655765), .constant RJ6 266 (858993459), .constant RJ6 267 (252645135)] ++ wsX00)
def wsX0_loosen : List Cond := .code yX0_loosen cX0_loosen 5 (some .int) :: ([.fieldLink RX0 22 "TiedFrame$Cloth" "knots" "[I", .methodLink RX0 44 yX0_reach, .instanceMethod yX0_reach, .selects RX0 yX0_reach yX0_reach, .initialized RX0, .code yX0_reach cX0_reach 6 (some .int), .fieldLink RX0 18 "TiedFrame$Cloth" "folded" "[Z", .fieldLink RX0 34 "TiedFrame$Cloth" "places" "I", .methodLink RX0 48 yJ6_bitCount_0f7a4, .static yJ6_bitCount_0f7a4, .initialized RJ6, .code yJ6_bitCount_0f7a4 cJ6_bitCount_0f7a4 1 (some .int), .constant RJ6 265 (1431655765), .constant RJ6 266 (858993459), .constant RJ6 267 (252645135)] ++ wsX00)
def wsX4_bitsAt : List Cond := .code yX4_bitsAt cX4_bitsAt 3 (some .int) :: ([.fieldLink RX4 24 "TiedFrame$Plan" "bits" "[[I"] ++ wsX40)
def wsX0_knotsOf : List Cond := .code yX0_knotsOf cX0_knotsOf 6 (some .int) :: ([.fieldLink RX0 34 "TiedFrame$Cloth" "places" "I", .methodLink RX0 57 yX4_bitsAt, .instanceMethod yX4_bitsAt, .selects RX4 yX4_bitsAt yX4_bitsAt, .initialized RX4, .code yX4_bitsAt cX4_bitsAt 3 (some .int), .fieldLink RX4 24 "TiedFrame$Plan" "bits" "[[I"] ++ wsX00 ++ wsX40)
def wsX0_bindAs : List Cond := .code yX0_bindAs cX0_bindAs 4 none :: ([.fieldLink RX0 22 "TiedFrame$Cloth" "knots" "[I", .methodLink RX0 53 yX0_knotsOf, .instanceMethod yX0_knotsOf, .selects RX0 yX0_knotsOf yX0_knotsOf, .initialized RX0, .code yX0_knotsOf cX0_knotsOf 6 (some .int), .fieldLink RX0 34 "TiedFrame$Cloth" "places" "I", .methodLink RX0 57 yX4_bitsAt, .instanceMethod yX4_bitsAt, .selects RX4 yX4_bitsAt yX4_bitsAt, .initialized RX4, .code yX4_bitsAt cX4_bitsAt 3 (some .int), .fieldLink RX4 24 "TiedFrame$Plan" "bits" "[[I"] ++ wsX00 ++ wsX40)
def wsX0_takenBy : List Cond := .code yX0_takenBy cX0_takenBy 3 (some .int) :: ([.fieldLink RX0 15 "TiedFrame$Cloth" "crowd" "[I", .fieldLink RX0 34 "TiedFrame$Cloth" "places" "I", .methodLink RX0 48 yJ6_bitCount_0f7a4, .static yJ6_bitCount_0f7a4, .initialized RJ6, .code yJ6_bitCount_0f7a4 cJ6_bitCount_0f7a4 1 (some .int), .constant RJ6 265 (1431655765), .constant RJ6 266 (858993459), .constant RJ6 267 (252645135)] ++ wsX00)
def wsX0_takesUp : List Cond := .code yX0_takesUp cX0_takesUp 3 (some .int) :: ([.fieldLink RX0 22 "TiedFrame$Cloth" "knots" "[I", .methodLink RX0 63 yX0_takenBy, .instanceMethod yX0_takenBy, .selects RX0 yX0_takenBy yX0_takenBy, .initialized RX0, .code yX0_takenBy cX0_takenBy 3 (some .int), .fieldLink RX0 15 "TiedFrame$Cloth" "crowd" "[I", .fieldLink RX0 34 "TiedFrame$Cloth" "places" "I", .methodLink RX0 48 yJ6_bitCount_0f7a4, .static yJ6_bitCount_0f7a4, .initialized RJ6, .code yJ6_bitCount_0f7a4 cJ6_bitCount_0f7a4 1 (some .int), .constant RJ6 265 (1431655765), .constant RJ6 266 (858993459), .constant RJ6 267 (252645135)] ++ wsX00)
def wsX0_wouldTakeUp : List Cond := .code yX0_wouldTakeUp cX0_wouldTakeUp 5 (some .int) :: ([.methodLink RX0 53 yX0_knotsOf, .instanceMethod yX0_knotsOf, .selects RX0 yX0_knotsOf yX0_knotsOf, .initialized RX0, .code yX0_knotsOf cX0_knotsOf 6 (some .int), .fieldLink RX0 34 "TiedFrame$Cloth" "places" "I", .methodLink RX0 57 yX4_bitsAt, .instanceMethod yX4_bitsAt, .selects RX4 yX4_bitsAt yX4_bitsAt, .initialized RX4, .code yX4_bitsAt cX4_bitsAt 3 (some .int), .fieldLink RX4 24 "TiedFrame$Plan" "bits" "[[I", .methodLink RX0 63 yX0_takenBy, .instanceMethod yX0_takenBy, .selects RX0 yX0_takenBy yX0_takenBy, .code yX0_takenBy cX0_takenBy 3 (some .int), .fieldLink RX0 15 "TiedFrame$Cloth" "crowd" "[I", .methodLink RX0 48 yJ6_bitCount_0f7a4, .static yJ6_bitCount_0f7a4, .initialized RJ6, .code yJ6_bitCount_0f7a4 cJ6_bitCount_0f7a4 1 (some .int), .constant RJ6 265 (1431655765), .constant RJ6 266 (858993459), .constant RJ6 267 (252645135)] ++ wsX00 ++ wsX40)
def wsX2_comesOf : List Cond := .code yX2_comesOf cX2_comesOf 3 (some .int) :: ([.fieldLink RX2 9 "TiedFrame$Mixing" "to" "[I"] ++ wsX20)
def wsX0_dip : List Cond := .code yX0_dip cX0_dip 5 none :: ([.fieldLink RX0 34 "TiedFrame$Cloth" "places" "I", .fieldLink RX0 27 "TiedFrame$Cloth" "colours" "[[I", .methodLink RX0 66 yX0_isBound, .instanceMethod yX0_isBound, .selects RX0 yX0_isBound yX0_isBound, .initialized RX0, .code yX0_isBound cX0_isBound 3 (some .boolean), .fieldLink RX0 22 "TiedFrame$Cloth" "knots" "[I", .methodLink RX0 70 yX2_comesOf, .instanceMethod yX2_comesOf, .selects RX2 yX2_comesOf yX2_comesOf, .initialized RX2, .code yX2_comesOf cX2_comesOf 3 (some .int), .fieldLink RX2 9 "TiedFrame$Mixing" "to" "[I"] ++ wsX00 ++ wsX20)
def wsX0_coloursWorn : List Cond := .code yX0_coloursWorn cX0_coloursWorn 4 (some .int) :: ([.fieldLink RX0 34 "TiedFrame$Cloth" "places" "I", .fieldLink RX0 15 "TiedFrame$Cloth" "crowd" "[I", .fieldLink RX0 27 "TiedFrame$Cloth" "colours" "[[I"] ++ wsX00)
def wsX1_init : List Cond := .code yX1_init cX1_init 1 none :: ([.methodLink RX1 3 objectInit, .instanceMethod objectInit, .code objectInit ⟨#[0xb1]⟩ 1 none, .arrayClass .int, .fieldLink RX1 9 "TiedFrame$Laws" "days" "[I", .fieldLink RX1 15 "TiedFrame$Laws" "colours" "[I", .fieldLink RX1 18 "TiedFrame$Laws" "ranks" "[I", .fieldLink RX1 21 "TiedFrame$Laws" "size" "I"] ++ wsX10)
def wsX1_size : List Cond := .code yX1_size cX1_size 1 (some .int) :: ([.fieldLink RX1 21 "TiedFrame$Laws" "size" "I"] ++ wsX10)
def wsX1_add : List Cond := .code yX1_add cX1_add 4 none :: ([.fieldLink RX1 9 "TiedFrame$Laws" "days" "[I", .fieldLink RX1 21 "TiedFrame$Laws" "size" "I", .fieldLink RX1 15 "TiedFrame$Laws" "colours" "[I", .fieldLink RX1 18 "TiedFrame$Laws" "ranks" "[I"] ++ wsX10)
def wsX1_inForce : List Cond := .code yX1_inForce cX1_inForce 6 (some .int) :: ([.fieldLink RX1 21 "TiedFrame$Laws" "size" "I", .fieldLink RX1 15 "TiedFrame$Laws" "colours" "[I", .fieldLink RX1 9 "TiedFrame$Laws" "days" "[I", .fieldLink RX1 18 "TiedFrame$Laws" "ranks" "[I"] ++ wsX10)
def wsX2_init : List Cond := .code yX2_init cX2_init 3 none :: ([.methodLink RX2 3 objectInit, .instanceMethod objectInit, .code objectInit ⟨#[0xb1]⟩ 1 none, .arrayClass .int, .fieldLink RX2 9 "TiedFrame$Mixing" "to" "[I"] ++ wsX20)
def wsX2_tell : List Cond := .code yX2_tell cX2_tell 4 none :: ([.fieldLink RX2 9 "TiedFrame$Mixing" "to" "[I"] ++ wsX20)
def wsX3_init : List Cond := .code yX3_init cX3_init 1 none :: ([.methodLink RX3 3 objectInit, .instanceMethod objectInit, .code objectInit ⟨#[0xb1]⟩ 1 none, .classLink RX3 9 "[[I", .arrayClass .int, .fieldLink RX3 11 "TiedFrame$Picture" "wanted" "[[I"] ++ wsX30)
def wsX3_clear : List Cond := .code yX3_clear cX3_clear 3 none :: ([.fieldLink RX3 11 "TiedFrame$Picture" "wanted" "[[I"] ++ wsX30)
def wsX3_wantedAt : List Cond := .code yX3_wantedAt cX3_wantedAt 3 (some .int) :: ([.fieldLink RX3 11 "TiedFrame$Picture" "wanted" "[[I"] ++ wsX30)
def wsX3_ask : List Cond := .code yX3_ask cX3_ask 4 none :: ([.fieldLink RX3 11 "TiedFrame$Picture" "wanted" "[[I"] ++ wsX30)
def wsX4_init : List Cond := .code yX4_init cX4_init 1 none :: ([.methodLink RX4 3 objectInit, .instanceMethod objectInit, .code objectInit ⟨#[0xb1]⟩ 1 none, .fieldLink RX4 9 "TiedFrame$Plan" "exists" "Z", .fieldLink RX4 15 "TiedFrame$Plan" "row" "I", .fieldLink RX4 19 "TiedFrame$Plan" "ties" "I", .classLink RX4 22 "[[I", .arrayClass .int, .fieldLink RX4 24 "TiedFrame$Plan" "bits" "[[I"] ++ wsX40)
def wsX4_drop : List Cond := .code yX4_drop cX4_drop 1 none :: ([.fieldLink RX4 9 "TiedFrame$Plan" "exists" "Z"] ++ wsX40)
def wsX4_begin : List Cond := .code yX4_begin cX4_begin 2 none :: ([.fieldLink RX4 9 "TiedFrame$Plan" "exists" "Z", .fieldLink RX4 15 "TiedFrame$Plan" "row" "I", .fieldLink RX4 19 "TiedFrame$Plan" "ties" "I"] ++ wsX40)
def wsX4_addTies : List Cond := .code yX4_addTies cX4_addTies 2 none :: ([.fieldLink RX4 19 "TiedFrame$Plan" "ties" "I"] ++ wsX40)
def wsX4_write : List Cond := .code yX4_write cX4_write 4 none :: ([.fieldLink RX4 24 "TiedFrame$Plan" "bits" "[[I"] ++ wsX40)
def wsX4_exists : List Cond := .code yX4_exists cX4_exists 1 (some .boolean) :: ([.fieldLink RX4 9 "TiedFrame$Plan" "exists" "Z"] ++ wsX40)
def wsX4_row : List Cond := .code yX4_row cX4_row 1 (some .int) :: ([.fieldLink RX4 15 "TiedFrame$Plan" "row" "I"] ++ wsX40)
def wsX4_ties : List Cond := .code yX4_ties cX4_ties 1 (some .int) :: ([.fieldLink RX4 19 "TiedFrame$Plan" "ties" "I"] ++ wsX40)
def wsX5_init : List Cond := .code yX5_init cX5_init 3 none :: ([.methodLink RX5 3 objectInit, .instanceMethod objectInit, .code objectInit ⟨#[0xb1]⟩ 1 none, .arrayClass .int, .fieldLink RX5 9 "TiedFrame$Planner" "span" "[I", .classLink RX5 15 "[[I", .fieldLink RX5 17 "TiedFrame$Planner" "aim" "[[I", .fieldLink RX5 20 "TiedFrame$Planner" "aims" "I", .fieldLink RX5 24 "TiedFrame$Planner" "row" "I", .fieldLink RX5 27 "TiedFrame$Planner" "outcome" "[I", .fieldLink RX5 30 "TiedFrame$Planner" "ways" "[I", .fieldLink RX5 33 "TiedFrame$Planner" "freshWays" "[I", .fieldLink RX5 36 "TiedFrame$Planner" "rest" "[[I", .fieldLink RX5 39 "TiedFrame$Planner" "starts" "[[I", .methodLink RX5 42 yJ6_bitCount_0f7a4, .static yJ6_bitCount_0f7a4, .initialized RJ6, .code yJ6_bitCount_0f7a4 cJ6_bitCount_0f7a4 1 (some .int), .constant RJ6 265 (1431655765), .constant RJ6 266 (858993459), .constant RJ6 267 (252645135)] ++ wsX50)
def wsX5_aimAt_r1 : List Cond := [Cond.fieldLink RX5 9 "TiedFrame$Planner" "span" "[I", Cond.fieldLink RX5 17 "TiedFrame$Planner" "aim" "[[I", Cond.fieldLink RX5 20 "TiedFrame$Planner" "aims" "I", Cond.methodLink RX5 48 yX0_threadsIn, Cond.instanceMethod yX0_threadsIn, Cond.selects RX0 yX0_threadsIn yX0_threadsIn, Cond.initialized RX0, Cond.code yX0_threadsIn cX0_threadsIn 2 (some .int), Cond.fieldLink RX0 15 "TiedFrame$Cloth" "crowd" "[I", Cond.methodLink RX5 53 yX0_freePlaces, Cond.instanceMethod yX0_freePlaces, Cond.selects RX0 yX0_freePlaces yX0_freePlaces, Cond.code yX0_freePlaces cX0_freePlaces 2 (some .int), Cond.fieldLink RX0 18 "TiedFrame$Cloth" "folded" "[Z", Cond.fieldLink RX0 34 "TiedFrame$Cloth" "places" "I", Cond.methodLink RX5 56 yX0_threads, Cond.instanceMethod yX0_threads, Cond.selects RX0 yX0_threads yX0_threads, Cond.code yX0_threads cX0_threads 1 (some .int), Cond.fieldLink RX0 30 "TiedFrame$Cloth" "threads" "I", Cond.methodLink RX5 60 yX0_bundleOf, Cond.instanceMethod yX0_bundleOf, Cond.selects RX0 yX0_bundleOf yX0_bundleOf, Cond.code yX0_bundleOf cX0_bundleOf 2 (some .int)]
def wsX5_aimAt_r2 : List Cond := [Cond.fieldLink RX0 9 "TiedFrame$Cloth" "home" "[I", Cond.methodLink RX5 63 yX0_places, Cond.instanceMethod yX0_places, Cond.selects RX0 yX0_places yX0_places, Cond.code yX0_places cX0_places 1 (some .int), Cond.methodLink RX5 66 yX3_wantedAt, Cond.instanceMethod yX3_wantedAt, Cond.selects RX3 yX3_wantedAt yX3_wantedAt, Cond.initialized RX3, Cond.code yX3_wantedAt cX3_wantedAt 3 (some .int), Cond.fieldLink RX3 11 "TiedFrame$Picture" "wanted" "[[I", Cond.methodLink RX5 72 yX0_underFold, Cond.instanceMethod yX0_underFold, Cond.selects RX0 yX0_underFold yX0_underFold, Cond.code yX0_underFold cX0_underFold 3 (some .int), Cond.methodLink RX0 40 yX0_freePlaces]
def wsX5_aimAt : List Cond := .code yX5_aimAt cX5_aimAt 8 (some .boolean) :: ((wsX5_aimAt_r1 ++ wsX5_aimAt_r2) ++ wsX50 ++ wsX00 ++ wsX30)
def wsX8_dyeOf : List Cond := .code yX8_dyeOf cX8_dyeOf 2 (some .int) :: ([])
def wsX8_bathsOf : List Cond := .code yX8_bathsOf cX8_bathsOf 2 (some .int) :: ([.methodLink RX8 224 yX8_dyeOf, .static yX8_dyeOf, .initialized RX8, .code yX8_dyeOf cX8_dyeOf 2 (some .int)])
def wsX5_freshOf : List Cond := .code yX5_freshOf cX5_freshOf 1 (some .int) :: ([])
def wsX5_gatherWays : List Cond := .code yX5_gatherWays cX5_gatherWays 5 (some .boolean) :: ([.fieldLink RX5 30 "TiedFrame$Planner" "ways" "[I", .fieldLink RX5 33 "TiedFrame$Planner" "freshWays" "[I", .fieldLink RX5 27 "TiedFrame$Planner" "outcome" "[I", .fieldLink RX5 20 "TiedFrame$Planner" "aims" "I", .methodLink RX5 90 yX5_freshOf, .static yX5_freshOf, .initialized RX5, .code yX5_freshOf cX5_freshOf 1 (some .int)] ++ wsX50)
def wsX5_tryRow_r1 : List Cond := [Cond.fieldLink RX5 24 "TiedFrame$Planner" "row" "I", Cond.fieldLink RX5 27 "TiedFrame$Planner" "outcome" "[I", Cond.static yX8_bathsOf, Cond.initialized RX8, Cond.code yX8_bathsOf cX8_bathsOf 2 (some .int), Cond.methodLink RX8 224 yX8_dyeOf, Cond.static yX8_dyeOf, Cond.code yX8_dyeOf cX8_dyeOf 2 (some .int), Cond.methodLink RX5 81 yX2_comesOf, Cond.instanceMethod yX2_comesOf, Cond.selects RX2 yX2_comesOf yX2_comesOf, Cond.initialized RX2, Cond.code yX2_comesOf cX2_comesOf 3 (some .int), Cond.fieldLink RX2 9 "TiedFrame$Mixing" "to" "[I", Cond.methodLink RX5 86 yX5_gatherWays, Cond.instanceMethod yX5_gatherWays, Cond.selects RX5 yX5_gatherWays yX5_gatherWays, Cond.initialized RX5, Cond.code yX5_gatherWays cX5_gatherWays 5 (some .boolean), Cond.fieldLink RX5 30 "TiedFrame$Planner" "ways" "[I", Cond.fieldLink RX5 33 "TiedFrame$Planner" "freshWays" "[I", Cond.fieldLink RX5 20 "TiedFrame$Planner" "aims" "I", Cond.methodLink RX5 90 yX5_freshOf, Cond.static yX5_freshOf]
def wsX5_tryRow_r2 : List Cond := [Cond.code yX5_freshOf cX5_freshOf 1 (some .int)]
def wsX5_tryRow : List Cond := .code yX5_tryRow cX5_tryRow 8 (some .boolean) :: ((wsX5_tryRow_r1 ++ wsX5_tryRow_r2) ++ wsX50 ++ wsX20)
def wsX5_rowOfTurn : List Cond := .code yX5_rowOfTurn cX5_rowOfTurn 5 (some .int) :: ([])
def wsX5_weigh : List Cond := .code yX5_weigh cX5_weigh 16 none :: ([.fieldLink RX5 36 "TiedFrame$Planner" "rest" "[[I", .fieldLink RX5 107 "TiedFrame$Planner" "FRESH_SETS" "[I", .constant RX5 93 (1000000), .fieldLink RX5 39 "TiedFrame$Planner" "starts" "[[I"] ++ wsX50)
def wsX5_tiesOf : List Cond := .code yX5_tiesOf cX5_tiesOf 7 (some .int) :: ([.fieldLink RX5 9 "TiedFrame$Planner" "span" "[I", .fieldLink RX5 107 "TiedFrame$Planner" "FRESH_SETS" "[I", .fieldLink RX5 36 "TiedFrame$Planner" "rest" "[[I", .fieldLink RX5 17 "TiedFrame$Planner" "aim" "[[I", .methodLink RX5 110 arraycopyName, .native arraycopyName, .static arraycopyName, .initialized "java/lang/System", .fieldLink RX5 33 "TiedFrame$Planner" "freshWays" "[I", .methodLink RX5 116 yX5_weigh, .instanceMethod yX5_weigh, .selects RX5 yX5_weigh yX5_weigh, .initialized RX5, .code yX5_weigh cX5_weigh 16 none, .constant RX5 93 (1000000), .fieldLink RX5 39 "TiedFrame$Planner" "starts" "[[I"] ++ wsX50)
def wsX5_tiesBelow : List Cond := .code yX5_tiesBelow cX5_tiesBelow 4 (some .int) :: ([.methodLink RX5 104 yX5_tiesOf, .instanceMethod yX5_tiesOf, .selects RX5 yX5_tiesOf yX5_tiesOf, .initialized RX5, .code yX5_tiesOf cX5_tiesOf 7 (some .int), .fieldLink RX5 9 "TiedFrame$Planner" "span" "[I", .fieldLink RX5 107 "TiedFrame$Planner" "FRESH_SETS" "[I", .fieldLink RX5 36 "TiedFrame$Planner" "rest" "[[I", .fieldLink RX5 17 "TiedFrame$Planner" "aim" "[[I", .methodLink RX5 110 arraycopyName, .native arraycopyName, .static arraycopyName, .initialized "java/lang/System", .fieldLink RX5 33 "TiedFrame$Planner" "freshWays" "[I", .methodLink RX5 116 yX5_weigh, .instanceMethod yX5_weigh, .selects RX5 yX5_weigh yX5_weigh, .code yX5_weigh cX5_weigh 16 none, .constant RX5 93 (1000000), .fieldLink RX5 39 "TiedFrame$Planner" "starts" "[[I"] ++ wsX50)
def wsX5_bestRow_r1 : List Cond := [Cond.constant RX5 93 (1000000), Cond.methodLink RX5 94 yX5_rowOfTurn, Cond.static yX5_rowOfTurn, Cond.initialized RX5, Cond.code yX5_rowOfTurn cX5_rowOfTurn 5 (some .int), Cond.methodLink RX5 97 yX5_tryRow, Cond.instanceMethod yX5_tryRow, Cond.selects RX5 yX5_tryRow yX5_tryRow, Cond.code yX5_tryRow cX5_tryRow 8 (some .boolean), Cond.fieldLink RX5 24 "TiedFrame$Planner" "row" "I", Cond.fieldLink RX5 27 "TiedFrame$Planner" "outcome" "[I", Cond.static yX8_bathsOf, Cond.initialized RX8, Cond.code yX8_bathsOf cX8_bathsOf 2 (some .int), Cond.methodLink RX8 224 yX8_dyeOf, Cond.static yX8_dyeOf, Cond.code yX8_dyeOf cX8_dyeOf 2 (some .int), Cond.methodLink RX5 81 yX2_comesOf, Cond.instanceMethod yX2_comesOf, Cond.selects RX2 yX2_comesOf yX2_comesOf, Cond.initialized RX2, Cond.code yX2_comesOf cX2_comesOf 3 (some .int), Cond.fieldLink RX2 9 "TiedFrame$Mixing" "to" "[I", Cond.methodLink RX5 86 yX5_gatherWays]
def wsX5_bestRow_r2 : List Cond := [Cond.instanceMethod yX5_gatherWays, Cond.selects RX5 yX5_gatherWays yX5_gatherWays, Cond.code yX5_gatherWays cX5_gatherWays 5 (some .boolean), Cond.fieldLink RX5 30 "TiedFrame$Planner" "ways" "[I", Cond.fieldLink RX5 33 "TiedFrame$Planner" "freshWays" "[I", Cond.fieldLink RX5 20 "TiedFrame$Planner" "aims" "I", Cond.methodLink RX5 90 yX5_freshOf, Cond.static yX5_freshOf, Cond.code yX5_freshOf cX5_freshOf 1 (some .int), Cond.methodLink RX5 101 yX5_tiesBelow, Cond.instanceMethod yX5_tiesBelow, Cond.selects RX5 yX5_tiesBelow yX5_tiesBelow, Cond.code yX5_tiesBelow cX5_tiesBelow 4 (some .int), Cond.methodLink RX5 104 yX5_tiesOf, Cond.instanceMethod yX5_tiesOf, Cond.selects RX5 yX5_tiesOf yX5_tiesOf, Cond.code yX5_tiesOf cX5_tiesOf 7 (some .int), Cond.fieldLink RX5 9 "TiedFrame$Planner" "span" "[I", Cond.fieldLink RX5 107 "TiedFrame$Planner" "FRESH_SETS" "[I", Cond.fieldLink RX5 36 "TiedFrame$Planner" "rest" "[[I", Cond.fieldLink RX5 17 "TiedFrame$Planner" "aim" "[[I", Cond.methodLink RX5 110 arraycopyName, Cond.native arraycopyName, Cond.static arraycopyName]
def wsX5_bestRow_r3 : List Cond := [Cond.initialized "java/lang/System", Cond.methodLink RX5 116 yX5_weigh, Cond.instanceMethod yX5_weigh, Cond.selects RX5 yX5_weigh yX5_weigh, Cond.code yX5_weigh cX5_weigh 16 none, Cond.fieldLink RX5 39 "TiedFrame$Planner" "starts" "[[I"]
def wsX5_bestRow : List Cond := .code yX5_bestRow cX5_bestRow 10 (some .int) :: ((wsX5_bestRow_r1 ++ (wsX5_bestRow_r2 ++ wsX5_bestRow_r3)) ++ wsX50 ++ wsX20)
def wsX5_keepsFewest : List Cond := .code yX5_keepsFewest cX5_keepsFewest 6 (some .boolean) :: ([.fieldLink RX5 39 "TiedFrame$Planner" "starts" "[[I", .fieldLink RX5 36 "TiedFrame$Planner" "rest" "[[I", .methodLink RX5 90 yX5_freshOf, .static yX5_freshOf, .initialized RX5, .code yX5_freshOf cX5_freshOf 1 (some .int)] ++ wsX50)
def wsX5_leastBits : List Cond := .code yX5_leastBits cX5_leastBits 5 (some .int) :: ([.methodLink RX5 140 yX5_keepsFewest, .instanceMethod yX5_keepsFewest, .selects RX5 yX5_keepsFewest yX5_keepsFewest, .initialized RX5, .code yX5_keepsFewest cX5_keepsFewest 6 (some .boolean), .fieldLink RX5 39 "TiedFrame$Planner" "starts" "[[I", .fieldLink RX5 36 "TiedFrame$Planner" "rest" "[[I", .methodLink RX5 90 yX5_freshOf, .static yX5_freshOf, .code yX5_freshOf cX5_freshOf 1 (some .int)] ++ wsX50)
def wsX5_writeInto_r1 : List Cond := [Cond.fieldLink RX5 24 "TiedFrame$Planner" "row" "I", Cond.fieldLink RX5 9 "TiedFrame$Planner" "span" "[I", Cond.fieldLink RX5 30 "TiedFrame$Planner" "ways" "[I", Cond.fieldLink RX5 17 "TiedFrame$Planner" "aim" "[[I", Cond.methodLink RX5 120 yX4_begin, Cond.instanceMethod yX4_begin, Cond.selects RX4 yX4_begin yX4_begin, Cond.initialized RX4, Cond.code yX4_begin cX4_begin 2 none, Cond.fieldLink RX4 9 "TiedFrame$Plan" "exists" "Z", Cond.fieldLink RX4 15 "TiedFrame$Plan" "row" "I", Cond.fieldLink RX4 19 "TiedFrame$Plan" "ties" "I", Cond.methodLink RX5 104 yX5_tiesOf, Cond.instanceMethod yX5_tiesOf, Cond.selects RX5 yX5_tiesOf yX5_tiesOf, Cond.initialized RX5, Cond.code yX5_tiesOf cX5_tiesOf 7 (some .int), Cond.fieldLink RX5 107 "TiedFrame$Planner" "FRESH_SETS" "[I", Cond.fieldLink RX5 36 "TiedFrame$Planner" "rest" "[[I", Cond.methodLink RX5 110 arraycopyName, Cond.native arraycopyName, Cond.static arraycopyName, Cond.initialized "java/lang/System", Cond.fieldLink RX5 33 "TiedFrame$Planner" "freshWays" "[I"]
def wsX5_writeInto_r2 : List Cond := [Cond.methodLink RX5 116 yX5_weigh, Cond.instanceMethod yX5_weigh, Cond.selects RX5 yX5_weigh yX5_weigh, Cond.code yX5_weigh cX5_weigh 16 none, Cond.constant RX5 93 (1000000), Cond.fieldLink RX5 39 "TiedFrame$Planner" "starts" "[[I", Cond.methodLink RX5 126 yX4_addTies, Cond.instanceMethod yX4_addTies, Cond.selects RX4 yX4_addTies yX4_addTies, Cond.code yX4_addTies cX4_addTies 2 none, Cond.methodLink RX5 129 yX5_leastBits, Cond.instanceMethod yX5_leastBits, Cond.selects RX5 yX5_leastBits yX5_leastBits, Cond.code yX5_leastBits cX5_leastBits 5 (some .int), Cond.methodLink RX5 140 yX5_keepsFewest, Cond.instanceMethod yX5_keepsFewest, Cond.selects RX5 yX5_keepsFewest yX5_keepsFewest, Cond.code yX5_keepsFewest cX5_keepsFewest 6 (some .boolean), Cond.methodLink RX5 90 yX5_freshOf, Cond.static yX5_freshOf, Cond.code yX5_freshOf cX5_freshOf 1 (some .int), Cond.methodLink RX5 133 yX4_write, Cond.instanceMethod yX4_write, Cond.selects RX4 yX4_write yX4_write]
def wsX5_writeInto_r3 : List Cond := [Cond.code yX4_write cX4_write 4 none, Cond.fieldLink RX4 24 "TiedFrame$Plan" "bits" "[[I", Cond.methodLink RX5 63 yX0_places, Cond.instanceMethod yX0_places, Cond.selects RX0 yX0_places yX0_places, Cond.initialized RX0, Cond.code yX0_places cX0_places 1 (some .int), Cond.fieldLink RX0 34 "TiedFrame$Cloth" "places" "I", Cond.methodLink RX5 72 yX0_underFold, Cond.instanceMethod yX0_underFold, Cond.selects RX0 yX0_underFold yX0_underFold, Cond.code yX0_underFold cX0_underFold 3 (some .int), Cond.methodLink RX0 40 yX0_freePlaces, Cond.instanceMethod yX0_freePlaces, Cond.selects RX0 yX0_freePlaces yX0_freePlaces, Cond.code yX0_freePlaces cX0_freePlaces 2 (some .int), Cond.fieldLink RX0 18 "TiedFrame$Cloth" "folded" "[Z", Cond.methodLink RX5 137 yX4_bitsAt, Cond.instanceMethod yX4_bitsAt, Cond.selects RX4 yX4_bitsAt yX4_bitsAt, Cond.code yX4_bitsAt cX4_bitsAt 3 (some .int)]
def wsX5_writeInto : List Cond := .code yX5_writeInto cX5_writeInto 7 none :: ((wsX5_writeInto_r1 ++ (wsX5_writeInto_r2 ++ wsX5_writeInto_r3)) ++ wsX50 ++ wsX40 ++ wsX00)
def wsX6_init : List Cond := .code yX6_init cX6_init 1 none :: ([.methodLink RX6 3 objectInit, .instanceMethod objectInit, .code objectInit ⟨#[0xb1]⟩ 1 none, .arrayClass .int, .fieldLink RX6 9 "TiedFrame$Slips" "lows" "[I", .fieldLink RX6 15 "TiedFrame$Slips" "highs" "[I"] ++ wsX60)
def wsX6_let : List Cond := .code yX6_let cX6_let 4 none :: ([.fieldLink RX6 9 "TiedFrame$Slips" "lows" "[I", .fieldLink RX6 15 "TiedFrame$Slips" "highs" "[I"] ++ wsX60)
def wsX6_clear : List Cond := .code yX6_clear cX6_clear 2 none :: ([.methodLink RX6 18 yX6_let, .instanceMethod yX6_let, .selects RX6 yX6_let yX6_let, .initialized RX6, .code yX6_let cX6_let 4 none, .fieldLink RX6 9 "TiedFrame$Slips" "lows" "[I", .fieldLink RX6 15 "TiedFrame$Slips" "highs" "[I"] ++ wsX60)
def wsX6_showsAt : List Cond := .code yX6_showsAt cX6_showsAt 7 (some .int) :: ([.fieldLink RX6 9 "TiedFrame$Slips" "lows" "[I", .fieldLink RX6 15 "TiedFrame$Slips" "highs" "[I", .methodLink RX6 22 yX0_places, .instanceMethod yX0_places, .selects RX0 yX0_places yX0_places, .initialized RX0, .code yX0_places cX0_places 1 (some .int), .fieldLink RX0 34 "TiedFrame$Cloth" "places" "I", .methodLink RX6 28 yX0_colourAt, .instanceMethod yX0_colourAt, .selects RX0 yX0_colourAt yX0_colourAt, .code yX0_colourAt cX0_colourAt 3 (some .int), .fieldLink RX0 27 "TiedFrame$Cloth" "colours" "[[I", .fieldLink RX0 9 "TiedFrame$Cloth" "home" "[I"] ++ wsX60 ++ wsX00)
def wsX7_init : List Cond := .code yX7_init cX7_init 1 none :: ([.methodLink RX7 3 objectInit, .instanceMethod objectInit, .code objectInit ⟨#[0xb1]⟩ 1 none, .arrayClass .int, .fieldLink RX7 9 "TiedFrame$Vats" "strength" "[I", .fieldLink RX7 15 "TiedFrame$Vats" "due" "[I"] ++ wsX70)
def wsX7_strengthOf : List Cond := .code yX7_strengthOf cX7_strengthOf 2 (some .int) :: ([.fieldLink RX7 9 "TiedFrame$Vats" "strength" "[I"] ++ wsX70)
def wsX7_fill : List Cond := .code yX7_fill cX7_fill 3 none :: ([.fieldLink RX7 9 "TiedFrame$Vats" "strength" "[I"] ++ wsX70)
def wsX7_lose : List Cond := .code yX7_lose cX7_lose 3 none :: ([.fieldLink RX7 9 "TiedFrame$Vats" "strength" "[I"] ++ wsX70)
def wsX7_sufficeFor_r1 : List Cond := [Cond.fieldLink RX7 15 "TiedFrame$Vats" "due" "[I", Cond.fieldLink RX7 9 "TiedFrame$Vats" "strength" "[I", Cond.methodLink RX7 18 yX4_row, Cond.instanceMethod yX4_row, Cond.selects RX4 yX4_row yX4_row, Cond.initialized RX4, Cond.code yX4_row cX4_row 1 (some .int), Cond.fieldLink RX4 15 "TiedFrame$Plan" "row" "I", Cond.static yX8_bathsOf, Cond.initialized RX8, Cond.code yX8_bathsOf cX8_bathsOf 2 (some .int), Cond.methodLink RX8 224 yX8_dyeOf, Cond.static yX8_dyeOf, Cond.code yX8_dyeOf cX8_dyeOf 2 (some .int), Cond.methodLink RX7 32 yX0_wouldTakeUp, Cond.instanceMethod yX0_wouldTakeUp, Cond.selects RX0 yX0_wouldTakeUp yX0_wouldTakeUp, Cond.initialized RX0, Cond.code yX0_wouldTakeUp cX0_wouldTakeUp 5 (some .int), Cond.methodLink RX0 53 yX0_knotsOf, Cond.instanceMethod yX0_knotsOf, Cond.selects RX0 yX0_knotsOf yX0_knotsOf, Cond.code yX0_knotsOf cX0_knotsOf 6 (some .int), Cond.fieldLink RX0 34 "TiedFrame$Cloth" "places" "I"]
def wsX7_sufficeFor_r2 : List Cond := [Cond.methodLink RX0 57 yX4_bitsAt, Cond.instanceMethod yX4_bitsAt, Cond.selects RX4 yX4_bitsAt yX4_bitsAt, Cond.code yX4_bitsAt cX4_bitsAt 3 (some .int), Cond.fieldLink RX4 24 "TiedFrame$Plan" "bits" "[[I", Cond.methodLink RX0 63 yX0_takenBy, Cond.instanceMethod yX0_takenBy, Cond.selects RX0 yX0_takenBy yX0_takenBy, Cond.code yX0_takenBy cX0_takenBy 3 (some .int), Cond.fieldLink RX0 15 "TiedFrame$Cloth" "crowd" "[I", Cond.methodLink RX0 48 yJ6_bitCount_0f7a4, Cond.static yJ6_bitCount_0f7a4, Cond.initialized RJ6, Cond.code yJ6_bitCount_0f7a4 cJ6_bitCount_0f7a4 1 (some .int), Cond.constant RJ6 265 (1431655765), Cond.constant RJ6 266 (858993459), Cond.constant RJ6 267 (252645135)]
def wsX7_sufficeFor : List Cond := .code yX7_sufficeFor cX7_sufficeFor 5 (some .boolean) :: ((wsX7_sufficeFor_r1 ++ wsX7_sufficeFor_r2) ++ wsX70 ++ wsX40 ++ wsX00)
def wsX8_init_r1 : List Cond := [Cond.methodLink RX8 3 objectInit, Cond.instanceMethod objectInit, Cond.code objectInit ⟨#[0xb1]⟩ 1 none, Cond.classLink RX8 9 RX2, Cond.instantiable RX2 1, Cond.initialized RX2, Cond.fieldLink RX8 12 "TiedFrame" "mixing" "LTiedFrame$Mixing;", Cond.classLink RX8 16 RX7, Cond.instantiable RX7 2, Cond.initialized RX7, Cond.fieldLink RX8 19 "TiedFrame" "vats" "LTiedFrame$Vats;", Cond.classLink RX8 23 RX0, Cond.instantiable RX0 7, Cond.initialized RX0, Cond.fieldLink RX8 26 "TiedFrame" "cloth" "LTiedFrame$Cloth;", Cond.classLink RX8 30 RX3, Cond.instantiable RX3 1, Cond.initialized RX3, Cond.fieldLink RX8 33 "TiedFrame" "picture" "LTiedFrame$Picture;", Cond.classLink RX8 37 RX5, Cond.instantiable RX5 9, Cond.initialized RX5, Cond.fieldLink RX8 40 "TiedFrame" "planner" "LTiedFrame$Planner;", Cond.classLink RX8 44 RX4]
def wsX8_init_r2 : List Cond := [Cond.instantiable RX4 4, Cond.initialized RX4, Cond.fieldLink RX8 47 "TiedFrame" "held" "LTiedFrame$Plan;", Cond.classLink RX8 51 RX6, Cond.instantiable RX6 2, Cond.initialized RX6, Cond.fieldLink RX8 54 "TiedFrame" "slips" "LTiedFrame$Slips;", Cond.classLink RX8 58 RX1, Cond.instantiable RX1 4, Cond.initialized RX1, Cond.fieldLink RX8 61 "TiedFrame" "laws" "LTiedFrame$Laws;", Cond.fieldLink RX8 65 "TiedFrame" "bathsEver" "I", Cond.methodLink RX8 11 yX2_init, Cond.instanceMethod yX2_init, Cond.code yX2_init cX2_init 3 none, Cond.methodLink RX2 3 objectInit, Cond.arrayClass .int, Cond.fieldLink RX2 9 "TiedFrame$Mixing" "to" "[I", Cond.instanceMethod yX7_init, Cond.code yX7_init cX7_init 1 none, Cond.methodLink RX7 3 objectInit, Cond.fieldLink RX7 9 "TiedFrame$Vats" "strength" "[I", Cond.fieldLink RX7 15 "TiedFrame$Vats" "due" "[I", Cond.instanceMethod yX0_init]
def wsX8_init_r3 : List Cond := [Cond.code yX0_init cX0_init 1 none, Cond.methodLink RX0 3 objectInit, Cond.fieldLink RX0 9 "TiedFrame$Cloth" "home" "[I", Cond.fieldLink RX0 15 "TiedFrame$Cloth" "crowd" "[I", Cond.arrayClass .boolean, Cond.fieldLink RX0 18 "TiedFrame$Cloth" "folded" "[Z", Cond.fieldLink RX0 22 "TiedFrame$Cloth" "knots" "[I", Cond.classLink RX0 25 "[[I", Cond.fieldLink RX0 27 "TiedFrame$Cloth" "colours" "[[I", Cond.instanceMethod yX3_init, Cond.code yX3_init cX3_init 1 none, Cond.methodLink RX3 3 objectInit, Cond.classLink RX3 9 "[[I", Cond.fieldLink RX3 11 "TiedFrame$Picture" "wanted" "[[I", Cond.methodLink RX8 39 yX5_init, Cond.instanceMethod yX5_init, Cond.code yX5_init cX5_init 3 none, Cond.methodLink RX5 3 objectInit, Cond.fieldLink RX5 9 "TiedFrame$Planner" "span" "[I", Cond.classLink RX5 15 "[[I", Cond.fieldLink RX5 17 "TiedFrame$Planner" "aim" "[[I", Cond.fieldLink RX5 20 "TiedFrame$Planner" "aims" "I", Cond.fieldLink RX5 24 "TiedFrame$Planner" "row" "I", Cond.fieldLink RX5 27 "TiedFrame$Planner" "outcome" "[I"]
def wsX8_init_r4 : List Cond := [Cond.fieldLink RX5 30 "TiedFrame$Planner" "ways" "[I", Cond.fieldLink RX5 33 "TiedFrame$Planner" "freshWays" "[I", Cond.fieldLink RX5 36 "TiedFrame$Planner" "rest" "[[I", Cond.fieldLink RX5 39 "TiedFrame$Planner" "starts" "[[I", Cond.methodLink RX5 42 yJ6_bitCount_0f7a4, Cond.static yJ6_bitCount_0f7a4, Cond.initialized RJ6, Cond.code yJ6_bitCount_0f7a4 cJ6_bitCount_0f7a4 1 (some .int), Cond.constant RJ6 265 (1431655765), Cond.constant RJ6 266 (858993459), Cond.constant RJ6 267 (252645135), Cond.instanceMethod yX4_init, Cond.code yX4_init cX4_init 1 none, Cond.methodLink RX4 3 objectInit, Cond.fieldLink RX4 9 "TiedFrame$Plan" "exists" "Z", Cond.fieldLink RX4 15 "TiedFrame$Plan" "row" "I", Cond.fieldLink RX4 19 "TiedFrame$Plan" "ties" "I", Cond.classLink RX4 22 "[[I", Cond.fieldLink RX4 24 "TiedFrame$Plan" "bits" "[[I", Cond.instanceMethod yX6_init, Cond.code yX6_init cX6_init 1 none, Cond.methodLink RX6 3 objectInit, Cond.fieldLink RX6 9 "TiedFrame$Slips" "lows" "[I", Cond.fieldLink RX6 15 "TiedFrame$Slips" "highs" "[I"]
def wsX8_init_r5 : List Cond := [Cond.instanceMethod yX1_init, Cond.code yX1_init cX1_init 1 none, Cond.methodLink RX1 3 objectInit, Cond.fieldLink RX1 9 "TiedFrame$Laws" "days" "[I", Cond.fieldLink RX1 15 "TiedFrame$Laws" "colours" "[I", Cond.fieldLink RX1 18 "TiedFrame$Laws" "ranks" "[I", Cond.fieldLink RX1 21 "TiedFrame$Laws" "size" "I", Cond.methodLink RX8 69 yX0_stretch, Cond.instanceMethod yX0_stretch, Cond.selects RX0 yX0_stretch yX0_stretch, Cond.code yX0_stretch cX0_stretch 4 none, Cond.fieldLink RX0 30 "TiedFrame$Cloth" "threads" "I", Cond.fieldLink RX0 34 "TiedFrame$Cloth" "places" "I", Cond.methodLink RX0 37 yX0_wash, Cond.instanceMethod yX0_wash, Cond.selects RX0 yX0_wash yX0_wash, Cond.code yX0_wash cX0_wash 3 none]
def wsX8_init : List Cond := .code yX8_init cX8_init 1 none :: ((wsX8_init_r1 ++ (wsX8_init_r2 ++ (wsX8_init_r3 ++ (wsX8_init_r4 ++ wsX8_init_r5)))) ++ wsX20 ++ wsX80 ++ wsX70 ++ wsX00 ++ wsX30 ++ wsX50 ++ wsX40 ++ wsX60 ++ wsX10)
def wsX8_frame_r1 : List Cond := [Cond.classLink RX8 73 "java/lang/IllegalArgumentException", Cond.initialized "java/lang/IllegalArgumentException", Cond.fieldLink RX8 26 "TiedFrame" "cloth" "LTiedFrame$Cloth;", Cond.fieldLink RX8 33 "TiedFrame" "picture" "LTiedFrame$Picture;", Cond.fieldLink RX8 54 "TiedFrame" "slips" "LTiedFrame$Slips;", Cond.fieldLink RX8 47 "TiedFrame" "held" "LTiedFrame$Plan;", Cond.methodLink RX8 69 yX0_stretch, Cond.instanceMethod yX0_stretch, Cond.selects RX0 yX0_stretch yX0_stretch, Cond.initialized RX0, Cond.code yX0_stretch cX0_stretch 4 none, Cond.fieldLink RX0 30 "TiedFrame$Cloth" "threads" "I", Cond.fieldLink RX0 34 "TiedFrame$Cloth" "places" "I", Cond.fieldLink RX0 9 "TiedFrame$Cloth" "home" "[I", Cond.fieldLink RX0 15 "TiedFrame$Cloth" "crowd" "[I", Cond.fieldLink RX0 18 "TiedFrame$Cloth" "folded" "[Z", Cond.methodLink RX0 37 yX0_wash, Cond.instanceMethod yX0_wash, Cond.selects RX0 yX0_wash yX0_wash, Cond.code yX0_wash cX0_wash 3 none, Cond.fieldLink RX0 22 "TiedFrame$Cloth" "knots" "[I", Cond.fieldLink RX0 27 "TiedFrame$Cloth" "colours" "[[I", Cond.methodLink RX8 80 yX3_clear, Cond.instanceMethod yX3_clear]
def wsX8_frame_r2 : List Cond := [Cond.selects RX3 yX3_clear yX3_clear, Cond.initialized RX3, Cond.code yX3_clear cX3_clear 3 none, Cond.fieldLink RX3 11 "TiedFrame$Picture" "wanted" "[[I", Cond.methodLink RX8 83 yX6_clear, Cond.instanceMethod yX6_clear, Cond.selects RX6 yX6_clear yX6_clear, Cond.initialized RX6, Cond.code yX6_clear cX6_clear 2 none, Cond.methodLink RX6 18 yX6_let, Cond.instanceMethod yX6_let, Cond.selects RX6 yX6_let yX6_let, Cond.code yX6_let cX6_let 4 none, Cond.fieldLink RX6 9 "TiedFrame$Slips" "lows" "[I", Cond.fieldLink RX6 15 "TiedFrame$Slips" "highs" "[I", Cond.methodLink RX8 84 yX4_drop, Cond.instanceMethod yX4_drop, Cond.selects RX4 yX4_drop yX4_drop, Cond.initialized RX4, Cond.code yX4_drop cX4_drop 1 none, Cond.fieldLink RX4 9 "TiedFrame$Plan" "exists" "Z"]
def wsX8_frame : List Cond := .code yX8_frame cX8_frame 3 none :: ((wsX8_frame_r1 ++ wsX8_frame_r2) ++ wsX80 ++ wsX00 ++ wsX30 ++ wsX60 ++ wsX40 ++ (vx_atS RX8 77 "java/lang/IllegalArgumentException" ["java/lang/RuntimeException", "java/lang/Exception"]).filter goodWord)
def wsX8_needThread : List Cond := .code yX8_needThread cX8_needThread 2 none :: ([.classLink RX8 112 "java/lang/IndexOutOfBoundsException", .initialized "java/lang/IndexOutOfBoundsException", .fieldLink RX8 26 "TiedFrame" "cloth" "LTiedFrame$Cloth;", .methodLink RX8 240 yX0_threads, .instanceMethod yX0_threads, .selects RX0 yX0_threads yX0_threads, .initialized RX0, .code yX0_threads cX0_threads 1 (some .int), .fieldLink RX0 30 "TiedFrame$Cloth" "threads" "I"] ++ wsX80 ++ wsX00 ++ (vx_atS RX8 116 "java/lang/IndexOutOfBoundsException" ["java/lang/RuntimeException", "java/lang/Exception"]).filter goodWord)
def wsX8_needBundle : List Cond := .code yX8_needBundle cX8_needBundle 1 none :: ([.classLink RX8 112 "java/lang/IndexOutOfBoundsException", .initialized "java/lang/IndexOutOfBoundsException"] ++ (vx_atS RX8 116 "java/lang/IndexOutOfBoundsException" ["java/lang/RuntimeException", "java/lang/Exception"]).filter goodWord)
def wsX8_into_r1 : List Cond := [Cond.fieldLink RX8 26 "TiedFrame" "cloth" "LTiedFrame$Cloth;", Cond.fieldLink RX8 47 "TiedFrame" "held" "LTiedFrame$Plan;", Cond.methodLink RX8 87 yX8_needThread, Cond.instanceMethod yX8_needThread, Cond.selects RX8 yX8_needThread yX8_needThread, Cond.initialized RX8, Cond.code yX8_needThread cX8_needThread 2 none, Cond.classLink RX8 112 "java/lang/IndexOutOfBoundsException", Cond.initialized "java/lang/IndexOutOfBoundsException", Cond.methodLink RX8 240 yX0_threads, Cond.instanceMethod yX0_threads, Cond.selects RX0 yX0_threads yX0_threads, Cond.initialized RX0, Cond.code yX0_threads cX0_threads 1 (some .int), Cond.fieldLink RX0 30 "TiedFrame$Cloth" "threads" "I", Cond.methodLink RX8 91 yX8_needBundle, Cond.static yX8_needBundle, Cond.code yX8_needBundle cX8_needBundle 1 none, Cond.methodLink RX8 94 yX0_bundleOf, Cond.instanceMethod yX0_bundleOf, Cond.selects RX0 yX0_bundleOf yX0_bundleOf, Cond.code yX0_bundleOf cX0_bundleOf 2 (some .int), Cond.fieldLink RX0 9 "TiedFrame$Cloth" "home" "[I", Cond.methodLink RX8 98 yX0_move]
def wsX8_into_r2 : List Cond := [Cond.instanceMethod yX0_move, Cond.selects RX0 yX0_move yX0_move, Cond.code yX0_move cX0_move 3 none, Cond.fieldLink RX0 15 "TiedFrame$Cloth" "crowd" "[I", Cond.methodLink RX0 37 yX0_wash, Cond.instanceMethod yX0_wash, Cond.selects RX0 yX0_wash yX0_wash, Cond.code yX0_wash cX0_wash 3 none, Cond.fieldLink RX0 22 "TiedFrame$Cloth" "knots" "[I", Cond.fieldLink RX0 27 "TiedFrame$Cloth" "colours" "[[I", Cond.methodLink RX8 84 yX4_drop, Cond.instanceMethod yX4_drop, Cond.selects RX4 yX4_drop yX4_drop, Cond.initialized RX4, Cond.code yX4_drop cX4_drop 1 none, Cond.fieldLink RX4 9 "TiedFrame$Plan" "exists" "Z"]
def wsX8_into : List Cond := .code yX8_into cX8_into 4 (some .int) :: ((wsX8_into_r1 ++ wsX8_into_r2) ++ wsX80 ++ wsX00 ++ wsX40 ++ (vx_atS RX8 116 "java/lang/IndexOutOfBoundsException" ["java/lang/RuntimeException", "java/lang/Exception"]).filter goodWord)
def wsX8_fold_r1 : List Cond := [Cond.fieldLink RX8 26 "TiedFrame" "cloth" "LTiedFrame$Cloth;", Cond.fieldLink RX8 47 "TiedFrame" "held" "LTiedFrame$Plan;", Cond.methodLink RX8 91 yX8_needBundle, Cond.static yX8_needBundle, Cond.initialized RX8, Cond.code yX8_needBundle cX8_needBundle 1 none, Cond.classLink RX8 112 "java/lang/IndexOutOfBoundsException", Cond.initialized "java/lang/IndexOutOfBoundsException", Cond.methodLink RX8 101 yX0_isFolded, Cond.instanceMethod yX0_isFolded, Cond.selects RX0 yX0_isFolded yX0_isFolded, Cond.initialized RX0, Cond.code yX0_isFolded cX0_isFolded 2 (some .boolean), Cond.fieldLink RX0 18 "TiedFrame$Cloth" "folded" "[Z", Cond.methodLink RX8 105 yX0_setFolded, Cond.instanceMethod yX0_setFolded, Cond.selects RX0 yX0_setFolded yX0_setFolded, Cond.code yX0_setFolded cX0_setFolded 3 none, Cond.methodLink RX0 37 yX0_wash, Cond.instanceMethod yX0_wash, Cond.selects RX0 yX0_wash yX0_wash, Cond.code yX0_wash cX0_wash 3 none, Cond.fieldLink RX0 22 "TiedFrame$Cloth" "knots" "[I", Cond.fieldLink RX0 27 "TiedFrame$Cloth" "colours" "[[I"]
def wsX8_fold_r2 : List Cond := [Cond.methodLink RX8 84 yX4_drop, Cond.instanceMethod yX4_drop, Cond.selects RX4 yX4_drop yX4_drop, Cond.initialized RX4, Cond.code yX4_drop cX4_drop 1 none, Cond.fieldLink RX4 9 "TiedFrame$Plan" "exists" "Z"]
def wsX8_fold : List Cond := .code yX8_fold cX8_fold 4 (some .boolean) :: ((wsX8_fold_r1 ++ wsX8_fold_r2) ++ wsX80 ++ wsX00 ++ wsX40 ++ (vx_atS RX8 116 "java/lang/IndexOutOfBoundsException" ["java/lang/RuntimeException", "java/lang/Exception"]).filter goodWord)
def wsX8_isColour : List Cond := .code yX8_isColour cX8_isColour 1 (some .boolean) :: ([])
def wsX8_needDye : List Cond := .code yX8_needDye cX8_needDye 1 none :: ([.classLink RX8 112 "java/lang/IndexOutOfBoundsException", .initialized "java/lang/IndexOutOfBoundsException"] ++ (vx_atS RX8 116 "java/lang/IndexOutOfBoundsException" ["java/lang/RuntimeException", "java/lang/Exception"]).filter goodWord)
def wsX8_table_r1 : List Cond := [Cond.classLink RX8 112 "java/lang/IndexOutOfBoundsException", Cond.initialized "java/lang/IndexOutOfBoundsException", Cond.classLink RX8 73 "java/lang/IllegalArgumentException", Cond.initialized "java/lang/IllegalArgumentException", Cond.fieldLink RX8 12 "TiedFrame" "mixing" "LTiedFrame$Mixing;", Cond.fieldLink RX8 47 "TiedFrame" "held" "LTiedFrame$Plan;", Cond.methodLink RX8 109 yX8_isColour, Cond.static yX8_isColour, Cond.initialized RX8, Cond.code yX8_isColour cX8_isColour 1 (some .boolean), Cond.methodLink RX8 117 yX8_needDye, Cond.static yX8_needDye, Cond.code yX8_needDye cX8_needDye 1 none, Cond.methodLink RX8 122 yX2_comesOf, Cond.instanceMethod yX2_comesOf, Cond.selects RX2 yX2_comesOf yX2_comesOf, Cond.initialized RX2, Cond.code yX2_comesOf cX2_comesOf 3 (some .int), Cond.fieldLink RX2 9 "TiedFrame$Mixing" "to" "[I", Cond.methodLink RX8 126 yX2_tell, Cond.instanceMethod yX2_tell, Cond.selects RX2 yX2_tell yX2_tell, Cond.code yX2_tell cX2_tell 4 none, Cond.methodLink RX8 84 yX4_drop]
def wsX8_table_r2 : List Cond := [Cond.instanceMethod yX4_drop, Cond.selects RX4 yX4_drop yX4_drop, Cond.initialized RX4, Cond.code yX4_drop cX4_drop 1 none, Cond.fieldLink RX4 9 "TiedFrame$Plan" "exists" "Z"]
def wsX8_table : List Cond := .code yX8_table cX8_table 5 (some .int) :: ((wsX8_table_r1 ++ wsX8_table_r2) ++ wsX80 ++ wsX20 ++ wsX40 ++ (vx_atS RX8 116 "java/lang/IndexOutOfBoundsException" ["java/lang/RuntimeException", "java/lang/Exception"]).filter goodWord ++ (vx_atS RX8 77 "java/lang/IllegalArgumentException" ["java/lang/RuntimeException", "java/lang/Exception"]).filter goodWord)
def wsX8_vat : List Cond := .code yX8_vat cX8_vat 3 (some .int) :: ([.constant RX8 130 (1000000), .fieldLink RX8 19 "TiedFrame" "vats" "LTiedFrame$Vats;", .methodLink RX8 117 yX8_needDye, .static yX8_needDye, .initialized RX8, .code yX8_needDye cX8_needDye 1 none, .classLink RX8 112 "java/lang/IndexOutOfBoundsException", .initialized "java/lang/IndexOutOfBoundsException", .methodLink RX8 131 yX7_strengthOf, .instanceMethod yX7_strengthOf, .selects RX7 yX7_strengthOf yX7_strengthOf, .initialized RX7, .code yX7_strengthOf cX7_strengthOf 2 (some .int), .fieldLink RX7 9 "TiedFrame$Vats" "strength" "[I", .methodLink RX8 134 yX7_fill, .instanceMethod yX7_fill, .selects RX7 yX7_fill yX7_fill, .code yX7_fill cX7_fill 3 none] ++ wsX80 ++ wsX70 ++ (vx_atS RX8 116 "java/lang/IndexOutOfBoundsException" ["java/lang/RuntimeException", "java/lang/Exception"]).filter goodWord)
def wsX8_needPlace : List Cond := .code yX8_needPlace cX8_needPlace 2 none :: ([.classLink RX8 112 "java/lang/IndexOutOfBoundsException", .initialized "java/lang/IndexOutOfBoundsException", .fieldLink RX8 26 "TiedFrame" "cloth" "LTiedFrame$Cloth;", .methodLink RX8 243 yX0_places, .instanceMethod yX0_places, .selects RX0 yX0_places yX0_places, .initialized RX0, .code yX0_places cX0_places 1 (some .int), .fieldLink RX0 34 "TiedFrame$Cloth" "places" "I"] ++ wsX80 ++ wsX00 ++ (vx_atS RX8 116 "java/lang/IndexOutOfBoundsException" ["java/lang/RuntimeException", "java/lang/Exception"]).filter goodWord)
def wsX8_needRange : List Cond := .code yX8_needRange cX8_needRange 4 none :: ([.classLink RX8 73 "java/lang/IllegalArgumentException", .initialized "java/lang/IllegalArgumentException", .methodLink RX8 91 yX8_needBundle, .static yX8_needBundle, .initialized RX8, .code yX8_needBundle cX8_needBundle 1 none, .classLink RX8 112 "java/lang/IndexOutOfBoundsException", .initialized "java/lang/IndexOutOfBoundsException", .methodLink RX8 158 yX8_needPlace, .instanceMethod yX8_needPlace, .selects RX8 yX8_needPlace yX8_needPlace, .code yX8_needPlace cX8_needPlace 2 none, .fieldLink RX8 26 "TiedFrame" "cloth" "LTiedFrame$Cloth;", .methodLink RX8 243 yX0_places, .instanceMethod yX0_places, .selects RX0 yX0_places yX0_places, .initialized RX0, .code yX0_places cX0_places 1 (some .int), .fieldLink RX0 34 "TiedFrame$Cloth" "places" "I"] ++ wsX80 ++ wsX00 ++ (vx_atS RX8 77 "java/lang/IllegalArgumentException" ["java/lang/RuntimeException", "java/lang/Exception"]).filter goodWord ++ (vx_atS RX8 116 "java/lang/IndexOutOfBoundsException" ["java/lang/RuntimeException", "java/lang/Exception"]).filter goodWord)
def wsX8_tie_r1 : List Cond := [Cond.fieldLink RX8 26 "TiedFrame" "cloth" "LTiedFrame$Cloth;", Cond.methodLink RX8 137 yX8_needRange, Cond.instanceMethod yX8_needRange, Cond.selects RX8 yX8_needRange yX8_needRange, Cond.initialized RX8, Cond.code yX8_needRange cX8_needRange 4 none, Cond.classLink RX8 73 "java/lang/IllegalArgumentException", Cond.initialized "java/lang/IllegalArgumentException", Cond.methodLink RX8 91 yX8_needBundle, Cond.static yX8_needBundle, Cond.code yX8_needBundle cX8_needBundle 1 none, Cond.classLink RX8 112 "java/lang/IndexOutOfBoundsException", Cond.initialized "java/lang/IndexOutOfBoundsException", Cond.methodLink RX8 158 yX8_needPlace, Cond.instanceMethod yX8_needPlace, Cond.selects RX8 yX8_needPlace yX8_needPlace, Cond.code yX8_needPlace cX8_needPlace 2 none, Cond.methodLink RX8 243 yX0_places, Cond.instanceMethod yX0_places, Cond.selects RX0 yX0_places yX0_places, Cond.initialized RX0, Cond.code yX0_places cX0_places 1 (some .int), Cond.fieldLink RX0 34 "TiedFrame$Cloth" "places" "I", Cond.methodLink RX8 140 yX0_bind]
def wsX8_tie_r2 : List Cond := [Cond.instanceMethod yX0_bind, Cond.selects RX0 yX0_bind yX0_bind, Cond.code yX0_bind cX0_bind 5 (some .int), Cond.fieldLink RX0 22 "TiedFrame$Cloth" "knots" "[I", Cond.methodLink RX0 44 yX0_reach, Cond.instanceMethod yX0_reach, Cond.selects RX0 yX0_reach yX0_reach, Cond.code yX0_reach cX0_reach 6 (some .int), Cond.fieldLink RX0 18 "TiedFrame$Cloth" "folded" "[Z", Cond.methodLink RX0 48 yJ6_bitCount_0f7a4, Cond.static yJ6_bitCount_0f7a4, Cond.initialized RJ6, Cond.code yJ6_bitCount_0f7a4 cJ6_bitCount_0f7a4 1 (some .int), Cond.constant RJ6 265 (1431655765), Cond.constant RJ6 266 (858993459), Cond.constant RJ6 267 (252645135)]
def wsX8_tie : List Cond := .code yX8_tie cX8_tie 4 (some .int) :: ((wsX8_tie_r1 ++ wsX8_tie_r2) ++ wsX80 ++ wsX00 ++ (vx_atS RX8 77 "java/lang/IllegalArgumentException" ["java/lang/RuntimeException", "java/lang/Exception"]).filter goodWord ++ (vx_atS RX8 116 "java/lang/IndexOutOfBoundsException" ["java/lang/RuntimeException", "java/lang/Exception"]).filter goodWord)
def wsX8_untie_r1 : List Cond := [Cond.fieldLink RX8 26 "TiedFrame" "cloth" "LTiedFrame$Cloth;", Cond.methodLink RX8 137 yX8_needRange, Cond.instanceMethod yX8_needRange, Cond.selects RX8 yX8_needRange yX8_needRange, Cond.initialized RX8, Cond.code yX8_needRange cX8_needRange 4 none, Cond.classLink RX8 73 "java/lang/IllegalArgumentException", Cond.initialized "java/lang/IllegalArgumentException", Cond.methodLink RX8 91 yX8_needBundle, Cond.static yX8_needBundle, Cond.code yX8_needBundle cX8_needBundle 1 none, Cond.classLink RX8 112 "java/lang/IndexOutOfBoundsException", Cond.initialized "java/lang/IndexOutOfBoundsException", Cond.methodLink RX8 158 yX8_needPlace, Cond.instanceMethod yX8_needPlace, Cond.selects RX8 yX8_needPlace yX8_needPlace, Cond.code yX8_needPlace cX8_needPlace 2 none, Cond.methodLink RX8 243 yX0_places, Cond.instanceMethod yX0_places, Cond.selects RX0 yX0_places yX0_places, Cond.initialized RX0, Cond.code yX0_places cX0_places 1 (some .int), Cond.fieldLink RX0 34 "TiedFrame$Cloth" "places" "I", Cond.methodLink RX8 144 yX0_loosen]
def wsX8_untie_r2 : List Cond := [Cond.instanceMethod yX0_loosen, Cond.selects RX0 yX0_loosen yX0_loosen, Cond.code yX0_loosen cX0_loosen 5 (some .int), Cond.fieldLink RX0 22 "TiedFrame$Cloth" "knots" "[I", Cond.methodLink RX0 44 yX0_reach, Cond.instanceMethod yX0_reach, Cond.selects RX0 yX0_reach yX0_reach, Cond.code yX0_reach cX0_reach 6 (some .int), Cond.fieldLink RX0 18 "TiedFrame$Cloth" "folded" "[Z", Cond.methodLink RX0 48 yJ6_bitCount_0f7a4, Cond.static yJ6_bitCount_0f7a4, Cond.initialized RJ6, Cond.code yJ6_bitCount_0f7a4 cJ6_bitCount_0f7a4 1 (some .int), Cond.constant RJ6 265 (1431655765), Cond.constant RJ6 266 (858993459), Cond.constant RJ6 267 (252645135)]
def wsX8_untie : List Cond := .code yX8_untie cX8_untie 4 (some .int) :: ((wsX8_untie_r1 ++ wsX8_untie_r2) ++ wsX80 ++ wsX00 ++ (vx_atS RX8 77 "java/lang/IllegalArgumentException" ["java/lang/RuntimeException", "java/lang/Exception"]).filter goodWord ++ (vx_atS RX8 116 "java/lang/IndexOutOfBoundsException" ["java/lang/RuntimeException", "java/lang/Exception"]).filter goodWord)
def wsX8_bath_r1 : List Cond := [Cond.fieldLink RX8 26 "TiedFrame" "cloth" "LTiedFrame$Cloth;", Cond.fieldLink RX8 19 "TiedFrame" "vats" "LTiedFrame$Vats;", Cond.fieldLink RX8 12 "TiedFrame" "mixing" "LTiedFrame$Mixing;", Cond.fieldLink RX8 65 "TiedFrame" "bathsEver" "I", Cond.methodLink RX8 117 yX8_needDye, Cond.static yX8_needDye, Cond.initialized RX8, Cond.code yX8_needDye cX8_needDye 1 none, Cond.classLink RX8 112 "java/lang/IndexOutOfBoundsException", Cond.initialized "java/lang/IndexOutOfBoundsException", Cond.methodLink RX8 147 yX0_takesUp, Cond.instanceMethod yX0_takesUp, Cond.selects RX0 yX0_takesUp yX0_takesUp, Cond.initialized RX0, Cond.code yX0_takesUp cX0_takesUp 3 (some .int), Cond.fieldLink RX0 22 "TiedFrame$Cloth" "knots" "[I", Cond.methodLink RX0 63 yX0_takenBy, Cond.instanceMethod yX0_takenBy, Cond.selects RX0 yX0_takenBy yX0_takenBy, Cond.code yX0_takenBy cX0_takenBy 3 (some .int), Cond.fieldLink RX0 15 "TiedFrame$Cloth" "crowd" "[I", Cond.fieldLink RX0 34 "TiedFrame$Cloth" "places" "I", Cond.methodLink RX0 48 yJ6_bitCount_0f7a4, Cond.static yJ6_bitCount_0f7a4]
def wsX8_bath_r2 : List Cond := [Cond.initialized RJ6, Cond.code yJ6_bitCount_0f7a4 cJ6_bitCount_0f7a4 1 (some .int), Cond.constant RJ6 265 (1431655765), Cond.constant RJ6 266 (858993459), Cond.constant RJ6 267 (252645135), Cond.methodLink RX8 131 yX7_strengthOf, Cond.instanceMethod yX7_strengthOf, Cond.selects RX7 yX7_strengthOf yX7_strengthOf, Cond.initialized RX7, Cond.code yX7_strengthOf cX7_strengthOf 2 (some .int), Cond.fieldLink RX7 9 "TiedFrame$Vats" "strength" "[I", Cond.methodLink RX8 151 yX7_lose, Cond.instanceMethod yX7_lose, Cond.selects RX7 yX7_lose yX7_lose, Cond.code yX7_lose cX7_lose 3 none, Cond.methodLink RX8 154 yX0_dip, Cond.instanceMethod yX0_dip, Cond.selects RX0 yX0_dip yX0_dip, Cond.code yX0_dip cX0_dip 5 none, Cond.fieldLink RX0 27 "TiedFrame$Cloth" "colours" "[[I", Cond.methodLink RX0 66 yX0_isBound, Cond.instanceMethod yX0_isBound, Cond.selects RX0 yX0_isBound yX0_isBound, Cond.code yX0_isBound cX0_isBound 3 (some .boolean)]
def wsX8_bath_r3 : List Cond := [Cond.methodLink RX0 70 yX2_comesOf, Cond.instanceMethod yX2_comesOf, Cond.selects RX2 yX2_comesOf yX2_comesOf, Cond.initialized RX2, Cond.code yX2_comesOf cX2_comesOf 3 (some .int), Cond.fieldLink RX2 9 "TiedFrame$Mixing" "to" "[I"]
def wsX8_bath : List Cond := .code yX8_bath cX8_bath 3 (some .int) :: ((wsX8_bath_r1 ++ (wsX8_bath_r2 ++ wsX8_bath_r3)) ++ wsX80 ++ wsX00 ++ wsX70 ++ wsX20 ++ (vx_atS RX8 116 "java/lang/IndexOutOfBoundsException" ["java/lang/RuntimeException", "java/lang/Exception"]).filter goodWord)
def wsX8_colour_r1 : List Cond := [Cond.fieldLink RX8 26 "TiedFrame" "cloth" "LTiedFrame$Cloth;", Cond.methodLink RX8 87 yX8_needThread, Cond.instanceMethod yX8_needThread, Cond.selects RX8 yX8_needThread yX8_needThread, Cond.initialized RX8, Cond.code yX8_needThread cX8_needThread 2 none, Cond.classLink RX8 112 "java/lang/IndexOutOfBoundsException", Cond.initialized "java/lang/IndexOutOfBoundsException", Cond.methodLink RX8 240 yX0_threads, Cond.instanceMethod yX0_threads, Cond.selects RX0 yX0_threads yX0_threads, Cond.initialized RX0, Cond.code yX0_threads cX0_threads 1 (some .int), Cond.fieldLink RX0 30 "TiedFrame$Cloth" "threads" "I", Cond.methodLink RX8 158 yX8_needPlace, Cond.instanceMethod yX8_needPlace, Cond.selects RX8 yX8_needPlace yX8_needPlace, Cond.code yX8_needPlace cX8_needPlace 2 none, Cond.methodLink RX8 243 yX0_places, Cond.instanceMethod yX0_places, Cond.selects RX0 yX0_places yX0_places, Cond.code yX0_places cX0_places 1 (some .int), Cond.fieldLink RX0 34 "TiedFrame$Cloth" "places" "I", Cond.methodLink RX8 161 yX0_colourAt]
def wsX8_colour_r2 : List Cond := [Cond.instanceMethod yX0_colourAt, Cond.selects RX0 yX0_colourAt yX0_colourAt, Cond.code yX0_colourAt cX0_colourAt 3 (some .int), Cond.fieldLink RX0 27 "TiedFrame$Cloth" "colours" "[[I", Cond.fieldLink RX0 9 "TiedFrame$Cloth" "home" "[I"]
def wsX8_colour : List Cond := .code yX8_colour cX8_colour 3 (some .int) :: ((wsX8_colour_r1 ++ wsX8_colour_r2) ++ wsX80 ++ wsX00 ++ (vx_atS RX8 116 "java/lang/IndexOutOfBoundsException" ["java/lang/RuntimeException", "java/lang/Exception"]).filter goodWord)
def wsX8_bound : List Cond := .code yX8_bound cX8_bound 3 (some .boolean) :: ([.fieldLink RX8 26 "TiedFrame" "cloth" "LTiedFrame$Cloth;", .methodLink RX8 91 yX8_needBundle, .static yX8_needBundle, .initialized RX8, .code yX8_needBundle cX8_needBundle 1 none, .classLink RX8 112 "java/lang/IndexOutOfBoundsException", .initialized "java/lang/IndexOutOfBoundsException", .methodLink RX8 158 yX8_needPlace, .instanceMethod yX8_needPlace, .selects RX8 yX8_needPlace yX8_needPlace, .code yX8_needPlace cX8_needPlace 2 none, .methodLink RX8 243 yX0_places, .instanceMethod yX0_places, .selects RX0 yX0_places yX0_places, .initialized RX0, .code yX0_places cX0_places 1 (some .int), .fieldLink RX0 34 "TiedFrame$Cloth" "places" "I", .methodLink RX8 164 yX0_isBound, .instanceMethod yX0_isBound, .selects RX0 yX0_isBound yX0_isBound, .code yX0_isBound cX0_isBound 3 (some .boolean), .fieldLink RX0 22 "TiedFrame$Cloth" "knots" "[I"] ++ wsX80 ++ wsX00 ++ (vx_atS RX8 116 "java/lang/IndexOutOfBoundsException" ["java/lang/RuntimeException", "java/lang/Exception"]).filter goodWord)
def wsX8_want_r1 : List Cond := [Cond.classLink RX8 73 "java/lang/IllegalArgumentException", Cond.initialized "java/lang/IllegalArgumentException", Cond.fieldLink RX8 33 "TiedFrame" "picture" "LTiedFrame$Picture;", Cond.fieldLink RX8 47 "TiedFrame" "held" "LTiedFrame$Plan;", Cond.methodLink RX8 87 yX8_needThread, Cond.instanceMethod yX8_needThread, Cond.selects RX8 yX8_needThread yX8_needThread, Cond.initialized RX8, Cond.code yX8_needThread cX8_needThread 2 none, Cond.classLink RX8 112 "java/lang/IndexOutOfBoundsException", Cond.initialized "java/lang/IndexOutOfBoundsException", Cond.fieldLink RX8 26 "TiedFrame" "cloth" "LTiedFrame$Cloth;", Cond.methodLink RX8 240 yX0_threads, Cond.instanceMethod yX0_threads, Cond.selects RX0 yX0_threads yX0_threads, Cond.initialized RX0, Cond.code yX0_threads cX0_threads 1 (some .int), Cond.fieldLink RX0 30 "TiedFrame$Cloth" "threads" "I", Cond.methodLink RX8 158 yX8_needPlace, Cond.instanceMethod yX8_needPlace, Cond.selects RX8 yX8_needPlace yX8_needPlace, Cond.code yX8_needPlace cX8_needPlace 2 none, Cond.methodLink RX8 243 yX0_places, Cond.instanceMethod yX0_places]
def wsX8_want_r2 : List Cond := [Cond.selects RX0 yX0_places yX0_places, Cond.code yX0_places cX0_places 1 (some .int), Cond.fieldLink RX0 34 "TiedFrame$Cloth" "places" "I", Cond.methodLink RX8 109 yX8_isColour, Cond.static yX8_isColour, Cond.code yX8_isColour cX8_isColour 1 (some .boolean), Cond.methodLink RX8 168 yX3_wantedAt, Cond.instanceMethod yX3_wantedAt, Cond.selects RX3 yX3_wantedAt yX3_wantedAt, Cond.initialized RX3, Cond.code yX3_wantedAt cX3_wantedAt 3 (some .int), Cond.fieldLink RX3 11 "TiedFrame$Picture" "wanted" "[[I", Cond.methodLink RX8 171 yX3_ask, Cond.instanceMethod yX3_ask, Cond.selects RX3 yX3_ask yX3_ask, Cond.code yX3_ask cX3_ask 4 none, Cond.methodLink RX8 84 yX4_drop, Cond.instanceMethod yX4_drop, Cond.selects RX4 yX4_drop yX4_drop, Cond.initialized RX4, Cond.code yX4_drop cX4_drop 1 none, Cond.fieldLink RX4 9 "TiedFrame$Plan" "exists" "Z"]
def wsX8_want : List Cond := .code yX8_want cX8_want 5 (some .int) :: ((wsX8_want_r1 ++ wsX8_want_r2) ++ wsX80 ++ wsX00 ++ wsX30 ++ wsX40 ++ (vx_atS RX8 77 "java/lang/IllegalArgumentException" ["java/lang/RuntimeException", "java/lang/Exception"]).filter goodWord ++ (vx_atS RX8 116 "java/lang/IndexOutOfBoundsException" ["java/lang/RuntimeException", "java/lang/Exception"]).filter goodWord)
def wsX8_isRow : List Cond := .code yX8_isRow cX8_isRow 4 (some .boolean) :: ([.methodLink RX8 211 yX8_bathsOf, .static yX8_bathsOf, .initialized RX8, .code yX8_bathsOf cX8_bathsOf 2 (some .int), .methodLink RX8 224 yX8_dyeOf, .static yX8_dyeOf, .code yX8_dyeOf cX8_dyeOf 2 (some .int)])
def wsX8_plan_r1 : List Cond := [Cond.classLink RX8 73 "java/lang/IllegalArgumentException", Cond.initialized "java/lang/IllegalArgumentException", Cond.fieldLink RX8 40 "TiedFrame" "planner" "LTiedFrame$Planner;", Cond.fieldLink RX8 26 "TiedFrame" "cloth" "LTiedFrame$Cloth;", Cond.fieldLink RX8 33 "TiedFrame" "picture" "LTiedFrame$Picture;", Cond.fieldLink RX8 12 "TiedFrame" "mixing" "LTiedFrame$Mixing;", Cond.fieldLink RX8 47 "TiedFrame" "held" "LTiedFrame$Plan;", Cond.methodLink RX8 174 yX8_isRow, Cond.static yX8_isRow, Cond.initialized RX8, Cond.code yX8_isRow cX8_isRow 4 (some .boolean), Cond.methodLink RX8 211 yX8_bathsOf, Cond.static yX8_bathsOf, Cond.code yX8_bathsOf cX8_bathsOf 2 (some .int), Cond.methodLink RX8 224 yX8_dyeOf, Cond.static yX8_dyeOf, Cond.code yX8_dyeOf cX8_dyeOf 2 (some .int), Cond.methodLink RX8 179 yX5_aimAt, Cond.instanceMethod yX5_aimAt, Cond.selects RX5 yX5_aimAt yX5_aimAt, Cond.initialized RX5, Cond.code yX5_aimAt cX5_aimAt 8 (some .boolean), Cond.fieldLink RX5 9 "TiedFrame$Planner" "span" "[I", Cond.fieldLink RX5 17 "TiedFrame$Planner" "aim" "[[I"]
def wsX8_plan_r2 : List Cond := [Cond.fieldLink RX5 20 "TiedFrame$Planner" "aims" "I", Cond.methodLink RX5 48 yX0_threadsIn, Cond.instanceMethod yX0_threadsIn, Cond.selects RX0 yX0_threadsIn yX0_threadsIn, Cond.initialized RX0, Cond.code yX0_threadsIn cX0_threadsIn 2 (some .int), Cond.fieldLink RX0 15 "TiedFrame$Cloth" "crowd" "[I", Cond.methodLink RX5 53 yX0_freePlaces, Cond.instanceMethod yX0_freePlaces, Cond.selects RX0 yX0_freePlaces yX0_freePlaces, Cond.code yX0_freePlaces cX0_freePlaces 2 (some .int), Cond.fieldLink RX0 18 "TiedFrame$Cloth" "folded" "[Z", Cond.fieldLink RX0 34 "TiedFrame$Cloth" "places" "I", Cond.methodLink RX5 56 yX0_threads, Cond.instanceMethod yX0_threads, Cond.selects RX0 yX0_threads yX0_threads, Cond.code yX0_threads cX0_threads 1 (some .int), Cond.fieldLink RX0 30 "TiedFrame$Cloth" "threads" "I", Cond.methodLink RX5 60 yX0_bundleOf, Cond.instanceMethod yX0_bundleOf, Cond.selects RX0 yX0_bundleOf yX0_bundleOf, Cond.code yX0_bundleOf cX0_bundleOf 2 (some .int), Cond.fieldLink RX0 9 "TiedFrame$Cloth" "home" "[I", Cond.methodLink RX5 63 yX0_places]
def wsX8_plan_r3 : List Cond := [Cond.instanceMethod yX0_places, Cond.selects RX0 yX0_places yX0_places, Cond.code yX0_places cX0_places 1 (some .int), Cond.methodLink RX5 66 yX3_wantedAt, Cond.instanceMethod yX3_wantedAt, Cond.selects RX3 yX3_wantedAt yX3_wantedAt, Cond.initialized RX3, Cond.code yX3_wantedAt cX3_wantedAt 3 (some .int), Cond.fieldLink RX3 11 "TiedFrame$Picture" "wanted" "[[I", Cond.methodLink RX5 72 yX0_underFold, Cond.instanceMethod yX0_underFold, Cond.selects RX0 yX0_underFold yX0_underFold, Cond.code yX0_underFold cX0_underFold 3 (some .int), Cond.methodLink RX0 40 yX0_freePlaces, Cond.methodLink RX8 183 yX5_tryRow, Cond.instanceMethod yX5_tryRow, Cond.selects RX5 yX5_tryRow yX5_tryRow, Cond.code yX5_tryRow cX5_tryRow 8 (some .boolean), Cond.fieldLink RX5 24 "TiedFrame$Planner" "row" "I", Cond.fieldLink RX5 27 "TiedFrame$Planner" "outcome" "[I", Cond.methodLink RX5 81 yX2_comesOf, Cond.instanceMethod yX2_comesOf, Cond.selects RX2 yX2_comesOf yX2_comesOf, Cond.initialized RX2]
def wsX8_plan_r4 : List Cond := [Cond.code yX2_comesOf cX2_comesOf 3 (some .int), Cond.fieldLink RX2 9 "TiedFrame$Mixing" "to" "[I", Cond.methodLink RX5 86 yX5_gatherWays, Cond.instanceMethod yX5_gatherWays, Cond.selects RX5 yX5_gatherWays yX5_gatherWays, Cond.code yX5_gatherWays cX5_gatherWays 5 (some .boolean), Cond.fieldLink RX5 30 "TiedFrame$Planner" "ways" "[I", Cond.fieldLink RX5 33 "TiedFrame$Planner" "freshWays" "[I", Cond.methodLink RX5 90 yX5_freshOf, Cond.static yX5_freshOf, Cond.code yX5_freshOf cX5_freshOf 1 (some .int), Cond.methodLink RX8 187 yX5_writeInto, Cond.instanceMethod yX5_writeInto, Cond.selects RX5 yX5_writeInto yX5_writeInto, Cond.code yX5_writeInto cX5_writeInto 7 none, Cond.methodLink RX5 120 yX4_begin, Cond.instanceMethod yX4_begin, Cond.selects RX4 yX4_begin yX4_begin, Cond.initialized RX4, Cond.code yX4_begin cX4_begin 2 none, Cond.fieldLink RX4 9 "TiedFrame$Plan" "exists" "Z", Cond.fieldLink RX4 15 "TiedFrame$Plan" "row" "I", Cond.fieldLink RX4 19 "TiedFrame$Plan" "ties" "I", Cond.methodLink RX5 104 yX5_tiesOf]
def wsX8_plan_r5 : List Cond := [Cond.instanceMethod yX5_tiesOf, Cond.selects RX5 yX5_tiesOf yX5_tiesOf, Cond.code yX5_tiesOf cX5_tiesOf 7 (some .int), Cond.fieldLink RX5 107 "TiedFrame$Planner" "FRESH_SETS" "[I", Cond.fieldLink RX5 36 "TiedFrame$Planner" "rest" "[[I", Cond.methodLink RX5 110 arraycopyName, Cond.native arraycopyName, Cond.static arraycopyName, Cond.initialized "java/lang/System", Cond.methodLink RX5 116 yX5_weigh, Cond.instanceMethod yX5_weigh, Cond.selects RX5 yX5_weigh yX5_weigh, Cond.code yX5_weigh cX5_weigh 16 none, Cond.constant RX5 93 (1000000), Cond.fieldLink RX5 39 "TiedFrame$Planner" "starts" "[[I", Cond.methodLink RX5 126 yX4_addTies, Cond.instanceMethod yX4_addTies, Cond.selects RX4 yX4_addTies yX4_addTies, Cond.code yX4_addTies cX4_addTies 2 none, Cond.methodLink RX5 129 yX5_leastBits, Cond.instanceMethod yX5_leastBits, Cond.selects RX5 yX5_leastBits yX5_leastBits, Cond.code yX5_leastBits cX5_leastBits 5 (some .int), Cond.methodLink RX5 140 yX5_keepsFewest]
def wsX8_plan_r6 : List Cond := [Cond.instanceMethod yX5_keepsFewest, Cond.selects RX5 yX5_keepsFewest yX5_keepsFewest, Cond.code yX5_keepsFewest cX5_keepsFewest 6 (some .boolean), Cond.methodLink RX5 133 yX4_write, Cond.instanceMethod yX4_write, Cond.selects RX4 yX4_write yX4_write, Cond.code yX4_write cX4_write 4 none, Cond.fieldLink RX4 24 "TiedFrame$Plan" "bits" "[[I", Cond.methodLink RX5 137 yX4_bitsAt, Cond.instanceMethod yX4_bitsAt, Cond.selects RX4 yX4_bitsAt yX4_bitsAt, Cond.code yX4_bitsAt cX4_bitsAt 3 (some .int), Cond.methodLink RX8 191 yX4_ties, Cond.instanceMethod yX4_ties, Cond.selects RX4 yX4_ties yX4_ties, Cond.code yX4_ties cX4_ties 1 (some .int)]
def wsX8_plan : List Cond := .code yX8_plan cX8_plan 2 (some .int) :: ((wsX8_plan_r1 ++ (wsX8_plan_r2 ++ (wsX8_plan_r3 ++ (wsX8_plan_r4 ++ (wsX8_plan_r5 ++ wsX8_plan_r6))))) ++ wsX80 ++ wsX50 ++ wsX00 ++ wsX30 ++ wsX20 ++ wsX40 ++ (vx_atS RX8 77 "java/lang/IllegalArgumentException" ["java/lang/RuntimeException", "java/lang/Exception"]).filter goodWord)
def wsX8_best_r1 : List Cond := [Cond.classLink RX8 73 "java/lang/IllegalArgumentException", Cond.initialized "java/lang/IllegalArgumentException", Cond.fieldLink RX8 40 "TiedFrame" "planner" "LTiedFrame$Planner;", Cond.fieldLink RX8 26 "TiedFrame" "cloth" "LTiedFrame$Cloth;", Cond.fieldLink RX8 33 "TiedFrame" "picture" "LTiedFrame$Picture;", Cond.fieldLink RX8 12 "TiedFrame" "mixing" "LTiedFrame$Mixing;", Cond.fieldLink RX8 47 "TiedFrame" "held" "LTiedFrame$Plan;", Cond.methodLink RX8 179 yX5_aimAt, Cond.instanceMethod yX5_aimAt, Cond.selects RX5 yX5_aimAt yX5_aimAt, Cond.initialized RX5, Cond.code yX5_aimAt cX5_aimAt 8 (some .boolean), Cond.fieldLink RX5 9 "TiedFrame$Planner" "span" "[I", Cond.fieldLink RX5 17 "TiedFrame$Planner" "aim" "[[I", Cond.fieldLink RX5 20 "TiedFrame$Planner" "aims" "I", Cond.methodLink RX5 48 yX0_threadsIn, Cond.instanceMethod yX0_threadsIn, Cond.selects RX0 yX0_threadsIn yX0_threadsIn, Cond.initialized RX0, Cond.code yX0_threadsIn cX0_threadsIn 2 (some .int), Cond.fieldLink RX0 15 "TiedFrame$Cloth" "crowd" "[I", Cond.methodLink RX5 53 yX0_freePlaces, Cond.instanceMethod yX0_freePlaces, Cond.selects RX0 yX0_freePlaces yX0_freePlaces]
def wsX8_best_r2 : List Cond := [Cond.code yX0_freePlaces cX0_freePlaces 2 (some .int), Cond.fieldLink RX0 18 "TiedFrame$Cloth" "folded" "[Z", Cond.fieldLink RX0 34 "TiedFrame$Cloth" "places" "I", Cond.methodLink RX5 56 yX0_threads, Cond.instanceMethod yX0_threads, Cond.selects RX0 yX0_threads yX0_threads, Cond.code yX0_threads cX0_threads 1 (some .int), Cond.fieldLink RX0 30 "TiedFrame$Cloth" "threads" "I", Cond.methodLink RX5 60 yX0_bundleOf, Cond.instanceMethod yX0_bundleOf, Cond.selects RX0 yX0_bundleOf yX0_bundleOf, Cond.code yX0_bundleOf cX0_bundleOf 2 (some .int), Cond.fieldLink RX0 9 "TiedFrame$Cloth" "home" "[I", Cond.methodLink RX5 63 yX0_places, Cond.instanceMethod yX0_places, Cond.selects RX0 yX0_places yX0_places, Cond.code yX0_places cX0_places 1 (some .int), Cond.methodLink RX5 66 yX3_wantedAt, Cond.instanceMethod yX3_wantedAt, Cond.selects RX3 yX3_wantedAt yX3_wantedAt, Cond.initialized RX3, Cond.code yX3_wantedAt cX3_wantedAt 3 (some .int), Cond.fieldLink RX3 11 "TiedFrame$Picture" "wanted" "[[I", Cond.methodLink RX5 72 yX0_underFold]
def wsX8_best_r3 : List Cond := [Cond.instanceMethod yX0_underFold, Cond.selects RX0 yX0_underFold yX0_underFold, Cond.code yX0_underFold cX0_underFold 3 (some .int), Cond.methodLink RX0 40 yX0_freePlaces, Cond.methodLink RX8 196 yX5_bestRow, Cond.instanceMethod yX5_bestRow, Cond.selects RX5 yX5_bestRow yX5_bestRow, Cond.code yX5_bestRow cX5_bestRow 10 (some .int), Cond.constant RX5 93 (1000000), Cond.methodLink RX5 94 yX5_rowOfTurn, Cond.static yX5_rowOfTurn, Cond.code yX5_rowOfTurn cX5_rowOfTurn 5 (some .int), Cond.methodLink RX5 97 yX5_tryRow, Cond.instanceMethod yX5_tryRow, Cond.selects RX5 yX5_tryRow yX5_tryRow, Cond.code yX5_tryRow cX5_tryRow 8 (some .boolean), Cond.fieldLink RX5 24 "TiedFrame$Planner" "row" "I", Cond.fieldLink RX5 27 "TiedFrame$Planner" "outcome" "[I", Cond.static yX8_bathsOf, Cond.initialized RX8, Cond.code yX8_bathsOf cX8_bathsOf 2 (some .int), Cond.methodLink RX8 224 yX8_dyeOf, Cond.static yX8_dyeOf, Cond.code yX8_dyeOf cX8_dyeOf 2 (some .int)]
def wsX8_best_r4 : List Cond := [Cond.methodLink RX5 81 yX2_comesOf, Cond.instanceMethod yX2_comesOf, Cond.selects RX2 yX2_comesOf yX2_comesOf, Cond.initialized RX2, Cond.code yX2_comesOf cX2_comesOf 3 (some .int), Cond.fieldLink RX2 9 "TiedFrame$Mixing" "to" "[I", Cond.methodLink RX5 86 yX5_gatherWays, Cond.instanceMethod yX5_gatherWays, Cond.selects RX5 yX5_gatherWays yX5_gatherWays, Cond.code yX5_gatherWays cX5_gatherWays 5 (some .boolean), Cond.fieldLink RX5 30 "TiedFrame$Planner" "ways" "[I", Cond.fieldLink RX5 33 "TiedFrame$Planner" "freshWays" "[I", Cond.methodLink RX5 90 yX5_freshOf, Cond.static yX5_freshOf, Cond.code yX5_freshOf cX5_freshOf 1 (some .int), Cond.methodLink RX5 101 yX5_tiesBelow, Cond.instanceMethod yX5_tiesBelow, Cond.selects RX5 yX5_tiesBelow yX5_tiesBelow, Cond.code yX5_tiesBelow cX5_tiesBelow 4 (some .int), Cond.methodLink RX5 104 yX5_tiesOf, Cond.instanceMethod yX5_tiesOf, Cond.selects RX5 yX5_tiesOf yX5_tiesOf, Cond.code yX5_tiesOf cX5_tiesOf 7 (some .int), Cond.fieldLink RX5 107 "TiedFrame$Planner" "FRESH_SETS" "[I"]
def wsX8_best_r5 : List Cond := [Cond.fieldLink RX5 36 "TiedFrame$Planner" "rest" "[[I", Cond.methodLink RX5 110 arraycopyName, Cond.native arraycopyName, Cond.static arraycopyName, Cond.initialized "java/lang/System", Cond.methodLink RX5 116 yX5_weigh, Cond.instanceMethod yX5_weigh, Cond.selects RX5 yX5_weigh yX5_weigh, Cond.code yX5_weigh cX5_weigh 16 none, Cond.fieldLink RX5 39 "TiedFrame$Planner" "starts" "[[I", Cond.methodLink RX8 183 yX5_tryRow, Cond.methodLink RX8 187 yX5_writeInto, Cond.instanceMethod yX5_writeInto, Cond.selects RX5 yX5_writeInto yX5_writeInto, Cond.code yX5_writeInto cX5_writeInto 7 none, Cond.methodLink RX5 120 yX4_begin, Cond.instanceMethod yX4_begin, Cond.selects RX4 yX4_begin yX4_begin, Cond.initialized RX4, Cond.code yX4_begin cX4_begin 2 none, Cond.fieldLink RX4 9 "TiedFrame$Plan" "exists" "Z", Cond.fieldLink RX4 15 "TiedFrame$Plan" "row" "I", Cond.fieldLink RX4 19 "TiedFrame$Plan" "ties" "I", Cond.methodLink RX5 126 yX4_addTies]
def wsX8_best_r6 : List Cond := [Cond.instanceMethod yX4_addTies, Cond.selects RX4 yX4_addTies yX4_addTies, Cond.code yX4_addTies cX4_addTies 2 none, Cond.methodLink RX5 129 yX5_leastBits, Cond.instanceMethod yX5_leastBits, Cond.selects RX5 yX5_leastBits yX5_leastBits, Cond.code yX5_leastBits cX5_leastBits 5 (some .int), Cond.methodLink RX5 140 yX5_keepsFewest, Cond.instanceMethod yX5_keepsFewest, Cond.selects RX5 yX5_keepsFewest yX5_keepsFewest, Cond.code yX5_keepsFewest cX5_keepsFewest 6 (some .boolean), Cond.methodLink RX5 133 yX4_write, Cond.instanceMethod yX4_write, Cond.selects RX4 yX4_write yX4_write, Cond.code yX4_write cX4_write 4 none, Cond.fieldLink RX4 24 "TiedFrame$Plan" "bits" "[[I", Cond.methodLink RX5 137 yX4_bitsAt, Cond.instanceMethod yX4_bitsAt, Cond.selects RX4 yX4_bitsAt yX4_bitsAt, Cond.code yX4_bitsAt cX4_bitsAt 3 (some .int), Cond.methodLink RX8 191 yX4_ties, Cond.instanceMethod yX4_ties, Cond.selects RX4 yX4_ties yX4_ties, Cond.code yX4_ties cX4_ties 1 (some .int)]
def wsX8_best : List Cond := .code yX8_best cX8_best 3 (some .int) :: ((wsX8_best_r1 ++ (wsX8_best_r2 ++ (wsX8_best_r3 ++ (wsX8_best_r4 ++ (wsX8_best_r5 ++ wsX8_best_r6))))) ++ wsX80 ++ wsX50 ++ wsX00 ++ wsX30 ++ wsX20 ++ wsX40 ++ (vx_atS RX8 77 "java/lang/IllegalArgumentException" ["java/lang/RuntimeException", "java/lang/Exception"]).filter goodWord)
def wsX8_kept_r1 : List Cond := [Cond.classLink RX8 200 "java/util/NoSuchElementException", Cond.initialized "java/util/NoSuchElementException", Cond.fieldLink RX8 47 "TiedFrame" "held" "LTiedFrame$Plan;", Cond.methodLink RX8 205 yX4_exists, Cond.instanceMethod yX4_exists, Cond.selects RX4 yX4_exists yX4_exists, Cond.initialized RX4, Cond.code yX4_exists cX4_exists 1 (some .boolean), Cond.fieldLink RX4 9 "TiedFrame$Plan" "exists" "Z", Cond.methodLink RX8 209 yX4_row, Cond.instanceMethod yX4_row, Cond.selects RX4 yX4_row yX4_row, Cond.code yX4_row cX4_row 1 (some .int), Cond.fieldLink RX4 15 "TiedFrame$Plan" "row" "I", Cond.methodLink RX8 211 yX8_bathsOf, Cond.static yX8_bathsOf, Cond.initialized RX8, Cond.code yX8_bathsOf cX8_bathsOf 2 (some .int), Cond.methodLink RX8 224 yX8_dyeOf, Cond.static yX8_dyeOf, Cond.code yX8_dyeOf cX8_dyeOf 2 (some .int), Cond.methodLink RX8 191 yX4_ties, Cond.instanceMethod yX4_ties, Cond.selects RX4 yX4_ties yX4_ties]
def wsX8_kept_r2 : List Cond := [Cond.code yX4_ties cX4_ties 1 (some .int), Cond.fieldLink RX4 19 "TiedFrame$Plan" "ties" "I"]
def wsX8_kept : List Cond := .code yX8_kept cX8_kept 2 (some .int) :: ((wsX8_kept_r1 ++ wsX8_kept_r2) ++ wsX80 ++ wsX40 ++ (vx_atS RX8 204 "java/util/NoSuchElementException" ["java/lang/RuntimeException", "java/lang/Exception"]).filter goodWord)
def wsX8_bits_r1 : List Cond := [Cond.fieldLink RX8 47 "TiedFrame" "held" "LTiedFrame$Plan;", Cond.methodLink RX8 91 yX8_needBundle, Cond.static yX8_needBundle, Cond.initialized RX8, Cond.code yX8_needBundle cX8_needBundle 1 none, Cond.classLink RX8 112 "java/lang/IndexOutOfBoundsException", Cond.initialized "java/lang/IndexOutOfBoundsException", Cond.methodLink RX8 158 yX8_needPlace, Cond.instanceMethod yX8_needPlace, Cond.selects RX8 yX8_needPlace yX8_needPlace, Cond.code yX8_needPlace cX8_needPlace 2 none, Cond.fieldLink RX8 26 "TiedFrame" "cloth" "LTiedFrame$Cloth;", Cond.methodLink RX8 243 yX0_places, Cond.instanceMethod yX0_places, Cond.selects RX0 yX0_places yX0_places, Cond.initialized RX0, Cond.code yX0_places cX0_places 1 (some .int), Cond.fieldLink RX0 34 "TiedFrame$Cloth" "places" "I", Cond.methodLink RX8 205 yX4_exists, Cond.instanceMethod yX4_exists, Cond.selects RX4 yX4_exists yX4_exists, Cond.initialized RX4, Cond.code yX4_exists cX4_exists 1 (some .boolean), Cond.fieldLink RX4 9 "TiedFrame$Plan" "exists" "Z"]
def wsX8_bits_r2 : List Cond := [Cond.methodLink RX8 214 yX4_bitsAt, Cond.instanceMethod yX4_bitsAt, Cond.selects RX4 yX4_bitsAt yX4_bitsAt, Cond.code yX4_bitsAt cX4_bitsAt 3 (some .int), Cond.fieldLink RX4 24 "TiedFrame$Plan" "bits" "[[I"]
def wsX8_bits : List Cond := .code yX8_bits cX8_bits 3 (some .int) :: ((wsX8_bits_r1 ++ wsX8_bits_r2) ++ wsX80 ++ wsX00 ++ wsX40 ++ (vx_atS RX8 116 "java/lang/IndexOutOfBoundsException" ["java/lang/RuntimeException", "java/lang/Exception"]).filter goodWord)
def wsX8_dye_r1 : List Cond := [Cond.fieldLink RX8 47 "TiedFrame" "held" "LTiedFrame$Plan;", Cond.fieldLink RX8 19 "TiedFrame" "vats" "LTiedFrame$Vats;", Cond.fieldLink RX8 26 "TiedFrame" "cloth" "LTiedFrame$Cloth;", Cond.fieldLink RX8 12 "TiedFrame" "mixing" "LTiedFrame$Mixing;", Cond.fieldLink RX8 65 "TiedFrame" "bathsEver" "I", Cond.methodLink RX8 205 yX4_exists, Cond.instanceMethod yX4_exists, Cond.selects RX4 yX4_exists yX4_exists, Cond.initialized RX4, Cond.code yX4_exists cX4_exists 1 (some .boolean), Cond.fieldLink RX4 9 "TiedFrame$Plan" "exists" "Z", Cond.methodLink RX8 217 yX7_sufficeFor, Cond.instanceMethod yX7_sufficeFor, Cond.selects RX7 yX7_sufficeFor yX7_sufficeFor, Cond.initialized RX7, Cond.code yX7_sufficeFor cX7_sufficeFor 5 (some .boolean), Cond.fieldLink RX7 15 "TiedFrame$Vats" "due" "[I", Cond.fieldLink RX7 9 "TiedFrame$Vats" "strength" "[I", Cond.methodLink RX7 18 yX4_row, Cond.instanceMethod yX4_row, Cond.selects RX4 yX4_row yX4_row, Cond.code yX4_row cX4_row 1 (some .int), Cond.fieldLink RX4 15 "TiedFrame$Plan" "row" "I", Cond.static yX8_bathsOf]
def wsX8_dye_r2 : List Cond := [Cond.initialized RX8, Cond.code yX8_bathsOf cX8_bathsOf 2 (some .int), Cond.methodLink RX8 224 yX8_dyeOf, Cond.static yX8_dyeOf, Cond.code yX8_dyeOf cX8_dyeOf 2 (some .int), Cond.methodLink RX7 32 yX0_wouldTakeUp, Cond.instanceMethod yX0_wouldTakeUp, Cond.selects RX0 yX0_wouldTakeUp yX0_wouldTakeUp, Cond.initialized RX0, Cond.code yX0_wouldTakeUp cX0_wouldTakeUp 5 (some .int), Cond.methodLink RX0 53 yX0_knotsOf, Cond.instanceMethod yX0_knotsOf, Cond.selects RX0 yX0_knotsOf yX0_knotsOf, Cond.code yX0_knotsOf cX0_knotsOf 6 (some .int), Cond.fieldLink RX0 34 "TiedFrame$Cloth" "places" "I", Cond.methodLink RX0 57 yX4_bitsAt, Cond.instanceMethod yX4_bitsAt, Cond.selects RX4 yX4_bitsAt yX4_bitsAt, Cond.code yX4_bitsAt cX4_bitsAt 3 (some .int), Cond.fieldLink RX4 24 "TiedFrame$Plan" "bits" "[[I", Cond.methodLink RX0 63 yX0_takenBy, Cond.instanceMethod yX0_takenBy, Cond.selects RX0 yX0_takenBy yX0_takenBy, Cond.code yX0_takenBy cX0_takenBy 3 (some .int)]
def wsX8_dye_r3 : List Cond := [Cond.fieldLink RX0 15 "TiedFrame$Cloth" "crowd" "[I", Cond.methodLink RX0 48 yJ6_bitCount_0f7a4, Cond.static yJ6_bitCount_0f7a4, Cond.initialized RJ6, Cond.code yJ6_bitCount_0f7a4 cJ6_bitCount_0f7a4 1 (some .int), Cond.constant RJ6 265 (1431655765), Cond.constant RJ6 266 (858993459), Cond.constant RJ6 267 (252645135), Cond.methodLink RX8 209 yX4_row, Cond.methodLink RX8 211 yX8_bathsOf, Cond.methodLink RX8 221 yX0_wash, Cond.instanceMethod yX0_wash, Cond.selects RX0 yX0_wash yX0_wash, Cond.code yX0_wash cX0_wash 3 none, Cond.fieldLink RX0 22 "TiedFrame$Cloth" "knots" "[I", Cond.fieldLink RX0 27 "TiedFrame$Cloth" "colours" "[[I", Cond.methodLink RX8 227 yX0_bindAs, Cond.instanceMethod yX0_bindAs, Cond.selects RX0 yX0_bindAs yX0_bindAs, Cond.code yX0_bindAs cX0_bindAs 4 none, Cond.methodLink RX8 147 yX0_takesUp, Cond.instanceMethod yX0_takesUp, Cond.selects RX0 yX0_takesUp yX0_takesUp, Cond.code yX0_takesUp cX0_takesUp 3 (some .int)]
def wsX8_dye_r4 : List Cond := [Cond.methodLink RX8 151 yX7_lose, Cond.instanceMethod yX7_lose, Cond.selects RX7 yX7_lose yX7_lose, Cond.code yX7_lose cX7_lose 3 none, Cond.methodLink RX8 154 yX0_dip, Cond.instanceMethod yX0_dip, Cond.selects RX0 yX0_dip yX0_dip, Cond.code yX0_dip cX0_dip 5 none, Cond.methodLink RX0 66 yX0_isBound, Cond.instanceMethod yX0_isBound, Cond.selects RX0 yX0_isBound yX0_isBound, Cond.code yX0_isBound cX0_isBound 3 (some .boolean), Cond.methodLink RX0 70 yX2_comesOf, Cond.instanceMethod yX2_comesOf, Cond.selects RX2 yX2_comesOf yX2_comesOf, Cond.initialized RX2, Cond.code yX2_comesOf cX2_comesOf 3 (some .int), Cond.fieldLink RX2 9 "TiedFrame$Mixing" "to" "[I"]
def wsX8_dye : List Cond := .code yX8_dye cX8_dye 6 (some .int) :: ((wsX8_dye_r1 ++ (wsX8_dye_r2 ++ (wsX8_dye_r3 ++ wsX8_dye_r4))) ++ wsX80 ++ wsX40 ++ wsX70 ++ wsX00 ++ wsX20)
def wsX8_slip : List Cond := .code yX8_slip cX8_slip 4 none :: ([.classLink RX8 73 "java/lang/IllegalArgumentException", .initialized "java/lang/IllegalArgumentException", .fieldLink RX8 54 "TiedFrame" "slips" "LTiedFrame$Slips;", .methodLink RX8 87 yX8_needThread, .instanceMethod yX8_needThread, .selects RX8 yX8_needThread yX8_needThread, .initialized RX8, .code yX8_needThread cX8_needThread 2 none, .classLink RX8 112 "java/lang/IndexOutOfBoundsException", .initialized "java/lang/IndexOutOfBoundsException", .fieldLink RX8 26 "TiedFrame" "cloth" "LTiedFrame$Cloth;", .methodLink RX8 240 yX0_threads, .instanceMethod yX0_threads, .selects RX0 yX0_threads yX0_threads, .initialized RX0, .code yX0_threads cX0_threads 1 (some .int), .fieldLink RX0 30 "TiedFrame$Cloth" "threads" "I", .methodLink RX8 233 yX6_let, .instanceMethod yX6_let, .selects RX6 yX6_let yX6_let, .initialized RX6, .code yX6_let cX6_let 4 none, .fieldLink RX6 9 "TiedFrame$Slips" "lows" "[I", .fieldLink RX6 15 "TiedFrame$Slips" "highs" "[I"] ++ wsX80 ++ wsX00 ++ wsX60 ++ (vx_atS RX8 77 "java/lang/IllegalArgumentException" ["java/lang/RuntimeException", "java/lang/Exception"]).filter goodWord ++ (vx_atS RX8 116 "java/lang/IndexOutOfBoundsException" ["java/lang/RuntimeException", "java/lang/Exception"]).filter goodWord)
def wsX8_seen_r1 : List Cond := [Cond.fieldLink RX8 54 "TiedFrame" "slips" "LTiedFrame$Slips;", Cond.fieldLink RX8 26 "TiedFrame" "cloth" "LTiedFrame$Cloth;", Cond.methodLink RX8 87 yX8_needThread, Cond.instanceMethod yX8_needThread, Cond.selects RX8 yX8_needThread yX8_needThread, Cond.initialized RX8, Cond.code yX8_needThread cX8_needThread 2 none, Cond.classLink RX8 112 "java/lang/IndexOutOfBoundsException", Cond.initialized "java/lang/IndexOutOfBoundsException", Cond.methodLink RX8 240 yX0_threads, Cond.instanceMethod yX0_threads, Cond.selects RX0 yX0_threads yX0_threads, Cond.initialized RX0, Cond.code yX0_threads cX0_threads 1 (some .int), Cond.fieldLink RX0 30 "TiedFrame$Cloth" "threads" "I", Cond.methodLink RX8 158 yX8_needPlace, Cond.instanceMethod yX8_needPlace, Cond.selects RX8 yX8_needPlace yX8_needPlace, Cond.code yX8_needPlace cX8_needPlace 2 none, Cond.methodLink RX8 243 yX0_places, Cond.instanceMethod yX0_places, Cond.selects RX0 yX0_places yX0_places, Cond.code yX0_places cX0_places 1 (some .int), Cond.fieldLink RX0 34 "TiedFrame$Cloth" "places" "I"]
def wsX8_seen_r2 : List Cond := [Cond.methodLink RX8 236 yX6_showsAt, Cond.instanceMethod yX6_showsAt, Cond.selects RX6 yX6_showsAt yX6_showsAt, Cond.initialized RX6, Cond.code yX6_showsAt cX6_showsAt 7 (some .int), Cond.fieldLink RX6 9 "TiedFrame$Slips" "lows" "[I", Cond.fieldLink RX6 15 "TiedFrame$Slips" "highs" "[I", Cond.methodLink RX6 22 yX0_places, Cond.methodLink RX6 28 yX0_colourAt, Cond.instanceMethod yX0_colourAt, Cond.selects RX0 yX0_colourAt yX0_colourAt, Cond.code yX0_colourAt cX0_colourAt 3 (some .int), Cond.fieldLink RX0 27 "TiedFrame$Cloth" "colours" "[[I", Cond.fieldLink RX0 9 "TiedFrame$Cloth" "home" "[I"]
def wsX8_seen : List Cond := .code yX8_seen cX8_seen 3 (some .int) :: ((wsX8_seen_r1 ++ wsX8_seen_r2) ++ wsX80 ++ wsX00 ++ wsX60 ++ (vx_atS RX8 116 "java/lang/IndexOutOfBoundsException" ["java/lang/RuntimeException", "java/lang/Exception"]).filter goodWord)
def wsX8_blurred_r1 : List Cond := [Cond.fieldLink RX8 26 "TiedFrame" "cloth" "LTiedFrame$Cloth;", Cond.fieldLink RX8 54 "TiedFrame" "slips" "LTiedFrame$Slips;", Cond.fieldLink RX8 33 "TiedFrame" "picture" "LTiedFrame$Picture;", Cond.methodLink RX8 240 yX0_threads, Cond.instanceMethod yX0_threads, Cond.selects RX0 yX0_threads yX0_threads, Cond.initialized RX0, Cond.code yX0_threads cX0_threads 1 (some .int), Cond.fieldLink RX0 30 "TiedFrame$Cloth" "threads" "I", Cond.methodLink RX8 243 yX0_places, Cond.instanceMethod yX0_places, Cond.selects RX0 yX0_places yX0_places, Cond.code yX0_places cX0_places 1 (some .int), Cond.fieldLink RX0 34 "TiedFrame$Cloth" "places" "I", Cond.methodLink RX8 236 yX6_showsAt, Cond.instanceMethod yX6_showsAt, Cond.selects RX6 yX6_showsAt yX6_showsAt, Cond.initialized RX6, Cond.code yX6_showsAt cX6_showsAt 7 (some .int), Cond.fieldLink RX6 9 "TiedFrame$Slips" "lows" "[I", Cond.fieldLink RX6 15 "TiedFrame$Slips" "highs" "[I", Cond.methodLink RX6 22 yX0_places, Cond.methodLink RX6 28 yX0_colourAt, Cond.instanceMethod yX0_colourAt]
def wsX8_blurred_r2 : List Cond := [Cond.selects RX0 yX0_colourAt yX0_colourAt, Cond.code yX0_colourAt cX0_colourAt 3 (some .int), Cond.fieldLink RX0 27 "TiedFrame$Cloth" "colours" "[[I", Cond.fieldLink RX0 9 "TiedFrame$Cloth" "home" "[I", Cond.methodLink RX8 168 yX3_wantedAt, Cond.instanceMethod yX3_wantedAt, Cond.selects RX3 yX3_wantedAt yX3_wantedAt, Cond.initialized RX3, Cond.code yX3_wantedAt cX3_wantedAt 3 (some .int), Cond.fieldLink RX3 11 "TiedFrame$Picture" "wanted" "[[I"]
def wsX8_blurred : List Cond := .code yX8_blurred cX8_blurred 4 (some .int) :: ((wsX8_blurred_r1 ++ wsX8_blurred_r2) ++ wsX80 ++ wsX00 ++ wsX60 ++ wsX30)
def wsX8_isDay : List Cond := .code yX8_isDay cX8_isDay 1 (some .boolean) :: ([])
def wsX8_law : List Cond := .code yX8_law cX8_law 4 (some .int) :: ([.fieldLink RX8 61 "TiedFrame" "laws" "LTiedFrame$Laws;", .methodLink RX8 246 yX1_size, .instanceMethod yX1_size, .selects RX1 yX1_size yX1_size, .initialized RX1, .code yX1_size cX1_size 1 (some .int), .fieldLink RX1 21 "TiedFrame$Laws" "size" "I", .methodLink RX8 249 yX8_isDay, .static yX8_isDay, .initialized RX8, .code yX8_isDay cX8_isDay 1 (some .boolean), .methodLink RX8 109 yX8_isColour, .static yX8_isColour, .code yX8_isColour cX8_isColour 1 (some .boolean), .methodLink RX8 252 yX1_add, .instanceMethod yX1_add, .selects RX1 yX1_add yX1_add, .code yX1_add cX1_add 4 none, .fieldLink RX1 9 "TiedFrame$Laws" "days" "[I", .fieldLink RX1 15 "TiedFrame$Laws" "colours" "[I", .fieldLink RX1 18 "TiedFrame$Laws" "ranks" "[I"] ++ wsX80 ++ wsX10)
def wsX8_rank_r1 : List Cond := [Cond.classLink RX8 73 "java/lang/IllegalArgumentException", Cond.initialized "java/lang/IllegalArgumentException", Cond.fieldLink RX8 26 "TiedFrame" "cloth" "LTiedFrame$Cloth;", Cond.fieldLink RX8 61 "TiedFrame" "laws" "LTiedFrame$Laws;", Cond.methodLink RX8 263 Lib.Math.max.name, Cond.static Lib.Math.max.name, Cond.initialized "java/lang/Math", Cond.code Lib.Math.max.name Lib.Math.max.code 2 (some .int), Cond.methodLink RX8 249 yX8_isDay, Cond.static yX8_isDay, Cond.initialized RX8, Cond.code yX8_isDay cX8_isDay 1 (some .boolean), Cond.methodLink RX8 257 yX0_coloursWorn, Cond.instanceMethod yX0_coloursWorn, Cond.selects RX0 yX0_coloursWorn yX0_coloursWorn, Cond.initialized RX0, Cond.code yX0_coloursWorn cX0_coloursWorn 4 (some .int), Cond.fieldLink RX0 34 "TiedFrame$Cloth" "places" "I", Cond.fieldLink RX0 15 "TiedFrame$Cloth" "crowd" "[I", Cond.fieldLink RX0 27 "TiedFrame$Cloth" "colours" "[[I", Cond.methodLink RX8 260 yX1_inForce, Cond.instanceMethod yX1_inForce, Cond.selects RX1 yX1_inForce yX1_inForce, Cond.initialized RX1]
def wsX8_rank_r2 : List Cond := [Cond.code yX1_inForce cX1_inForce 6 (some .int), Cond.fieldLink RX1 21 "TiedFrame$Laws" "size" "I", Cond.fieldLink RX1 15 "TiedFrame$Laws" "colours" "[I", Cond.fieldLink RX1 9 "TiedFrame$Laws" "days" "[I", Cond.fieldLink RX1 18 "TiedFrame$Laws" "ranks" "[I"]
def wsX8_rank : List Cond := .code yX8_rank cX8_rank 5 (some .int) :: ((wsX8_rank_r1 ++ wsX8_rank_r2) ++ wsX80 ++ wsX00 ++ wsX10 ++ (vx_atS RX8 77 "java/lang/IllegalArgumentException" ["java/lang/RuntimeException", "java/lang/Exception"]).filter goodWord)
def wsX8_count_r1 : List Cond := [Cond.classLink RX8 200 "java/util/NoSuchElementException", Cond.initialized "java/util/NoSuchElementException", Cond.fieldLink RX8 26 "TiedFrame" "cloth" "LTiedFrame$Cloth;", Cond.fieldLink RX8 19 "TiedFrame" "vats" "LTiedFrame$Vats;", Cond.fieldLink RX8 65 "TiedFrame" "bathsEver" "I", Cond.fieldLink RX8 61 "TiedFrame" "laws" "LTiedFrame$Laws;", Cond.methodLink RX8 268 yX0_threadsIn, Cond.instanceMethod yX0_threadsIn, Cond.selects RX0 yX0_threadsIn yX0_threadsIn, Cond.initialized RX0, Cond.code yX0_threadsIn cX0_threadsIn 2 (some .int), Cond.fieldLink RX0 15 "TiedFrame$Cloth" "crowd" "[I", Cond.methodLink RX8 131 yX7_strengthOf, Cond.instanceMethod yX7_strengthOf, Cond.selects RX7 yX7_strengthOf yX7_strengthOf, Cond.initialized RX7, Cond.code yX7_strengthOf cX7_strengthOf 2 (some .int), Cond.fieldLink RX7 9 "TiedFrame$Vats" "strength" "[I", Cond.methodLink RX8 240 yX0_threads, Cond.instanceMethod yX0_threads, Cond.selects RX0 yX0_threads yX0_threads, Cond.code yX0_threads cX0_threads 1 (some .int), Cond.fieldLink RX0 30 "TiedFrame$Cloth" "threads" "I", Cond.methodLink RX8 243 yX0_places]
def wsX8_count_r2 : List Cond := [Cond.instanceMethod yX0_places, Cond.selects RX0 yX0_places yX0_places, Cond.code yX0_places cX0_places 1 (some .int), Cond.fieldLink RX0 34 "TiedFrame$Cloth" "places" "I", Cond.methodLink RX8 246 yX1_size, Cond.instanceMethod yX1_size, Cond.selects RX1 yX1_size yX1_size, Cond.initialized RX1, Cond.code yX1_size cX1_size 1 (some .int), Cond.fieldLink RX1 21 "TiedFrame$Laws" "size" "I"]
def wsX8_count : List Cond := .code yX8_count cX8_count 2 (some .int) :: ((wsX8_count_r1 ++ wsX8_count_r2) ++ wsX80 ++ wsX00 ++ wsX70 ++ wsX10 ++ (vx_atS RX8 204 "java/util/NoSuchElementException" ["java/lang/RuntimeException", "java/lang/Exception"]).filter goodWord)
def wsX9_init : List Cond := .code yX9_init cX9_init 3 none :: ([.methodLink RX9 1 objectInit, .instanceMethod objectInit, .code objectInit ⟨#[0xb1]⟩ 1 none, .fieldLink RX9 7 "TiedFrameModel" "threads" "I", .fieldLink RX9 13 "TiedFrameModel" "places" "I", .arrayClass .int, .fieldLink RX9 16 "TiedFrameModel" "bundleOf" "[I", .fieldLink RX9 20 "TiedFrameModel" "colours" "[I", .fieldLink RX9 23 "TiedFrameModel" "table" "[I", .fieldLink RX9 26 "TiedFrameModel" "vats" "[I", .fieldLink RX9 29 "TiedFrameModel" "wanted" "[I", .fieldLink RX9 32 "TiedFrameModel" "low" "[I", .fieldLink RX9 35 "TiedFrameModel" "high" "[I", .arrayClass .boolean, .fieldLink RX9 38 "TiedFrameModel" "isFolded" "[Z", .fieldLink RX9 42 "TiedFrameModel" "isBound" "[Z", .fieldLink RX9 45 "TiedFrameModel" "lawDay" "[I", .fieldLink RX9 48 "TiedFrameModel" "lawColour" "[I", .fieldLink RX9 51 "TiedFrameModel" "lawRank" "[I", .fieldLink RX9 54 "TiedFrameModel" "planBits" "[I", .fieldLink RX9 57 "TiedFrameModel" "bits" "[I", .fieldLink RX9 60 "TiedFrameModel" "rest" "[I", .fieldLink RX9 63 "TiedFrameModel" "needs" "[I"] ++ wsX90)
def wsX9_thrown : List Cond := .code yX9_thrown cX9_thrown 1 (some .int) :: ([.fieldLink RX9 66 "TiedFrameModel" "thrown" "I"] ++ wsX90)
def wsX9_right : List Cond := .code yX9_right cX9_right 3 (some .boolean) :: ([.fieldLink RX9 66 "TiedFrameModel" "thrown" "I"] ++ wsX90)
def wsX9_undyed : List Cond := .code yX9_undyed cX9_undyed 2 none :: ([.fieldLink RX9 20 "TiedFrameModel" "colours" "[I", .fieldLink RX9 42 "TiedFrameModel" "isBound" "[Z"] ++ wsX90)
def wsX9_frame : List Cond := .code yX9_frame cX9_frame 4 none :: ([.fieldLink RX9 66 "TiedFrameModel" "thrown" "I", .fieldLink RX9 7 "TiedFrameModel" "threads" "I", .fieldLink RX9 13 "TiedFrameModel" "places" "I", .fieldLink RX9 29 "TiedFrameModel" "wanted" "[I", .fieldLink RX9 16 "TiedFrameModel" "bundleOf" "[I", .fieldLink RX9 32 "TiedFrameModel" "low" "[I", .fieldLink RX9 35 "TiedFrameModel" "high" "[I", .fieldLink RX9 38 "TiedFrameModel" "isFolded" "[Z", .fieldLink RX9 73 "TiedFrameModel" "hasPlan" "Z", .methodLink RX9 69 yX9_right, .instanceMethod yX9_right, .selects RX9 yX9_right yX9_right, .initialized RX9, .code yX9_right cX9_right 3 (some .boolean), .methodLink RX9 77 yX9_undyed, .instanceMethod yX9_undyed, .selects RX9 yX9_undyed yX9_undyed, .code yX9_undyed cX9_undyed 2 none, .fieldLink RX9 20 "TiedFrameModel" "colours" "[I", .fieldLink RX9 42 "TiedFrameModel" "isBound" "[Z"] ++ wsX90)
def wsX9_isThread : List Cond := .code yX9_isThread cX9_isThread 2 (some .boolean) :: ([.fieldLink RX9 7 "TiedFrameModel" "threads" "I", .methodLink RX9 69 yX9_right, .instanceMethod yX9_right, .selects RX9 yX9_right yX9_right, .initialized RX9, .code yX9_right cX9_right 3 (some .boolean), .fieldLink RX9 66 "TiedFrameModel" "thrown" "I"] ++ wsX90)
def wsX9_isBundle : List Cond := .code yX9_isBundle cX9_isBundle 2 (some .boolean) :: ([.methodLink RX9 69 yX9_right, .instanceMethod yX9_right, .selects RX9 yX9_right yX9_right, .initialized RX9, .code yX9_right cX9_right 3 (some .boolean), .fieldLink RX9 66 "TiedFrameModel" "thrown" "I"] ++ wsX90)
def wsX9_isPlace : List Cond := .code yX9_isPlace cX9_isPlace 2 (some .boolean) :: ([.fieldLink RX9 13 "TiedFrameModel" "places" "I", .methodLink RX9 69 yX9_right, .instanceMethod yX9_right, .selects RX9 yX9_right yX9_right, .initialized RX9, .code yX9_right cX9_right 3 (some .boolean), .fieldLink RX9 66 "TiedFrameModel" "thrown" "I"] ++ wsX90)
def wsX9_into : List Cond := .code yX9_into cX9_into 4 (some .int) :: ([.fieldLink RX9 66 "TiedFrameModel" "thrown" "I", .fieldLink RX9 16 "TiedFrameModel" "bundleOf" "[I", .fieldLink RX9 73 "TiedFrameModel" "hasPlan" "Z", .methodLink RX9 80 yX9_isThread, .instanceMethod yX9_isThread, .selects RX9 yX9_isThread yX9_isThread, .initialized RX9, .code yX9_isThread cX9_isThread 2 (some .boolean), .fieldLink RX9 7 "TiedFrameModel" "threads" "I", .methodLink RX9 69 yX9_right, .instanceMethod yX9_right, .selects RX9 yX9_right yX9_right, .code yX9_right cX9_right 3 (some .boolean), .methodLink RX9 84 yX9_isBundle, .instanceMethod yX9_isBundle, .selects RX9 yX9_isBundle yX9_isBundle, .code yX9_isBundle cX9_isBundle 2 (some .boolean), .methodLink RX9 77 yX9_undyed, .instanceMethod yX9_undyed, .selects RX9 yX9_undyed yX9_undyed, .code yX9_undyed cX9_undyed 2 none, .fieldLink RX9 20 "TiedFrameModel" "colours" "[I", .fieldLink RX9 42 "TiedFrameModel" "isBound" "[Z"] ++ wsX90)
def wsX9_fold : List Cond := .code yX9_fold cX9_fold 4 (some .boolean) :: ([.fieldLink RX9 66 "TiedFrameModel" "thrown" "I", .fieldLink RX9 38 "TiedFrameModel" "isFolded" "[Z", .fieldLink RX9 73 "TiedFrameModel" "hasPlan" "Z", .methodLink RX9 84 yX9_isBundle, .instanceMethod yX9_isBundle, .selects RX9 yX9_isBundle yX9_isBundle, .initialized RX9, .code yX9_isBundle cX9_isBundle 2 (some .boolean), .methodLink RX9 69 yX9_right, .instanceMethod yX9_right, .selects RX9 yX9_right yX9_right, .code yX9_right cX9_right 3 (some .boolean), .methodLink RX9 77 yX9_undyed, .instanceMethod yX9_undyed, .selects RX9 yX9_undyed yX9_undyed, .code yX9_undyed cX9_undyed 2 none, .fieldLink RX9 20 "TiedFrameModel" "colours" "[I", .fieldLink RX9 42 "TiedFrameModel" "isBound" "[Z"] ++ wsX90)
def wsX9_table : List Cond := .code yX9_table cX9_table 5 (some .int) :: ([.fieldLink RX9 66 "TiedFrameModel" "thrown" "I", .fieldLink RX9 23 "TiedFrameModel" "table" "[I", .fieldLink RX9 73 "TiedFrameModel" "hasPlan" "Z", .methodLink RX9 69 yX9_right, .instanceMethod yX9_right, .selects RX9 yX9_right yX9_right, .initialized RX9, .code yX9_right cX9_right 3 (some .boolean)] ++ wsX90)
def wsX9_vat : List Cond := .code yX9_vat cX9_vat 3 (some .int) :: ([.fieldLink RX9 66 "TiedFrameModel" "thrown" "I", .constant RX9 87 (1000000), .fieldLink RX9 26 "TiedFrameModel" "vats" "[I", .methodLink RX9 69 yX9_right, .instanceMethod yX9_right, .selects RX9 yX9_right yX9_right, .initialized RX9, .code yX9_right cX9_right 3 (some .boolean)] ++ wsX90)
def wsX9_many : List Cond := .code yX9_many cX9_many 4 (some .int) :: ([.fieldLink RX9 7 "TiedFrameModel" "threads" "I", .fieldLink RX9 16 "TiedFrameModel" "bundleOf" "[I"] ++ wsX90)
def wsX9_binds : List Cond := .code yX9_binds cX9_binds 5 (some .int) :: ([.fieldLink RX9 42 "TiedFrameModel" "isBound" "[Z"] ++ wsX90)
def wsX9_ties : List Cond := .code yX9_ties cX9_ties 7 (some .int) :: ([.fieldLink RX9 66 "TiedFrameModel" "thrown" "I", .fieldLink RX9 38 "TiedFrameModel" "isFolded" "[Z", .fieldLink RX9 13 "TiedFrameModel" "places" "I", .methodLink RX9 84 yX9_isBundle, .instanceMethod yX9_isBundle, .selects RX9 yX9_isBundle yX9_isBundle, .initialized RX9, .code yX9_isBundle cX9_isBundle 2 (some .boolean), .methodLink RX9 69 yX9_right, .instanceMethod yX9_right, .selects RX9 yX9_right yX9_right, .code yX9_right cX9_right 3 (some .boolean), .methodLink RX9 88 yX9_isPlace, .instanceMethod yX9_isPlace, .selects RX9 yX9_isPlace yX9_isPlace, .code yX9_isPlace cX9_isPlace 2 (some .boolean), .methodLink RX9 91 yX9_binds, .instanceMethod yX9_binds, .selects RX9 yX9_binds yX9_binds, .code yX9_binds cX9_binds 5 (some .int), .fieldLink RX9 42 "TiedFrameModel" "isBound" "[Z"] ++ wsX90)
def wsX9_tie_r1 : List Cond := [Cond.methodLink RX9 95 yX9_ties, Cond.instanceMethod yX9_ties, Cond.selects RX9 yX9_ties yX9_ties, Cond.initialized RX9, Cond.code yX9_ties cX9_ties 7 (some .int), Cond.fieldLink RX9 66 "TiedFrameModel" "thrown" "I", Cond.fieldLink RX9 38 "TiedFrameModel" "isFolded" "[Z", Cond.fieldLink RX9 13 "TiedFrameModel" "places" "I", Cond.methodLink RX9 84 yX9_isBundle, Cond.instanceMethod yX9_isBundle, Cond.selects RX9 yX9_isBundle yX9_isBundle, Cond.code yX9_isBundle cX9_isBundle 2 (some .boolean), Cond.methodLink RX9 69 yX9_right, Cond.instanceMethod yX9_right, Cond.selects RX9 yX9_right yX9_right, Cond.code yX9_right cX9_right 3 (some .boolean), Cond.methodLink RX9 88 yX9_isPlace, Cond.instanceMethod yX9_isPlace, Cond.selects RX9 yX9_isPlace yX9_isPlace, Cond.code yX9_isPlace cX9_isPlace 2 (some .boolean), Cond.methodLink RX9 91 yX9_binds, Cond.instanceMethod yX9_binds, Cond.selects RX9 yX9_binds yX9_binds, Cond.code yX9_binds cX9_binds 5 (some .int)]
def wsX9_tie_r2 : List Cond := [Cond.fieldLink RX9 42 "TiedFrameModel" "isBound" "[Z"]
def wsX9_tie : List Cond := .code yX9_tie cX9_tie 4 (some .int) :: ((wsX9_tie_r1 ++ wsX9_tie_r2) ++ wsX90)
def wsX9_untie_r1 : List Cond := [Cond.methodLink RX9 95 yX9_ties, Cond.instanceMethod yX9_ties, Cond.selects RX9 yX9_ties yX9_ties, Cond.initialized RX9, Cond.code yX9_ties cX9_ties 7 (some .int), Cond.fieldLink RX9 66 "TiedFrameModel" "thrown" "I", Cond.fieldLink RX9 38 "TiedFrameModel" "isFolded" "[Z", Cond.fieldLink RX9 13 "TiedFrameModel" "places" "I", Cond.methodLink RX9 84 yX9_isBundle, Cond.instanceMethod yX9_isBundle, Cond.selects RX9 yX9_isBundle yX9_isBundle, Cond.code yX9_isBundle cX9_isBundle 2 (some .boolean), Cond.methodLink RX9 69 yX9_right, Cond.instanceMethod yX9_right, Cond.selects RX9 yX9_right yX9_right, Cond.code yX9_right cX9_right 3 (some .boolean), Cond.methodLink RX9 88 yX9_isPlace, Cond.instanceMethod yX9_isPlace, Cond.selects RX9 yX9_isPlace yX9_isPlace, Cond.code yX9_isPlace cX9_isPlace 2 (some .boolean), Cond.methodLink RX9 91 yX9_binds, Cond.instanceMethod yX9_binds, Cond.selects RX9 yX9_binds yX9_binds, Cond.code yX9_binds cX9_binds 5 (some .int)]
def wsX9_untie_r2 : List Cond := [Cond.fieldLink RX9 42 "TiedFrameModel" "isBound" "[Z"]
def wsX9_untie : List Cond := .code yX9_untie cX9_untie 4 (some .int) :: ((wsX9_untie_r1 ++ wsX9_untie_r2) ++ wsX90)
def wsX9_taken : List Cond := .code yX9_taken cX9_taken 4 (some .int) :: ([.fieldLink RX9 13 "TiedFrameModel" "places" "I", .fieldLink RX9 42 "TiedFrameModel" "isBound" "[Z", .methodLink RX9 99 yX9_many, .instanceMethod yX9_many, .selects RX9 yX9_many yX9_many, .initialized RX9, .code yX9_many cX9_many 4 (some .int), .fieldLink RX9 7 "TiedFrameModel" "threads" "I", .fieldLink RX9 16 "TiedFrameModel" "bundleOf" "[I"] ++ wsX90)
def wsX9_bathes : List Cond := .code yX9_bathes cX9_bathes 4 none :: ([.fieldLink RX9 13 "TiedFrameModel" "places" "I", .fieldLink RX9 42 "TiedFrameModel" "isBound" "[Z", .fieldLink RX9 20 "TiedFrameModel" "colours" "[I", .fieldLink RX9 23 "TiedFrameModel" "table" "[I", .fieldLink RX9 103 "TiedFrameModel" "baths" "I"] ++ wsX90)
def wsX9_bath_r1 : List Cond := [Cond.fieldLink RX9 66 "TiedFrameModel" "thrown" "I", Cond.fieldLink RX9 26 "TiedFrameModel" "vats" "[I", Cond.methodLink RX9 69 yX9_right, Cond.instanceMethod yX9_right, Cond.selects RX9 yX9_right yX9_right, Cond.initialized RX9, Cond.code yX9_right cX9_right 3 (some .boolean), Cond.methodLink RX9 106 yX9_taken, Cond.instanceMethod yX9_taken, Cond.selects RX9 yX9_taken yX9_taken, Cond.code yX9_taken cX9_taken 4 (some .int), Cond.fieldLink RX9 13 "TiedFrameModel" "places" "I", Cond.fieldLink RX9 42 "TiedFrameModel" "isBound" "[Z", Cond.methodLink RX9 99 yX9_many, Cond.instanceMethod yX9_many, Cond.selects RX9 yX9_many yX9_many, Cond.code yX9_many cX9_many 4 (some .int), Cond.fieldLink RX9 7 "TiedFrameModel" "threads" "I", Cond.fieldLink RX9 16 "TiedFrameModel" "bundleOf" "[I", Cond.methodLink RX9 110 yX9_bathes, Cond.instanceMethod yX9_bathes, Cond.selects RX9 yX9_bathes yX9_bathes, Cond.code yX9_bathes cX9_bathes 4 none, Cond.fieldLink RX9 20 "TiedFrameModel" "colours" "[I"]
def wsX9_bath_r2 : List Cond := [Cond.fieldLink RX9 23 "TiedFrameModel" "table" "[I", Cond.fieldLink RX9 103 "TiedFrameModel" "baths" "I"]
def wsX9_bath : List Cond := .code yX9_bath cX9_bath 3 (some .int) :: ((wsX9_bath_r1 ++ wsX9_bath_r2) ++ wsX90)
def wsX9_colourOf : List Cond := .code yX9_colourOf cX9_colourOf 3 (some .int) :: ([.fieldLink RX9 20 "TiedFrameModel" "colours" "[I", .fieldLink RX9 16 "TiedFrameModel" "bundleOf" "[I"] ++ wsX90)
def wsX9_colour : List Cond := .code yX9_colour cX9_colour 3 (some .int) :: ([.fieldLink RX9 66 "TiedFrameModel" "thrown" "I", .methodLink RX9 80 yX9_isThread, .instanceMethod yX9_isThread, .selects RX9 yX9_isThread yX9_isThread, .initialized RX9, .code yX9_isThread cX9_isThread 2 (some .boolean), .fieldLink RX9 7 "TiedFrameModel" "threads" "I", .methodLink RX9 69 yX9_right, .instanceMethod yX9_right, .selects RX9 yX9_right yX9_right, .code yX9_right cX9_right 3 (some .boolean), .methodLink RX9 88 yX9_isPlace, .instanceMethod yX9_isPlace, .selects RX9 yX9_isPlace yX9_isPlace, .code yX9_isPlace cX9_isPlace 2 (some .boolean), .fieldLink RX9 13 "TiedFrameModel" "places" "I", .methodLink RX9 114 yX9_colourOf, .instanceMethod yX9_colourOf, .selects RX9 yX9_colourOf yX9_colourOf, .code yX9_colourOf cX9_colourOf 3 (some .int), .fieldLink RX9 20 "TiedFrameModel" "colours" "[I", .fieldLink RX9 16 "TiedFrameModel" "bundleOf" "[I"] ++ wsX90)
def wsX9_bound : List Cond := .code yX9_bound cX9_bound 3 (some .boolean) :: ([.fieldLink RX9 66 "TiedFrameModel" "thrown" "I", .fieldLink RX9 42 "TiedFrameModel" "isBound" "[Z", .methodLink RX9 84 yX9_isBundle, .instanceMethod yX9_isBundle, .selects RX9 yX9_isBundle yX9_isBundle, .initialized RX9, .code yX9_isBundle cX9_isBundle 2 (some .boolean), .methodLink RX9 69 yX9_right, .instanceMethod yX9_right, .selects RX9 yX9_right yX9_right, .code yX9_right cX9_right 3 (some .boolean), .methodLink RX9 88 yX9_isPlace, .instanceMethod yX9_isPlace, .selects RX9 yX9_isPlace yX9_isPlace, .code yX9_isPlace cX9_isPlace 2 (some .boolean), .fieldLink RX9 13 "TiedFrameModel" "places" "I"] ++ wsX90)
def wsX9_want : List Cond := .code yX9_want cX9_want 5 (some .int) :: ([.fieldLink RX9 66 "TiedFrameModel" "thrown" "I", .fieldLink RX9 29 "TiedFrameModel" "wanted" "[I", .fieldLink RX9 73 "TiedFrameModel" "hasPlan" "Z", .methodLink RX9 80 yX9_isThread, .instanceMethod yX9_isThread, .selects RX9 yX9_isThread yX9_isThread, .initialized RX9, .code yX9_isThread cX9_isThread 2 (some .boolean), .fieldLink RX9 7 "TiedFrameModel" "threads" "I", .methodLink RX9 69 yX9_right, .instanceMethod yX9_right, .selects RX9 yX9_right yX9_right, .code yX9_right cX9_right 3 (some .boolean), .methodLink RX9 88 yX9_isPlace, .instanceMethod yX9_isPlace, .selects RX9 yX9_isPlace yX9_isPlace, .code yX9_isPlace cX9_isPlace 2 (some .boolean), .fieldLink RX9 13 "TiedFrameModel" "places" "I"] ++ wsX90)
def wsX9_bathsOf : List Cond := .code yX9_bathsOf cX9_bathsOf 3 (some .int) :: ([])
def wsX9_isRow : List Cond := .code yX9_isRow cX9_isRow 4 (some .boolean) :: ([.methodLink RX9 118 yX9_bathsOf, .static yX9_bathsOf, .initialized RX9, .code yX9_bathsOf cX9_bathsOf 3 (some .int)])
def wsX9_becomes : List Cond := .code yX9_becomes cX9_becomes 5 (some .int) :: ([.fieldLink RX9 23 "TiedFrameModel" "table" "[I", .methodLink RX9 118 yX9_bathsOf, .static yX9_bathsOf, .initialized RX9, .code yX9_bathsOf cX9_bathsOf 3 (some .int)] ++ wsX90)
def wsX9_wants : List Cond := .code yX9_wants cX9_wants 6 (some .boolean) :: ([.fieldLink RX9 7 "TiedFrameModel" "threads" "I", .fieldLink RX9 16 "TiedFrameModel" "bundleOf" "[I", .fieldLink RX9 29 "TiedFrameModel" "wanted" "[I"] ++ wsX90)
def wsX9_ones : List Cond := .code yX9_ones cX9_ones 3 (some .int) :: ([])
def wsX9_newly : List Cond := .code yX9_newly cX9_newly 1 (some .int) :: ([])
def wsX9_find_r1 : List Cond := [Cond.fieldLink RX9 57 "TiedFrameModel" "bits" "[I", Cond.fieldLink RX9 38 "TiedFrameModel" "isFolded" "[Z", Cond.fieldLink RX9 13 "TiedFrameModel" "places" "I", Cond.fieldLink RX9 60 "TiedFrameModel" "rest" "[I", Cond.constant RX9 87 (1000000), Cond.methodLink RX9 118 yX9_bathsOf, Cond.static yX9_bathsOf, Cond.initialized RX9, Cond.code yX9_bathsOf cX9_bathsOf 3 (some .int), Cond.methodLink RX9 99 yX9_many, Cond.instanceMethod yX9_many, Cond.selects RX9 yX9_many yX9_many, Cond.code yX9_many cX9_many 4 (some .int), Cond.fieldLink RX9 7 "TiedFrameModel" "threads" "I", Cond.fieldLink RX9 16 "TiedFrameModel" "bundleOf" "[I", Cond.methodLink RX9 121 yX9_becomes, Cond.instanceMethod yX9_becomes, Cond.selects RX9 yX9_becomes yX9_becomes, Cond.code yX9_becomes cX9_becomes 5 (some .int), Cond.fieldLink RX9 23 "TiedFrameModel" "table" "[I", Cond.methodLink RX9 124 yX9_wants, Cond.instanceMethod yX9_wants, Cond.selects RX9 yX9_wants yX9_wants, Cond.code yX9_wants cX9_wants 6 (some .boolean)]
def wsX9_find_r2 : List Cond := [Cond.fieldLink RX9 29 "TiedFrameModel" "wanted" "[I", Cond.methodLink RX9 128 yX9_newly, Cond.static yX9_newly, Cond.code yX9_newly cX9_newly 1 (some .int), Cond.methodLink RX9 131 yX9_ones, Cond.static yX9_ones, Cond.code yX9_ones cX9_ones 3 (some .int)]
def wsX9_find : List Cond := .code yX9_find cX9_find 12 (some .int) :: ((wsX9_find_r1 ++ wsX9_find_r2) ++ wsX90)
def wsX9_keeps : List Cond := .code yX9_keeps cX9_keeps 4 none :: ([.fieldLink RX9 73 "TiedFrameModel" "hasPlan" "Z", .fieldLink RX9 134 "TiedFrameModel" "planRow" "I", .fieldLink RX9 137 "TiedFrameModel" "planTies" "I", .fieldLink RX9 54 "TiedFrameModel" "planBits" "[I", .fieldLink RX9 57 "TiedFrameModel" "bits" "[I"] ++ wsX90)
def wsX9_plan_r1 : List Cond := [Cond.fieldLink RX9 66 "TiedFrameModel" "thrown" "I", Cond.methodLink RX9 140 yX9_isRow, Cond.static yX9_isRow, Cond.initialized RX9, Cond.code yX9_isRow cX9_isRow 4 (some .boolean), Cond.methodLink RX9 118 yX9_bathsOf, Cond.static yX9_bathsOf, Cond.code yX9_bathsOf cX9_bathsOf 3 (some .int), Cond.methodLink RX9 69 yX9_right, Cond.instanceMethod yX9_right, Cond.selects RX9 yX9_right yX9_right, Cond.code yX9_right cX9_right 3 (some .boolean), Cond.methodLink RX9 143 yX9_find, Cond.instanceMethod yX9_find, Cond.selects RX9 yX9_find yX9_find, Cond.code yX9_find cX9_find 12 (some .int), Cond.fieldLink RX9 57 "TiedFrameModel" "bits" "[I", Cond.fieldLink RX9 38 "TiedFrameModel" "isFolded" "[Z", Cond.fieldLink RX9 13 "TiedFrameModel" "places" "I", Cond.fieldLink RX9 60 "TiedFrameModel" "rest" "[I", Cond.constant RX9 87 (1000000), Cond.methodLink RX9 99 yX9_many, Cond.instanceMethod yX9_many, Cond.selects RX9 yX9_many yX9_many]
def wsX9_plan_r2 : List Cond := [Cond.code yX9_many cX9_many 4 (some .int), Cond.fieldLink RX9 7 "TiedFrameModel" "threads" "I", Cond.fieldLink RX9 16 "TiedFrameModel" "bundleOf" "[I", Cond.methodLink RX9 121 yX9_becomes, Cond.instanceMethod yX9_becomes, Cond.selects RX9 yX9_becomes yX9_becomes, Cond.code yX9_becomes cX9_becomes 5 (some .int), Cond.fieldLink RX9 23 "TiedFrameModel" "table" "[I", Cond.methodLink RX9 124 yX9_wants, Cond.instanceMethod yX9_wants, Cond.selects RX9 yX9_wants yX9_wants, Cond.code yX9_wants cX9_wants 6 (some .boolean), Cond.fieldLink RX9 29 "TiedFrameModel" "wanted" "[I", Cond.methodLink RX9 128 yX9_newly, Cond.static yX9_newly, Cond.code yX9_newly cX9_newly 1 (some .int), Cond.methodLink RX9 131 yX9_ones, Cond.static yX9_ones, Cond.code yX9_ones cX9_ones 3 (some .int), Cond.methodLink RX9 146 yX9_keeps, Cond.instanceMethod yX9_keeps, Cond.selects RX9 yX9_keeps yX9_keeps, Cond.code yX9_keeps cX9_keeps 4 none, Cond.fieldLink RX9 73 "TiedFrameModel" "hasPlan" "Z"]
def wsX9_plan_r3 : List Cond := [Cond.fieldLink RX9 134 "TiedFrameModel" "planRow" "I", Cond.fieldLink RX9 137 "TiedFrameModel" "planTies" "I", Cond.fieldLink RX9 54 "TiedFrameModel" "planBits" "[I"]
def wsX9_plan : List Cond := .code yX9_plan cX9_plan 3 (some .int) :: ((wsX9_plan_r1 ++ (wsX9_plan_r2 ++ wsX9_plan_r3)) ++ wsX90)
def wsX9_best_r1 : List Cond := [Cond.fieldLink RX9 66 "TiedFrameModel" "thrown" "I", Cond.methodLink RX9 69 yX9_right, Cond.instanceMethod yX9_right, Cond.selects RX9 yX9_right yX9_right, Cond.initialized RX9, Cond.code yX9_right cX9_right 3 (some .boolean), Cond.methodLink RX9 143 yX9_find, Cond.instanceMethod yX9_find, Cond.selects RX9 yX9_find yX9_find, Cond.code yX9_find cX9_find 12 (some .int), Cond.fieldLink RX9 57 "TiedFrameModel" "bits" "[I", Cond.fieldLink RX9 38 "TiedFrameModel" "isFolded" "[Z", Cond.fieldLink RX9 13 "TiedFrameModel" "places" "I", Cond.fieldLink RX9 60 "TiedFrameModel" "rest" "[I", Cond.constant RX9 87 (1000000), Cond.methodLink RX9 118 yX9_bathsOf, Cond.static yX9_bathsOf, Cond.code yX9_bathsOf cX9_bathsOf 3 (some .int), Cond.methodLink RX9 99 yX9_many, Cond.instanceMethod yX9_many, Cond.selects RX9 yX9_many yX9_many, Cond.code yX9_many cX9_many 4 (some .int), Cond.fieldLink RX9 7 "TiedFrameModel" "threads" "I", Cond.fieldLink RX9 16 "TiedFrameModel" "bundleOf" "[I"]
def wsX9_best_r2 : List Cond := [Cond.methodLink RX9 121 yX9_becomes, Cond.instanceMethod yX9_becomes, Cond.selects RX9 yX9_becomes yX9_becomes, Cond.code yX9_becomes cX9_becomes 5 (some .int), Cond.fieldLink RX9 23 "TiedFrameModel" "table" "[I", Cond.methodLink RX9 124 yX9_wants, Cond.instanceMethod yX9_wants, Cond.selects RX9 yX9_wants yX9_wants, Cond.code yX9_wants cX9_wants 6 (some .boolean), Cond.fieldLink RX9 29 "TiedFrameModel" "wanted" "[I", Cond.methodLink RX9 128 yX9_newly, Cond.static yX9_newly, Cond.code yX9_newly cX9_newly 1 (some .int), Cond.methodLink RX9 131 yX9_ones, Cond.static yX9_ones, Cond.code yX9_ones cX9_ones 3 (some .int), Cond.methodLink RX9 146 yX9_keeps, Cond.instanceMethod yX9_keeps, Cond.selects RX9 yX9_keeps yX9_keeps, Cond.code yX9_keeps cX9_keeps 4 none, Cond.fieldLink RX9 73 "TiedFrameModel" "hasPlan" "Z", Cond.fieldLink RX9 134 "TiedFrameModel" "planRow" "I", Cond.fieldLink RX9 137 "TiedFrameModel" "planTies" "I", Cond.fieldLink RX9 54 "TiedFrameModel" "planBits" "[I"]
def wsX9_best : List Cond := .code yX9_best cX9_best 8 (some .int) :: ((wsX9_best_r1 ++ wsX9_best_r2) ++ wsX90)
def wsX9_kept : List Cond := .code yX9_kept cX9_kept 2 (some .int) :: ([.fieldLink RX9 66 "TiedFrameModel" "thrown" "I", .fieldLink RX9 73 "TiedFrameModel" "hasPlan" "Z", .fieldLink RX9 134 "TiedFrameModel" "planRow" "I", .fieldLink RX9 137 "TiedFrameModel" "planTies" "I", .methodLink RX9 69 yX9_right, .instanceMethod yX9_right, .selects RX9 yX9_right yX9_right, .initialized RX9, .code yX9_right cX9_right 3 (some .boolean), .methodLink RX9 118 yX9_bathsOf, .static yX9_bathsOf, .code yX9_bathsOf cX9_bathsOf 3 (some .int)] ++ wsX90)
def wsX9_bits : List Cond := .code yX9_bits cX9_bits 3 (some .int) :: ([.fieldLink RX9 66 "TiedFrameModel" "thrown" "I", .fieldLink RX9 73 "TiedFrameModel" "hasPlan" "Z", .fieldLink RX9 54 "TiedFrameModel" "planBits" "[I", .methodLink RX9 84 yX9_isBundle, .instanceMethod yX9_isBundle, .selects RX9 yX9_isBundle yX9_isBundle, .initialized RX9, .code yX9_isBundle cX9_isBundle 2 (some .boolean), .methodLink RX9 69 yX9_right, .instanceMethod yX9_right, .selects RX9 yX9_right yX9_right, .code yX9_right cX9_right 3 (some .boolean), .methodLink RX9 88 yX9_isPlace, .instanceMethod yX9_isPlace, .selects RX9 yX9_isPlace yX9_isPlace, .code yX9_isPlace cX9_isPlace 2 (some .boolean), .fieldLink RX9 13 "TiedFrameModel" "places" "I"] ++ wsX90)
def wsX9_bindsFor : List Cond := .code yX9_bindsFor cX9_bindsFor 4 none :: ([.fieldLink RX9 13 "TiedFrameModel" "places" "I", .fieldLink RX9 42 "TiedFrameModel" "isBound" "[Z", .fieldLink RX9 54 "TiedFrameModel" "planBits" "[I"] ++ wsX90)
def wsX9_takes : List Cond := .code yX9_takes cX9_takes 5 (some .int) :: ([.fieldLink RX9 13 "TiedFrameModel" "places" "I", .fieldLink RX9 54 "TiedFrameModel" "planBits" "[I", .methodLink RX9 99 yX9_many, .instanceMethod yX9_many, .selects RX9 yX9_many yX9_many, .initialized RX9, .code yX9_many cX9_many 4 (some .int), .fieldLink RX9 7 "TiedFrameModel" "threads" "I", .fieldLink RX9 16 "TiedFrameModel" "bundleOf" "[I"] ++ wsX90)
def wsX9_dye_r1 : List Cond := [Cond.fieldLink RX9 66 "TiedFrameModel" "thrown" "I", Cond.fieldLink RX9 73 "TiedFrameModel" "hasPlan" "Z", Cond.fieldLink RX9 134 "TiedFrameModel" "planRow" "I", Cond.fieldLink RX9 63 "TiedFrameModel" "needs" "[I", Cond.fieldLink RX9 26 "TiedFrameModel" "vats" "[I", Cond.methodLink RX9 118 yX9_bathsOf, Cond.static yX9_bathsOf, Cond.initialized RX9, Cond.code yX9_bathsOf cX9_bathsOf 3 (some .int), Cond.methodLink RX9 150 yX9_takes, Cond.instanceMethod yX9_takes, Cond.selects RX9 yX9_takes yX9_takes, Cond.code yX9_takes cX9_takes 5 (some .int), Cond.fieldLink RX9 13 "TiedFrameModel" "places" "I", Cond.fieldLink RX9 54 "TiedFrameModel" "planBits" "[I", Cond.methodLink RX9 99 yX9_many, Cond.instanceMethod yX9_many, Cond.selects RX9 yX9_many yX9_many, Cond.code yX9_many cX9_many 4 (some .int), Cond.fieldLink RX9 7 "TiedFrameModel" "threads" "I", Cond.fieldLink RX9 16 "TiedFrameModel" "bundleOf" "[I", Cond.methodLink RX9 77 yX9_undyed, Cond.instanceMethod yX9_undyed, Cond.selects RX9 yX9_undyed yX9_undyed]
def wsX9_dye_r2 : List Cond := [Cond.code yX9_undyed cX9_undyed 2 none, Cond.fieldLink RX9 20 "TiedFrameModel" "colours" "[I", Cond.fieldLink RX9 42 "TiedFrameModel" "isBound" "[Z", Cond.methodLink RX9 153 yX9_bindsFor, Cond.instanceMethod yX9_bindsFor, Cond.selects RX9 yX9_bindsFor yX9_bindsFor, Cond.code yX9_bindsFor cX9_bindsFor 4 none, Cond.methodLink RX9 106 yX9_taken, Cond.instanceMethod yX9_taken, Cond.selects RX9 yX9_taken yX9_taken, Cond.code yX9_taken cX9_taken 4 (some .int), Cond.methodLink RX9 110 yX9_bathes, Cond.instanceMethod yX9_bathes, Cond.selects RX9 yX9_bathes yX9_bathes, Cond.code yX9_bathes cX9_bathes 4 none, Cond.fieldLink RX9 23 "TiedFrameModel" "table" "[I", Cond.fieldLink RX9 103 "TiedFrameModel" "baths" "I"]
def wsX9_dye : List Cond := .code yX9_dye cX9_dye 7 (some .int) :: ((wsX9_dye_r1 ++ wsX9_dye_r2) ++ wsX90)
def wsX9_slip : List Cond := .code yX9_slip cX9_slip 4 none :: ([.fieldLink RX9 66 "TiedFrameModel" "thrown" "I", .fieldLink RX9 32 "TiedFrameModel" "low" "[I", .fieldLink RX9 35 "TiedFrameModel" "high" "[I", .methodLink RX9 80 yX9_isThread, .instanceMethod yX9_isThread, .selects RX9 yX9_isThread yX9_isThread, .initialized RX9, .code yX9_isThread cX9_isThread 2 (some .boolean), .fieldLink RX9 7 "TiedFrameModel" "threads" "I", .methodLink RX9 69 yX9_right, .instanceMethod yX9_right, .selects RX9 yX9_right yX9_right, .code yX9_right cX9_right 3 (some .boolean)] ++ wsX90)
def wsX9_seenOf : List Cond := .code yX9_seenOf cX9_seenOf 5 (some .int) :: ([.fieldLink RX9 32 "TiedFrameModel" "low" "[I", .fieldLink RX9 35 "TiedFrameModel" "high" "[I", .fieldLink RX9 13 "TiedFrameModel" "places" "I", .methodLink RX9 114 yX9_colourOf, .instanceMethod yX9_colourOf, .selects RX9 yX9_colourOf yX9_colourOf, .initialized RX9, .code yX9_colourOf cX9_colourOf 3 (some .int), .fieldLink RX9 20 "TiedFrameModel" "colours" "[I", .fieldLink RX9 16 "TiedFrameModel" "bundleOf" "[I"] ++ wsX90)
def wsX9_seen_r1 : List Cond := [Cond.fieldLink RX9 66 "TiedFrameModel" "thrown" "I", Cond.methodLink RX9 80 yX9_isThread, Cond.instanceMethod yX9_isThread, Cond.selects RX9 yX9_isThread yX9_isThread, Cond.initialized RX9, Cond.code yX9_isThread cX9_isThread 2 (some .boolean), Cond.fieldLink RX9 7 "TiedFrameModel" "threads" "I", Cond.methodLink RX9 69 yX9_right, Cond.instanceMethod yX9_right, Cond.selects RX9 yX9_right yX9_right, Cond.code yX9_right cX9_right 3 (some .boolean), Cond.methodLink RX9 88 yX9_isPlace, Cond.instanceMethod yX9_isPlace, Cond.selects RX9 yX9_isPlace yX9_isPlace, Cond.code yX9_isPlace cX9_isPlace 2 (some .boolean), Cond.fieldLink RX9 13 "TiedFrameModel" "places" "I", Cond.methodLink RX9 156 yX9_seenOf, Cond.instanceMethod yX9_seenOf, Cond.selects RX9 yX9_seenOf yX9_seenOf, Cond.code yX9_seenOf cX9_seenOf 5 (some .int), Cond.fieldLink RX9 32 "TiedFrameModel" "low" "[I", Cond.fieldLink RX9 35 "TiedFrameModel" "high" "[I", Cond.methodLink RX9 114 yX9_colourOf, Cond.instanceMethod yX9_colourOf]
def wsX9_seen_r2 : List Cond := [Cond.selects RX9 yX9_colourOf yX9_colourOf, Cond.code yX9_colourOf cX9_colourOf 3 (some .int), Cond.fieldLink RX9 20 "TiedFrameModel" "colours" "[I", Cond.fieldLink RX9 16 "TiedFrameModel" "bundleOf" "[I"]
def wsX9_seen : List Cond := .code yX9_seen cX9_seen 3 (some .int) :: ((wsX9_seen_r1 ++ wsX9_seen_r2) ++ wsX90)
def wsX9_blurred : List Cond := .code yX9_blurred cX9_blurred 4 (some .int) :: ([.fieldLink RX9 66 "TiedFrameModel" "thrown" "I", .fieldLink RX9 7 "TiedFrameModel" "threads" "I", .fieldLink RX9 13 "TiedFrameModel" "places" "I", .fieldLink RX9 29 "TiedFrameModel" "wanted" "[I", .methodLink RX9 156 yX9_seenOf, .instanceMethod yX9_seenOf, .selects RX9 yX9_seenOf yX9_seenOf, .initialized RX9, .code yX9_seenOf cX9_seenOf 5 (some .int), .fieldLink RX9 32 "TiedFrameModel" "low" "[I", .fieldLink RX9 35 "TiedFrameModel" "high" "[I", .methodLink RX9 114 yX9_colourOf, .instanceMethod yX9_colourOf, .selects RX9 yX9_colourOf yX9_colourOf, .code yX9_colourOf cX9_colourOf 3 (some .int), .fieldLink RX9 20 "TiedFrameModel" "colours" "[I", .fieldLink RX9 16 "TiedFrameModel" "bundleOf" "[I"] ++ wsX90)
def wsX9_law : List Cond := .code yX9_law cX9_law 4 (some .int) :: ([.fieldLink RX9 66 "TiedFrameModel" "thrown" "I", .fieldLink RX9 159 "TiedFrameModel" "laws" "I", .fieldLink RX9 45 "TiedFrameModel" "lawDay" "[I", .fieldLink RX9 48 "TiedFrameModel" "lawColour" "[I", .fieldLink RX9 51 "TiedFrameModel" "lawRank" "[I"] ++ wsX90)
def wsX9_rankOf : List Cond := .code yX9_rankOf cX9_rankOf 5 (some .int) :: ([.fieldLink RX9 159 "TiedFrameModel" "laws" "I", .fieldLink RX9 48 "TiedFrameModel" "lawColour" "[I", .fieldLink RX9 45 "TiedFrameModel" "lawDay" "[I", .fieldLink RX9 51 "TiedFrameModel" "lawRank" "[I"] ++ wsX90)
def wsX9_rank : List Cond := .code yX9_rank cX9_rank 6 (some .int) :: ([.fieldLink RX9 66 "TiedFrameModel" "thrown" "I", .fieldLink RX9 7 "TiedFrameModel" "threads" "I", .fieldLink RX9 13 "TiedFrameModel" "places" "I", .methodLink RX9 69 yX9_right, .instanceMethod yX9_right, .selects RX9 yX9_right yX9_right, .initialized RX9, .code yX9_right cX9_right 3 (some .boolean), .methodLink RX9 114 yX9_colourOf, .instanceMethod yX9_colourOf, .selects RX9 yX9_colourOf yX9_colourOf, .code yX9_colourOf cX9_colourOf 3 (some .int), .fieldLink RX9 20 "TiedFrameModel" "colours" "[I", .fieldLink RX9 16 "TiedFrameModel" "bundleOf" "[I", .methodLink RX9 162 yX9_rankOf, .instanceMethod yX9_rankOf, .selects RX9 yX9_rankOf yX9_rankOf, .code yX9_rankOf cX9_rankOf 5 (some .int), .fieldLink RX9 159 "TiedFrameModel" "laws" "I", .fieldLink RX9 48 "TiedFrameModel" "lawColour" "[I", .fieldLink RX9 45 "TiedFrameModel" "lawDay" "[I", .fieldLink RX9 51 "TiedFrameModel" "lawRank" "[I"] ++ wsX90)
def wsX9_strengthOf : List Cond := .code yX9_strengthOf cX9_strengthOf 2 (some .int) :: ([.fieldLink RX9 26 "TiedFrameModel" "vats" "[I"] ++ wsX90)
def wsX9_count : List Cond := .code yX9_count cX9_count 2 (some .int) :: ([.fieldLink RX9 66 "TiedFrameModel" "thrown" "I", .fieldLink RX9 7 "TiedFrameModel" "threads" "I", .fieldLink RX9 13 "TiedFrameModel" "places" "I", .fieldLink RX9 103 "TiedFrameModel" "baths" "I", .fieldLink RX9 159 "TiedFrameModel" "laws" "I", .methodLink RX9 69 yX9_right, .instanceMethod yX9_right, .selects RX9 yX9_right yX9_right, .initialized RX9, .code yX9_right cX9_right 3 (some .boolean), .methodLink RX9 99 yX9_many, .instanceMethod yX9_many, .selects RX9 yX9_many yX9_many, .code yX9_many cX9_many 4 (some .int), .fieldLink RX9 16 "TiedFrameModel" "bundleOf" "[I", .methodLink RX9 165 yX9_strengthOf, .instanceMethod yX9_strengthOf, .selects RX9 yX9_strengthOf yX9_strengthOf, .code yX9_strengthOf cX9_strengthOf 2 (some .int), .fieldLink RX9 26 "TiedFrameModel" "vats" "[I"] ++ wsX90)
def wsJ9_max_7cf53 : List Cond := .code yJ9_max_7cf53 cJ9_max_7cf53 2 (some .int) :: ([])
def wsL_frame_r1 : List Cond := [Cond.classLink RL 13 "java/lang/IllegalArgumentException", Cond.methodLink RL 7 yX8_frame, Cond.instanceMethod yX8_frame, Cond.selects RX8 yX8_frame yX8_frame, Cond.initialized RX8, Cond.code yX8_frame cX8_frame 3 none, Cond.classLink RX8 73 "java/lang/IllegalArgumentException", Cond.initialized "java/lang/IllegalArgumentException", Cond.fieldLink RX8 26 "TiedFrame" "cloth" "LTiedFrame$Cloth;", Cond.fieldLink RX8 33 "TiedFrame" "picture" "LTiedFrame$Picture;", Cond.fieldLink RX8 54 "TiedFrame" "slips" "LTiedFrame$Slips;", Cond.fieldLink RX8 47 "TiedFrame" "held" "LTiedFrame$Plan;", Cond.methodLink RX8 69 yX0_stretch, Cond.instanceMethod yX0_stretch, Cond.selects RX0 yX0_stretch yX0_stretch, Cond.initialized RX0, Cond.code yX0_stretch cX0_stretch 4 none, Cond.fieldLink RX0 30 "TiedFrame$Cloth" "threads" "I", Cond.fieldLink RX0 34 "TiedFrame$Cloth" "places" "I", Cond.fieldLink RX0 9 "TiedFrame$Cloth" "home" "[I", Cond.fieldLink RX0 15 "TiedFrame$Cloth" "crowd" "[I", Cond.fieldLink RX0 18 "TiedFrame$Cloth" "folded" "[Z", Cond.methodLink RX0 37 yX0_wash, Cond.instanceMethod yX0_wash]
def wsL_frame_r2 : List Cond := [Cond.selects RX0 yX0_wash yX0_wash, Cond.code yX0_wash cX0_wash 3 none, Cond.fieldLink RX0 22 "TiedFrame$Cloth" "knots" "[I", Cond.fieldLink RX0 27 "TiedFrame$Cloth" "colours" "[[I", Cond.methodLink RX8 80 yX3_clear, Cond.instanceMethod yX3_clear, Cond.selects RX3 yX3_clear yX3_clear, Cond.initialized RX3, Cond.code yX3_clear cX3_clear 3 none, Cond.fieldLink RX3 11 "TiedFrame$Picture" "wanted" "[[I", Cond.methodLink RX8 83 yX6_clear, Cond.instanceMethod yX6_clear, Cond.selects RX6 yX6_clear yX6_clear, Cond.initialized RX6, Cond.code yX6_clear cX6_clear 2 none, Cond.methodLink RX6 18 yX6_let, Cond.instanceMethod yX6_let, Cond.selects RX6 yX6_let yX6_let, Cond.code yX6_let cX6_let 4 none, Cond.fieldLink RX6 9 "TiedFrame$Slips" "lows" "[I", Cond.fieldLink RX6 15 "TiedFrame$Slips" "highs" "[I", Cond.methodLink RX8 84 yX4_drop, Cond.instanceMethod yX4_drop, Cond.selects RX4 yX4_drop yX4_drop]
def wsL_frame_r3 : List Cond := [Cond.initialized RX4, Cond.code yX4_drop cX4_drop 1 none, Cond.fieldLink RX4 9 "TiedFrame$Plan" "exists" "Z"]
def wsL_frame : List Cond := .codeWith yL_frame cL_frame 4 (some .int) [(0, 6, 9, 13)] :: ((wsL_frame_r1 ++ (wsL_frame_r2 ++ wsL_frame_r3)) ++ wsX80 ++ wsX00 ++ wsX30 ++ wsX60 ++ wsX40 ++ (vx_atS RX8 77 "java/lang/IllegalArgumentException" ["java/lang/RuntimeException", "java/lang/Exception"]).filter goodWord)
def wsL_into_r1 : List Cond := [Cond.classLink RL 19 "java/lang/IndexOutOfBoundsException", Cond.methodLink RL 15 yX8_into, Cond.instanceMethod yX8_into, Cond.selects RX8 yX8_into yX8_into, Cond.initialized RX8, Cond.code yX8_into cX8_into 4 (some .int), Cond.fieldLink RX8 26 "TiedFrame" "cloth" "LTiedFrame$Cloth;", Cond.fieldLink RX8 47 "TiedFrame" "held" "LTiedFrame$Plan;", Cond.methodLink RX8 87 yX8_needThread, Cond.instanceMethod yX8_needThread, Cond.selects RX8 yX8_needThread yX8_needThread, Cond.code yX8_needThread cX8_needThread 2 none, Cond.classLink RX8 112 "java/lang/IndexOutOfBoundsException", Cond.initialized "java/lang/IndexOutOfBoundsException", Cond.methodLink RX8 240 yX0_threads, Cond.instanceMethod yX0_threads, Cond.selects RX0 yX0_threads yX0_threads, Cond.initialized RX0, Cond.code yX0_threads cX0_threads 1 (some .int), Cond.fieldLink RX0 30 "TiedFrame$Cloth" "threads" "I", Cond.methodLink RX8 91 yX8_needBundle, Cond.static yX8_needBundle, Cond.code yX8_needBundle cX8_needBundle 1 none, Cond.methodLink RX8 94 yX0_bundleOf]
def wsL_into_r2 : List Cond := [Cond.instanceMethod yX0_bundleOf, Cond.selects RX0 yX0_bundleOf yX0_bundleOf, Cond.code yX0_bundleOf cX0_bundleOf 2 (some .int), Cond.fieldLink RX0 9 "TiedFrame$Cloth" "home" "[I", Cond.methodLink RX8 98 yX0_move, Cond.instanceMethod yX0_move, Cond.selects RX0 yX0_move yX0_move, Cond.code yX0_move cX0_move 3 none, Cond.fieldLink RX0 15 "TiedFrame$Cloth" "crowd" "[I", Cond.methodLink RX0 37 yX0_wash, Cond.instanceMethod yX0_wash, Cond.selects RX0 yX0_wash yX0_wash, Cond.code yX0_wash cX0_wash 3 none, Cond.fieldLink RX0 22 "TiedFrame$Cloth" "knots" "[I", Cond.fieldLink RX0 27 "TiedFrame$Cloth" "colours" "[[I", Cond.methodLink RX8 84 yX4_drop, Cond.instanceMethod yX4_drop, Cond.selects RX4 yX4_drop yX4_drop, Cond.initialized RX4, Cond.code yX4_drop cX4_drop 1 none, Cond.fieldLink RX4 9 "TiedFrame$Plan" "exists" "Z"]
def wsL_into : List Cond := .codeWith yL_into cL_into 5 (some .int) [(0, 10, 13, 19)] :: ((wsL_into_r1 ++ wsL_into_r2) ++ wsX80 ++ wsX00 ++ wsX40 ++ (vx_atS RX8 116 "java/lang/IndexOutOfBoundsException" ["java/lang/RuntimeException", "java/lang/Exception"]).filter goodWord)
def wsL_fold_r1 : List Cond := [Cond.classLink RL 19 "java/lang/IndexOutOfBoundsException", Cond.methodLink RL 21 yX8_fold, Cond.instanceMethod yX8_fold, Cond.selects RX8 yX8_fold yX8_fold, Cond.initialized RX8, Cond.code yX8_fold cX8_fold 4 (some .boolean), Cond.fieldLink RX8 26 "TiedFrame" "cloth" "LTiedFrame$Cloth;", Cond.fieldLink RX8 47 "TiedFrame" "held" "LTiedFrame$Plan;", Cond.methodLink RX8 91 yX8_needBundle, Cond.static yX8_needBundle, Cond.code yX8_needBundle cX8_needBundle 1 none, Cond.classLink RX8 112 "java/lang/IndexOutOfBoundsException", Cond.initialized "java/lang/IndexOutOfBoundsException", Cond.methodLink RX8 101 yX0_isFolded, Cond.instanceMethod yX0_isFolded, Cond.selects RX0 yX0_isFolded yX0_isFolded, Cond.initialized RX0, Cond.code yX0_isFolded cX0_isFolded 2 (some .boolean), Cond.fieldLink RX0 18 "TiedFrame$Cloth" "folded" "[Z", Cond.methodLink RX8 105 yX0_setFolded, Cond.instanceMethod yX0_setFolded, Cond.selects RX0 yX0_setFolded yX0_setFolded, Cond.code yX0_setFolded cX0_setFolded 3 none, Cond.methodLink RX0 37 yX0_wash]
def wsL_fold_r2 : List Cond := [Cond.instanceMethod yX0_wash, Cond.selects RX0 yX0_wash yX0_wash, Cond.code yX0_wash cX0_wash 3 none, Cond.fieldLink RX0 22 "TiedFrame$Cloth" "knots" "[I", Cond.fieldLink RX0 27 "TiedFrame$Cloth" "colours" "[[I", Cond.methodLink RX8 84 yX4_drop, Cond.instanceMethod yX4_drop, Cond.selects RX4 yX4_drop yX4_drop, Cond.initialized RX4, Cond.code yX4_drop cX4_drop 1 none, Cond.fieldLink RX4 9 "TiedFrame$Plan" "exists" "Z"]
def wsL_fold : List Cond := .codeWith yL_fold cL_fold 5 (some .int) [(0, 17, 20, 19)] :: ((wsL_fold_r1 ++ wsL_fold_r2) ++ wsX80 ++ wsX00 ++ wsX40 ++ (vx_atS RX8 116 "java/lang/IndexOutOfBoundsException" ["java/lang/RuntimeException", "java/lang/Exception"]).filter goodWord)
def wsL_table_r1 : List Cond := [Cond.classLink RL 19 "java/lang/IndexOutOfBoundsException", Cond.classLink RL 13 "java/lang/IllegalArgumentException", Cond.methodLink RL 25 yX8_table, Cond.instanceMethod yX8_table, Cond.selects RX8 yX8_table yX8_table, Cond.initialized RX8, Cond.code yX8_table cX8_table 5 (some .int), Cond.classLink RX8 112 "java/lang/IndexOutOfBoundsException", Cond.initialized "java/lang/IndexOutOfBoundsException", Cond.classLink RX8 73 "java/lang/IllegalArgumentException", Cond.initialized "java/lang/IllegalArgumentException", Cond.fieldLink RX8 12 "TiedFrame" "mixing" "LTiedFrame$Mixing;", Cond.fieldLink RX8 47 "TiedFrame" "held" "LTiedFrame$Plan;", Cond.methodLink RX8 109 yX8_isColour, Cond.static yX8_isColour, Cond.code yX8_isColour cX8_isColour 1 (some .boolean), Cond.methodLink RX8 117 yX8_needDye, Cond.static yX8_needDye, Cond.code yX8_needDye cX8_needDye 1 none, Cond.methodLink RX8 122 yX2_comesOf, Cond.instanceMethod yX2_comesOf, Cond.selects RX2 yX2_comesOf yX2_comesOf, Cond.initialized RX2, Cond.code yX2_comesOf cX2_comesOf 3 (some .int)]
def wsL_table_r2 : List Cond := [Cond.fieldLink RX2 9 "TiedFrame$Mixing" "to" "[I", Cond.methodLink RX8 126 yX2_tell, Cond.instanceMethod yX2_tell, Cond.selects RX2 yX2_tell yX2_tell, Cond.code yX2_tell cX2_tell 4 none, Cond.methodLink RX8 84 yX4_drop, Cond.instanceMethod yX4_drop, Cond.selects RX4 yX4_drop yX4_drop, Cond.initialized RX4, Cond.code yX4_drop cX4_drop 1 none, Cond.fieldLink RX4 9 "TiedFrame$Plan" "exists" "Z"]
def wsL_table : List Cond := .codeWith yL_table cL_table 6 (some .int) [(0, 12, 15, 19), (0, 12, 19, 13)] :: ((wsL_table_r1 ++ wsL_table_r2) ++ wsX80 ++ wsX20 ++ wsX40 ++ (vx_atS RX8 116 "java/lang/IndexOutOfBoundsException" ["java/lang/RuntimeException", "java/lang/Exception"]).filter goodWord ++ (vx_atS RX8 77 "java/lang/IllegalArgumentException" ["java/lang/RuntimeException", "java/lang/Exception"]).filter goodWord)
def wsL_vat : List Cond := .codeWith yL_vat cL_vat 5 (some .int) [(0, 10, 13, 19)] :: ([.classLink RL 19 "java/lang/IndexOutOfBoundsException", .methodLink RL 29 yX8_vat, .instanceMethod yX8_vat, .selects RX8 yX8_vat yX8_vat, .initialized RX8, .code yX8_vat cX8_vat 3 (some .int), .constant RX8 130 (1000000), .fieldLink RX8 19 "TiedFrame" "vats" "LTiedFrame$Vats;", .methodLink RX8 117 yX8_needDye, .static yX8_needDye, .code yX8_needDye cX8_needDye 1 none, .classLink RX8 112 "java/lang/IndexOutOfBoundsException", .initialized "java/lang/IndexOutOfBoundsException", .methodLink RX8 131 yX7_strengthOf, .instanceMethod yX7_strengthOf, .selects RX7 yX7_strengthOf yX7_strengthOf, .initialized RX7, .code yX7_strengthOf cX7_strengthOf 2 (some .int), .fieldLink RX7 9 "TiedFrame$Vats" "strength" "[I", .methodLink RX8 134 yX7_fill, .instanceMethod yX7_fill, .selects RX7 yX7_fill yX7_fill, .code yX7_fill cX7_fill 3 none] ++ wsX80 ++ wsX70 ++ (vx_atS RX8 116 "java/lang/IndexOutOfBoundsException" ["java/lang/RuntimeException", "java/lang/Exception"]).filter goodWord)
def wsL_tie_r1 : List Cond := [Cond.classLink RL 19 "java/lang/IndexOutOfBoundsException", Cond.classLink RL 13 "java/lang/IllegalArgumentException", Cond.methodLink RL 32 yX8_tie, Cond.instanceMethod yX8_tie, Cond.selects RX8 yX8_tie yX8_tie, Cond.initialized RX8, Cond.code yX8_tie cX8_tie 4 (some .int), Cond.fieldLink RX8 26 "TiedFrame" "cloth" "LTiedFrame$Cloth;", Cond.methodLink RX8 137 yX8_needRange, Cond.instanceMethod yX8_needRange, Cond.selects RX8 yX8_needRange yX8_needRange, Cond.code yX8_needRange cX8_needRange 4 none, Cond.classLink RX8 73 "java/lang/IllegalArgumentException", Cond.initialized "java/lang/IllegalArgumentException", Cond.methodLink RX8 91 yX8_needBundle, Cond.static yX8_needBundle, Cond.code yX8_needBundle cX8_needBundle 1 none, Cond.classLink RX8 112 "java/lang/IndexOutOfBoundsException", Cond.initialized "java/lang/IndexOutOfBoundsException", Cond.methodLink RX8 158 yX8_needPlace, Cond.instanceMethod yX8_needPlace, Cond.selects RX8 yX8_needPlace yX8_needPlace, Cond.code yX8_needPlace cX8_needPlace 2 none, Cond.methodLink RX8 243 yX0_places]
def wsL_tie_r2 : List Cond := [Cond.instanceMethod yX0_places, Cond.selects RX0 yX0_places yX0_places, Cond.initialized RX0, Cond.code yX0_places cX0_places 1 (some .int), Cond.fieldLink RX0 34 "TiedFrame$Cloth" "places" "I", Cond.methodLink RX8 140 yX0_bind, Cond.instanceMethod yX0_bind, Cond.selects RX0 yX0_bind yX0_bind, Cond.code yX0_bind cX0_bind 5 (some .int), Cond.fieldLink RX0 22 "TiedFrame$Cloth" "knots" "[I", Cond.methodLink RX0 44 yX0_reach, Cond.instanceMethod yX0_reach, Cond.selects RX0 yX0_reach yX0_reach, Cond.code yX0_reach cX0_reach 6 (some .int), Cond.fieldLink RX0 18 "TiedFrame$Cloth" "folded" "[Z", Cond.methodLink RX0 48 yJ6_bitCount_0f7a4, Cond.static yJ6_bitCount_0f7a4, Cond.initialized RJ6, Cond.code yJ6_bitCount_0f7a4 cJ6_bitCount_0f7a4 1 (some .int), Cond.constant RJ6 265 (1431655765), Cond.constant RJ6 266 (858993459), Cond.constant RJ6 267 (252645135)]
def wsL_tie : List Cond := .codeWith yL_tie cL_tie 6 (some .int) [(0, 12, 15, 19), (0, 12, 19, 13)] :: ((wsL_tie_r1 ++ wsL_tie_r2) ++ wsX80 ++ wsX00 ++ (vx_atS RX8 77 "java/lang/IllegalArgumentException" ["java/lang/RuntimeException", "java/lang/Exception"]).filter goodWord ++ (vx_atS RX8 116 "java/lang/IndexOutOfBoundsException" ["java/lang/RuntimeException", "java/lang/Exception"]).filter goodWord)
def wsL_untie_r1 : List Cond := [Cond.classLink RL 19 "java/lang/IndexOutOfBoundsException", Cond.classLink RL 13 "java/lang/IllegalArgumentException", Cond.methodLink RL 35 yX8_untie, Cond.instanceMethod yX8_untie, Cond.selects RX8 yX8_untie yX8_untie, Cond.initialized RX8, Cond.code yX8_untie cX8_untie 4 (some .int), Cond.fieldLink RX8 26 "TiedFrame" "cloth" "LTiedFrame$Cloth;", Cond.methodLink RX8 137 yX8_needRange, Cond.instanceMethod yX8_needRange, Cond.selects RX8 yX8_needRange yX8_needRange, Cond.code yX8_needRange cX8_needRange 4 none, Cond.classLink RX8 73 "java/lang/IllegalArgumentException", Cond.initialized "java/lang/IllegalArgumentException", Cond.methodLink RX8 91 yX8_needBundle, Cond.static yX8_needBundle, Cond.code yX8_needBundle cX8_needBundle 1 none, Cond.classLink RX8 112 "java/lang/IndexOutOfBoundsException", Cond.initialized "java/lang/IndexOutOfBoundsException", Cond.methodLink RX8 158 yX8_needPlace, Cond.instanceMethod yX8_needPlace, Cond.selects RX8 yX8_needPlace yX8_needPlace, Cond.code yX8_needPlace cX8_needPlace 2 none, Cond.methodLink RX8 243 yX0_places]
def wsL_untie_r2 : List Cond := [Cond.instanceMethod yX0_places, Cond.selects RX0 yX0_places yX0_places, Cond.initialized RX0, Cond.code yX0_places cX0_places 1 (some .int), Cond.fieldLink RX0 34 "TiedFrame$Cloth" "places" "I", Cond.methodLink RX8 144 yX0_loosen, Cond.instanceMethod yX0_loosen, Cond.selects RX0 yX0_loosen yX0_loosen, Cond.code yX0_loosen cX0_loosen 5 (some .int), Cond.fieldLink RX0 22 "TiedFrame$Cloth" "knots" "[I", Cond.methodLink RX0 44 yX0_reach, Cond.instanceMethod yX0_reach, Cond.selects RX0 yX0_reach yX0_reach, Cond.code yX0_reach cX0_reach 6 (some .int), Cond.fieldLink RX0 18 "TiedFrame$Cloth" "folded" "[Z", Cond.methodLink RX0 48 yJ6_bitCount_0f7a4, Cond.static yJ6_bitCount_0f7a4, Cond.initialized RJ6, Cond.code yJ6_bitCount_0f7a4 cJ6_bitCount_0f7a4 1 (some .int), Cond.constant RJ6 265 (1431655765), Cond.constant RJ6 266 (858993459), Cond.constant RJ6 267 (252645135)]
def wsL_untie : List Cond := .codeWith yL_untie cL_untie 6 (some .int) [(0, 12, 15, 19), (0, 12, 19, 13)] :: ((wsL_untie_r1 ++ wsL_untie_r2) ++ wsX80 ++ wsX00 ++ (vx_atS RX8 77 "java/lang/IllegalArgumentException" ["java/lang/RuntimeException", "java/lang/Exception"]).filter goodWord ++ (vx_atS RX8 116 "java/lang/IndexOutOfBoundsException" ["java/lang/RuntimeException", "java/lang/Exception"]).filter goodWord)
def wsL_bath_r1 : List Cond := [Cond.classLink RL 19 "java/lang/IndexOutOfBoundsException", Cond.methodLink RL 38 yX8_bath, Cond.instanceMethod yX8_bath, Cond.selects RX8 yX8_bath yX8_bath, Cond.initialized RX8, Cond.code yX8_bath cX8_bath 3 (some .int), Cond.fieldLink RX8 26 "TiedFrame" "cloth" "LTiedFrame$Cloth;", Cond.fieldLink RX8 19 "TiedFrame" "vats" "LTiedFrame$Vats;", Cond.fieldLink RX8 12 "TiedFrame" "mixing" "LTiedFrame$Mixing;", Cond.fieldLink RX8 65 "TiedFrame" "bathsEver" "I", Cond.methodLink RX8 117 yX8_needDye, Cond.static yX8_needDye, Cond.code yX8_needDye cX8_needDye 1 none, Cond.classLink RX8 112 "java/lang/IndexOutOfBoundsException", Cond.initialized "java/lang/IndexOutOfBoundsException", Cond.methodLink RX8 147 yX0_takesUp, Cond.instanceMethod yX0_takesUp, Cond.selects RX0 yX0_takesUp yX0_takesUp, Cond.initialized RX0, Cond.code yX0_takesUp cX0_takesUp 3 (some .int), Cond.fieldLink RX0 22 "TiedFrame$Cloth" "knots" "[I", Cond.methodLink RX0 63 yX0_takenBy, Cond.instanceMethod yX0_takenBy, Cond.selects RX0 yX0_takenBy yX0_takenBy]
def wsL_bath_r2 : List Cond := [Cond.code yX0_takenBy cX0_takenBy 3 (some .int), Cond.fieldLink RX0 15 "TiedFrame$Cloth" "crowd" "[I", Cond.fieldLink RX0 34 "TiedFrame$Cloth" "places" "I", Cond.methodLink RX0 48 yJ6_bitCount_0f7a4, Cond.static yJ6_bitCount_0f7a4, Cond.initialized RJ6, Cond.code yJ6_bitCount_0f7a4 cJ6_bitCount_0f7a4 1 (some .int), Cond.constant RJ6 265 (1431655765), Cond.constant RJ6 266 (858993459), Cond.constant RJ6 267 (252645135), Cond.methodLink RX8 131 yX7_strengthOf, Cond.instanceMethod yX7_strengthOf, Cond.selects RX7 yX7_strengthOf yX7_strengthOf, Cond.initialized RX7, Cond.code yX7_strengthOf cX7_strengthOf 2 (some .int), Cond.fieldLink RX7 9 "TiedFrame$Vats" "strength" "[I", Cond.methodLink RX8 151 yX7_lose, Cond.instanceMethod yX7_lose, Cond.selects RX7 yX7_lose yX7_lose, Cond.code yX7_lose cX7_lose 3 none, Cond.methodLink RX8 154 yX0_dip, Cond.instanceMethod yX0_dip, Cond.selects RX0 yX0_dip yX0_dip, Cond.code yX0_dip cX0_dip 5 none]
def wsL_bath_r3 : List Cond := [Cond.fieldLink RX0 27 "TiedFrame$Cloth" "colours" "[[I", Cond.methodLink RX0 66 yX0_isBound, Cond.instanceMethod yX0_isBound, Cond.selects RX0 yX0_isBound yX0_isBound, Cond.code yX0_isBound cX0_isBound 3 (some .boolean), Cond.methodLink RX0 70 yX2_comesOf, Cond.instanceMethod yX2_comesOf, Cond.selects RX2 yX2_comesOf yX2_comesOf, Cond.initialized RX2, Cond.code yX2_comesOf cX2_comesOf 3 (some .int), Cond.fieldLink RX2 9 "TiedFrame$Mixing" "to" "[I"]
def wsL_bath : List Cond := .codeWith yL_bath cL_bath 4 (some .int) [(0, 9, 12, 19)] :: ((wsL_bath_r1 ++ (wsL_bath_r2 ++ wsL_bath_r3)) ++ wsX80 ++ wsX00 ++ wsX70 ++ wsX20 ++ (vx_atS RX8 116 "java/lang/IndexOutOfBoundsException" ["java/lang/RuntimeException", "java/lang/Exception"]).filter goodWord)
def wsL_colour_r1 : List Cond := [Cond.classLink RL 19 "java/lang/IndexOutOfBoundsException", Cond.methodLink RL 42 yX8_colour, Cond.instanceMethod yX8_colour, Cond.selects RX8 yX8_colour yX8_colour, Cond.initialized RX8, Cond.code yX8_colour cX8_colour 3 (some .int), Cond.fieldLink RX8 26 "TiedFrame" "cloth" "LTiedFrame$Cloth;", Cond.methodLink RX8 87 yX8_needThread, Cond.instanceMethod yX8_needThread, Cond.selects RX8 yX8_needThread yX8_needThread, Cond.code yX8_needThread cX8_needThread 2 none, Cond.classLink RX8 112 "java/lang/IndexOutOfBoundsException", Cond.initialized "java/lang/IndexOutOfBoundsException", Cond.methodLink RX8 240 yX0_threads, Cond.instanceMethod yX0_threads, Cond.selects RX0 yX0_threads yX0_threads, Cond.initialized RX0, Cond.code yX0_threads cX0_threads 1 (some .int), Cond.fieldLink RX0 30 "TiedFrame$Cloth" "threads" "I", Cond.methodLink RX8 158 yX8_needPlace, Cond.instanceMethod yX8_needPlace, Cond.selects RX8 yX8_needPlace yX8_needPlace, Cond.code yX8_needPlace cX8_needPlace 2 none, Cond.methodLink RX8 243 yX0_places]
def wsL_colour_r2 : List Cond := [Cond.instanceMethod yX0_places, Cond.selects RX0 yX0_places yX0_places, Cond.code yX0_places cX0_places 1 (some .int), Cond.fieldLink RX0 34 "TiedFrame$Cloth" "places" "I", Cond.methodLink RX8 161 yX0_colourAt, Cond.instanceMethod yX0_colourAt, Cond.selects RX0 yX0_colourAt yX0_colourAt, Cond.code yX0_colourAt cX0_colourAt 3 (some .int), Cond.fieldLink RX0 27 "TiedFrame$Cloth" "colours" "[[I", Cond.fieldLink RX0 9 "TiedFrame$Cloth" "home" "[I"]
def wsL_colour : List Cond := .codeWith yL_colour cL_colour 5 (some .int) [(0, 10, 13, 19)] :: ((wsL_colour_r1 ++ wsL_colour_r2) ++ wsX80 ++ wsX00 ++ (vx_atS RX8 116 "java/lang/IndexOutOfBoundsException" ["java/lang/RuntimeException", "java/lang/Exception"]).filter goodWord)
def wsL_bound_r1 : List Cond := [Cond.classLink RL 19 "java/lang/IndexOutOfBoundsException", Cond.methodLink RL 45 yX8_bound, Cond.instanceMethod yX8_bound, Cond.selects RX8 yX8_bound yX8_bound, Cond.initialized RX8, Cond.code yX8_bound cX8_bound 3 (some .boolean), Cond.fieldLink RX8 26 "TiedFrame" "cloth" "LTiedFrame$Cloth;", Cond.methodLink RX8 91 yX8_needBundle, Cond.static yX8_needBundle, Cond.code yX8_needBundle cX8_needBundle 1 none, Cond.classLink RX8 112 "java/lang/IndexOutOfBoundsException", Cond.initialized "java/lang/IndexOutOfBoundsException", Cond.methodLink RX8 158 yX8_needPlace, Cond.instanceMethod yX8_needPlace, Cond.selects RX8 yX8_needPlace yX8_needPlace, Cond.code yX8_needPlace cX8_needPlace 2 none, Cond.methodLink RX8 243 yX0_places, Cond.instanceMethod yX0_places, Cond.selects RX0 yX0_places yX0_places, Cond.initialized RX0, Cond.code yX0_places cX0_places 1 (some .int), Cond.fieldLink RX0 34 "TiedFrame$Cloth" "places" "I", Cond.methodLink RX8 164 yX0_isBound, Cond.instanceMethod yX0_isBound]
def wsL_bound_r2 : List Cond := [Cond.selects RX0 yX0_isBound yX0_isBound, Cond.code yX0_isBound cX0_isBound 3 (some .boolean), Cond.fieldLink RX0 22 "TiedFrame$Cloth" "knots" "[I"]
def wsL_bound : List Cond := .codeWith yL_bound cL_bound 5 (some .int) [(0, 17, 20, 19)] :: ((wsL_bound_r1 ++ wsL_bound_r2) ++ wsX80 ++ wsX00 ++ (vx_atS RX8 116 "java/lang/IndexOutOfBoundsException" ["java/lang/RuntimeException", "java/lang/Exception"]).filter goodWord)
def wsL_want_r1 : List Cond := [Cond.classLink RL 19 "java/lang/IndexOutOfBoundsException", Cond.classLink RL 13 "java/lang/IllegalArgumentException", Cond.methodLink RL 49 yX8_want, Cond.instanceMethod yX8_want, Cond.selects RX8 yX8_want yX8_want, Cond.initialized RX8, Cond.code yX8_want cX8_want 5 (some .int), Cond.classLink RX8 73 "java/lang/IllegalArgumentException", Cond.initialized "java/lang/IllegalArgumentException", Cond.fieldLink RX8 33 "TiedFrame" "picture" "LTiedFrame$Picture;", Cond.fieldLink RX8 47 "TiedFrame" "held" "LTiedFrame$Plan;", Cond.methodLink RX8 87 yX8_needThread, Cond.instanceMethod yX8_needThread, Cond.selects RX8 yX8_needThread yX8_needThread, Cond.code yX8_needThread cX8_needThread 2 none, Cond.classLink RX8 112 "java/lang/IndexOutOfBoundsException", Cond.initialized "java/lang/IndexOutOfBoundsException", Cond.fieldLink RX8 26 "TiedFrame" "cloth" "LTiedFrame$Cloth;", Cond.methodLink RX8 240 yX0_threads, Cond.instanceMethod yX0_threads, Cond.selects RX0 yX0_threads yX0_threads, Cond.initialized RX0, Cond.code yX0_threads cX0_threads 1 (some .int), Cond.fieldLink RX0 30 "TiedFrame$Cloth" "threads" "I"]
def wsL_want_r2 : List Cond := [Cond.methodLink RX8 158 yX8_needPlace, Cond.instanceMethod yX8_needPlace, Cond.selects RX8 yX8_needPlace yX8_needPlace, Cond.code yX8_needPlace cX8_needPlace 2 none, Cond.methodLink RX8 243 yX0_places, Cond.instanceMethod yX0_places, Cond.selects RX0 yX0_places yX0_places, Cond.code yX0_places cX0_places 1 (some .int), Cond.fieldLink RX0 34 "TiedFrame$Cloth" "places" "I", Cond.methodLink RX8 109 yX8_isColour, Cond.static yX8_isColour, Cond.code yX8_isColour cX8_isColour 1 (some .boolean), Cond.methodLink RX8 168 yX3_wantedAt, Cond.instanceMethod yX3_wantedAt, Cond.selects RX3 yX3_wantedAt yX3_wantedAt, Cond.initialized RX3, Cond.code yX3_wantedAt cX3_wantedAt 3 (some .int), Cond.fieldLink RX3 11 "TiedFrame$Picture" "wanted" "[[I", Cond.methodLink RX8 171 yX3_ask, Cond.instanceMethod yX3_ask, Cond.selects RX3 yX3_ask yX3_ask, Cond.code yX3_ask cX3_ask 4 none, Cond.methodLink RX8 84 yX4_drop, Cond.instanceMethod yX4_drop]
def wsL_want_r3 : List Cond := [Cond.selects RX4 yX4_drop yX4_drop, Cond.initialized RX4, Cond.code yX4_drop cX4_drop 1 none, Cond.fieldLink RX4 9 "TiedFrame$Plan" "exists" "Z"]
def wsL_want : List Cond := .codeWith yL_want cL_want 6 (some .int) [(0, 12, 15, 19), (0, 12, 19, 13)] :: ((wsL_want_r1 ++ (wsL_want_r2 ++ wsL_want_r3)) ++ wsX80 ++ wsX00 ++ wsX30 ++ wsX40 ++ (vx_atS RX8 77 "java/lang/IllegalArgumentException" ["java/lang/RuntimeException", "java/lang/Exception"]).filter goodWord ++ (vx_atS RX8 116 "java/lang/IndexOutOfBoundsException" ["java/lang/RuntimeException", "java/lang/Exception"]).filter goodWord)
def wsL_plan_r1 : List Cond := [Cond.classLink RL 13 "java/lang/IllegalArgumentException", Cond.methodLink RL 52 yX8_plan, Cond.instanceMethod yX8_plan, Cond.selects RX8 yX8_plan yX8_plan, Cond.initialized RX8, Cond.code yX8_plan cX8_plan 2 (some .int), Cond.classLink RX8 73 "java/lang/IllegalArgumentException", Cond.initialized "java/lang/IllegalArgumentException", Cond.fieldLink RX8 40 "TiedFrame" "planner" "LTiedFrame$Planner;", Cond.fieldLink RX8 26 "TiedFrame" "cloth" "LTiedFrame$Cloth;", Cond.fieldLink RX8 33 "TiedFrame" "picture" "LTiedFrame$Picture;", Cond.fieldLink RX8 12 "TiedFrame" "mixing" "LTiedFrame$Mixing;", Cond.fieldLink RX8 47 "TiedFrame" "held" "LTiedFrame$Plan;", Cond.methodLink RX8 174 yX8_isRow, Cond.static yX8_isRow, Cond.code yX8_isRow cX8_isRow 4 (some .boolean), Cond.methodLink RX8 211 yX8_bathsOf, Cond.static yX8_bathsOf, Cond.code yX8_bathsOf cX8_bathsOf 2 (some .int), Cond.methodLink RX8 224 yX8_dyeOf, Cond.static yX8_dyeOf, Cond.code yX8_dyeOf cX8_dyeOf 2 (some .int), Cond.methodLink RX8 179 yX5_aimAt, Cond.instanceMethod yX5_aimAt]
def wsL_plan_r2 : List Cond := [Cond.selects RX5 yX5_aimAt yX5_aimAt, Cond.initialized RX5, Cond.code yX5_aimAt cX5_aimAt 8 (some .boolean), Cond.fieldLink RX5 9 "TiedFrame$Planner" "span" "[I", Cond.fieldLink RX5 17 "TiedFrame$Planner" "aim" "[[I", Cond.fieldLink RX5 20 "TiedFrame$Planner" "aims" "I", Cond.methodLink RX5 48 yX0_threadsIn, Cond.instanceMethod yX0_threadsIn, Cond.selects RX0 yX0_threadsIn yX0_threadsIn, Cond.initialized RX0, Cond.code yX0_threadsIn cX0_threadsIn 2 (some .int), Cond.fieldLink RX0 15 "TiedFrame$Cloth" "crowd" "[I", Cond.methodLink RX5 53 yX0_freePlaces, Cond.instanceMethod yX0_freePlaces, Cond.selects RX0 yX0_freePlaces yX0_freePlaces, Cond.code yX0_freePlaces cX0_freePlaces 2 (some .int), Cond.fieldLink RX0 18 "TiedFrame$Cloth" "folded" "[Z", Cond.fieldLink RX0 34 "TiedFrame$Cloth" "places" "I", Cond.methodLink RX5 56 yX0_threads, Cond.instanceMethod yX0_threads, Cond.selects RX0 yX0_threads yX0_threads, Cond.code yX0_threads cX0_threads 1 (some .int), Cond.fieldLink RX0 30 "TiedFrame$Cloth" "threads" "I", Cond.methodLink RX5 60 yX0_bundleOf]
def wsL_plan_r3 : List Cond := [Cond.instanceMethod yX0_bundleOf, Cond.selects RX0 yX0_bundleOf yX0_bundleOf, Cond.code yX0_bundleOf cX0_bundleOf 2 (some .int), Cond.fieldLink RX0 9 "TiedFrame$Cloth" "home" "[I", Cond.methodLink RX5 63 yX0_places, Cond.instanceMethod yX0_places, Cond.selects RX0 yX0_places yX0_places, Cond.code yX0_places cX0_places 1 (some .int), Cond.methodLink RX5 66 yX3_wantedAt, Cond.instanceMethod yX3_wantedAt, Cond.selects RX3 yX3_wantedAt yX3_wantedAt, Cond.initialized RX3, Cond.code yX3_wantedAt cX3_wantedAt 3 (some .int), Cond.fieldLink RX3 11 "TiedFrame$Picture" "wanted" "[[I", Cond.methodLink RX5 72 yX0_underFold, Cond.instanceMethod yX0_underFold, Cond.selects RX0 yX0_underFold yX0_underFold, Cond.code yX0_underFold cX0_underFold 3 (some .int), Cond.methodLink RX0 40 yX0_freePlaces, Cond.methodLink RX8 183 yX5_tryRow, Cond.instanceMethod yX5_tryRow, Cond.selects RX5 yX5_tryRow yX5_tryRow, Cond.code yX5_tryRow cX5_tryRow 8 (some .boolean), Cond.fieldLink RX5 24 "TiedFrame$Planner" "row" "I"]
def wsL_plan_r4 : List Cond := [Cond.fieldLink RX5 27 "TiedFrame$Planner" "outcome" "[I", Cond.methodLink RX5 81 yX2_comesOf, Cond.instanceMethod yX2_comesOf, Cond.selects RX2 yX2_comesOf yX2_comesOf, Cond.initialized RX2, Cond.code yX2_comesOf cX2_comesOf 3 (some .int), Cond.fieldLink RX2 9 "TiedFrame$Mixing" "to" "[I", Cond.methodLink RX5 86 yX5_gatherWays, Cond.instanceMethod yX5_gatherWays, Cond.selects RX5 yX5_gatherWays yX5_gatherWays, Cond.code yX5_gatherWays cX5_gatherWays 5 (some .boolean), Cond.fieldLink RX5 30 "TiedFrame$Planner" "ways" "[I", Cond.fieldLink RX5 33 "TiedFrame$Planner" "freshWays" "[I", Cond.methodLink RX5 90 yX5_freshOf, Cond.static yX5_freshOf, Cond.code yX5_freshOf cX5_freshOf 1 (some .int), Cond.methodLink RX8 187 yX5_writeInto, Cond.instanceMethod yX5_writeInto, Cond.selects RX5 yX5_writeInto yX5_writeInto, Cond.code yX5_writeInto cX5_writeInto 7 none, Cond.methodLink RX5 120 yX4_begin, Cond.instanceMethod yX4_begin, Cond.selects RX4 yX4_begin yX4_begin, Cond.initialized RX4]
def wsL_plan_r5 : List Cond := [Cond.code yX4_begin cX4_begin 2 none, Cond.fieldLink RX4 9 "TiedFrame$Plan" "exists" "Z", Cond.fieldLink RX4 15 "TiedFrame$Plan" "row" "I", Cond.fieldLink RX4 19 "TiedFrame$Plan" "ties" "I", Cond.methodLink RX5 104 yX5_tiesOf, Cond.instanceMethod yX5_tiesOf, Cond.selects RX5 yX5_tiesOf yX5_tiesOf, Cond.code yX5_tiesOf cX5_tiesOf 7 (some .int), Cond.fieldLink RX5 107 "TiedFrame$Planner" "FRESH_SETS" "[I", Cond.fieldLink RX5 36 "TiedFrame$Planner" "rest" "[[I", Cond.methodLink RX5 110 arraycopyName, Cond.native arraycopyName, Cond.static arraycopyName, Cond.initialized "java/lang/System", Cond.methodLink RX5 116 yX5_weigh, Cond.instanceMethod yX5_weigh, Cond.selects RX5 yX5_weigh yX5_weigh, Cond.code yX5_weigh cX5_weigh 16 none, Cond.constant RX5 93 (1000000), Cond.fieldLink RX5 39 "TiedFrame$Planner" "starts" "[[I", Cond.methodLink RX5 126 yX4_addTies, Cond.instanceMethod yX4_addTies, Cond.selects RX4 yX4_addTies yX4_addTies, Cond.code yX4_addTies cX4_addTies 2 none]
def wsL_plan_r6 : List Cond := [Cond.methodLink RX5 129 yX5_leastBits, Cond.instanceMethod yX5_leastBits, Cond.selects RX5 yX5_leastBits yX5_leastBits, Cond.code yX5_leastBits cX5_leastBits 5 (some .int), Cond.methodLink RX5 140 yX5_keepsFewest, Cond.instanceMethod yX5_keepsFewest, Cond.selects RX5 yX5_keepsFewest yX5_keepsFewest, Cond.code yX5_keepsFewest cX5_keepsFewest 6 (some .boolean), Cond.methodLink RX5 133 yX4_write, Cond.instanceMethod yX4_write, Cond.selects RX4 yX4_write yX4_write, Cond.code yX4_write cX4_write 4 none, Cond.fieldLink RX4 24 "TiedFrame$Plan" "bits" "[[I", Cond.methodLink RX5 137 yX4_bitsAt, Cond.instanceMethod yX4_bitsAt, Cond.selects RX4 yX4_bitsAt yX4_bitsAt, Cond.code yX4_bitsAt cX4_bitsAt 3 (some .int), Cond.methodLink RX8 191 yX4_ties, Cond.instanceMethod yX4_ties, Cond.selects RX4 yX4_ties yX4_ties, Cond.code yX4_ties cX4_ties 1 (some .int)]
def wsL_plan : List Cond := .codeWith yL_plan cL_plan 4 (some .int) [(0, 9, 12, 13)] :: ((wsL_plan_r1 ++ (wsL_plan_r2 ++ (wsL_plan_r3 ++ (wsL_plan_r4 ++ (wsL_plan_r5 ++ wsL_plan_r6))))) ++ wsX80 ++ wsX50 ++ wsX00 ++ wsX30 ++ wsX20 ++ wsX40 ++ (vx_atS RX8 77 "java/lang/IllegalArgumentException" ["java/lang/RuntimeException", "java/lang/Exception"]).filter goodWord)
def wsL_best_r1 : List Cond := [Cond.classLink RL 13 "java/lang/IllegalArgumentException", Cond.methodLink RL 55 yX8_best, Cond.instanceMethod yX8_best, Cond.selects RX8 yX8_best yX8_best, Cond.initialized RX8, Cond.code yX8_best cX8_best 3 (some .int), Cond.classLink RX8 73 "java/lang/IllegalArgumentException", Cond.initialized "java/lang/IllegalArgumentException", Cond.fieldLink RX8 40 "TiedFrame" "planner" "LTiedFrame$Planner;", Cond.fieldLink RX8 26 "TiedFrame" "cloth" "LTiedFrame$Cloth;", Cond.fieldLink RX8 33 "TiedFrame" "picture" "LTiedFrame$Picture;", Cond.fieldLink RX8 12 "TiedFrame" "mixing" "LTiedFrame$Mixing;", Cond.fieldLink RX8 47 "TiedFrame" "held" "LTiedFrame$Plan;", Cond.methodLink RX8 179 yX5_aimAt, Cond.instanceMethod yX5_aimAt, Cond.selects RX5 yX5_aimAt yX5_aimAt, Cond.initialized RX5, Cond.code yX5_aimAt cX5_aimAt 8 (some .boolean), Cond.fieldLink RX5 9 "TiedFrame$Planner" "span" "[I", Cond.fieldLink RX5 17 "TiedFrame$Planner" "aim" "[[I", Cond.fieldLink RX5 20 "TiedFrame$Planner" "aims" "I", Cond.methodLink RX5 48 yX0_threadsIn, Cond.instanceMethod yX0_threadsIn, Cond.selects RX0 yX0_threadsIn yX0_threadsIn]
def wsL_best_r2 : List Cond := [Cond.initialized RX0, Cond.code yX0_threadsIn cX0_threadsIn 2 (some .int), Cond.fieldLink RX0 15 "TiedFrame$Cloth" "crowd" "[I", Cond.methodLink RX5 53 yX0_freePlaces, Cond.instanceMethod yX0_freePlaces, Cond.selects RX0 yX0_freePlaces yX0_freePlaces, Cond.code yX0_freePlaces cX0_freePlaces 2 (some .int), Cond.fieldLink RX0 18 "TiedFrame$Cloth" "folded" "[Z", Cond.fieldLink RX0 34 "TiedFrame$Cloth" "places" "I", Cond.methodLink RX5 56 yX0_threads, Cond.instanceMethod yX0_threads, Cond.selects RX0 yX0_threads yX0_threads, Cond.code yX0_threads cX0_threads 1 (some .int), Cond.fieldLink RX0 30 "TiedFrame$Cloth" "threads" "I", Cond.methodLink RX5 60 yX0_bundleOf, Cond.instanceMethod yX0_bundleOf, Cond.selects RX0 yX0_bundleOf yX0_bundleOf, Cond.code yX0_bundleOf cX0_bundleOf 2 (some .int), Cond.fieldLink RX0 9 "TiedFrame$Cloth" "home" "[I", Cond.methodLink RX5 63 yX0_places, Cond.instanceMethod yX0_places, Cond.selects RX0 yX0_places yX0_places, Cond.code yX0_places cX0_places 1 (some .int), Cond.methodLink RX5 66 yX3_wantedAt]
def wsL_best_r3 : List Cond := [Cond.instanceMethod yX3_wantedAt, Cond.selects RX3 yX3_wantedAt yX3_wantedAt, Cond.initialized RX3, Cond.code yX3_wantedAt cX3_wantedAt 3 (some .int), Cond.fieldLink RX3 11 "TiedFrame$Picture" "wanted" "[[I", Cond.methodLink RX5 72 yX0_underFold, Cond.instanceMethod yX0_underFold, Cond.selects RX0 yX0_underFold yX0_underFold, Cond.code yX0_underFold cX0_underFold 3 (some .int), Cond.methodLink RX0 40 yX0_freePlaces, Cond.methodLink RX8 196 yX5_bestRow, Cond.instanceMethod yX5_bestRow, Cond.selects RX5 yX5_bestRow yX5_bestRow, Cond.code yX5_bestRow cX5_bestRow 10 (some .int), Cond.constant RX5 93 (1000000), Cond.methodLink RX5 94 yX5_rowOfTurn, Cond.static yX5_rowOfTurn, Cond.code yX5_rowOfTurn cX5_rowOfTurn 5 (some .int), Cond.methodLink RX5 97 yX5_tryRow, Cond.instanceMethod yX5_tryRow, Cond.selects RX5 yX5_tryRow yX5_tryRow, Cond.code yX5_tryRow cX5_tryRow 8 (some .boolean), Cond.fieldLink RX5 24 "TiedFrame$Planner" "row" "I", Cond.fieldLink RX5 27 "TiedFrame$Planner" "outcome" "[I"]
def wsL_best_r4 : List Cond := [Cond.static yX8_bathsOf, Cond.code yX8_bathsOf cX8_bathsOf 2 (some .int), Cond.methodLink RX8 224 yX8_dyeOf, Cond.static yX8_dyeOf, Cond.code yX8_dyeOf cX8_dyeOf 2 (some .int), Cond.methodLink RX5 81 yX2_comesOf, Cond.instanceMethod yX2_comesOf, Cond.selects RX2 yX2_comesOf yX2_comesOf, Cond.initialized RX2, Cond.code yX2_comesOf cX2_comesOf 3 (some .int), Cond.fieldLink RX2 9 "TiedFrame$Mixing" "to" "[I", Cond.methodLink RX5 86 yX5_gatherWays, Cond.instanceMethod yX5_gatherWays, Cond.selects RX5 yX5_gatherWays yX5_gatherWays, Cond.code yX5_gatherWays cX5_gatherWays 5 (some .boolean), Cond.fieldLink RX5 30 "TiedFrame$Planner" "ways" "[I", Cond.fieldLink RX5 33 "TiedFrame$Planner" "freshWays" "[I", Cond.methodLink RX5 90 yX5_freshOf, Cond.static yX5_freshOf, Cond.code yX5_freshOf cX5_freshOf 1 (some .int), Cond.methodLink RX5 101 yX5_tiesBelow, Cond.instanceMethod yX5_tiesBelow, Cond.selects RX5 yX5_tiesBelow yX5_tiesBelow, Cond.code yX5_tiesBelow cX5_tiesBelow 4 (some .int)]
def wsL_best_r5 : List Cond := [Cond.methodLink RX5 104 yX5_tiesOf, Cond.instanceMethod yX5_tiesOf, Cond.selects RX5 yX5_tiesOf yX5_tiesOf, Cond.code yX5_tiesOf cX5_tiesOf 7 (some .int), Cond.fieldLink RX5 107 "TiedFrame$Planner" "FRESH_SETS" "[I", Cond.fieldLink RX5 36 "TiedFrame$Planner" "rest" "[[I", Cond.methodLink RX5 110 arraycopyName, Cond.native arraycopyName, Cond.static arraycopyName, Cond.initialized "java/lang/System", Cond.methodLink RX5 116 yX5_weigh, Cond.instanceMethod yX5_weigh, Cond.selects RX5 yX5_weigh yX5_weigh, Cond.code yX5_weigh cX5_weigh 16 none, Cond.fieldLink RX5 39 "TiedFrame$Planner" "starts" "[[I", Cond.methodLink RX8 183 yX5_tryRow, Cond.methodLink RX8 187 yX5_writeInto, Cond.instanceMethod yX5_writeInto, Cond.selects RX5 yX5_writeInto yX5_writeInto, Cond.code yX5_writeInto cX5_writeInto 7 none, Cond.methodLink RX5 120 yX4_begin, Cond.instanceMethod yX4_begin, Cond.selects RX4 yX4_begin yX4_begin, Cond.initialized RX4]
def wsL_best_r6 : List Cond := [Cond.code yX4_begin cX4_begin 2 none, Cond.fieldLink RX4 9 "TiedFrame$Plan" "exists" "Z", Cond.fieldLink RX4 15 "TiedFrame$Plan" "row" "I", Cond.fieldLink RX4 19 "TiedFrame$Plan" "ties" "I", Cond.methodLink RX5 126 yX4_addTies, Cond.instanceMethod yX4_addTies, Cond.selects RX4 yX4_addTies yX4_addTies, Cond.code yX4_addTies cX4_addTies 2 none, Cond.methodLink RX5 129 yX5_leastBits, Cond.instanceMethod yX5_leastBits, Cond.selects RX5 yX5_leastBits yX5_leastBits, Cond.code yX5_leastBits cX5_leastBits 5 (some .int), Cond.methodLink RX5 140 yX5_keepsFewest, Cond.instanceMethod yX5_keepsFewest, Cond.selects RX5 yX5_keepsFewest yX5_keepsFewest, Cond.code yX5_keepsFewest cX5_keepsFewest 6 (some .boolean), Cond.methodLink RX5 133 yX4_write, Cond.instanceMethod yX4_write, Cond.selects RX4 yX4_write yX4_write, Cond.code yX4_write cX4_write 4 none, Cond.fieldLink RX4 24 "TiedFrame$Plan" "bits" "[[I", Cond.methodLink RX5 137 yX4_bitsAt, Cond.instanceMethod yX4_bitsAt, Cond.selects RX4 yX4_bitsAt yX4_bitsAt]
def wsL_best_r7 : List Cond := [Cond.code yX4_bitsAt cX4_bitsAt 3 (some .int), Cond.methodLink RX8 191 yX4_ties, Cond.instanceMethod yX4_ties, Cond.selects RX4 yX4_ties yX4_ties, Cond.code yX4_ties cX4_ties 1 (some .int)]
def wsL_best : List Cond := .codeWith yL_best cL_best 4 (some .int) [(0, 9, 12, 13)] :: ((wsL_best_r1 ++ (wsL_best_r2 ++ (wsL_best_r3 ++ (wsL_best_r4 ++ (wsL_best_r5 ++ (wsL_best_r6 ++ wsL_best_r7)))))) ++ wsX80 ++ wsX50 ++ wsX00 ++ wsX30 ++ wsX20 ++ wsX40 ++ (vx_atS RX8 77 "java/lang/IllegalArgumentException" ["java/lang/RuntimeException", "java/lang/Exception"]).filter goodWord)
def wsL_kept_r1 : List Cond := [Cond.classLink RL 61 "java/util/NoSuchElementException", Cond.methodLink RL 58 yX8_kept, Cond.instanceMethod yX8_kept, Cond.selects RX8 yX8_kept yX8_kept, Cond.initialized RX8, Cond.code yX8_kept cX8_kept 2 (some .int), Cond.classLink RX8 200 "java/util/NoSuchElementException", Cond.initialized "java/util/NoSuchElementException", Cond.fieldLink RX8 47 "TiedFrame" "held" "LTiedFrame$Plan;", Cond.methodLink RX8 205 yX4_exists, Cond.instanceMethod yX4_exists, Cond.selects RX4 yX4_exists yX4_exists, Cond.initialized RX4, Cond.code yX4_exists cX4_exists 1 (some .boolean), Cond.fieldLink RX4 9 "TiedFrame$Plan" "exists" "Z", Cond.methodLink RX8 209 yX4_row, Cond.instanceMethod yX4_row, Cond.selects RX4 yX4_row yX4_row, Cond.code yX4_row cX4_row 1 (some .int), Cond.fieldLink RX4 15 "TiedFrame$Plan" "row" "I", Cond.methodLink RX8 211 yX8_bathsOf, Cond.static yX8_bathsOf, Cond.code yX8_bathsOf cX8_bathsOf 2 (some .int), Cond.methodLink RX8 224 yX8_dyeOf]
def wsL_kept_r2 : List Cond := [Cond.static yX8_dyeOf, Cond.code yX8_dyeOf cX8_dyeOf 2 (some .int), Cond.methodLink RX8 191 yX4_ties, Cond.instanceMethod yX4_ties, Cond.selects RX4 yX4_ties yX4_ties, Cond.code yX4_ties cX4_ties 1 (some .int), Cond.fieldLink RX4 19 "TiedFrame$Plan" "ties" "I"]
def wsL_kept : List Cond := .codeWith yL_kept cL_kept 4 (some .int) [(0, 9, 12, 61)] :: ((wsL_kept_r1 ++ wsL_kept_r2) ++ wsX80 ++ wsX40 ++ (vx_atS RX8 204 "java/util/NoSuchElementException" ["java/lang/RuntimeException", "java/lang/Exception"]).filter goodWord)
def wsL_bits_r1 : List Cond := [Cond.classLink RL 19 "java/lang/IndexOutOfBoundsException", Cond.methodLink RL 63 yX8_bits, Cond.instanceMethod yX8_bits, Cond.selects RX8 yX8_bits yX8_bits, Cond.initialized RX8, Cond.code yX8_bits cX8_bits 3 (some .int), Cond.fieldLink RX8 47 "TiedFrame" "held" "LTiedFrame$Plan;", Cond.methodLink RX8 91 yX8_needBundle, Cond.static yX8_needBundle, Cond.code yX8_needBundle cX8_needBundle 1 none, Cond.classLink RX8 112 "java/lang/IndexOutOfBoundsException", Cond.initialized "java/lang/IndexOutOfBoundsException", Cond.methodLink RX8 158 yX8_needPlace, Cond.instanceMethod yX8_needPlace, Cond.selects RX8 yX8_needPlace yX8_needPlace, Cond.code yX8_needPlace cX8_needPlace 2 none, Cond.fieldLink RX8 26 "TiedFrame" "cloth" "LTiedFrame$Cloth;", Cond.methodLink RX8 243 yX0_places, Cond.instanceMethod yX0_places, Cond.selects RX0 yX0_places yX0_places, Cond.initialized RX0, Cond.code yX0_places cX0_places 1 (some .int), Cond.fieldLink RX0 34 "TiedFrame$Cloth" "places" "I", Cond.methodLink RX8 205 yX4_exists]
def wsL_bits_r2 : List Cond := [Cond.instanceMethod yX4_exists, Cond.selects RX4 yX4_exists yX4_exists, Cond.initialized RX4, Cond.code yX4_exists cX4_exists 1 (some .boolean), Cond.fieldLink RX4 9 "TiedFrame$Plan" "exists" "Z", Cond.methodLink RX8 214 yX4_bitsAt, Cond.instanceMethod yX4_bitsAt, Cond.selects RX4 yX4_bitsAt yX4_bitsAt, Cond.code yX4_bitsAt cX4_bitsAt 3 (some .int), Cond.fieldLink RX4 24 "TiedFrame$Plan" "bits" "[[I"]
def wsL_bits : List Cond := .codeWith yL_bits cL_bits 5 (some .int) [(0, 10, 13, 19)] :: ((wsL_bits_r1 ++ wsL_bits_r2) ++ wsX80 ++ wsX00 ++ wsX40 ++ (vx_atS RX8 116 "java/lang/IndexOutOfBoundsException" ["java/lang/RuntimeException", "java/lang/Exception"]).filter goodWord)
def wsL_slip_r1 : List Cond := [Cond.classLink RL 19 "java/lang/IndexOutOfBoundsException", Cond.classLink RL 13 "java/lang/IllegalArgumentException", Cond.methodLink RL 66 yX8_slip, Cond.instanceMethod yX8_slip, Cond.selects RX8 yX8_slip yX8_slip, Cond.initialized RX8, Cond.code yX8_slip cX8_slip 4 none, Cond.classLink RX8 73 "java/lang/IllegalArgumentException", Cond.initialized "java/lang/IllegalArgumentException", Cond.fieldLink RX8 54 "TiedFrame" "slips" "LTiedFrame$Slips;", Cond.methodLink RX8 87 yX8_needThread, Cond.instanceMethod yX8_needThread, Cond.selects RX8 yX8_needThread yX8_needThread, Cond.code yX8_needThread cX8_needThread 2 none, Cond.classLink RX8 112 "java/lang/IndexOutOfBoundsException", Cond.initialized "java/lang/IndexOutOfBoundsException", Cond.fieldLink RX8 26 "TiedFrame" "cloth" "LTiedFrame$Cloth;", Cond.methodLink RX8 240 yX0_threads, Cond.instanceMethod yX0_threads, Cond.selects RX0 yX0_threads yX0_threads, Cond.initialized RX0, Cond.code yX0_threads cX0_threads 1 (some .int), Cond.fieldLink RX0 30 "TiedFrame$Cloth" "threads" "I", Cond.methodLink RX8 233 yX6_let]
def wsL_slip_r2 : List Cond := [Cond.instanceMethod yX6_let, Cond.selects RX6 yX6_let yX6_let, Cond.initialized RX6, Cond.code yX6_let cX6_let 4 none, Cond.fieldLink RX6 9 "TiedFrame$Slips" "lows" "[I", Cond.fieldLink RX6 15 "TiedFrame$Slips" "highs" "[I"]
def wsL_slip : List Cond := .codeWith yL_slip cL_slip 5 (some .int) [(0, 7, 10, 19), (0, 7, 14, 13)] :: ((wsL_slip_r1 ++ wsL_slip_r2) ++ wsX80 ++ wsX00 ++ wsX60 ++ (vx_atS RX8 77 "java/lang/IllegalArgumentException" ["java/lang/RuntimeException", "java/lang/Exception"]).filter goodWord ++ (vx_atS RX8 116 "java/lang/IndexOutOfBoundsException" ["java/lang/RuntimeException", "java/lang/Exception"]).filter goodWord)
def wsL_seen_r1 : List Cond := [Cond.classLink RL 19 "java/lang/IndexOutOfBoundsException", Cond.methodLink RL 70 yX8_seen, Cond.instanceMethod yX8_seen, Cond.selects RX8 yX8_seen yX8_seen, Cond.initialized RX8, Cond.code yX8_seen cX8_seen 3 (some .int), Cond.fieldLink RX8 54 "TiedFrame" "slips" "LTiedFrame$Slips;", Cond.fieldLink RX8 26 "TiedFrame" "cloth" "LTiedFrame$Cloth;", Cond.methodLink RX8 87 yX8_needThread, Cond.instanceMethod yX8_needThread, Cond.selects RX8 yX8_needThread yX8_needThread, Cond.code yX8_needThread cX8_needThread 2 none, Cond.classLink RX8 112 "java/lang/IndexOutOfBoundsException", Cond.initialized "java/lang/IndexOutOfBoundsException", Cond.methodLink RX8 240 yX0_threads, Cond.instanceMethod yX0_threads, Cond.selects RX0 yX0_threads yX0_threads, Cond.initialized RX0, Cond.code yX0_threads cX0_threads 1 (some .int), Cond.fieldLink RX0 30 "TiedFrame$Cloth" "threads" "I", Cond.methodLink RX8 158 yX8_needPlace, Cond.instanceMethod yX8_needPlace, Cond.selects RX8 yX8_needPlace yX8_needPlace, Cond.code yX8_needPlace cX8_needPlace 2 none]
def wsL_seen_r2 : List Cond := [Cond.methodLink RX8 243 yX0_places, Cond.instanceMethod yX0_places, Cond.selects RX0 yX0_places yX0_places, Cond.code yX0_places cX0_places 1 (some .int), Cond.fieldLink RX0 34 "TiedFrame$Cloth" "places" "I", Cond.methodLink RX8 236 yX6_showsAt, Cond.instanceMethod yX6_showsAt, Cond.selects RX6 yX6_showsAt yX6_showsAt, Cond.initialized RX6, Cond.code yX6_showsAt cX6_showsAt 7 (some .int), Cond.fieldLink RX6 9 "TiedFrame$Slips" "lows" "[I", Cond.fieldLink RX6 15 "TiedFrame$Slips" "highs" "[I", Cond.methodLink RX6 22 yX0_places, Cond.methodLink RX6 28 yX0_colourAt, Cond.instanceMethod yX0_colourAt, Cond.selects RX0 yX0_colourAt yX0_colourAt, Cond.code yX0_colourAt cX0_colourAt 3 (some .int), Cond.fieldLink RX0 27 "TiedFrame$Cloth" "colours" "[[I", Cond.fieldLink RX0 9 "TiedFrame$Cloth" "home" "[I"]
def wsL_seen : List Cond := .codeWith yL_seen cL_seen 5 (some .int) [(0, 10, 13, 19)] :: ((wsL_seen_r1 ++ wsL_seen_r2) ++ wsX80 ++ wsX00 ++ wsX60 ++ (vx_atS RX8 116 "java/lang/IndexOutOfBoundsException" ["java/lang/RuntimeException", "java/lang/Exception"]).filter goodWord)
def wsL_rank_r1 : List Cond := [Cond.classLink RL 13 "java/lang/IllegalArgumentException", Cond.methodLink RL 73 yX8_rank, Cond.instanceMethod yX8_rank, Cond.selects RX8 yX8_rank yX8_rank, Cond.initialized RX8, Cond.code yX8_rank cX8_rank 5 (some .int), Cond.classLink RX8 73 "java/lang/IllegalArgumentException", Cond.initialized "java/lang/IllegalArgumentException", Cond.fieldLink RX8 26 "TiedFrame" "cloth" "LTiedFrame$Cloth;", Cond.fieldLink RX8 61 "TiedFrame" "laws" "LTiedFrame$Laws;", Cond.methodLink RX8 263 Lib.Math.max.name, Cond.static Lib.Math.max.name, Cond.initialized "java/lang/Math", Cond.code Lib.Math.max.name Lib.Math.max.code 2 (some .int), Cond.methodLink RX8 249 yX8_isDay, Cond.static yX8_isDay, Cond.code yX8_isDay cX8_isDay 1 (some .boolean), Cond.methodLink RX8 257 yX0_coloursWorn, Cond.instanceMethod yX0_coloursWorn, Cond.selects RX0 yX0_coloursWorn yX0_coloursWorn, Cond.initialized RX0, Cond.code yX0_coloursWorn cX0_coloursWorn 4 (some .int), Cond.fieldLink RX0 34 "TiedFrame$Cloth" "places" "I", Cond.fieldLink RX0 15 "TiedFrame$Cloth" "crowd" "[I"]
def wsL_rank_r2 : List Cond := [Cond.fieldLink RX0 27 "TiedFrame$Cloth" "colours" "[[I", Cond.methodLink RX8 260 yX1_inForce, Cond.instanceMethod yX1_inForce, Cond.selects RX1 yX1_inForce yX1_inForce, Cond.initialized RX1, Cond.code yX1_inForce cX1_inForce 6 (some .int), Cond.fieldLink RX1 21 "TiedFrame$Laws" "size" "I", Cond.fieldLink RX1 15 "TiedFrame$Laws" "colours" "[I", Cond.fieldLink RX1 9 "TiedFrame$Laws" "days" "[I", Cond.fieldLink RX1 18 "TiedFrame$Laws" "ranks" "[I"]
def wsL_rank : List Cond := .codeWith yL_rank cL_rank 4 (some .int) [(0, 9, 12, 13)] :: ((wsL_rank_r1 ++ wsL_rank_r2) ++ wsX80 ++ wsX00 ++ wsX10 ++ (vx_atS RX8 77 "java/lang/IllegalArgumentException" ["java/lang/RuntimeException", "java/lang/Exception"]).filter goodWord)
def wsL_count_r1 : List Cond := [Cond.classLink RL 61 "java/util/NoSuchElementException", Cond.methodLink RL 76 yX8_count, Cond.instanceMethod yX8_count, Cond.selects RX8 yX8_count yX8_count, Cond.initialized RX8, Cond.code yX8_count cX8_count 2 (some .int), Cond.classLink RX8 200 "java/util/NoSuchElementException", Cond.initialized "java/util/NoSuchElementException", Cond.fieldLink RX8 26 "TiedFrame" "cloth" "LTiedFrame$Cloth;", Cond.fieldLink RX8 19 "TiedFrame" "vats" "LTiedFrame$Vats;", Cond.fieldLink RX8 65 "TiedFrame" "bathsEver" "I", Cond.fieldLink RX8 61 "TiedFrame" "laws" "LTiedFrame$Laws;", Cond.methodLink RX8 268 yX0_threadsIn, Cond.instanceMethod yX0_threadsIn, Cond.selects RX0 yX0_threadsIn yX0_threadsIn, Cond.initialized RX0, Cond.code yX0_threadsIn cX0_threadsIn 2 (some .int), Cond.fieldLink RX0 15 "TiedFrame$Cloth" "crowd" "[I", Cond.methodLink RX8 131 yX7_strengthOf, Cond.instanceMethod yX7_strengthOf, Cond.selects RX7 yX7_strengthOf yX7_strengthOf, Cond.initialized RX7, Cond.code yX7_strengthOf cX7_strengthOf 2 (some .int), Cond.fieldLink RX7 9 "TiedFrame$Vats" "strength" "[I"]
def wsL_count_r2 : List Cond := [Cond.methodLink RX8 240 yX0_threads, Cond.instanceMethod yX0_threads, Cond.selects RX0 yX0_threads yX0_threads, Cond.code yX0_threads cX0_threads 1 (some .int), Cond.fieldLink RX0 30 "TiedFrame$Cloth" "threads" "I", Cond.methodLink RX8 243 yX0_places, Cond.instanceMethod yX0_places, Cond.selects RX0 yX0_places yX0_places, Cond.code yX0_places cX0_places 1 (some .int), Cond.fieldLink RX0 34 "TiedFrame$Cloth" "places" "I", Cond.methodLink RX8 246 yX1_size, Cond.instanceMethod yX1_size, Cond.selects RX1 yX1_size yX1_size, Cond.initialized RX1, Cond.code yX1_size cX1_size 1 (some .int), Cond.fieldLink RX1 21 "TiedFrame$Laws" "size" "I"]
def wsL_count : List Cond := .codeWith yL_count cL_count 4 (some .int) [(0, 9, 12, 61)] :: ((wsL_count_r1 ++ wsL_count_r2) ++ wsX80 ++ wsX00 ++ wsX70 ++ wsX10 ++ (vx_atS RX8 204 "java/util/NoSuchElementException" ["java/lang/RuntimeException", "java/lang/Exception"]).filter goodWord)
def wsL_law0_r1 : List Cond := [Cond.classLink RL 8 RX8, Cond.instantiable RX8 9, Cond.initialized RX8, Cond.classLink RL 80 RX9, Cond.instantiable RX9 24, Cond.initialized RX9, Cond.arrayClass .long, Cond.methodLink RL 79 yX8_init, Cond.instanceMethod yX8_init, Cond.code yX8_init cX8_init 1 none, Cond.methodLink RX8 3 objectInit, Cond.instanceMethod objectInit, Cond.code objectInit ⟨#[0xb1]⟩ 1 none, Cond.classLink RX8 9 RX2, Cond.instantiable RX2 1, Cond.initialized RX2, Cond.fieldLink RX8 12 "TiedFrame" "mixing" "LTiedFrame$Mixing;", Cond.classLink RX8 16 RX7, Cond.instantiable RX7 2, Cond.initialized RX7, Cond.fieldLink RX8 19 "TiedFrame" "vats" "LTiedFrame$Vats;", Cond.classLink RX8 23 RX0, Cond.instantiable RX0 7, Cond.initialized RX0]
def wsL_law0_r2 : List Cond := [Cond.fieldLink RX8 26 "TiedFrame" "cloth" "LTiedFrame$Cloth;", Cond.classLink RX8 30 RX3, Cond.instantiable RX3 1, Cond.initialized RX3, Cond.fieldLink RX8 33 "TiedFrame" "picture" "LTiedFrame$Picture;", Cond.classLink RX8 37 RX5, Cond.instantiable RX5 9, Cond.initialized RX5, Cond.fieldLink RX8 40 "TiedFrame" "planner" "LTiedFrame$Planner;", Cond.classLink RX8 44 RX4, Cond.instantiable RX4 4, Cond.initialized RX4, Cond.fieldLink RX8 47 "TiedFrame" "held" "LTiedFrame$Plan;", Cond.classLink RX8 51 RX6, Cond.instantiable RX6 2, Cond.initialized RX6, Cond.fieldLink RX8 54 "TiedFrame" "slips" "LTiedFrame$Slips;", Cond.classLink RX8 58 RX1, Cond.instantiable RX1 4, Cond.initialized RX1, Cond.fieldLink RX8 61 "TiedFrame" "laws" "LTiedFrame$Laws;", Cond.fieldLink RX8 65 "TiedFrame" "bathsEver" "I", Cond.methodLink RX8 11 yX2_init, Cond.instanceMethod yX2_init]
def wsL_law0_r3 : List Cond := [Cond.code yX2_init cX2_init 3 none, Cond.methodLink RX2 3 objectInit, Cond.arrayClass .int, Cond.fieldLink RX2 9 "TiedFrame$Mixing" "to" "[I", Cond.instanceMethod yX7_init, Cond.code yX7_init cX7_init 1 none, Cond.methodLink RX7 3 objectInit, Cond.fieldLink RX7 9 "TiedFrame$Vats" "strength" "[I", Cond.fieldLink RX7 15 "TiedFrame$Vats" "due" "[I", Cond.instanceMethod yX0_init, Cond.code yX0_init cX0_init 1 none, Cond.methodLink RX0 3 objectInit, Cond.fieldLink RX0 9 "TiedFrame$Cloth" "home" "[I", Cond.fieldLink RX0 15 "TiedFrame$Cloth" "crowd" "[I", Cond.arrayClass .boolean, Cond.fieldLink RX0 18 "TiedFrame$Cloth" "folded" "[Z", Cond.fieldLink RX0 22 "TiedFrame$Cloth" "knots" "[I", Cond.classLink RX0 25 "[[I", Cond.fieldLink RX0 27 "TiedFrame$Cloth" "colours" "[[I", Cond.instanceMethod yX3_init, Cond.code yX3_init cX3_init 1 none, Cond.methodLink RX3 3 objectInit, Cond.classLink RX3 9 "[[I", Cond.fieldLink RX3 11 "TiedFrame$Picture" "wanted" "[[I"]
def wsL_law0_r4 : List Cond := [Cond.methodLink RX8 39 yX5_init, Cond.instanceMethod yX5_init, Cond.code yX5_init cX5_init 3 none, Cond.methodLink RX5 3 objectInit, Cond.fieldLink RX5 9 "TiedFrame$Planner" "span" "[I", Cond.classLink RX5 15 "[[I", Cond.fieldLink RX5 17 "TiedFrame$Planner" "aim" "[[I", Cond.fieldLink RX5 20 "TiedFrame$Planner" "aims" "I", Cond.fieldLink RX5 24 "TiedFrame$Planner" "row" "I", Cond.fieldLink RX5 27 "TiedFrame$Planner" "outcome" "[I", Cond.fieldLink RX5 30 "TiedFrame$Planner" "ways" "[I", Cond.fieldLink RX5 33 "TiedFrame$Planner" "freshWays" "[I", Cond.fieldLink RX5 36 "TiedFrame$Planner" "rest" "[[I", Cond.fieldLink RX5 39 "TiedFrame$Planner" "starts" "[[I", Cond.methodLink RX5 42 yJ6_bitCount_0f7a4, Cond.static yJ6_bitCount_0f7a4, Cond.initialized RJ6, Cond.code yJ6_bitCount_0f7a4 cJ6_bitCount_0f7a4 1 (some .int), Cond.constant RJ6 265 (1431655765), Cond.constant RJ6 266 (858993459), Cond.constant RJ6 267 (252645135), Cond.instanceMethod yX4_init, Cond.code yX4_init cX4_init 1 none, Cond.methodLink RX4 3 objectInit]
def wsL_law0_r5 : List Cond := [Cond.fieldLink RX4 9 "TiedFrame$Plan" "exists" "Z", Cond.fieldLink RX4 15 "TiedFrame$Plan" "row" "I", Cond.fieldLink RX4 19 "TiedFrame$Plan" "ties" "I", Cond.classLink RX4 22 "[[I", Cond.fieldLink RX4 24 "TiedFrame$Plan" "bits" "[[I", Cond.instanceMethod yX6_init, Cond.code yX6_init cX6_init 1 none, Cond.methodLink RX6 3 objectInit, Cond.fieldLink RX6 9 "TiedFrame$Slips" "lows" "[I", Cond.fieldLink RX6 15 "TiedFrame$Slips" "highs" "[I", Cond.instanceMethod yX1_init, Cond.code yX1_init cX1_init 1 none, Cond.methodLink RX1 3 objectInit, Cond.fieldLink RX1 9 "TiedFrame$Laws" "days" "[I", Cond.fieldLink RX1 15 "TiedFrame$Laws" "colours" "[I", Cond.fieldLink RX1 18 "TiedFrame$Laws" "ranks" "[I", Cond.fieldLink RX1 21 "TiedFrame$Laws" "size" "I", Cond.methodLink RX8 69 yX0_stretch, Cond.instanceMethod yX0_stretch, Cond.selects RX0 yX0_stretch yX0_stretch, Cond.code yX0_stretch cX0_stretch 4 none, Cond.fieldLink RX0 30 "TiedFrame$Cloth" "threads" "I", Cond.fieldLink RX0 34 "TiedFrame$Cloth" "places" "I", Cond.methodLink RX0 37 yX0_wash]
def wsL_law0_r6 : List Cond := [Cond.instanceMethod yX0_wash, Cond.selects RX0 yX0_wash yX0_wash, Cond.code yX0_wash cX0_wash 3 none, Cond.methodLink RL 82 yX9_init, Cond.instanceMethod yX9_init, Cond.code yX9_init cX9_init 3 none, Cond.methodLink RX9 1 objectInit, Cond.fieldLink RX9 7 "TiedFrameModel" "threads" "I", Cond.fieldLink RX9 13 "TiedFrameModel" "places" "I", Cond.fieldLink RX9 16 "TiedFrameModel" "bundleOf" "[I", Cond.fieldLink RX9 20 "TiedFrameModel" "colours" "[I", Cond.fieldLink RX9 23 "TiedFrameModel" "table" "[I", Cond.fieldLink RX9 26 "TiedFrameModel" "vats" "[I", Cond.fieldLink RX9 29 "TiedFrameModel" "wanted" "[I", Cond.fieldLink RX9 32 "TiedFrameModel" "low" "[I", Cond.fieldLink RX9 35 "TiedFrameModel" "high" "[I", Cond.fieldLink RX9 38 "TiedFrameModel" "isFolded" "[Z", Cond.fieldLink RX9 42 "TiedFrameModel" "isBound" "[Z", Cond.fieldLink RX9 45 "TiedFrameModel" "lawDay" "[I", Cond.fieldLink RX9 48 "TiedFrameModel" "lawColour" "[I", Cond.fieldLink RX9 51 "TiedFrameModel" "lawRank" "[I", Cond.fieldLink RX9 54 "TiedFrameModel" "planBits" "[I", Cond.fieldLink RX9 57 "TiedFrameModel" "bits" "[I", Cond.fieldLink RX9 60 "TiedFrameModel" "rest" "[I"]
def wsL_law0_r7 : List Cond := [Cond.fieldLink RX9 63 "TiedFrameModel" "needs" "[I", Cond.methodLink RL 83 yL_frame, Cond.static yL_frame, Cond.initialized RL, Cond.codeWith yL_frame cL_frame 4 (some .int) [(0, 6, 9, 13)], Cond.classLink RL 13 "java/lang/IllegalArgumentException", Cond.methodLink RL 7 yX8_frame, Cond.instanceMethod yX8_frame, Cond.selects RX8 yX8_frame yX8_frame, Cond.code yX8_frame cX8_frame 3 none, Cond.classLink RX8 73 "java/lang/IllegalArgumentException", Cond.initialized "java/lang/IllegalArgumentException", Cond.methodLink RX8 80 yX3_clear, Cond.instanceMethod yX3_clear, Cond.selects RX3 yX3_clear yX3_clear, Cond.code yX3_clear cX3_clear 3 none, Cond.methodLink RX8 83 yX6_clear, Cond.instanceMethod yX6_clear, Cond.selects RX6 yX6_clear yX6_clear, Cond.code yX6_clear cX6_clear 2 none, Cond.methodLink RX6 18 yX6_let, Cond.instanceMethod yX6_let, Cond.selects RX6 yX6_let yX6_let, Cond.code yX6_let cX6_let 4 none]
def wsL_law0_r8 : List Cond := [Cond.methodLink RX8 84 yX4_drop, Cond.instanceMethod yX4_drop, Cond.selects RX4 yX4_drop yX4_drop, Cond.code yX4_drop cX4_drop 1 none, Cond.methodLink RL 88 yX9_frame, Cond.instanceMethod yX9_frame, Cond.selects RX9 yX9_frame yX9_frame, Cond.code yX9_frame cX9_frame 4 none, Cond.fieldLink RX9 66 "TiedFrameModel" "thrown" "I", Cond.fieldLink RX9 73 "TiedFrameModel" "hasPlan" "Z", Cond.methodLink RX9 69 yX9_right, Cond.instanceMethod yX9_right, Cond.selects RX9 yX9_right yX9_right, Cond.code yX9_right cX9_right 3 (some .boolean), Cond.methodLink RX9 77 yX9_undyed, Cond.instanceMethod yX9_undyed, Cond.selects RX9 yX9_undyed yX9_undyed, Cond.code yX9_undyed cX9_undyed 2 none, Cond.methodLink RL 89 yX9_thrown, Cond.instanceMethod yX9_thrown, Cond.selects RX9 yX9_thrown yX9_thrown, Cond.code yX9_thrown cX9_thrown 1 (some .int), Cond.methodLink RL 93 yL_into, Cond.static yL_into]
def wsL_law0_r9 : List Cond := [Cond.codeWith yL_into cL_into 5 (some .int) [(0, 10, 13, 19)], Cond.classLink RL 19 "java/lang/IndexOutOfBoundsException", Cond.methodLink RL 15 yX8_into, Cond.instanceMethod yX8_into, Cond.selects RX8 yX8_into yX8_into, Cond.code yX8_into cX8_into 4 (some .int), Cond.methodLink RX8 87 yX8_needThread, Cond.instanceMethod yX8_needThread, Cond.selects RX8 yX8_needThread yX8_needThread, Cond.code yX8_needThread cX8_needThread 2 none, Cond.classLink RX8 112 "java/lang/IndexOutOfBoundsException", Cond.initialized "java/lang/IndexOutOfBoundsException", Cond.methodLink RX8 240 yX0_threads, Cond.instanceMethod yX0_threads, Cond.selects RX0 yX0_threads yX0_threads, Cond.code yX0_threads cX0_threads 1 (some .int), Cond.methodLink RX8 91 yX8_needBundle, Cond.static yX8_needBundle, Cond.code yX8_needBundle cX8_needBundle 1 none, Cond.methodLink RX8 94 yX0_bundleOf, Cond.instanceMethod yX0_bundleOf, Cond.selects RX0 yX0_bundleOf yX0_bundleOf, Cond.code yX0_bundleOf cX0_bundleOf 2 (some .int), Cond.methodLink RX8 98 yX0_move]
def wsL_law0_r10 : List Cond := [Cond.instanceMethod yX0_move, Cond.selects RX0 yX0_move yX0_move, Cond.code yX0_move cX0_move 3 none, Cond.methodLink RL 96 yX9_into, Cond.instanceMethod yX9_into, Cond.selects RX9 yX9_into yX9_into, Cond.code yX9_into cX9_into 4 (some .int), Cond.methodLink RX9 80 yX9_isThread, Cond.instanceMethod yX9_isThread, Cond.selects RX9 yX9_isThread yX9_isThread, Cond.code yX9_isThread cX9_isThread 2 (some .boolean), Cond.methodLink RX9 84 yX9_isBundle, Cond.instanceMethod yX9_isBundle, Cond.selects RX9 yX9_isBundle yX9_isBundle, Cond.code yX9_isBundle cX9_isBundle 2 (some .boolean), Cond.methodLink RL 97 yL_fold, Cond.static yL_fold, Cond.codeWith yL_fold cL_fold 5 (some .int) [(0, 17, 20, 19)], Cond.methodLink RL 21 yX8_fold, Cond.instanceMethod yX8_fold, Cond.selects RX8 yX8_fold yX8_fold, Cond.code yX8_fold cX8_fold 4 (some .boolean), Cond.methodLink RX8 101 yX0_isFolded, Cond.instanceMethod yX0_isFolded]
def wsL_law0_r11 : List Cond := [Cond.selects RX0 yX0_isFolded yX0_isFolded, Cond.code yX0_isFolded cX0_isFolded 2 (some .boolean), Cond.methodLink RX8 105 yX0_setFolded, Cond.instanceMethod yX0_setFolded, Cond.selects RX0 yX0_setFolded yX0_setFolded, Cond.code yX0_setFolded cX0_setFolded 3 none, Cond.methodLink RL 100 yX9_fold, Cond.instanceMethod yX9_fold, Cond.selects RX9 yX9_fold yX9_fold, Cond.code yX9_fold cX9_fold 4 (some .boolean), Cond.methodLink RL 101 yL_table, Cond.static yL_table, Cond.codeWith yL_table cL_table 6 (some .int) [(0, 12, 15, 19), (0, 12, 19, 13)], Cond.methodLink RL 25 yX8_table, Cond.instanceMethod yX8_table, Cond.selects RX8 yX8_table yX8_table, Cond.code yX8_table cX8_table 5 (some .int), Cond.methodLink RX8 109 yX8_isColour, Cond.static yX8_isColour, Cond.code yX8_isColour cX8_isColour 1 (some .boolean), Cond.methodLink RX8 117 yX8_needDye, Cond.static yX8_needDye, Cond.code yX8_needDye cX8_needDye 1 none, Cond.methodLink RX8 122 yX2_comesOf]
def wsL_law0_r12 : List Cond := [Cond.instanceMethod yX2_comesOf, Cond.selects RX2 yX2_comesOf yX2_comesOf, Cond.code yX2_comesOf cX2_comesOf 3 (some .int), Cond.methodLink RX8 126 yX2_tell, Cond.instanceMethod yX2_tell, Cond.selects RX2 yX2_tell yX2_tell, Cond.code yX2_tell cX2_tell 4 none, Cond.methodLink RL 104 yX9_table, Cond.instanceMethod yX9_table, Cond.selects RX9 yX9_table yX9_table, Cond.code yX9_table cX9_table 5 (some .int), Cond.methodLink RL 105 yL_vat, Cond.static yL_vat, Cond.codeWith yL_vat cL_vat 5 (some .int) [(0, 10, 13, 19)], Cond.methodLink RL 29 yX8_vat, Cond.instanceMethod yX8_vat, Cond.selects RX8 yX8_vat yX8_vat, Cond.code yX8_vat cX8_vat 3 (some .int), Cond.constant RX8 130 (1000000), Cond.methodLink RX8 131 yX7_strengthOf, Cond.instanceMethod yX7_strengthOf, Cond.selects RX7 yX7_strengthOf yX7_strengthOf, Cond.code yX7_strengthOf cX7_strengthOf 2 (some .int), Cond.methodLink RX8 134 yX7_fill]
def wsL_law0_r13 : List Cond := [Cond.instanceMethod yX7_fill, Cond.selects RX7 yX7_fill yX7_fill, Cond.code yX7_fill cX7_fill 3 none, Cond.methodLink RL 107 yX9_vat, Cond.instanceMethod yX9_vat, Cond.selects RX9 yX9_vat yX9_vat, Cond.code yX9_vat cX9_vat 3 (some .int), Cond.constant RX9 87 (1000000), Cond.methodLink RL 108 yL_tie, Cond.static yL_tie, Cond.codeWith yL_tie cL_tie 6 (some .int) [(0, 12, 15, 19), (0, 12, 19, 13)], Cond.methodLink RL 32 yX8_tie, Cond.instanceMethod yX8_tie, Cond.selects RX8 yX8_tie yX8_tie, Cond.code yX8_tie cX8_tie 4 (some .int), Cond.methodLink RX8 137 yX8_needRange, Cond.instanceMethod yX8_needRange, Cond.selects RX8 yX8_needRange yX8_needRange, Cond.code yX8_needRange cX8_needRange 4 none, Cond.methodLink RX8 158 yX8_needPlace, Cond.instanceMethod yX8_needPlace, Cond.selects RX8 yX8_needPlace yX8_needPlace, Cond.code yX8_needPlace cX8_needPlace 2 none, Cond.methodLink RX8 243 yX0_places]
def wsL_law0_r14 : List Cond := [Cond.instanceMethod yX0_places, Cond.selects RX0 yX0_places yX0_places, Cond.code yX0_places cX0_places 1 (some .int), Cond.methodLink RX8 140 yX0_bind, Cond.instanceMethod yX0_bind, Cond.selects RX0 yX0_bind yX0_bind, Cond.code yX0_bind cX0_bind 5 (some .int), Cond.methodLink RX0 44 yX0_reach, Cond.instanceMethod yX0_reach, Cond.selects RX0 yX0_reach yX0_reach, Cond.code yX0_reach cX0_reach 6 (some .int), Cond.methodLink RX0 48 yJ6_bitCount_0f7a4, Cond.methodLink RL 110 yX9_tie, Cond.instanceMethod yX9_tie, Cond.selects RX9 yX9_tie yX9_tie, Cond.code yX9_tie cX9_tie 4 (some .int), Cond.methodLink RX9 95 yX9_ties, Cond.instanceMethod yX9_ties, Cond.selects RX9 yX9_ties yX9_ties, Cond.code yX9_ties cX9_ties 7 (some .int), Cond.methodLink RX9 88 yX9_isPlace, Cond.instanceMethod yX9_isPlace, Cond.selects RX9 yX9_isPlace yX9_isPlace, Cond.code yX9_isPlace cX9_isPlace 2 (some .boolean)]
def wsL_law0_r15 : List Cond := [Cond.methodLink RX9 91 yX9_binds, Cond.instanceMethod yX9_binds, Cond.selects RX9 yX9_binds yX9_binds, Cond.code yX9_binds cX9_binds 5 (some .int), Cond.methodLink RL 111 yL_untie, Cond.static yL_untie, Cond.codeWith yL_untie cL_untie 6 (some .int) [(0, 12, 15, 19), (0, 12, 19, 13)], Cond.methodLink RL 35 yX8_untie, Cond.instanceMethod yX8_untie, Cond.selects RX8 yX8_untie yX8_untie, Cond.code yX8_untie cX8_untie 4 (some .int), Cond.methodLink RX8 144 yX0_loosen, Cond.instanceMethod yX0_loosen, Cond.selects RX0 yX0_loosen yX0_loosen, Cond.code yX0_loosen cX0_loosen 5 (some .int), Cond.methodLink RL 113 yX9_untie, Cond.instanceMethod yX9_untie, Cond.selects RX9 yX9_untie yX9_untie, Cond.code yX9_untie cX9_untie 4 (some .int), Cond.methodLink RL 114 yL_bath, Cond.static yL_bath, Cond.codeWith yL_bath cL_bath 4 (some .int) [(0, 9, 12, 19)], Cond.methodLink RL 38 yX8_bath, Cond.instanceMethod yX8_bath]
def wsL_law0_r16 : List Cond := [Cond.selects RX8 yX8_bath yX8_bath, Cond.code yX8_bath cX8_bath 3 (some .int), Cond.methodLink RX8 147 yX0_takesUp, Cond.instanceMethod yX0_takesUp, Cond.selects RX0 yX0_takesUp yX0_takesUp, Cond.code yX0_takesUp cX0_takesUp 3 (some .int), Cond.methodLink RX0 63 yX0_takenBy, Cond.instanceMethod yX0_takenBy, Cond.selects RX0 yX0_takenBy yX0_takenBy, Cond.code yX0_takenBy cX0_takenBy 3 (some .int), Cond.methodLink RX8 151 yX7_lose, Cond.instanceMethod yX7_lose, Cond.selects RX7 yX7_lose yX7_lose, Cond.code yX7_lose cX7_lose 3 none, Cond.methodLink RX8 154 yX0_dip, Cond.instanceMethod yX0_dip, Cond.selects RX0 yX0_dip yX0_dip, Cond.code yX0_dip cX0_dip 5 none, Cond.methodLink RX0 66 yX0_isBound, Cond.instanceMethod yX0_isBound, Cond.selects RX0 yX0_isBound yX0_isBound, Cond.code yX0_isBound cX0_isBound 3 (some .boolean), Cond.methodLink RX0 70 yX2_comesOf, Cond.methodLink RL 117 yX9_bath]
def wsL_law0_r17 : List Cond := [Cond.instanceMethod yX9_bath, Cond.selects RX9 yX9_bath yX9_bath, Cond.code yX9_bath cX9_bath 3 (some .int), Cond.methodLink RX9 106 yX9_taken, Cond.instanceMethod yX9_taken, Cond.selects RX9 yX9_taken yX9_taken, Cond.code yX9_taken cX9_taken 4 (some .int), Cond.methodLink RX9 99 yX9_many, Cond.instanceMethod yX9_many, Cond.selects RX9 yX9_many yX9_many, Cond.code yX9_many cX9_many 4 (some .int), Cond.methodLink RX9 110 yX9_bathes, Cond.instanceMethod yX9_bathes, Cond.selects RX9 yX9_bathes yX9_bathes, Cond.code yX9_bathes cX9_bathes 4 none, Cond.fieldLink RX9 103 "TiedFrameModel" "baths" "I", Cond.methodLink RL 118 yL_colour, Cond.static yL_colour, Cond.codeWith yL_colour cL_colour 5 (some .int) [(0, 10, 13, 19)], Cond.methodLink RL 42 yX8_colour, Cond.instanceMethod yX8_colour, Cond.selects RX8 yX8_colour yX8_colour, Cond.code yX8_colour cX8_colour 3 (some .int), Cond.methodLink RX8 161 yX0_colourAt]
def wsL_law0_r18 : List Cond := [Cond.instanceMethod yX0_colourAt, Cond.selects RX0 yX0_colourAt yX0_colourAt, Cond.code yX0_colourAt cX0_colourAt 3 (some .int), Cond.methodLink RL 120 yX9_colour, Cond.instanceMethod yX9_colour, Cond.selects RX9 yX9_colour yX9_colour, Cond.code yX9_colour cX9_colour 3 (some .int), Cond.methodLink RX9 114 yX9_colourOf, Cond.instanceMethod yX9_colourOf, Cond.selects RX9 yX9_colourOf yX9_colourOf, Cond.code yX9_colourOf cX9_colourOf 3 (some .int), Cond.methodLink RL 121 yL_bound, Cond.static yL_bound, Cond.codeWith yL_bound cL_bound 5 (some .int) [(0, 17, 20, 19)], Cond.methodLink RL 45 yX8_bound, Cond.instanceMethod yX8_bound, Cond.selects RX8 yX8_bound yX8_bound, Cond.code yX8_bound cX8_bound 3 (some .boolean), Cond.methodLink RX8 164 yX0_isBound, Cond.methodLink RL 123 yX9_bound, Cond.instanceMethod yX9_bound, Cond.selects RX9 yX9_bound yX9_bound, Cond.code yX9_bound cX9_bound 3 (some .boolean), Cond.methodLink RL 124 yL_want]
def wsL_law0_r19 : List Cond := [Cond.static yL_want, Cond.codeWith yL_want cL_want 6 (some .int) [(0, 12, 15, 19), (0, 12, 19, 13)], Cond.methodLink RL 49 yX8_want, Cond.instanceMethod yX8_want, Cond.selects RX8 yX8_want yX8_want, Cond.code yX8_want cX8_want 5 (some .int), Cond.methodLink RX8 168 yX3_wantedAt, Cond.instanceMethod yX3_wantedAt, Cond.selects RX3 yX3_wantedAt yX3_wantedAt, Cond.code yX3_wantedAt cX3_wantedAt 3 (some .int), Cond.methodLink RX8 171 yX3_ask, Cond.instanceMethod yX3_ask, Cond.selects RX3 yX3_ask yX3_ask, Cond.code yX3_ask cX3_ask 4 none, Cond.methodLink RL 126 yX9_want, Cond.instanceMethod yX9_want, Cond.selects RX9 yX9_want yX9_want, Cond.code yX9_want cX9_want 5 (some .int), Cond.methodLink RL 127 yL_plan, Cond.static yL_plan, Cond.codeWith yL_plan cL_plan 4 (some .int) [(0, 9, 12, 13)], Cond.methodLink RL 52 yX8_plan, Cond.instanceMethod yX8_plan, Cond.selects RX8 yX8_plan yX8_plan]
def wsL_law0_r20 : List Cond := [Cond.code yX8_plan cX8_plan 2 (some .int), Cond.methodLink RX8 174 yX8_isRow, Cond.static yX8_isRow, Cond.code yX8_isRow cX8_isRow 4 (some .boolean), Cond.methodLink RX8 211 yX8_bathsOf, Cond.static yX8_bathsOf, Cond.code yX8_bathsOf cX8_bathsOf 2 (some .int), Cond.methodLink RX8 224 yX8_dyeOf, Cond.static yX8_dyeOf, Cond.code yX8_dyeOf cX8_dyeOf 2 (some .int), Cond.methodLink RX8 179 yX5_aimAt, Cond.instanceMethod yX5_aimAt, Cond.selects RX5 yX5_aimAt yX5_aimAt, Cond.code yX5_aimAt cX5_aimAt 8 (some .boolean), Cond.methodLink RX5 48 yX0_threadsIn, Cond.instanceMethod yX0_threadsIn, Cond.selects RX0 yX0_threadsIn yX0_threadsIn, Cond.code yX0_threadsIn cX0_threadsIn 2 (some .int), Cond.methodLink RX5 53 yX0_freePlaces, Cond.instanceMethod yX0_freePlaces, Cond.selects RX0 yX0_freePlaces yX0_freePlaces, Cond.code yX0_freePlaces cX0_freePlaces 2 (some .int), Cond.methodLink RX5 56 yX0_threads, Cond.methodLink RX5 60 yX0_bundleOf]
def wsL_law0_r21 : List Cond := [Cond.methodLink RX5 63 yX0_places, Cond.methodLink RX5 66 yX3_wantedAt, Cond.methodLink RX5 72 yX0_underFold, Cond.instanceMethod yX0_underFold, Cond.selects RX0 yX0_underFold yX0_underFold, Cond.code yX0_underFold cX0_underFold 3 (some .int), Cond.methodLink RX0 40 yX0_freePlaces, Cond.methodLink RX8 183 yX5_tryRow, Cond.instanceMethod yX5_tryRow, Cond.selects RX5 yX5_tryRow yX5_tryRow, Cond.code yX5_tryRow cX5_tryRow 8 (some .boolean), Cond.methodLink RX5 81 yX2_comesOf, Cond.methodLink RX5 86 yX5_gatherWays, Cond.instanceMethod yX5_gatherWays, Cond.selects RX5 yX5_gatherWays yX5_gatherWays, Cond.code yX5_gatherWays cX5_gatherWays 5 (some .boolean), Cond.methodLink RX5 90 yX5_freshOf, Cond.static yX5_freshOf, Cond.code yX5_freshOf cX5_freshOf 1 (some .int), Cond.methodLink RX8 187 yX5_writeInto, Cond.instanceMethod yX5_writeInto, Cond.selects RX5 yX5_writeInto yX5_writeInto, Cond.code yX5_writeInto cX5_writeInto 7 none, Cond.methodLink RX5 120 yX4_begin]
def wsL_law0_r22 : List Cond := [Cond.instanceMethod yX4_begin, Cond.selects RX4 yX4_begin yX4_begin, Cond.code yX4_begin cX4_begin 2 none, Cond.methodLink RX5 104 yX5_tiesOf, Cond.instanceMethod yX5_tiesOf, Cond.selects RX5 yX5_tiesOf yX5_tiesOf, Cond.code yX5_tiesOf cX5_tiesOf 7 (some .int), Cond.fieldLink RX5 107 "TiedFrame$Planner" "FRESH_SETS" "[I", Cond.methodLink RX5 110 arraycopyName, Cond.native arraycopyName, Cond.static arraycopyName, Cond.initialized "java/lang/System", Cond.methodLink RX5 116 yX5_weigh, Cond.instanceMethod yX5_weigh, Cond.selects RX5 yX5_weigh yX5_weigh, Cond.code yX5_weigh cX5_weigh 16 none, Cond.constant RX5 93 (1000000), Cond.methodLink RX5 126 yX4_addTies, Cond.instanceMethod yX4_addTies, Cond.selects RX4 yX4_addTies yX4_addTies, Cond.code yX4_addTies cX4_addTies 2 none, Cond.methodLink RX5 129 yX5_leastBits, Cond.instanceMethod yX5_leastBits, Cond.selects RX5 yX5_leastBits yX5_leastBits]
def wsL_law0_r23 : List Cond := [Cond.code yX5_leastBits cX5_leastBits 5 (some .int), Cond.methodLink RX5 140 yX5_keepsFewest, Cond.instanceMethod yX5_keepsFewest, Cond.selects RX5 yX5_keepsFewest yX5_keepsFewest, Cond.code yX5_keepsFewest cX5_keepsFewest 6 (some .boolean), Cond.methodLink RX5 133 yX4_write, Cond.instanceMethod yX4_write, Cond.selects RX4 yX4_write yX4_write, Cond.code yX4_write cX4_write 4 none, Cond.methodLink RX5 137 yX4_bitsAt, Cond.instanceMethod yX4_bitsAt, Cond.selects RX4 yX4_bitsAt yX4_bitsAt, Cond.code yX4_bitsAt cX4_bitsAt 3 (some .int), Cond.methodLink RX8 191 yX4_ties, Cond.instanceMethod yX4_ties, Cond.selects RX4 yX4_ties yX4_ties, Cond.code yX4_ties cX4_ties 1 (some .int), Cond.methodLink RL 129 yX9_plan, Cond.instanceMethod yX9_plan, Cond.selects RX9 yX9_plan yX9_plan, Cond.code yX9_plan cX9_plan 3 (some .int), Cond.methodLink RX9 140 yX9_isRow, Cond.static yX9_isRow, Cond.code yX9_isRow cX9_isRow 4 (some .boolean)]
def wsL_law0_r24 : List Cond := [Cond.methodLink RX9 118 yX9_bathsOf, Cond.static yX9_bathsOf, Cond.code yX9_bathsOf cX9_bathsOf 3 (some .int), Cond.methodLink RX9 143 yX9_find, Cond.instanceMethod yX9_find, Cond.selects RX9 yX9_find yX9_find, Cond.code yX9_find cX9_find 12 (some .int), Cond.methodLink RX9 121 yX9_becomes, Cond.instanceMethod yX9_becomes, Cond.selects RX9 yX9_becomes yX9_becomes, Cond.code yX9_becomes cX9_becomes 5 (some .int), Cond.methodLink RX9 124 yX9_wants, Cond.instanceMethod yX9_wants, Cond.selects RX9 yX9_wants yX9_wants, Cond.code yX9_wants cX9_wants 6 (some .boolean), Cond.methodLink RX9 128 yX9_newly, Cond.static yX9_newly, Cond.code yX9_newly cX9_newly 1 (some .int), Cond.methodLink RX9 131 yX9_ones, Cond.static yX9_ones, Cond.code yX9_ones cX9_ones 3 (some .int), Cond.methodLink RX9 146 yX9_keeps, Cond.instanceMethod yX9_keeps, Cond.selects RX9 yX9_keeps yX9_keeps]
def wsL_law0_r25 : List Cond := [Cond.code yX9_keeps cX9_keeps 4 none, Cond.fieldLink RX9 134 "TiedFrameModel" "planRow" "I", Cond.fieldLink RX9 137 "TiedFrameModel" "planTies" "I", Cond.methodLink RL 130 yL_best, Cond.static yL_best, Cond.codeWith yL_best cL_best 4 (some .int) [(0, 9, 12, 13)], Cond.methodLink RL 55 yX8_best, Cond.instanceMethod yX8_best, Cond.selects RX8 yX8_best yX8_best, Cond.code yX8_best cX8_best 3 (some .int), Cond.methodLink RX8 196 yX5_bestRow, Cond.instanceMethod yX5_bestRow, Cond.selects RX5 yX5_bestRow yX5_bestRow, Cond.code yX5_bestRow cX5_bestRow 10 (some .int), Cond.methodLink RX5 94 yX5_rowOfTurn, Cond.static yX5_rowOfTurn, Cond.code yX5_rowOfTurn cX5_rowOfTurn 5 (some .int), Cond.methodLink RX5 97 yX5_tryRow, Cond.methodLink RX5 101 yX5_tiesBelow, Cond.instanceMethod yX5_tiesBelow, Cond.selects RX5 yX5_tiesBelow yX5_tiesBelow, Cond.code yX5_tiesBelow cX5_tiesBelow 4 (some .int), Cond.methodLink RL 132 yX9_best, Cond.instanceMethod yX9_best]
def wsL_law0_r26 : List Cond := [Cond.selects RX9 yX9_best yX9_best, Cond.code yX9_best cX9_best 8 (some .int), Cond.methodLink RL 133 yL_kept, Cond.static yL_kept, Cond.codeWith yL_kept cL_kept 4 (some .int) [(0, 9, 12, 61)], Cond.classLink RL 61 "java/util/NoSuchElementException", Cond.methodLink RL 58 yX8_kept, Cond.instanceMethod yX8_kept, Cond.selects RX8 yX8_kept yX8_kept, Cond.code yX8_kept cX8_kept 2 (some .int), Cond.classLink RX8 200 "java/util/NoSuchElementException", Cond.initialized "java/util/NoSuchElementException", Cond.methodLink RX8 205 yX4_exists, Cond.instanceMethod yX4_exists, Cond.selects RX4 yX4_exists yX4_exists, Cond.code yX4_exists cX4_exists 1 (some .boolean), Cond.methodLink RX8 209 yX4_row, Cond.instanceMethod yX4_row, Cond.selects RX4 yX4_row yX4_row, Cond.code yX4_row cX4_row 1 (some .int), Cond.methodLink RL 135 yX9_kept, Cond.instanceMethod yX9_kept, Cond.selects RX9 yX9_kept yX9_kept, Cond.code yX9_kept cX9_kept 2 (some .int)]
def wsL_law0_r27 : List Cond := [Cond.methodLink RL 136 yL_bits, Cond.static yL_bits, Cond.codeWith yL_bits cL_bits 5 (some .int) [(0, 10, 13, 19)], Cond.methodLink RL 63 yX8_bits, Cond.instanceMethod yX8_bits, Cond.selects RX8 yX8_bits yX8_bits, Cond.code yX8_bits cX8_bits 3 (some .int), Cond.methodLink RX8 214 yX4_bitsAt, Cond.methodLink RL 138 yX9_bits, Cond.instanceMethod yX9_bits, Cond.selects RX9 yX9_bits yX9_bits, Cond.code yX9_bits cX9_bits 3 (some .int), Cond.methodLink RL 139 yX8_dye, Cond.instanceMethod yX8_dye, Cond.selects RX8 yX8_dye yX8_dye, Cond.code yX8_dye cX8_dye 6 (some .int), Cond.methodLink RX8 217 yX7_sufficeFor, Cond.instanceMethod yX7_sufficeFor, Cond.selects RX7 yX7_sufficeFor yX7_sufficeFor, Cond.code yX7_sufficeFor cX7_sufficeFor 5 (some .boolean), Cond.methodLink RX7 18 yX4_row, Cond.methodLink RX7 32 yX0_wouldTakeUp, Cond.instanceMethod yX0_wouldTakeUp, Cond.selects RX0 yX0_wouldTakeUp yX0_wouldTakeUp]
def wsL_law0_r28 : List Cond := [Cond.code yX0_wouldTakeUp cX0_wouldTakeUp 5 (some .int), Cond.methodLink RX0 53 yX0_knotsOf, Cond.instanceMethod yX0_knotsOf, Cond.selects RX0 yX0_knotsOf yX0_knotsOf, Cond.code yX0_knotsOf cX0_knotsOf 6 (some .int), Cond.methodLink RX0 57 yX4_bitsAt, Cond.methodLink RX8 221 yX0_wash, Cond.methodLink RX8 227 yX0_bindAs, Cond.instanceMethod yX0_bindAs, Cond.selects RX0 yX0_bindAs yX0_bindAs, Cond.code yX0_bindAs cX0_bindAs 4 none, Cond.methodLink RL 142 yX9_dye, Cond.instanceMethod yX9_dye, Cond.selects RX9 yX9_dye yX9_dye, Cond.code yX9_dye cX9_dye 7 (some .int), Cond.methodLink RX9 150 yX9_takes, Cond.instanceMethod yX9_takes, Cond.selects RX9 yX9_takes yX9_takes, Cond.code yX9_takes cX9_takes 5 (some .int), Cond.methodLink RX9 153 yX9_bindsFor, Cond.instanceMethod yX9_bindsFor, Cond.selects RX9 yX9_bindsFor yX9_bindsFor, Cond.code yX9_bindsFor cX9_bindsFor 4 none, Cond.methodLink RL 143 yL_slip]
def wsL_law0_r29 : List Cond := [Cond.static yL_slip, Cond.codeWith yL_slip cL_slip 5 (some .int) [(0, 7, 10, 19), (0, 7, 14, 13)], Cond.methodLink RL 66 yX8_slip, Cond.instanceMethod yX8_slip, Cond.selects RX8 yX8_slip yX8_slip, Cond.code yX8_slip cX8_slip 4 none, Cond.methodLink RX8 233 yX6_let, Cond.methodLink RL 146 yX9_slip, Cond.instanceMethod yX9_slip, Cond.selects RX9 yX9_slip yX9_slip, Cond.code yX9_slip cX9_slip 4 none, Cond.methodLink RL 147 yL_seen, Cond.static yL_seen, Cond.codeWith yL_seen cL_seen 5 (some .int) [(0, 10, 13, 19)], Cond.methodLink RL 70 yX8_seen, Cond.instanceMethod yX8_seen, Cond.selects RX8 yX8_seen yX8_seen, Cond.code yX8_seen cX8_seen 3 (some .int), Cond.methodLink RX8 236 yX6_showsAt, Cond.instanceMethod yX6_showsAt, Cond.selects RX6 yX6_showsAt yX6_showsAt, Cond.code yX6_showsAt cX6_showsAt 7 (some .int), Cond.methodLink RX6 22 yX0_places, Cond.methodLink RX6 28 yX0_colourAt]
def wsL_law0_r30 : List Cond := [Cond.methodLink RL 149 yX9_seen, Cond.instanceMethod yX9_seen, Cond.selects RX9 yX9_seen yX9_seen, Cond.code yX9_seen cX9_seen 3 (some .int), Cond.methodLink RX9 156 yX9_seenOf, Cond.instanceMethod yX9_seenOf, Cond.selects RX9 yX9_seenOf yX9_seenOf, Cond.code yX9_seenOf cX9_seenOf 5 (some .int), Cond.methodLink RL 150 yX8_blurred, Cond.instanceMethod yX8_blurred, Cond.selects RX8 yX8_blurred yX8_blurred, Cond.code yX8_blurred cX8_blurred 4 (some .int), Cond.methodLink RL 153 yX9_blurred, Cond.instanceMethod yX9_blurred, Cond.selects RX9 yX9_blurred yX9_blurred, Cond.code yX9_blurred cX9_blurred 4 (some .int), Cond.methodLink RL 154 yX8_law, Cond.instanceMethod yX8_law, Cond.selects RX8 yX8_law yX8_law, Cond.code yX8_law cX8_law 4 (some .int), Cond.methodLink RX8 246 yX1_size, Cond.instanceMethod yX1_size, Cond.selects RX1 yX1_size yX1_size, Cond.code yX1_size cX1_size 1 (some .int)]
def wsL_law0_r31 : List Cond := [Cond.methodLink RX8 249 yX8_isDay, Cond.static yX8_isDay, Cond.code yX8_isDay cX8_isDay 1 (some .boolean), Cond.methodLink RX8 252 yX1_add, Cond.instanceMethod yX1_add, Cond.selects RX1 yX1_add yX1_add, Cond.code yX1_add cX1_add 4 none, Cond.methodLink RL 157 yX9_law, Cond.instanceMethod yX9_law, Cond.selects RX9 yX9_law yX9_law, Cond.code yX9_law cX9_law 4 (some .int), Cond.fieldLink RX9 159 "TiedFrameModel" "laws" "I", Cond.methodLink RL 158 yL_rank, Cond.static yL_rank, Cond.codeWith yL_rank cL_rank 4 (some .int) [(0, 9, 12, 13)], Cond.methodLink RL 73 yX8_rank, Cond.instanceMethod yX8_rank, Cond.selects RX8 yX8_rank yX8_rank, Cond.code yX8_rank cX8_rank 5 (some .int), Cond.methodLink RX8 263 Lib.Math.max.name, Cond.static Lib.Math.max.name, Cond.initialized "java/lang/Math", Cond.code Lib.Math.max.name Lib.Math.max.code 2 (some .int), Cond.methodLink RX8 257 yX0_coloursWorn]
def wsL_law0_r32 : List Cond := [Cond.instanceMethod yX0_coloursWorn, Cond.selects RX0 yX0_coloursWorn yX0_coloursWorn, Cond.code yX0_coloursWorn cX0_coloursWorn 4 (some .int), Cond.methodLink RX8 260 yX1_inForce, Cond.instanceMethod yX1_inForce, Cond.selects RX1 yX1_inForce yX1_inForce, Cond.code yX1_inForce cX1_inForce 6 (some .int), Cond.methodLink RL 160 yX9_rank, Cond.instanceMethod yX9_rank, Cond.selects RX9 yX9_rank yX9_rank, Cond.code yX9_rank cX9_rank 6 (some .int), Cond.methodLink RX9 162 yX9_rankOf, Cond.instanceMethod yX9_rankOf, Cond.selects RX9 yX9_rankOf yX9_rankOf, Cond.code yX9_rankOf cX9_rankOf 5 (some .int), Cond.methodLink RL 161 yL_count, Cond.static yL_count, Cond.codeWith yL_count cL_count 4 (some .int) [(0, 9, 12, 61)], Cond.methodLink RL 76 yX8_count, Cond.instanceMethod yX8_count, Cond.selects RX8 yX8_count yX8_count, Cond.code yX8_count cX8_count 2 (some .int), Cond.methodLink RX8 268 yX0_threadsIn, Cond.methodLink RL 163 yX9_count]
def wsL_law0_r33 : List Cond := [Cond.instanceMethod yX9_count, Cond.selects RX9 yX9_count yX9_count, Cond.code yX9_count cX9_count 2 (some .int), Cond.methodLink RX9 165 yX9_strengthOf, Cond.instanceMethod yX9_strengthOf, Cond.selects RX9 yX9_strengthOf yX9_strengthOf, Cond.code yX9_strengthOf cX9_strengthOf 2 (some .int)]
def wsL_law0 : List Cond := (wsL_law0_r1 ++ (wsL_law0_r2 ++ (wsL_law0_r3 ++ (wsL_law0_r4 ++ (wsL_law0_r5 ++ (wsL_law0_r6 ++ (wsL_law0_r7 ++ (wsL_law0_r8 ++ (wsL_law0_r9 ++ (wsL_law0_r10 ++ (wsL_law0_r11 ++ (wsL_law0_r12 ++ (wsL_law0_r13 ++ (wsL_law0_r14 ++ (wsL_law0_r15 ++ (wsL_law0_r16 ++ (wsL_law0_r17 ++ (wsL_law0_r18 ++ (wsL_law0_r19 ++ (wsL_law0_r20 ++ (wsL_law0_r21 ++ (wsL_law0_r22 ++ (wsL_law0_r23 ++ (wsL_law0_r24 ++ (wsL_law0_r25 ++ (wsL_law0_r26 ++ (wsL_law0_r27 ++ (wsL_law0_r28 ++ (wsL_law0_r29 ++ (wsL_law0_r30 ++ (wsL_law0_r31 ++ (wsL_law0_r32 ++ wsL_law0_r33)))))))))))))))))))))))))))))))) ++ wsX80 ++ wsX90 ++ wsX20 ++ wsX70 ++ wsX00 ++ wsX30 ++ wsX50 ++ wsX40 ++ wsX60 ++ wsX10 ++ ([] : List Cond)
def wsL_law : List Cond := wsL_law0 ++ (vx_atS RX8 77 "java/lang/IllegalArgumentException" ["java/lang/RuntimeException", "java/lang/Exception"]).filter goodWord ++ (vx_atS RX8 116 "java/lang/IndexOutOfBoundsException" ["java/lang/RuntimeException", "java/lang/Exception"]).filter goodWord ++ (vx_atS RX8 204 "java/util/NoSuchElementException" ["java/lang/RuntimeException", "java/lang/Exception"]).filter goodWord
abbrev vwCl : List vw_C := [(RX0, TX0, 7), (RX1, TX1, 4), (RX2, TX2, 1), (RX3, TX3, 1), (RX4, TX4, 4), (RX5, TX5, 9), (RX6, TX6, 2), (RX7, TX7, 2), (RX8, TX8, 9), (RX9, TX9, 24)]
end
section
abbrev St : Type := Nat → Nat → Int32
def s2 (S : St) (k i : Nat) (v : Int32) : St := fun j => if j = k then upd (S k) i v else S j
theorem s2_at (S : St) (k i : Nat) (v : Int32) : s2 S k i v k = upd (S k) i v := if_pos rfl
theorem s2_ne (S : St) {k j : Nat} (i : Nat) (v : Int32) (h : j ≠ k) : s2 S k i v j = S j := if_neg h
def s3 (S : St) (k : Nat) (f : Nat → Int32) : St := fun j => if j = k then f else S j
theorem s3_at (S : St) (k : Nat) (f : Nat → Int32) : s3 S k f k = f := if_pos rfl
theorem s3_ne (S : St) {k j : Nat} (f : Nat → Int32) (h : j ≠ k) : s3 S k f j = S j := if_neg h
def wl (N : Nat) (a : Nat → Nat) (C : Nat → va_E) : va_W := (List.range N).map (fun k => (a k, C k))
theorem wl_at {N : Nat} {a : Nat → Nat} {C : Nat → va_E} {k : Nat} (h : k < N) : (wl N a C)[k]? = some (a k, C k) := by
  unfold wl
  rw [List.getElem?_map, List.getElem?_range h]
  rfl
theorem wl_of {N : Nat} {a : Nat → Nat} {C : Nat → va_E} {k : Nat} {q : Nat × va_E} (h : (wl N a C)[k]? = some q) : k < N ∧ q = (a k, C k) := by
  have hk : k < N := by
    have := (List.getElem?_eq_some_iff.mp h).1
    simpa [wl] using this
  rw [wl_at hk] at h
  exact ⟨hk, (Option.some.inj h).symm⟩
theorem wl_set {N : Nat} {a : Nat → Nat} {C C' : Nat → va_E} {k : Nat} {e : va_E} (hk : k < N) (he : C' k = e) (h : ∀ j, j ≠ k → C' j = C j) : (wl N a C).set k (a k, e) = wl N a C' := by
  subst he
  apply List.ext_getElem?
  intro i
  rw [List.getElem?_set]
  by_cases hi : k = i
  · subst hi
    rw [if_pos rfl, if_pos (by simpa [wl] using hk), wl_at hk]
  · rw [if_neg hi]
    by_cases hN : i < N
    · rw [wl_at hN, wl_at hN, h i (fun q => hi q.symm)]
    · rw [List.getElem?_eq_none (by simp [wl]; omega), List.getElem?_eq_none (by simp [wl]; omega)]
def AA (N : Nat) (a : Nat → Nat) (sz : Nat) : Nat → Prop := fun q => (∃ k, k < N ∧ q = a k) ∨ sz ≤ q
theorem AA_sub {N : Nat} {a : Nat → Nat} {sz sz' : Nat} (h : sz ≤ sz') : ∀ q, AA N a sz' q → AA N a sz q := fun q hq => hq.elim Or.inl (fun h2 => Or.inr (Nat.le_trans h h2))
theorem AA_D {N : Nat} {a : Nat → Nat} {C : Nat → va_E} {B : Nat → Prop} {sz : Nat} (h : va_D B (wl N a C)) : va_D (AA N a sz) (wl N a C) := ⟨h.1, fun k q hq => by
  obtain ⟨h1, h2⟩ := wl_of hq
  exact Or.inl ⟨k, h1, by rw [h2]⟩⟩
/-- what a cell holds hangs on its own row of the state alone -/
def LOC (C : St → Nat → va_E) : Prop := ∀ (S S' : St) (k : Nat), S k = S' k → C S k = C S' k
/-- the environment of a world: passes to a callee's start, and doesn't see frames -/
def TR (Ev : (Nat → Prop) → State → Prop) : Prop := (∀ (A A' : Nat → Prop) (s U : State) (locs : List Loc), Ev A s → s.WarmedH U.vm → va_S A s.heap U.heap locs → (∀ q, A' q → A q) → Ev A' U) ∧ ∀ (A : Nat → Prop) (U : State) (g : JFrame) (mk : MethodId) (v : Array Value), Ev A U → Ev A (U.calling g mk v)
def Bw (D : va_G) (tys : List (ClassId × FieldType)) (N : Nat) (a : Nat → Nat) (C : St → Nat → va_E) (A : Nat → Prop) (S : St) (t : State) : Prop := va_P D vwCl (wl N a (C S)) t.heap ∧ va_K D vwCl tys t ∧ va_D A (wl N a (C S))
def Pw (D : va_G) (tys : List (ClassId × FieldType)) (N : Nat) (a : Nat → Nat) (C : St → Nat → va_E) (Ev : (Nat → Prop) → State → Prop) (sz : Nat) (S : St) (U : State) : Prop := U.heap.size = sz ∧ va_P D vwCl (wl N a (C S)) U.heap ∧ va_K D vwCl tys U ∧ va_D (fun _ => True) (wl N a (C S)) ∧ Ev (AA N a sz) U
/-- contracts: an int (or boolean) comes back; nothing; the same of a method that may throw -/
def Ki (l : Launch) (y : MethodName) (ws : List Cond) (rm : Room) (D : va_G) (tys : List (ClassId × FieldType)) (N : Nat) (a : Nat → Nat) (C : St → Nat → va_E) (Ev : (Nat → Prop) → State → Prop) (av : List Value) (S : St) (res : Int32 × St) : Prop := ∀ sz, Met l y ws rm (va_Pc av (Pw D tys N a C Ev sz S)) (va_Qi (fun r u => (r, u) = res) (Bw D tys N a C (AA N a sz)) (AA N a sz)) 0 0 (AA N a sz)
def Kv (l : Launch) (y : MethodName) (ws : List Cond) (rm : Room) (D : va_G) (tys : List (ClassId × FieldType)) (N : Nat) (a : Nat → Nat) (C : St → Nat → va_E) (Ev : (Nat → Prop) → State → Prop) (av : List Value) (S : St) (res : Int32 × St) : Prop := ∀ sz, Met l y ws rm (va_Pc av (Pw D tys N a C Ev sz S)) (va_Qv (fun u => ((0 : Int32), u) = res) (Bw D tys N a C (AA N a sz)) (AA N a sz)) 0 0 (AA N a sz)
abbrev RX : Type := (String ⊕ Int32) × St
def QXi (D : va_G) (tys : List (ClassId × FieldType)) (N : Nat) (a : Nat → Nat) (C : St → Nat → va_E) (A : Nat → Prop) (res : RX) : Array Value → State → Outcome → State → Prop := va_Qi (fun r u => (Sum.inr r, u) = res) (Bw D tys N a C A) A
def QXv (D : va_G) (tys : List (ClassId × FieldType)) (N : Nat) (a : Nat → Nat) (C : St → Nat → va_E) (A : Nat → Prop) (res : RX) : Array Value → State → Outcome → State → Prop := va_Qv (fun u => (Sum.inr (0 : Int32), u) = res) (Bw D tys N a C A) A
def XXc (D : va_G) (tys : List (ClassId × FieldType)) (N : Nat) (a : Nat → Nat) (C : St → Nat → va_E) (A : Nat → Prop) (res : RX) : String → State → State → Prop := vx_X (fun _ : St => True) (fun E u t => (Sum.inl E, u) = res ∧ Bw D tys N a C A u t) A
def Xi (l : Launch) (y : MethodName) (ws : List Cond) (rm : Room) (D : va_G) (tys : List (ClassId × FieldType)) (N : Nat) (a : Nat → Nat) (C : St → Nat → va_E) (Ev : (Nat → Prop) → State → Prop) (av : List Value) (S : St) (res : RX) : Prop := ∀ sz, vx_Met l y ws rm (va_Pc av (Pw D tys N a C Ev sz S)) (QXi D tys N a C (AA N a sz) res) (XXc D tys N a C (AA N a sz) res) rm.cells rm.slots (AA N a sz)
def Xv (l : Launch) (y : MethodName) (ws : List Cond) (rm : Room) (D : va_G) (tys : List (ClassId × FieldType)) (N : Nat) (a : Nat → Nat) (C : St → Nat → va_E) (Ev : (Nat → Prop) → State → Prop) (av : List Value) (S : St) (res : RX) : Prop := ∀ sz, vx_Met l y ws rm (va_Pc av (Pw D tys N a C Ev sz S)) (QXv D tys N a C (AA N a sz) res) (XXc D tys N a C (AA N a sz) res) rm.cells rm.slots (AA N a sz)
/-- what holds of a frame all the way -/
def CT (p : Program) (s : State) (m : MethodId) (args : Array Value) (c : Code) (cc : ByteArray) (nL : Nat) (own : String) (Ts : List Cond) (D : va_G) (tys : List (ClassId × FieldType)) : Prop := CallFix p m c cc nL s args Ts own ∧ va_K D vwCl tys s
/-- THE WALK: where the pure text x comes to res, the frame comes to Q res -/
def GF (p : Program) (l : Launch) (e : Env) (R : Room) (s : State) (m : MethodId) (args : Array Value) (below : List Frame) (meth : Method) (c : Code) (D : va_G) (N : Nat) (a : Nat → Nat) (C : St → Nat → va_E) (A : Nat → Prop) (nL cells slots : Nat) {α : Type} (Q : α → State → Prop) (x : Option α) (pc : Nat) (lv : List (Nat × Value)) (st : List Value) (S : St) : Prop :=
  ∀ res, x = some res → ∀ (H : Heap) (locs : List Loc), va_P D vwCl (wl N a (C S)) H → va_D A (wl N a (C S)) → va_S A s.heap H locs → ∀ ls : Array Slot, lv_has ls nL lv → W p l e R s m args below meth c H locs cells slots (Q res) (F0 m pc ls st)
/-- the words of the pure texts: an index in its row; a number, a state named; a call -/
def ck {α : Type} (i : Int32) (n : Nat) (x : Option α) : Option α := if i < 0 ∨ n ≤ i.toNatClampNeg then none else x
def ckn {α : Type} (i n : Nat) (x : Option α) : Option α := if i < n then x else none
def lt {α : Type} (v : Int32) (f : Int32 → Option α) : Option α := f v
def lz {α : Type} (S : St) (f : St → Option α) : Option α := f S
def cl {α : Type} (x : Option (Int32 × St)) (f : Int32 → St → Option α) : Option α := x.bind (fun q => f q.1 q.2)
def cx (x : Option RX) (f : Int32 → St → Option RX) : Option RX := x.bind (fun q => match q.1 with | .inl E => some (.inl E, q.2) | .inr r => f r q.2)
def rz {α : Type} (v : Int32) (x : Option α) : Option α := if v &&& 1 = v then x else none
theorem ck_some {α : Type} {i : Int32} {n : Nat} {x : Option α} {r : α} (h : ck i n x = some r) : vp_in i n ∧ x = some r := by
  unfold ck at h
  by_cases hc : i < 0 ∨ n ≤ i.toNatClampNeg
  · rw [if_pos hc] at h; cases h
  · rw [if_neg hc] at h; exact ⟨hc, h⟩
theorem ckn_some {α : Type} {i n : Nat} {x : Option α} {r : α} (h : ckn i n x = some r) : i < n ∧ x = some r := by
  unfold ckn at h
  by_cases hc : i < n
  · rw [if_pos hc] at h; exact ⟨hc, h⟩
  · rw [if_neg hc] at h; cases h
theorem rz_some {α : Type} {v : Int32} {x : Option α} {r : α} (h : rz v x = some r) : v &&& 1 = v ∧ x = some r := by
  unfold rz at h
  by_cases hc : v &&& 1 = v
  · rw [if_pos hc] at h; exact ⟨hc, h⟩
  · rw [if_neg hc] at h; cases h
section GR
variable {p : Program} {l : Launch} {e : Env} {R : Room} {s : State} {m : MethodId} {args : Array Value} {below : List Frame} {meth : Method} {c : Code} {D : va_G} {tys : List (ClassId × FieldType)} {N : Nat} {a : Nat → Nat} {C : St → Nat → va_E} {Ev : (Nat → Prop) → State → Prop} {A : Nat → Prop} {cc : ByteArray} {nL : Nat} {own : String} {Ts : List Cond} {cells slots : Nat} {α : Type} {Q : α → State → Prop} {x z : Option α} {pc : Nat} {lv lv' : List (Nat × Value)} {rest : List Value} {S : St}
theorem g_iload_n (hc : CT p s m args c cc nL own Ts D tys) {k : Fin 4} {i j : Nat} {v : Int32} (hdg : decode cc pc = .ok (.iload_n k, 1)) (hi : (k : Nat) = i) (hj : lv[j]? = some (i, .int v)) (kk : GF p l e R s m args below meth c D N a C A nL cells slots Q x (pc + 1) lv (.int v :: rest) S) : GF p l e R s m args below meth c D N a C A nL cells slots Q x pc lv rest S :=
  fun res h H locs hP hD hS ls hl => lv_iload_n hc.1.1 hc.1.2.1 hdg hi (lv_at hl j hj) (kk res h H locs hP hD hS ls hl)
theorem g_iload (hc : CT p s m args c cc nL own Ts D tys) {i j : Nat} {v : Int32} (hdg : decode cc pc = .ok (.iload i, 2)) (hj : lv[j]? = some (i, .int v)) (kk : GF p l e R s m args below meth c D N a C A nL cells slots Q x (pc + 2) lv (.int v :: rest) S) : GF p l e R s m args below meth c D N a C A nL cells slots Q x pc lv rest S :=
  fun res h H locs hP hD hS ls hl => lv_iload hc.1.1 hc.1.2.1 hdg (lv_at hl j hj) (kk res h H locs hP hD hS ls hl)
theorem g_aload_n (hc : CT p s m args c cc nL own Ts D tys) {k : Fin 4} {i j : Nat} {v : Nat} (hdg : decode cc pc = .ok (.aload_n k, 1)) (hi : (k : Nat) = i) (hj : lv[j]? = some (i, .ref v)) (kk : GF p l e R s m args below meth c D N a C A nL cells slots Q x (pc + 1) lv (.ref v :: rest) S) : GF p l e R s m args below meth c D N a C A nL cells slots Q x pc lv rest S :=
  fun res h H locs hP hD hS ls hl => lv_aload_n hc.1.1 hc.1.2.1 hdg hi (lv_at hl j hj) (kk res h H locs hP hD hS ls hl)
theorem g_aload (hc : CT p s m args c cc nL own Ts D tys) {i j : Nat} {v : Nat} (hdg : decode cc pc = .ok (.aload i, 2)) (hj : lv[j]? = some (i, .ref v)) (kk : GF p l e R s m args below meth c D N a C A nL cells slots Q x (pc + 2) lv (.ref v :: rest) S) : GF p l e R s m args below meth c D N a C A nL cells slots Q x pc lv rest S :=
  fun res h H locs hP hD hS ls hl => lv_aload hc.1.1 hc.1.2.1 hdg (lv_at hl j hj) (kk res h H locs hP hD hS ls hl)
theorem g_iconst (hc : CT p s m args c cc nL own Ts D tys) {n : Int} {v : Int32} (hdg : decode cc pc = .ok (.iconst n, 1)) (hv : Int32.ofInt n = v) (kk : GF p l e R s m args below meth c D N a C A nL cells slots Q x (pc + 1) lv (.int v :: rest) S) : GF p l e R s m args below meth c D N a C A nL cells slots Q x pc lv rest S :=
  fun res h H locs hP hD hS ls hl => lv_iconst hc.1.1 hc.1.2.1 hdg hv (kk res h H locs hP hD hS ls hl)
theorem g_bipush (hc : CT p s m args c cc nL own Ts D tys) {n : Int} {v : Int32} (hdg : decode cc pc = .ok (.bipush n, 2)) (hv : (Int8.ofInt n).toInt32 = v) (kk : GF p l e R s m args below meth c D N a C A nL cells slots Q x (pc + 2) lv (.int v :: rest) S) : GF p l e R s m args below meth c D N a C A nL cells slots Q x pc lv rest S :=
  fun res h H locs hP hD hS ls hl => lv_bipush hc.1.1 hc.1.2.1 hdg hv (kk res h H locs hP hD hS ls hl)
theorem g_sipush (hc : CT p s m args c cc nL own Ts D tys) {n : Int} {v : Int32} (hdg : decode cc pc = .ok (.sipush n, 3)) (hv : (Int16.ofInt n).toInt32 = v) (kk : GF p l e R s m args below meth c D N a C A nL cells slots Q x (pc + 3) lv (.int v :: rest) S) : GF p l e R s m args below meth c D N a C A nL cells slots Q x pc lv rest S :=
  fun res h H locs hP hD hS ls hl => lv_sipush hc.1.1 hc.1.2.1 hdg hv (kk res h H locs hP hD hS ls hl)
theorem g_ldc (hc : CT p s m args c cc nL own Ts D tys) {index : Nat} {v : Int32} (hdg : decode cc pc = .ok (.ldc index, 2)) (hm : Cond.constant own index v ∈ Ts) (kk : GF p l e R s m args below meth c D N a C A nL cells slots Q x (pc + 2) lv (.int v :: rest) S) : GF p l e R s m args below meth c D N a C A nL cells slots Q x pc lv rest S :=
  fun res h H locs hP hD hS ls hl => lv_ldc hc.1.1 hc.1.2.1 hc.1.2.2.2.1 (hc.1.2.2.2.2 _ hm) hdg (kk res h H locs hP hD hS ls hl)
theorem g_ldcw (hc : CT p s m args c cc nL own Ts D tys) {index : Nat} {v : Int32} (hdg : decode cc pc = .ok (.ldc_w index, 3)) (hm : Cond.constant own index v ∈ Ts) (kk : GF p l e R s m args below meth c D N a C A nL cells slots Q x (pc + 3) lv (.int v :: rest) S) : GF p l e R s m args below meth c D N a C A nL cells slots Q x pc lv rest S :=
  fun res h H locs hP hD hS ls hl => lv_ldcw hc.1.1 hc.1.2.1 hc.1.2.2.2.1 (hc.1.2.2.2.2 _ hm) hdg (kk res h H locs hP hD hS ls hl)
theorem g_istore_n (hc : CT p s m args c cc nL own Ts D tys) {f : Int32 → Option α} {k : Fin 4} {i : Nat} {v : Int32} {L : Int32 → List (Nat × Value)} (hdg : decode cc pc = .ok (.istore_n k, 1)) (hi : (k : Nat) = i) (hn : i < nL) (hL : ∀ u : Int32, (i, Value.int u) :: lv.filter (fun q => !(q.1 == i) && !(q.1 + 1 == i && q.2.category == 2)) = L u) (kk : ∀ u : Int32, GF p l e R s m args below meth c D N a C A nL cells slots Q (f u) (pc + 1) (L u) rest S) : GF p l e R s m args below meth c D N a C A nL cells slots Q (lt v f) pc lv (.int v :: rest) S :=
  fun res h H locs hP hD hS ls hl => lv_istore_n hc.1.1 hc.1.2.1 hdg hi hl hn (hL v) (fun ls2 hl2 => kk v res h H locs hP hD hS ls2 hl2)
theorem g_istore (hc : CT p s m args c cc nL own Ts D tys) {f : Int32 → Option α} {i : Nat} {v : Int32} {L : Int32 → List (Nat × Value)} (hdg : decode cc pc = .ok (.istore i, 2)) (hn : i < nL) (hL : ∀ u : Int32, (i, Value.int u) :: lv.filter (fun q => !(q.1 == i) && !(q.1 + 1 == i && q.2.category == 2)) = L u) (kk : ∀ u : Int32, GF p l e R s m args below meth c D N a C A nL cells slots Q (f u) (pc + 2) (L u) rest S) : GF p l e R s m args below meth c D N a C A nL cells slots Q (lt v f) pc lv (.int v :: rest) S :=
  fun res h H locs hP hD hS ls hl => lv_istore hc.1.1 hc.1.2.1 hdg hl hn (hL v) (fun ls2 hl2 => kk v res h H locs hP hD hS ls2 hl2)
theorem g_astore_n (hc : CT p s m args c cc nL own Ts D tys) {k : Fin 4} {i : Nat} {v : Nat} (hdg : decode cc pc = .ok (.astore_n k, 1)) (hi : (k : Nat) = i) (hn : i < nL) (hL : (i, Value.ref v) :: lv.filter (fun q => !(q.1 == i) && !(q.1 + 1 == i && q.2.category == 2)) = lv') (kk : GF p l e R s m args below meth c D N a C A nL cells slots Q x (pc + 1) lv' rest S) : GF p l e R s m args below meth c D N a C A nL cells slots Q x pc lv (.ref v :: rest) S :=
  fun res h H locs hP hD hS ls hl => lv_astore_n hc.1.1 hc.1.2.1 hdg hi hl hn hL (fun ls2 hl2 => kk res h H locs hP hD hS ls2 hl2)
theorem g_astore (hc : CT p s m args c cc nL own Ts D tys) {i : Nat} {v : Nat} (hdg : decode cc pc = .ok (.astore i, 2)) (hn : i < nL) (hL : (i, Value.ref v) :: lv.filter (fun q => !(q.1 == i) && !(q.1 + 1 == i && q.2.category == 2)) = lv') (kk : GF p l e R s m args below meth c D N a C A nL cells slots Q x (pc + 2) lv' rest S) : GF p l e R s m args below meth c D N a C A nL cells slots Q x pc lv (.ref v :: rest) S :=
  fun res h H locs hP hD hS ls hl => lv_astore hc.1.1 hc.1.2.1 hdg hl hn hL (fun ls2 hl2 => kk res h H locs hP hD hS ls2 hl2)
theorem g_iinc (hc : CT p s m args c cc nL own Ts D tys) {f : Int32 → Option α} {i j : Nat} {n : Int} {v w : Int32} {L : Int32 → List (Nat × Value)} (hdg : decode cc pc = .ok (.iinc i n, 3)) (hj : lv[j]? = some (i, .int v)) (hv : v + Int32.ofInt n = w) (hn : i < nL) (hL : ∀ u : Int32, (i, Value.int u) :: lv.filter (fun q => !(q.1 == i) && !(q.1 + 1 == i && q.2.category == 2)) = L u) (kk : ∀ u : Int32, GF p l e R s m args below meth c D N a C A nL cells slots Q (f u) (pc + 3) (L u) rest S) : GF p l e R s m args below meth c D N a C A nL cells slots Q (lt w f) pc lv rest S :=
  fun res h H locs hP hD hS ls hl => lv_iinc hc.1.1 hc.1.2.1 hdg hl hj hv hn (hL w) (fun ls2 hl2 => kk w res h H locs hP hD hS ls2 hl2)
theorem g_iadd (hc : CT p s m args c cc nL own Ts D tys) {x1 y1 : Int32} (hdg : decode cc pc = .ok (.iadd, 1)) (kk : GF p l e R s m args below meth c D N a C A nL cells slots Q x (pc + 1) lv (.int (x1 + y1) :: rest) S) : GF p l e R s m args below meth c D N a C A nL cells slots Q x pc lv (.int y1 :: .int x1 :: rest) S :=
  fun res h H locs hP hD hS ls hl => lv_iadd hc.1.1 hc.1.2.1 hdg (kk res h H locs hP hD hS ls hl)
theorem g_isub (hc : CT p s m args c cc nL own Ts D tys) {x1 y1 : Int32} (hdg : decode cc pc = .ok (.isub, 1)) (kk : GF p l e R s m args below meth c D N a C A nL cells slots Q x (pc + 1) lv (.int (x1 - y1) :: rest) S) : GF p l e R s m args below meth c D N a C A nL cells slots Q x pc lv (.int y1 :: .int x1 :: rest) S :=
  fun res h H locs hP hD hS ls hl => lv_isub hc.1.1 hc.1.2.1 hdg (kk res h H locs hP hD hS ls hl)
theorem g_imul (hc : CT p s m args c cc nL own Ts D tys) {x1 y1 : Int32} (hdg : decode cc pc = .ok (.imul, 1)) (kk : GF p l e R s m args below meth c D N a C A nL cells slots Q x (pc + 1) lv (.int (x1 * y1) :: rest) S) : GF p l e R s m args below meth c D N a C A nL cells slots Q x pc lv (.int y1 :: .int x1 :: rest) S :=
  fun res h H locs hP hD hS ls hl => lv_imul hc.1.1 hc.1.2.1 hdg (kk res h H locs hP hD hS ls hl)
theorem g_iand (hc : CT p s m args c cc nL own Ts D tys) {x1 y1 : Int32} (hdg : decode cc pc = .ok (.iand, 1)) (kk : GF p l e R s m args below meth c D N a C A nL cells slots Q x (pc + 1) lv (.int (x1 &&& y1) :: rest) S) : GF p l e R s m args below meth c D N a C A nL cells slots Q x pc lv (.int y1 :: .int x1 :: rest) S :=
  fun res h H locs hP hD hS ls hl => lv_iand hc.1.1 hc.1.2.1 hdg (kk res h H locs hP hD hS ls hl)
theorem g_ior (hc : CT p s m args c cc nL own Ts D tys) {x1 y1 : Int32} (hdg : decode cc pc = .ok (.ior, 1)) (kk : GF p l e R s m args below meth c D N a C A nL cells slots Q x (pc + 1) lv (.int (x1 ||| y1) :: rest) S) : GF p l e R s m args below meth c D N a C A nL cells slots Q x pc lv (.int y1 :: .int x1 :: rest) S :=
  fun res h H locs hP hD hS ls hl => lv_ior hc.1.1 hc.1.2.1 hdg (kk res h H locs hP hD hS ls hl)
theorem g_ixor (hc : CT p s m args c cc nL own Ts D tys) {x1 y1 : Int32} (hdg : decode cc pc = .ok (.ixor, 1)) (kk : GF p l e R s m args below meth c D N a C A nL cells slots Q x (pc + 1) lv (.int (x1 ^^^ y1) :: rest) S) : GF p l e R s m args below meth c D N a C A nL cells slots Q x pc lv (.int y1 :: .int x1 :: rest) S :=
  fun res h H locs hP hD hS ls hl => lv_ixor hc.1.1 hc.1.2.1 hdg (kk res h H locs hP hD hS ls hl)
theorem g_ishl (hc : CT p s m args c cc nL own Ts D tys) {x1 y1 : Int32} (hdg : decode cc pc = .ok (.ishl, 1)) (kk : GF p l e R s m args below meth c D N a C A nL cells slots Q x (pc + 1) lv (.int (x1 <<< (y1 &&& 31)) :: rest) S) : GF p l e R s m args below meth c D N a C A nL cells slots Q x pc lv (.int y1 :: .int x1 :: rest) S :=
  fun res h H locs hP hD hS ls hl => lv_ishl hc.1.1 hc.1.2.1 hdg (kk res h H locs hP hD hS ls hl)
theorem g_ishr (hc : CT p s m args c cc nL own Ts D tys) {x1 y1 : Int32} (hdg : decode cc pc = .ok (.ishr, 1)) (kk : GF p l e R s m args below meth c D N a C A nL cells slots Q x (pc + 1) lv (.int (x1 >>> (y1 &&& 31)) :: rest) S) : GF p l e R s m args below meth c D N a C A nL cells slots Q x pc lv (.int y1 :: .int x1 :: rest) S :=
  fun res h H locs hP hD hS ls hl => lv_ishr hc.1.1 hc.1.2.1 hdg (kk res h H locs hP hD hS ls hl)
theorem g_iushr (hc : CT p s m args c cc nL own Ts D tys) {x1 y1 : Int32} (hdg : decode cc pc = .ok (.iushr, 1)) (kk : GF p l e R s m args below meth c D N a C A nL cells slots Q x (pc + 1) lv (.int ((x1.toUInt32 >>> (y1.toUInt32 &&& Int32.toUInt32 31)).toInt32) :: rest) S) : GF p l e R s m args below meth c D N a C A nL cells slots Q x pc lv (.int y1 :: .int x1 :: rest) S :=
  fun res h H locs hP hD hS ls hl => lv_iushr hc.1.1 hc.1.2.1 hdg rfl (kk res h H locs hP hD hS ls hl)
theorem g_idiv (hc : CT p s m args c cc nL own Ts D tys) {x1 y1 : Int32} (hne : ¬ y1 = 0) (hdg : decode cc pc = .ok (.idiv, 1)) (kk : GF p l e R s m args below meth c D N a C A nL cells slots Q x (pc + 1) lv (.int (x1 / y1) :: rest) S) : GF p l e R s m args below meth c D N a C A nL cells slots Q x pc lv (.int y1 :: .int x1 :: rest) S :=
  fun res h H locs hP hD hS ls hl => lv_idiv hc.1.1 hc.1.2.1 hdg hne (kk res h H locs hP hD hS ls hl)
theorem g_dup (hc : CT p s m args c cc nL own Ts D tys) {v : Value} (hdg : decode cc pc = .ok (.dup, 1)) (hv : v.category = 1) (kk : GF p l e R s m args below meth c D N a C A nL cells slots Q x (pc + 1) lv (v :: v :: rest) S) : GF p l e R s m args below meth c D N a C A nL cells slots Q x pc lv (v :: rest) S :=
  fun res h H locs hP hD hS ls hl => lv_dup hc.1.1 hc.1.2.1 hdg hv (kk res h H locs hP hD hS ls hl)
theorem g_dup2 (hc : CT p s m args c cc nL own Ts D tys) {v w : Value} (hdg : decode cc pc = .ok (.dup2, 1)) (hv : v.category = 1) (hw : w.category = 1) (kk : GF p l e R s m args below meth c D N a C A nL cells slots Q x (pc + 1) lv (v :: w :: v :: w :: rest) S) : GF p l e R s m args below meth c D N a C A nL cells slots Q x pc lv (v :: w :: rest) S :=
  fun res h H locs hP hD hS ls hl => lv_dup2_11 hc.1.1 hc.1.2.1 hdg hv hw (kk res h H locs hP hD hS ls hl)
theorem g_goto (hc : CT p s m args c cc nL own Ts D tys) {off : Int} {tgt : Nat} (hdg : decode cc pc = .ok (.goto off, 3)) (ht : (pc : Int) + off = (tgt : Int)) (kk : GF p l e R s m args below meth c D N a C A nL cells slots Q x tgt lv rest S) : GF p l e R s m args below meth c D N a C A nL cells slots Q x pc lv rest S :=
  fun res h H locs hP hD hS ls hl => lv_goto hc.1.1 hc.1.2.1 hdg ht (kk res h H locs hP hD hS ls hl)
theorem g_lv (ks : List Nat) (hp : lv_pick lv ks = lv') (kk : GF p l e R s m args below meth c D N a C A nL cells slots Q x pc lv' rest S) : GF p l e R s m args below meth c D N a C A nL cells slots Q x pc lv rest S :=
  fun res h H locs hP hD hS ls hl => kk res h H locs hP hD hS ls (lv_sub hl ks hp)
theorem g_icmp_eq (hc : CT p s m args c cc nL own Ts D tys) {x1 y1 : Int32} {off : Int} {tgt : Nat} (hdg : decode cc pc = .ok (.if_icmp .eq off, 3)) (ht : (pc : Int) + off = (tgt : Int)) (kt : GF p l e R s m args below meth c D N a C A nL cells slots Q x tgt lv rest S) (kf : GF p l e R s m args below meth c D N a C A nL cells slots Q z (pc + 3) lv rest S) : GF p l e R s m args below meth c D N a C A nL cells slots Q (if x1 = y1 then x else z) pc lv (.int y1 :: .int x1 :: rest) S :=
  fun res h H locs hP hD hS ls hl => lv_icmp_eq hc.1.1 hc.1.2.1 hdg ht (fun q => kt res (by rw [if_pos q] at h; exact h) H locs hP hD hS ls hl) (fun q => kf res (by rw [if_neg q] at h; exact h) H locs hP hD hS ls hl)
theorem g_icmp_ne (hc : CT p s m args c cc nL own Ts D tys) {x1 y1 : Int32} {off : Int} {tgt : Nat} (hdg : decode cc pc = .ok (.if_icmp .ne off, 3)) (ht : (pc : Int) + off = (tgt : Int)) (kt : GF p l e R s m args below meth c D N a C A nL cells slots Q x tgt lv rest S) (kf : GF p l e R s m args below meth c D N a C A nL cells slots Q z (pc + 3) lv rest S) : GF p l e R s m args below meth c D N a C A nL cells slots Q (if x1 = y1 then z else x) pc lv (.int y1 :: .int x1 :: rest) S :=
  fun res h H locs hP hD hS ls hl => lv_icmp_ne hc.1.1 hc.1.2.1 hdg ht (fun q => kt res (by rw [if_neg q] at h; exact h) H locs hP hD hS ls hl) (fun q => kf res (by rw [if_pos q] at h; exact h) H locs hP hD hS ls hl)
theorem g_icmp_lt (hc : CT p s m args c cc nL own Ts D tys) {x1 y1 : Int32} {off : Int} {tgt : Nat} (hdg : decode cc pc = .ok (.if_icmp .lt off, 3)) (ht : (pc : Int) + off = (tgt : Int)) (kt : GF p l e R s m args below meth c D N a C A nL cells slots Q x tgt lv rest S) (kf : GF p l e R s m args below meth c D N a C A nL cells slots Q z (pc + 3) lv rest S) : GF p l e R s m args below meth c D N a C A nL cells slots Q (if x1 < y1 then x else z) pc lv (.int y1 :: .int x1 :: rest) S :=
  fun res h H locs hP hD hS ls hl => lv_icmp_lt hc.1.1 hc.1.2.1 hdg ht (fun q => kt res (by rw [if_pos q] at h; exact h) H locs hP hD hS ls hl) (fun q => kf res (by rw [if_neg q] at h; exact h) H locs hP hD hS ls hl)
theorem g_icmp_ge (hc : CT p s m args c cc nL own Ts D tys) {x1 y1 : Int32} {off : Int} {tgt : Nat} (hdg : decode cc pc = .ok (.if_icmp .ge off, 3)) (ht : (pc : Int) + off = (tgt : Int)) (kt : GF p l e R s m args below meth c D N a C A nL cells slots Q x tgt lv rest S) (kf : GF p l e R s m args below meth c D N a C A nL cells slots Q z (pc + 3) lv rest S) : GF p l e R s m args below meth c D N a C A nL cells slots Q (if y1 ≤ x1 then x else z) pc lv (.int y1 :: .int x1 :: rest) S :=
  fun res h H locs hP hD hS ls hl => lv_icmp_ge hc.1.1 hc.1.2.1 hdg ht (fun q => kt res (by rw [if_pos q] at h; exact h) H locs hP hD hS ls hl) (fun q => kf res (by rw [if_neg q] at h; exact h) H locs hP hD hS ls hl)
theorem g_icmp_gt (hc : CT p s m args c cc nL own Ts D tys) {x1 y1 : Int32} {off : Int} {tgt : Nat} (hdg : decode cc pc = .ok (.if_icmp .gt off, 3)) (ht : (pc : Int) + off = (tgt : Int)) (kt : GF p l e R s m args below meth c D N a C A nL cells slots Q x tgt lv rest S) (kf : GF p l e R s m args below meth c D N a C A nL cells slots Q z (pc + 3) lv rest S) : GF p l e R s m args below meth c D N a C A nL cells slots Q (if y1 < x1 then x else z) pc lv (.int y1 :: .int x1 :: rest) S :=
  fun res h H locs hP hD hS ls hl => lv_icmp_gt hc.1.1 hc.1.2.1 hdg ht (fun q => kt res (by rw [if_pos q] at h; exact h) H locs hP hD hS ls hl) (fun q => kf res (by rw [if_neg q] at h; exact h) H locs hP hD hS ls hl)
theorem g_icmp_le (hc : CT p s m args c cc nL own Ts D tys) {x1 y1 : Int32} {off : Int} {tgt : Nat} (hdg : decode cc pc = .ok (.if_icmp .le off, 3)) (ht : (pc : Int) + off = (tgt : Int)) (kt : GF p l e R s m args below meth c D N a C A nL cells slots Q x tgt lv rest S) (kf : GF p l e R s m args below meth c D N a C A nL cells slots Q z (pc + 3) lv rest S) : GF p l e R s m args below meth c D N a C A nL cells slots Q (if x1 ≤ y1 then x else z) pc lv (.int y1 :: .int x1 :: rest) S :=
  fun res h H locs hP hD hS ls hl => lv_icmp_le hc.1.1 hc.1.2.1 hdg ht (fun q => kt res (by rw [if_pos q] at h; exact h) H locs hP hD hS ls hl) (fun q => kf res (by rw [if_neg q] at h; exact h) H locs hP hD hS ls hl)
theorem g_if_eq (hc : CT p s m args c cc nL own Ts D tys) {x1 : Int32} {off : Int} {tgt : Nat} (hdg : decode cc pc = .ok (.ifCond .eq off, 3)) (ht : (pc : Int) + off = (tgt : Int)) (kt : GF p l e R s m args below meth c D N a C A nL cells slots Q x tgt lv rest S) (kf : GF p l e R s m args below meth c D N a C A nL cells slots Q z (pc + 3) lv rest S) : GF p l e R s m args below meth c D N a C A nL cells slots Q (if x1 = 0 then x else z) pc lv (.int x1 :: rest) S :=
  fun res h H locs hP hD hS ls hl => lv_if_eq hc.1.1 hc.1.2.1 hdg ht (fun q => kt res (by rw [if_pos q] at h; exact h) H locs hP hD hS ls hl) (fun q => kf res (by rw [if_neg q] at h; exact h) H locs hP hD hS ls hl)
theorem g_if_ne (hc : CT p s m args c cc nL own Ts D tys) {x1 : Int32} {off : Int} {tgt : Nat} (hdg : decode cc pc = .ok (.ifCond .ne off, 3)) (ht : (pc : Int) + off = (tgt : Int)) (kt : GF p l e R s m args below meth c D N a C A nL cells slots Q x tgt lv rest S) (kf : GF p l e R s m args below meth c D N a C A nL cells slots Q z (pc + 3) lv rest S) : GF p l e R s m args below meth c D N a C A nL cells slots Q (if x1 = 0 then z else x) pc lv (.int x1 :: rest) S :=
  fun res h H locs hP hD hS ls hl => lv_if_ne hc.1.1 hc.1.2.1 hdg ht (fun q => kt res (by rw [if_neg q] at h; exact h) H locs hP hD hS ls hl) (fun q => kf res (by rw [if_pos q] at h; exact h) H locs hP hD hS ls hl)
theorem g_if_lt (hc : CT p s m args c cc nL own Ts D tys) {x1 : Int32} {off : Int} {tgt : Nat} (hdg : decode cc pc = .ok (.ifCond .lt off, 3)) (ht : (pc : Int) + off = (tgt : Int)) (kt : GF p l e R s m args below meth c D N a C A nL cells slots Q x tgt lv rest S) (kf : GF p l e R s m args below meth c D N a C A nL cells slots Q z (pc + 3) lv rest S) : GF p l e R s m args below meth c D N a C A nL cells slots Q (if x1 < 0 then x else z) pc lv (.int x1 :: rest) S :=
  fun res h H locs hP hD hS ls hl => lv_if_lt hc.1.1 hc.1.2.1 hdg ht (fun q => kt res (by rw [if_pos q] at h; exact h) H locs hP hD hS ls hl) (fun q => kf res (by rw [if_neg q] at h; exact h) H locs hP hD hS ls hl)
theorem g_if_ge (hc : CT p s m args c cc nL own Ts D tys) {x1 : Int32} {off : Int} {tgt : Nat} (hdg : decode cc pc = .ok (.ifCond .ge off, 3)) (ht : (pc : Int) + off = (tgt : Int)) (kt : GF p l e R s m args below meth c D N a C A nL cells slots Q x tgt lv rest S) (kf : GF p l e R s m args below meth c D N a C A nL cells slots Q z (pc + 3) lv rest S) : GF p l e R s m args below meth c D N a C A nL cells slots Q (if 0 ≤ x1 then x else z) pc lv (.int x1 :: rest) S :=
  fun res h H locs hP hD hS ls hl => lv_if_ge hc.1.1 hc.1.2.1 hdg ht (fun q => kt res (by rw [if_pos q] at h; exact h) H locs hP hD hS ls hl) (fun q => kf res (by rw [if_neg q] at h; exact h) H locs hP hD hS ls hl)
theorem g_if_gt (hc : CT p s m args c cc nL own Ts D tys) {x1 : Int32} {off : Int} {tgt : Nat} (hdg : decode cc pc = .ok (.ifCond .gt off, 3)) (ht : (pc : Int) + off = (tgt : Int)) (kt : GF p l e R s m args below meth c D N a C A nL cells slots Q x tgt lv rest S) (kf : GF p l e R s m args below meth c D N a C A nL cells slots Q z (pc + 3) lv rest S) : GF p l e R s m args below meth c D N a C A nL cells slots Q (if 0 < x1 then x else z) pc lv (.int x1 :: rest) S :=
  fun res h H locs hP hD hS ls hl => lv_if_gt hc.1.1 hc.1.2.1 hdg ht (fun q => kt res (by rw [if_pos q] at h; exact h) H locs hP hD hS ls hl) (fun q => kf res (by rw [if_neg q] at h; exact h) H locs hP hD hS ls hl)
theorem g_if_le (hc : CT p s m args c cc nL own Ts D tys) {x1 : Int32} {off : Int} {tgt : Nat} (hdg : decode cc pc = .ok (.ifCond .le off, 3)) (ht : (pc : Int) + off = (tgt : Int)) (kt : GF p l e R s m args below meth c D N a C A nL cells slots Q x tgt lv rest S) (kf : GF p l e R s m args below meth c D N a C A nL cells slots Q z (pc + 3) lv rest S) : GF p l e R s m args below meth c D N a C A nL cells slots Q (if x1 ≤ 0 then x else z) pc lv (.int x1 :: rest) S :=
  fun res h H locs hP hD hS ls hl => lv_if_le hc.1.1 hc.1.2.1 hdg ht (fun q => kt res (by rw [if_pos q] at h; exact h) H locs hP hD hS ls hl) (fun q => kf res (by rw [if_neg q] at h; exact h) H locs hP hD hS ls hl)
theorem g_get (hc : CT p s m args c cc nL own Ts D tys) {C0 ref : String} {T : u_T} {M k ci index : Nat} {fs : List Value} {v : Value} (hin : ∀ w ∈ u_ws C0 T M, w ∈ Ts) (hk : k < N) (he : C S k = .inr (ci, fs)) (hcl : vwCl[ci]? = some (C0, T, M)) (j : Nat) (hj : j < M) (hm : Cond.fieldLink own index ref (T j).2.1 (T j).2.2.1 ∈ Ts) (href : (T j).1 = ref) (hv : fs[j]? = some v) (hdg : decode cc pc = .ok (.getfield index, 3)) (kk : GF p l e R s m args below meth c D N a C A nL cells slots Q x (pc + 3) lv (v :: rest) S) : GF p l e R s m args below meth c D N a C A nL cells slots Q x pc lv (.ref (a k) :: rest) S :=
  fun res h H locs hP hD hS ls hl => va_get (D := D) (ci := ci) hc.1.1 hc.1.2.1 hc.1.2.2.2.2 hin hc.1.2.2.2.1 hc.2 hP k (by rw [wl_at hk, he]) hcl j hj (hc.1.2.2.2.2 _ hm) (fun _ h9 => by rw [← href]; exact h9) hv hdg (kk res h H locs hP hD hS ls hl)
theorem g_put (hc : CT p s m args c cc nL own Ts D tys) {f : St → Option α} {C0 ref : String} {T : u_T} {M k ci index : Nat} {fs fs2 : List Value} {v : Int32} {ty : FieldType} (hLOC : LOC C) (ty0 : Nat → FieldType) (hty : ∀ k, k < M → parseFieldDescriptor (T k).2.2.1 = some (ty0 k)) (hnm : ∀ a, a < M → ∀ b, b < M → a ≠ b → (T a).2.1 ≠ (T b).2.1) (hin : ∀ w ∈ u_ws C0 T M, w ∈ Ts) (hk : k < N) (he : C S k = .inr (ci, fs)) (hcl : vwCl[ci]? = some (C0, T, M)) (j : Nat) (hj : j < M) (hm : Cond.fieldLink own index ref (T j).2.1 (T j).2.2.1 ∈ Ts) (href : (T j).1 = ref) (hfin : (T j).2.2.2 = false) (hd : parseFieldDescriptor (T j).2.2.1 = some ty) (hn : narrow ty (.int v) = .int v) (hfit : fits ty (.int v) = true) (hl2 : j < fs.length) (hf2 : fs.set j (.int v) = fs2) (he2 : C (s2 S k j v) k = .inr (ci, fs2)) (hdg : decode cc pc = .ok (.putfield index, 3)) (kk : ∀ S2 : St, GF p l e R s m args below meth c D N a C A nL cells slots Q (f S2) (pc + 3) lv rest S2) : GF p l e R s m args below meth c D N a C A nL cells slots Q (lz (s2 S k j v) f) pc lv (.int v :: .ref (a k) :: rest) S :=
  fun res h H locs hP hD hS ls hl => va_put (D := D) (ci := ci) hc.1.1 hc.1.2.1 hc.1.2.2.2.2 hin ty0 hty hnm hc.1.2.2.2.1 hc.2 hP hD hS k (by rw [wl_at hk, he]) hcl j hj (hc.1.2.2.2.2 _ hm) (fun _ h9 => by rw [← href]; exact h9) hfin hd hn hfit hl2 hdg (fun H1 locs1 hP1 hD1 hS1 => by
    rw [hf2, wl_set (C' := C (s2 S k j v)) hk he2 (fun i hi => hLOC _ _ i (s2_ne S j v hi))] at hP1 hD1
    exact kk _ res h H1 locs1 hP1 hD1 hS1 ls hl)
theorem g_iald (hc : CT p s m args c cc nL own Ts D tys) {cI : ClassId} {t0 k n : Nat} {i : Int32} (hk : k < N) (he : C S k = .inl (cI, n, .inl (S k))) (ht : tys[t0]? = some (cI, .int)) (hdg : decode cc pc = .ok (.iaload, 1)) (kk : GF p l e R s m args below meth c D N a C A nL cells slots Q x (pc + 1) lv (.int (S k i.toNatClampNeg) :: rest) S) : GF p l e R s m args below meth c D N a C A nL cells slots Q (ck i n x) pc lv (.int i :: .ref (a k) :: rest) S :=
  fun res h H locs hP hD hS ls hl => va_iald hc.1.1 hc.1.2.1 hc.2 hP k t0 (by rw [wl_at hk, he]) ht (ck_some h).1 hdg (kk res (ck_some h).2 H locs hP hD hS ls hl)
theorem g_zald (hc : CT p s m args c cc nL own Ts D tys) {cI : ClassId} {t0 k n : Nat} {i : Int32} (hk : k < N) (he : C S k = .inl (cI, n, .inl (S k))) (ht : tys[t0]? = some (cI, .boolean)) (hdg : decode cc pc = .ok (.baload, 1)) (kk : GF p l e R s m args below meth c D N a C A nL cells slots Q x (pc + 1) lv (.int (S k i.toNatClampNeg) :: rest) S) : GF p l e R s m args below meth c D N a C A nL cells slots Q (ck i n x) pc lv (.int i :: .ref (a k) :: rest) S :=
  fun res h H locs hP hD hS ls hl => va_zald hc.1.1 hc.1.2.1 hc.2 hP k t0 (by rw [wl_at hk, he]) ht (ck_some h).1 hdg (kk res (ck_some h).2 H locs hP hD hS ls hl)
theorem g_iast (hc : CT p s m args c cc nL own Ts D tys) {f : St → Option α} {cI : ClassId} {t0 k n : Nat} {i v : Int32} (hLOC : LOC C) (hk : k < N) (he : C S k = .inl (cI, n, .inl (S k))) (he2 : C (s2 S k i.toNatClampNeg v) k = .inl (cI, n, .inl (s2 S k i.toNatClampNeg v k))) (ht : tys[t0]? = some (cI, .int)) (hdg : decode cc pc = .ok (.iastore, 1)) (kk : ∀ S2 : St, GF p l e R s m args below meth c D N a C A nL cells slots Q (f S2) (pc + 1) lv rest S2) : GF p l e R s m args below meth c D N a C A nL cells slots Q (ck i n (lz (s2 S k i.toNatClampNeg v) f)) pc lv (.int v :: .int i :: .ref (a k) :: rest) S :=
  fun res h H locs hP hD hS ls hl => va_iast hc.1.1 hc.1.2.1 hc.2 hP hD hS k t0 (by rw [wl_at hk, he]) ht (ck_some h).1 hdg (fun H1 locs1 hP1 hD1 hS1 => by
    rw [wl_set (C' := C (s2 S k i.toNatClampNeg v)) hk (by rw [he2, s2_at]) (fun j hj => hLOC _ _ j (s2_ne S i.toNatClampNeg v hj))] at hP1 hD1
    exact kk _ res (ck_some h).2 H1 locs1 hP1 hD1 hS1 ls hl)
theorem g_zast (hc : CT p s m args c cc nL own Ts D tys) {f : St → Option α} {cI : ClassId} {t0 k n : Nat} {i v : Int32} (hLOC : LOC C) (hk : k < N) (he : C S k = .inl (cI, n, .inl (S k))) (he2 : C (s2 S k i.toNatClampNeg (v &&& 1)) k = .inl (cI, n, .inl (s2 S k i.toNatClampNeg (v &&& 1) k))) (ht : tys[t0]? = some (cI, .boolean)) (hdg : decode cc pc = .ok (.bastore, 1)) (kk : ∀ S2 : St, GF p l e R s m args below meth c D N a C A nL cells slots Q (f S2) (pc + 1) lv rest S2) : GF p l e R s m args below meth c D N a C A nL cells slots Q (ck i n (lz (s2 S k i.toNatClampNeg (v &&& 1)) f)) pc lv (.int v :: .int i :: .ref (a k) :: rest) S :=
  fun res h H locs hP hD hS ls hl => va_zast hc.1.1 hc.1.2.1 hc.2 hP hD hS k t0 (by rw [wl_at hk, he]) ht (ck_some h).1 hdg (fun H1 locs1 hP1 hD1 hS1 => by
    have hP1 : va_P D vwCl ((wl N a (C S)).set k (a k, .inl (cI, n, .inl (upd (S k) i.toNatClampNeg (v &&& 1))))) H1 := hP1
    have hD1 : va_D A ((wl N a (C S)).set k (a k, .inl (cI, n, .inl (upd (S k) i.toNatClampNeg (v &&& 1))))) := hD1
    rw [wl_set (C' := C (s2 S k i.toNatClampNeg (v &&& 1))) hk (by rw [he2, s2_at]) (fun j hj => hLOC _ _ j (s2_ne S i.toNatClampNeg (v &&& 1) hj))] at hP1 hD1
    exact kk _ res (ck_some h).2 H1 locs1 hP1 hD1 hS1 ls hl)
theorem g_aald (hc : CT p s m args c cc nL own Ts D tys) {cO : ClassId} {t0 k n base : Nat} {i : Int32} (hk : k < N) (he : C S k = .inl (cO, n, .inr (.inr (.inr (.inr (fun i => some (a (base + i)))))))) (ht : tys[t0]? = some (cO, .array .int)) (hdg : decode cc pc = .ok (.aaload, 1)) (kk : GF p l e R s m args below meth c D N a C A nL cells slots Q x (pc + 1) lv (.ref (a (base + i.toNatClampNeg)) :: rest) S) : GF p l e R s m args below meth c D N a C A nL cells slots Q (ck i n x) pc lv (.int i :: .ref (a k) :: rest) S :=
  fun res h H locs hP hD hS ls hl => by
    have hin := (ck_some h).1
    have hlt : i.toNatClampNeg < n := Nat.not_le.mp fun q => hin (Or.inr q)
    have ha : (wl N a (C S))[k]? = some (a k, .inl (cO, n, .inr (.inr (.inr (.inr (fun i => some (a (base + i)))))))) := by rw [wl_at hk, he]
    exact W.aald (v := .ref (a (base + i.toNatClampNeg))) (ty := .array .int) hc.1.1 hc.1.2.1 (hP k _ ha) ((hc.2.2 t0 _ ht).1 n (fun j => va_rf (some (a (base + j))))) rfl (fun q => by cases q) (by show ¬ (i < 0 ∨ (arrV _ _ _).slots.size ≤ _); rw [arrV_size]; exact hin) (by show (arrV _ _ _).slots[_]? = _; rw [arrV_read _ _ hlt]; rfl) rfl rfl hdg (kk res (ck_some h).2 H locs hP hD hS ls hl)
theorem g_ialdr (hc : CT p s m args c cc nL own Ts D tys) {cI : ClassId} {t0 base cnt r n : Nat} {i : Int32} (hk : base + cnt ≤ N) (he : ∀ S : St, ∀ r, r < cnt → C S (base + r) = .inl (cI, n, .inl (S (base + r)))) (ht : tys[t0]? = some (cI, .int)) (hdg : decode cc pc = .ok (.iaload, 1)) (kk : GF p l e R s m args below meth c D N a C A nL cells slots Q x (pc + 1) lv (.int (S (base + r) i.toNatClampNeg) :: rest) S) : GF p l e R s m args below meth c D N a C A nL cells slots Q (ckn r cnt (ck i n x)) pc lv (.int i :: .ref (a (base + r)) :: rest) S :=
  fun res h H locs hP hD hS ls hl => g_iald (k := base + r) hc (by have := (ckn_some h).1; omega) (he S r (ckn_some h).1) ht hdg kk res (ckn_some h).2 H locs hP hD hS ls hl
theorem g_iastr (hc : CT p s m args c cc nL own Ts D tys) {f : St → Option α} {cI : ClassId} {t0 base cnt r n : Nat} {i v : Int32} (hLOC : LOC C) (hk : base + cnt ≤ N) (he : ∀ S : St, ∀ r, r < cnt → C S (base + r) = .inl (cI, n, .inl (S (base + r)))) (ht : tys[t0]? = some (cI, .int)) (hdg : decode cc pc = .ok (.iastore, 1)) (kk : ∀ S2 : St, GF p l e R s m args below meth c D N a C A nL cells slots Q (f S2) (pc + 1) lv rest S2) : GF p l e R s m args below meth c D N a C A nL cells slots Q (ckn r cnt (ck i n (lz (s2 S (base + r) i.toNatClampNeg v) f))) pc lv (.int v :: .int i :: .ref (a (base + r)) :: rest) S :=
  fun res h H locs hP hD hS ls hl => g_iast (k := base + r) hc hLOC (by have := (ckn_some h).1; omega) (he S r (ckn_some h).1) (he _ r (ckn_some h).1) ht hdg kk res (ckn_some h).2 H locs hP hD hS ls hl
end GR
end
section
section GC
variable {p : Program} {l : Launch} {e : Env} {R : Room} {s : State} {m : MethodId} {args : Array Value} {below : List Frame} {meth : Method} {c : Code} {D : va_G} {tys : List (ClassId × FieldType)} {N : Nat} {a : Nat → Nat} {C : St → Nat → va_E} {Ev : (Nat → Prop) → State → Prop} {A : Nat → Prop} {cc : ByteArray} {nL : Nat} {own : String} {Ts : List Cond} {cells slots : Nat} {α : Type} {Q : α → State → Prop} {x z : Option α} {pc : Nat} {lv lv' : List (Nat × Value)} {rest : List Value} {S : St}
theorem pw_blind {sz : Nat} {av : List Value} (hT : TR Ev) : FrameBlind (va_Pc av (Pw D tys N a C Ev sz S)) := fun v U g mk q => by
  obtain ⟨q0, q1, qP, qK, qD, qE⟩ := q
  exact ⟨q0, q1, qP, va_K.moved (u := U) (U := U.calling g mk v) (Vm.Alike.refl U.vm) qK, qD, hT.2 _ _ _ _ _ qE⟩
theorem pw_at {av : List Value} {H : Heap} {locs : List Loc} (hT : TR Ev) (hE : Ev A s) (hA : A = AA N a s.heap.size) (hK : va_K D vwCl tys s) (hP : va_P D vwCl (wl N a (C S)) H) (hD : va_D A (wl N a (C S))) (hS : va_S A s.heap H locs) : ∀ U : State, U.heap = H → s.WarmedH U.vm → va_Pc av (Pw D tys N a C Ev H.size S) av.toArray U := fun U hU hW => by
  subst hU
  exact ⟨rfl, rfl, hP, va_K.moved hW.alike hK, hD.weaken (fun _ _ _ _ => trivial), hT.1 A _ s U locs hE hW hS (fun q h => by rw [hA]; exact AA_sub hS.1 q h)⟩

theorem g_iret (hc : CT p s m args c cc nL own Ts D tys) {v : Int32} (hr : meth.sig.returnType = some .int) (hlocks : meth.locks = false) (hdg : decode cc pc = .ok (.ireturn, 1)) : GF p l e R s m args below meth c D N a C A nL 0 0 (fun res => MQ below (va_Qi (fun r u => (r, u) = res) (Bw D tys N a C A) A) args s 0 0 A) (some (v, S)) pc lv [.int v] S :=
  by
  intro res h H locs hP hD hS ls hl
  cases h
  exact W.iret hc.1.1 hc.1.2.1 hr (fun t ht hW => ⟨⟨v, S, rfl, rfl, by rw [ht]; exact hP, va_K.moved hW.alike hc.2, hD⟩, hS.F ht⟩) hS.2.2 hdg hlocks
theorem g_zret (hc : CT p s m args c cc nL own Ts D tys) {v : Int32} (hr : meth.sig.returnType = some .boolean) (hlocks : meth.locks = false) (hdg : decode cc pc = .ok (.ireturn, 1)) : GF p l e R s m args below meth c D N a C A nL 0 0 (fun res => MQ below (va_Qi (fun r u => (r, u) = res) (Bw D tys N a C A) A) args s 0 0 A) (rz v (some (v, S))) pc lv [.int v] S :=
  by
  intro res h H locs hP hD hS ls hl
  obtain ⟨hz, h⟩ := rz_some h
  cases h
  exact W.zret hc.1.1 hc.1.2.1 hr (by show Value.int (v &&& 1) = Value.int v; rw [hz]) (fun t ht hW => ⟨⟨v, S, rfl, rfl, by rw [ht]; exact hP, va_K.moved hW.alike hc.2, hD⟩, hS.F ht⟩) hS.2.2 hdg hlocks
theorem g_vret (hc : CT p s m args c cc nL own Ts D tys) (hr : meth.sig.returnType = none) (hlocks : meth.locks = false) (hdg : decode cc pc = .ok (.return_, 1)) : GF p l e R s m args below meth c D N a C A nL 0 0 (fun res => MQ below (va_Qv (fun u => ((0 : Int32), u) = res) (Bw D tys N a C A) A) args s 0 0 A) (some ((0 : Int32), S)) pc lv [] S :=
  by
  intro res h H locs hP hD hS ls hl
  cases h
  exact W.vret hc.1.1 hc.1.2.1 hr (fun t ht hW => ⟨⟨S, rfl, rfl, by rw [ht]; exact hP, va_K.moved hW.alike hc.2, hD⟩, hS.F ht⟩) hS.2.2 hdg hlocks
theorem g_xiret (hc : CT p s m args c cc nL own Ts D tys) {mc ms : Nat} {v : Int32} (hr : meth.sig.returnType = some .int) (hlocks : meth.locks = false) (hmc : cells ≤ mc) (hms : slots ≤ ms) (hdg : decode cc pc = .ok (.ireturn, 1)) : GF p l e R s m args below meth c D N a C A nL cells slots (fun res : RX => vx_MQ below (QXi D tys N a C A res) (XXc D tys N a C A res) args s mc ms A) (some (.inr v, S)) pc lv [.int v] S :=
  by
  intro res h H locs hP hD hS ls hl
  cases h
  refine W.widen hmc hms ?_
  exact vx_ret (W.iret hc.1.1 hc.1.2.1 hr (fun t ht hW => ⟨⟨v, S, rfl, rfl, by rw [ht]; exact hP, va_K.moved hW.alike hc.2, hD⟩, hS.F ht⟩) hS.2.2 hdg hlocks)
theorem g_xzret (hc : CT p s m args c cc nL own Ts D tys) {mc ms : Nat} {v : Int32} (hr : meth.sig.returnType = some .boolean) (hlocks : meth.locks = false) (hmc : cells ≤ mc) (hms : slots ≤ ms) (hdg : decode cc pc = .ok (.ireturn, 1)) : GF p l e R s m args below meth c D N a C A nL cells slots (fun res : RX => vx_MQ below (QXi D tys N a C A res) (XXc D tys N a C A res) args s mc ms A) (rz v (some (.inr v, S))) pc lv [.int v] S :=
  by
  intro res h H locs hP hD hS ls hl
  obtain ⟨hz, h⟩ := rz_some h
  cases h
  refine W.widen hmc hms ?_
  exact vx_ret (W.zret hc.1.1 hc.1.2.1 hr (by show Value.int (v &&& 1) = Value.int v; rw [hz]) (fun t ht hW => ⟨⟨v, S, rfl, rfl, by rw [ht]; exact hP, va_K.moved hW.alike hc.2, hD⟩, hS.F ht⟩) hS.2.2 hdg hlocks)
theorem g_xvret (hc : CT p s m args c cc nL own Ts D tys) {mc ms : Nat} (hr : meth.sig.returnType = none) (hlocks : meth.locks = false) (hmc : cells ≤ mc) (hms : slots ≤ ms) (hdg : decode cc pc = .ok (.return_, 1)) : GF p l e R s m args below meth c D N a C A nL cells slots (fun res : RX => vx_MQ below (QXv D tys N a C A res) (XXc D tys N a C A res) args s mc ms A) (some (.inr (0 : Int32), S)) pc lv [] S :=
  by
  intro res h H locs hP hD hS ls hl
  cases h
  refine W.widen hmc hms ?_
  exact vx_ret (W.vret hc.1.1 hc.1.2.1 hr (fun t ht hW => ⟨⟨S, rfl, rfl, by rw [ht]; exact hP, va_K.moved hW.alike hc.2, hD⟩, hS.F ht⟩) hS.2.2 hdg hlocks)
theorem g_corei {y0 : Option (Int32 × St)} {f : Int32 → St → Option α} {st : List Value} (hA : A = AA N a s.heap.size) (hrun : ∀ (H : Heap) (locs : List Loc) (ls : Array Slot) (q : Int32 × St), va_P D vwCl (wl N a (C S)) H → va_D A (wl N a (C S)) → va_S A s.heap H locs → lv_has ls nL lv → y0 = some q → ∃ av : Array Value, va_Run p l e R s m args below meth c H locs cells slots 0 0 (F0 m pc ls st) rest (va_Qi (fun r u => (r, u) = q) (Bw D tys N a C (AA N a H.size)) (AA N a H.size) av) (AA N a H.size)) (kk : ∀ (r : Int32) (S2 : St), GF p l e R s m args below meth c D N a C A nL cells slots Q (f r S2) (pc + 3) lv (.int r :: rest) S2) : GF p l e R s m args below meth c D N a C A nL cells slots Q (cl y0 f) pc lv st S := by
  intro res h H locs hP hD hS ls hl
  cases hy : y0 with
  | none => rw [hy] at h; cases h
  | some q =>
    rw [hy] at h
    obtain ⟨av, hr⟩ := hrun H locs ls q hP hD hS hl hy
    have hsub : ∀ z, AA N a H.size z → A z := fun z h => by rw [hA]; exact AA_sub hS.1 z h
    refine va_calli hr hS (fun z _ h => hsub z h) hsub (fun r u t H1 locs1 ht hvm hpost hB hz hk hS1 => ?_)
    subst hpost
    obtain ⟨hP1, hK1, hD1⟩ := hB
    rw [ht] at hP1
    exact kk r u res h H1 locs1 hP1 (hD1.weaken (fun _ _ _ h => hsub _ h)) hS1 ls hl
theorem g_callVi (hc : CT p s m args c cc nL own Ts D tys) {y0 : Option (Int32 × St)} {f : Int32 → St → Option α} {st As : List Value} {y : MethodName} {ws : List Cond} {rm : Room} {index n maxL k ci : Nat} {bytes : ByteArray} {ret : Option FieldType} {q0 : vw_C} {fs : List Value} (hE : Ev A s) (hT : TR Ev) (hA : A = AA N a s.heap.size) (hM : ∀ q, y0 = some q → Ki l y ws rm D tys N a C Ev (.ref (a k) :: As) S q) (cw : CallW R s args own q0.1 index y bytes maxL ret ws rm 0 0 n) (hk : k < N) (he : C S k = .inr (ci, fs)) (hcl : vwCl[ci]? = some q0) (hn : As.length = n) (hst : st = As.reverse ++ .ref (a k) :: rest) (hcat : (rest.map fun v => v.category).sum ≤ 8) (hdg : decode cc pc = .ok (.invokevirtual index, 3)) (hf : cells + 0 ≤ R.cells ∧ slots + 0 ≤ R.slots) (kk : ∀ (r : Int32) (S2 : St), GF p l e R s m args below meth c D N a C A nL cells slots Q (f r S2) (pc + 3) lv (.int r :: rest) S2) : GF p l e R s m args below meth c D N a C A nL cells slots Q (cl y0 f) pc lv st S :=
  g_corei hA (fun H locs ls q hP hD hS hl hy => ⟨_, va_runV (g := F0 m pc ls st) hc.1 (hM q hy H.size) cw ⟨pw_blind hT, va_recv hc.2 hP hcl (by rw [wl_at hk, he]), pw_at hT hE hA hc.2 hP hD hS⟩ rfl hn hl.1 hst (lv_room (ls := ls) (rest := st) hcat) hdg hf⟩) kk
theorem g_callSi (hc : CT p s m args c cc nL own Ts D tys) {y0 : Option (Int32 × St)} {f : Int32 → St → Option α} {st As : List Value} {y : MethodName} {ws : List Cond} {rm : Room} {index n maxL : Nat} {bytes : ByteArray} {ret : Option FieldType} (hE : Ev A s) (hT : TR Ev) (hA : A = AA N a s.heap.size) (hM : ∀ q, y0 = some q → Ki l y ws rm D tys N a C Ev As S q) (cw : CallB R s args own index y bytes maxL ret ws rm 0 0 n ∧ (Cond.static y).before args s = true) (hn : As.length = n) (hst : st = As.reverse ++ rest) (hcat : (rest.map fun v => v.category).sum ≤ 8) (hdg : decode cc pc = .ok (.invokestatic index, 3)) (hf : cells + 0 ≤ R.cells ∧ slots + 0 ≤ R.slots) (kk : ∀ (r : Int32) (S2 : St), GF p l e R s m args below meth c D N a C A nL cells slots Q (f r S2) (pc + 3) lv (.int r :: rest) S2) : GF p l e R s m args below meth c D N a C A nL cells slots Q (cl y0 f) pc lv st S :=
  g_corei hA (fun H locs ls q hP hD hS hl hy => ⟨_, va_runS (g := F0 m pc ls st) hc.1 (hM q hy H.size) cw ⟨pw_blind hT, pw_at hT hE hA hc.2 hP hD hS⟩ rfl hn hl.1 hst (lv_room (ls := ls) (rest := st) hcat) hdg hf⟩) kk
theorem g_callNi (hc : CT p s m args c cc nL own Ts D tys) {y0 : Option (Int32 × St)} {f : Int32 → St → Option α} {st As : List Value} {y : MethodName} {ws : List Cond} {rm : Room} {index n maxL : Nat} {bytes : ByteArray} {ret : Option FieldType} {host : String} (hE : Ev A s) (hT : TR Ev) (hA : A = AA N a s.heap.size) (hM : ∀ q, y0 = some q → Ki l y ws rm D tys N a C Ev As S q) (cw : va_CN R s args own index y host bytes maxL ret ws rm 0 0 n ∧ (Cond.static y).before args s = true ∧ True) (hn : As.length = n) (hst : st = As.reverse ++ rest) (hcat : (rest.map fun v => v.category).sum ≤ 8) (hdg : decode cc pc = .ok (.invokestatic index, 3)) (hf : cells + 0 ≤ R.cells ∧ slots + 0 ≤ R.slots) (kk : ∀ (r : Int32) (S2 : St), GF p l e R s m args below meth c D N a C A nL cells slots Q (f r S2) (pc + 3) lv (.int r :: rest) S2) : GF p l e R s m args below meth c D N a C A nL cells slots Q (cl y0 f) pc lv st S :=
  g_corei hA (fun H locs ls q hP hD hS hl hy => ⟨_, va_runSN (g := F0 m pc ls st) hc.1 (hM q hy H.size) cw ⟨pw_blind hT, pw_at hT hE hA hc.2 hP hD hS⟩ rfl hn hl.1 hst (lv_room (ls := ls) (rest := st) hcat) hdg hf⟩) kk
theorem g_corev {y0 : Option (Int32 × St)} {f : Int32 → St → Option α} {st : List Value} (hA : A = AA N a s.heap.size) (hrun : ∀ (H : Heap) (locs : List Loc) (ls : Array Slot) (q : Int32 × St), va_P D vwCl (wl N a (C S)) H → va_D A (wl N a (C S)) → va_S A s.heap H locs → lv_has ls nL lv → y0 = some q → ∃ av : Array Value, va_Run p l e R s m args below meth c H locs cells slots 0 0 (F0 m pc ls st) rest (va_Qv (fun u => ((0 : Int32), u) = q) (Bw D tys N a C (AA N a H.size)) (AA N a H.size) av) (AA N a H.size)) (kk : ∀ (S2 : St), GF p l e R s m args below meth c D N a C A nL cells slots Q (f 0 S2) (pc + 3) lv rest S2) : GF p l e R s m args below meth c D N a C A nL cells slots Q (cl y0 f) pc lv st S := by
  intro res h H locs hP hD hS ls hl
  cases hy : y0 with
  | none => rw [hy] at h; cases h
  | some q =>
    rw [hy] at h
    obtain ⟨av, hr⟩ := hrun H locs ls q hP hD hS hl hy
    have hsub : ∀ z, AA N a H.size z → A z := fun z h => by rw [hA]; exact AA_sub hS.1 z h
    refine va_callv hr hS (fun z _ h => hsub z h) hsub (fun u t H1 locs1 ht hvm hpost hB hz hk hS1 => ?_)
    subst hpost
    obtain ⟨hP1, hK1, hD1⟩ := hB
    rw [ht] at hP1
    exact kk u res h H1 locs1 hP1 (hD1.weaken (fun _ _ _ h => hsub _ h)) hS1 ls hl
theorem g_callVv (hc : CT p s m args c cc nL own Ts D tys) {y0 : Option (Int32 × St)} {f : Int32 → St → Option α} {st As : List Value} {y : MethodName} {ws : List Cond} {rm : Room} {index n maxL k ci : Nat} {bytes : ByteArray} {ret : Option FieldType} {q0 : vw_C} {fs : List Value} (hE : Ev A s) (hT : TR Ev) (hA : A = AA N a s.heap.size) (hM : ∀ q, y0 = some q → Kv l y ws rm D tys N a C Ev (.ref (a k) :: As) S q) (cw : CallW R s args own q0.1 index y bytes maxL ret ws rm 0 0 n) (hk : k < N) (he : C S k = .inr (ci, fs)) (hcl : vwCl[ci]? = some q0) (hn : As.length = n) (hst : st = As.reverse ++ .ref (a k) :: rest) (hcat : (rest.map fun v => v.category).sum ≤ 8) (hdg : decode cc pc = .ok (.invokevirtual index, 3)) (hf : cells + 0 ≤ R.cells ∧ slots + 0 ≤ R.slots) (kk : ∀ (S2 : St), GF p l e R s m args below meth c D N a C A nL cells slots Q (f 0 S2) (pc + 3) lv rest S2) : GF p l e R s m args below meth c D N a C A nL cells slots Q (cl y0 f) pc lv st S :=
  g_corev hA (fun H locs ls q hP hD hS hl hy => ⟨_, va_runV (g := F0 m pc ls st) hc.1 (hM q hy H.size) cw ⟨pw_blind hT, va_recv hc.2 hP hcl (by rw [wl_at hk, he]), pw_at hT hE hA hc.2 hP hD hS⟩ rfl hn hl.1 hst (lv_room (ls := ls) (rest := st) hcat) hdg hf⟩) kk
theorem g_callSv (hc : CT p s m args c cc nL own Ts D tys) {y0 : Option (Int32 × St)} {f : Int32 → St → Option α} {st As : List Value} {y : MethodName} {ws : List Cond} {rm : Room} {index n maxL : Nat} {bytes : ByteArray} {ret : Option FieldType} (hE : Ev A s) (hT : TR Ev) (hA : A = AA N a s.heap.size) (hM : ∀ q, y0 = some q → Kv l y ws rm D tys N a C Ev As S q) (cw : CallB R s args own index y bytes maxL ret ws rm 0 0 n ∧ (Cond.static y).before args s = true) (hn : As.length = n) (hst : st = As.reverse ++ rest) (hcat : (rest.map fun v => v.category).sum ≤ 8) (hdg : decode cc pc = .ok (.invokestatic index, 3)) (hf : cells + 0 ≤ R.cells ∧ slots + 0 ≤ R.slots) (kk : ∀ (S2 : St), GF p l e R s m args below meth c D N a C A nL cells slots Q (f 0 S2) (pc + 3) lv rest S2) : GF p l e R s m args below meth c D N a C A nL cells slots Q (cl y0 f) pc lv st S :=
  g_corev hA (fun H locs ls q hP hD hS hl hy => ⟨_, va_runS (g := F0 m pc ls st) hc.1 (hM q hy H.size) cw ⟨pw_blind hT, pw_at hT hE hA hc.2 hP hD hS⟩ rfl hn hl.1 hst (lv_room (ls := ls) (rest := st) hcat) hdg hf⟩) kk
theorem g_callNv (hc : CT p s m args c cc nL own Ts D tys) {y0 : Option (Int32 × St)} {f : Int32 → St → Option α} {st As : List Value} {y : MethodName} {ws : List Cond} {rm : Room} {index n maxL : Nat} {bytes : ByteArray} {ret : Option FieldType} {host : String} (hE : Ev A s) (hT : TR Ev) (hA : A = AA N a s.heap.size) (hM : ∀ q, y0 = some q → Kv l y ws rm D tys N a C Ev As S q) (cw : va_CN R s args own index y host bytes maxL ret ws rm 0 0 n ∧ (Cond.static y).before args s = true ∧ True) (hn : As.length = n) (hst : st = As.reverse ++ rest) (hcat : (rest.map fun v => v.category).sum ≤ 8) (hdg : decode cc pc = .ok (.invokestatic index, 3)) (hf : cells + 0 ≤ R.cells ∧ slots + 0 ≤ R.slots) (kk : ∀ (S2 : St), GF p l e R s m args below meth c D N a C A nL cells slots Q (f 0 S2) (pc + 3) lv rest S2) : GF p l e R s m args below meth c D N a C A nL cells slots Q (cl y0 f) pc lv st S :=
  g_corev hA (fun H locs ls q hP hD hS hl hy => ⟨_, va_runSN (g := F0 m pc ls st) hc.1 (hM q hy H.size) cw ⟨pw_blind hT, pw_at hT hE hA hc.2 hP hD hS⟩ rfl hn hl.1 hst (lv_room (ls := ls) (rest := st) hcat) hdg hf⟩) kk
end GC
section GX
variable {p : Program} {l : Launch} {e : Env} {R : Room} {s : State} {m : MethodId} {args : Array Value} {below : List Frame} {meth : Method} {c : Code} {D : va_G} {tys : List (ClassId × FieldType)} {N : Nat} {a : Nat → Nat} {C : St → Nat → va_E} {Ev : (Nat → Prop) → State → Prop} {A : Nat → Prop} {cc : ByteArray} {nL : Nat} {own : String} {Ts : List Cond} {cells slots : Nat} {mc ms : Nat} {pc : Nat} {lv lv' : List (Nat × Value)} {rest : List Value} {S : St}
theorem g_xcoreIi (hc : CT p s m args c cc nL own Ts D tys) (hout : ∀ z ∈ c.exceptionTable.toList, False) (hlocks : meth.locks = false) {rm : Room} {y0 : Option RX} {f : Int32 → St → Option RX} {st : List Value} (hA : A = AA N a s.heap.size) (hmc : cells + rm.cells ≤ mc) (hms : slots + rm.slots ≤ ms) (hrun : ∀ (H : Heap) (locs : List Loc) (ls : Array Slot) (q : RX), va_P D vwCl (wl N a (C S)) H → va_D A (wl N a (C S)) → va_S A s.heap H locs → lv_has ls nL lv → y0 = some q → ∃ av : Array Value, vx_Run p l e R s m args below meth c H locs cells slots rm.cells rm.slots (F0 m pc ls st) rest (QXi D tys N a C (AA N a H.size) q av) (XXc D tys N a C (AA N a H.size) q) (AA N a H.size)) (kk : ∀ (r : Int32) (S2 : St), GF p l e R s m args below meth c D N a C A nL (cells + rm.cells) (slots + rm.slots) (fun res : RX => vx_MQ below (QXi D tys N a C A res) (XXc D tys N a C A res) args s mc ms A) (f r S2) (pc + 3) lv (.int r :: rest) S2) : GF p l e R s m args below meth c D N a C A nL cells slots (fun res : RX => vx_MQ below (QXi D tys N a C A res) (XXc D tys N a C A res) args s mc ms A) (cx y0 f) pc lv st S := by
  intro res h H locs hP hD hS ls hl
  cases hy : y0 with
  | none => rw [hy] at h; cases h
  | some q =>
    rw [hy] at h
    obtain ⟨av, hr⟩ := hrun H locs ls q hP hD hS hl hy
    have hsub : ∀ z, AA N a H.size z → A z := fun z h => by rw [hA]; exact AA_sub hS.1 z h
    refine vx_calli hr hS (fun z _ h => hsub z h) hsub (fun z _ h => hsub z h) (fun E ce q9 u t H1 locs1 ht hvm _ hB hz hk hS1 hce hcv hcl => ?_) (fun r u t H1 locs1 ht hvm hpost hB hz hk hS1 => ?_)
    · obtain ⟨hpost, hP1, hK1, hD1⟩ := hB
      subst hpost
      cases h
      rw [ht] at hP1
      exact vx_out (fun z hz => (hout z hz).elim) hlocks hce hcv hcl (fun t2 ht2 hvm2 => ⟨u, trivial, ⟨rfl, by rw [ht2]; exact hP1, va_K.moved hvm2 hc.2, hD1.weaken (fun _ _ _ h => hsub _ h)⟩, hS1.F ht2⟩) hS1.2.2 hmc hms
    · subst hpost
      obtain ⟨hP1, hK1, hD1⟩ := hB
      rw [ht] at hP1
      exact kk r u res h H1 locs1 hP1 (hD1.weaken (fun _ _ _ h => hsub _ h)) hS1 ls hl
theorem g_xcallVIi (hc : CT p s m args c cc nL own Ts D tys) (hout : ∀ z ∈ c.exceptionTable.toList, False) (hlocks : meth.locks = false) {y0 : Option RX} {f : Int32 → St → Option RX} {st As : List Value} {y : MethodName} {ws : List Cond} {rm : Room} {index n maxL k ci : Nat} {bytes : ByteArray} {ret : Option FieldType} {q0 : vw_C} {fs : List Value} (hE : Ev A s) (hT : TR Ev) (hA : A = AA N a s.heap.size) (hmc : cells + rm.cells ≤ mc) (hms : slots + rm.slots ≤ ms) (hM : ∀ q, y0 = some q → Xi l y ws rm D tys N a C Ev (.ref (a k) :: As) S q) (cw : CallW R s args own q0.1 index y bytes maxL ret ws rm rm.cells rm.slots n) (hk : k < N) (he : C S k = .inr (ci, fs)) (hcl : vwCl[ci]? = some q0) (hn : As.length = n) (hst : st = As.reverse ++ .ref (a k) :: rest) (hcat : (rest.map fun v => v.category).sum ≤ 8) (hdg : decode cc pc = .ok (.invokevirtual index, 3)) (hf : cells + rm.cells ≤ R.cells ∧ slots + rm.slots ≤ R.slots) (kk : ∀ (r : Int32) (S2 : St), GF p l e R s m args below meth c D N a C A nL (cells + rm.cells) (slots + rm.slots) (fun res : RX => vx_MQ below (QXi D tys N a C A res) (XXc D tys N a C A res) args s mc ms A) (f r S2) (pc + 3) lv (.int r :: rest) S2) : GF p l e R s m args below meth c D N a C A nL cells slots (fun res : RX => vx_MQ below (QXi D tys N a C A res) (XXc D tys N a C A res) args s mc ms A) (cx y0 f) pc lv st S :=
  g_xcoreIi hc hout hlocks hA hmc hms (fun H locs ls q hP hD hS hl hy => ⟨_, vx_runV (g := F0 m pc ls st) hc.1 (hM q hy H.size) cw ⟨pw_blind hT, va_recv hc.2 hP hcl (by rw [wl_at hk, he]), pw_at hT hE hA hc.2 hP hD hS⟩ rfl hn hl.1 hst (lv_room (ls := ls) (rest := st) hcat) hdg hf⟩) kk
theorem g_xcallSIi (hc : CT p s m args c cc nL own Ts D tys) (hout : ∀ z ∈ c.exceptionTable.toList, False) (hlocks : meth.locks = false) {y0 : Option RX} {f : Int32 → St → Option RX} {st As : List Value} {y : MethodName} {ws : List Cond} {rm : Room} {index n maxL : Nat} {bytes : ByteArray} {ret : Option FieldType} (hE : Ev A s) (hT : TR Ev) (hA : A = AA N a s.heap.size) (hmc : cells + rm.cells ≤ mc) (hms : slots + rm.slots ≤ ms) (hM : ∀ q, y0 = some q → Xi l y ws rm D tys N a C Ev As S q) (cw : CallB R s args own index y bytes maxL ret ws rm rm.cells rm.slots n ∧ (Cond.static y).before args s = true) (hn : As.length = n) (hst : st = As.reverse ++ rest) (hcat : (rest.map fun v => v.category).sum ≤ 8) (hdg : decode cc pc = .ok (.invokestatic index, 3)) (hf : cells + rm.cells ≤ R.cells ∧ slots + rm.slots ≤ R.slots) (kk : ∀ (r : Int32) (S2 : St), GF p l e R s m args below meth c D N a C A nL (cells + rm.cells) (slots + rm.slots) (fun res : RX => vx_MQ below (QXi D tys N a C A res) (XXc D tys N a C A res) args s mc ms A) (f r S2) (pc + 3) lv (.int r :: rest) S2) : GF p l e R s m args below meth c D N a C A nL cells slots (fun res : RX => vx_MQ below (QXi D tys N a C A res) (XXc D tys N a C A res) args s mc ms A) (cx y0 f) pc lv st S :=
  g_xcoreIi hc hout hlocks hA hmc hms (fun H locs ls q hP hD hS hl hy => ⟨_, vx_runS (g := F0 m pc ls st) hc.1 (hM q hy H.size) cw ⟨pw_blind hT, pw_at hT hE hA hc.2 hP hD hS⟩ rfl hn hl.1 hst (lv_room (ls := ls) (rest := st) hcat) hdg hf⟩) kk
theorem g_xcoreIv (hc : CT p s m args c cc nL own Ts D tys) (hout : ∀ z ∈ c.exceptionTable.toList, False) (hlocks : meth.locks = false) {rm : Room} {y0 : Option RX} {f : Int32 → St → Option RX} {st : List Value} (hA : A = AA N a s.heap.size) (hmc : cells + rm.cells ≤ mc) (hms : slots + rm.slots ≤ ms) (hrun : ∀ (H : Heap) (locs : List Loc) (ls : Array Slot) (q : RX), va_P D vwCl (wl N a (C S)) H → va_D A (wl N a (C S)) → va_S A s.heap H locs → lv_has ls nL lv → y0 = some q → ∃ av : Array Value, vx_Run p l e R s m args below meth c H locs cells slots rm.cells rm.slots (F0 m pc ls st) rest (QXv D tys N a C (AA N a H.size) q av) (XXc D tys N a C (AA N a H.size) q) (AA N a H.size)) (kk : ∀ (S2 : St), GF p l e R s m args below meth c D N a C A nL (cells + rm.cells) (slots + rm.slots) (fun res : RX => vx_MQ below (QXi D tys N a C A res) (XXc D tys N a C A res) args s mc ms A) (f 0 S2) (pc + 3) lv rest S2) : GF p l e R s m args below meth c D N a C A nL cells slots (fun res : RX => vx_MQ below (QXi D tys N a C A res) (XXc D tys N a C A res) args s mc ms A) (cx y0 f) pc lv st S := by
  intro res h H locs hP hD hS ls hl
  cases hy : y0 with
  | none => rw [hy] at h; cases h
  | some q =>
    rw [hy] at h
    obtain ⟨av, hr⟩ := hrun H locs ls q hP hD hS hl hy
    have hsub : ∀ z, AA N a H.size z → A z := fun z h => by rw [hA]; exact AA_sub hS.1 z h
    refine vx_callv hr hS (fun z _ h => hsub z h) hsub (fun z _ h => hsub z h) (fun E ce q9 u t H1 locs1 ht hvm _ hB hz hk hS1 hce hcv hcl => ?_) (fun u t H1 locs1 ht hvm hpost hB hz hk hS1 => ?_)
    · obtain ⟨hpost, hP1, hK1, hD1⟩ := hB
      subst hpost
      cases h
      rw [ht] at hP1
      exact vx_out (fun z hz => (hout z hz).elim) hlocks hce hcv hcl (fun t2 ht2 hvm2 => ⟨u, trivial, ⟨rfl, by rw [ht2]; exact hP1, va_K.moved hvm2 hc.2, hD1.weaken (fun _ _ _ h => hsub _ h)⟩, hS1.F ht2⟩) hS1.2.2 hmc hms
    · subst hpost
      obtain ⟨hP1, hK1, hD1⟩ := hB
      rw [ht] at hP1
      exact kk u res h H1 locs1 hP1 (hD1.weaken (fun _ _ _ h => hsub _ h)) hS1 ls hl
theorem g_xcallVIv (hc : CT p s m args c cc nL own Ts D tys) (hout : ∀ z ∈ c.exceptionTable.toList, False) (hlocks : meth.locks = false) {y0 : Option RX} {f : Int32 → St → Option RX} {st As : List Value} {y : MethodName} {ws : List Cond} {rm : Room} {index n maxL k ci : Nat} {bytes : ByteArray} {ret : Option FieldType} {q0 : vw_C} {fs : List Value} (hE : Ev A s) (hT : TR Ev) (hA : A = AA N a s.heap.size) (hmc : cells + rm.cells ≤ mc) (hms : slots + rm.slots ≤ ms) (hM : ∀ q, y0 = some q → Xv l y ws rm D tys N a C Ev (.ref (a k) :: As) S q) (cw : CallW R s args own q0.1 index y bytes maxL ret ws rm rm.cells rm.slots n) (hk : k < N) (he : C S k = .inr (ci, fs)) (hcl : vwCl[ci]? = some q0) (hn : As.length = n) (hst : st = As.reverse ++ .ref (a k) :: rest) (hcat : (rest.map fun v => v.category).sum ≤ 8) (hdg : decode cc pc = .ok (.invokevirtual index, 3)) (hf : cells + rm.cells ≤ R.cells ∧ slots + rm.slots ≤ R.slots) (kk : ∀ (S2 : St), GF p l e R s m args below meth c D N a C A nL (cells + rm.cells) (slots + rm.slots) (fun res : RX => vx_MQ below (QXi D tys N a C A res) (XXc D tys N a C A res) args s mc ms A) (f 0 S2) (pc + 3) lv rest S2) : GF p l e R s m args below meth c D N a C A nL cells slots (fun res : RX => vx_MQ below (QXi D tys N a C A res) (XXc D tys N a C A res) args s mc ms A) (cx y0 f) pc lv st S :=
  g_xcoreIv hc hout hlocks hA hmc hms (fun H locs ls q hP hD hS hl hy => ⟨_, vx_runV (g := F0 m pc ls st) hc.1 (hM q hy H.size) cw ⟨pw_blind hT, va_recv hc.2 hP hcl (by rw [wl_at hk, he]), pw_at hT hE hA hc.2 hP hD hS⟩ rfl hn hl.1 hst (lv_room (ls := ls) (rest := st) hcat) hdg hf⟩) kk
theorem g_xcallSIv (hc : CT p s m args c cc nL own Ts D tys) (hout : ∀ z ∈ c.exceptionTable.toList, False) (hlocks : meth.locks = false) {y0 : Option RX} {f : Int32 → St → Option RX} {st As : List Value} {y : MethodName} {ws : List Cond} {rm : Room} {index n maxL : Nat} {bytes : ByteArray} {ret : Option FieldType} (hE : Ev A s) (hT : TR Ev) (hA : A = AA N a s.heap.size) (hmc : cells + rm.cells ≤ mc) (hms : slots + rm.slots ≤ ms) (hM : ∀ q, y0 = some q → Xv l y ws rm D tys N a C Ev As S q) (cw : CallB R s args own index y bytes maxL ret ws rm rm.cells rm.slots n ∧ (Cond.static y).before args s = true) (hn : As.length = n) (hst : st = As.reverse ++ rest) (hcat : (rest.map fun v => v.category).sum ≤ 8) (hdg : decode cc pc = .ok (.invokestatic index, 3)) (hf : cells + rm.cells ≤ R.cells ∧ slots + rm.slots ≤ R.slots) (kk : ∀ (S2 : St), GF p l e R s m args below meth c D N a C A nL (cells + rm.cells) (slots + rm.slots) (fun res : RX => vx_MQ below (QXi D tys N a C A res) (XXc D tys N a C A res) args s mc ms A) (f 0 S2) (pc + 3) lv rest S2) : GF p l e R s m args below meth c D N a C A nL cells slots (fun res : RX => vx_MQ below (QXi D tys N a C A res) (XXc D tys N a C A res) args s mc ms A) (cx y0 f) pc lv st S :=
  g_xcoreIv hc hout hlocks hA hmc hms (fun H locs ls q hP hD hS hl hy => ⟨_, vx_runS (g := F0 m pc ls st) hc.1 (hM q hy H.size) cw ⟨pw_blind hT, pw_at hT hE hA hc.2 hP hD hS⟩ rfl hn hl.1 hst (lv_room (ls := ls) (rest := st) hcat) hdg hf⟩) kk
theorem g_xcoreVi (hc : CT p s m args c cc nL own Ts D tys) (hout : ∀ z ∈ c.exceptionTable.toList, False) (hlocks : meth.locks = false) {rm : Room} {y0 : Option RX} {f : Int32 → St → Option RX} {st : List Value} (hA : A = AA N a s.heap.size) (hmc : cells + rm.cells ≤ mc) (hms : slots + rm.slots ≤ ms) (hrun : ∀ (H : Heap) (locs : List Loc) (ls : Array Slot) (q : RX), va_P D vwCl (wl N a (C S)) H → va_D A (wl N a (C S)) → va_S A s.heap H locs → lv_has ls nL lv → y0 = some q → ∃ av : Array Value, vx_Run p l e R s m args below meth c H locs cells slots rm.cells rm.slots (F0 m pc ls st) rest (QXi D tys N a C (AA N a H.size) q av) (XXc D tys N a C (AA N a H.size) q) (AA N a H.size)) (kk : ∀ (r : Int32) (S2 : St), GF p l e R s m args below meth c D N a C A nL (cells + rm.cells) (slots + rm.slots) (fun res : RX => vx_MQ below (QXv D tys N a C A res) (XXc D tys N a C A res) args s mc ms A) (f r S2) (pc + 3) lv (.int r :: rest) S2) : GF p l e R s m args below meth c D N a C A nL cells slots (fun res : RX => vx_MQ below (QXv D tys N a C A res) (XXc D tys N a C A res) args s mc ms A) (cx y0 f) pc lv st S := by
  intro res h H locs hP hD hS ls hl
  cases hy : y0 with
  | none => rw [hy] at h; cases h
  | some q =>
    rw [hy] at h
    obtain ⟨av, hr⟩ := hrun H locs ls q hP hD hS hl hy
    have hsub : ∀ z, AA N a H.size z → A z := fun z h => by rw [hA]; exact AA_sub hS.1 z h
    refine vx_calli hr hS (fun z _ h => hsub z h) hsub (fun z _ h => hsub z h) (fun E ce q9 u t H1 locs1 ht hvm _ hB hz hk hS1 hce hcv hcl => ?_) (fun r u t H1 locs1 ht hvm hpost hB hz hk hS1 => ?_)
    · obtain ⟨hpost, hP1, hK1, hD1⟩ := hB
      subst hpost
      cases h
      rw [ht] at hP1
      exact vx_out (fun z hz => (hout z hz).elim) hlocks hce hcv hcl (fun t2 ht2 hvm2 => ⟨u, trivial, ⟨rfl, by rw [ht2]; exact hP1, va_K.moved hvm2 hc.2, hD1.weaken (fun _ _ _ h => hsub _ h)⟩, hS1.F ht2⟩) hS1.2.2 hmc hms
    · subst hpost
      obtain ⟨hP1, hK1, hD1⟩ := hB
      rw [ht] at hP1
      exact kk r u res h H1 locs1 hP1 (hD1.weaken (fun _ _ _ h => hsub _ h)) hS1 ls hl
theorem g_xcallVVi (hc : CT p s m args c cc nL own Ts D tys) (hout : ∀ z ∈ c.exceptionTable.toList, False) (hlocks : meth.locks = false) {y0 : Option RX} {f : Int32 → St → Option RX} {st As : List Value} {y : MethodName} {ws : List Cond} {rm : Room} {index n maxL k ci : Nat} {bytes : ByteArray} {ret : Option FieldType} {q0 : vw_C} {fs : List Value} (hE : Ev A s) (hT : TR Ev) (hA : A = AA N a s.heap.size) (hmc : cells + rm.cells ≤ mc) (hms : slots + rm.slots ≤ ms) (hM : ∀ q, y0 = some q → Xi l y ws rm D tys N a C Ev (.ref (a k) :: As) S q) (cw : CallW R s args own q0.1 index y bytes maxL ret ws rm rm.cells rm.slots n) (hk : k < N) (he : C S k = .inr (ci, fs)) (hcl : vwCl[ci]? = some q0) (hn : As.length = n) (hst : st = As.reverse ++ .ref (a k) :: rest) (hcat : (rest.map fun v => v.category).sum ≤ 8) (hdg : decode cc pc = .ok (.invokevirtual index, 3)) (hf : cells + rm.cells ≤ R.cells ∧ slots + rm.slots ≤ R.slots) (kk : ∀ (r : Int32) (S2 : St), GF p l e R s m args below meth c D N a C A nL (cells + rm.cells) (slots + rm.slots) (fun res : RX => vx_MQ below (QXv D tys N a C A res) (XXc D tys N a C A res) args s mc ms A) (f r S2) (pc + 3) lv (.int r :: rest) S2) : GF p l e R s m args below meth c D N a C A nL cells slots (fun res : RX => vx_MQ below (QXv D tys N a C A res) (XXc D tys N a C A res) args s mc ms A) (cx y0 f) pc lv st S :=
  g_xcoreVi hc hout hlocks hA hmc hms (fun H locs ls q hP hD hS hl hy => ⟨_, vx_runV (g := F0 m pc ls st) hc.1 (hM q hy H.size) cw ⟨pw_blind hT, va_recv hc.2 hP hcl (by rw [wl_at hk, he]), pw_at hT hE hA hc.2 hP hD hS⟩ rfl hn hl.1 hst (lv_room (ls := ls) (rest := st) hcat) hdg hf⟩) kk
theorem g_xcallSVi (hc : CT p s m args c cc nL own Ts D tys) (hout : ∀ z ∈ c.exceptionTable.toList, False) (hlocks : meth.locks = false) {y0 : Option RX} {f : Int32 → St → Option RX} {st As : List Value} {y : MethodName} {ws : List Cond} {rm : Room} {index n maxL : Nat} {bytes : ByteArray} {ret : Option FieldType} (hE : Ev A s) (hT : TR Ev) (hA : A = AA N a s.heap.size) (hmc : cells + rm.cells ≤ mc) (hms : slots + rm.slots ≤ ms) (hM : ∀ q, y0 = some q → Xi l y ws rm D tys N a C Ev As S q) (cw : CallB R s args own index y bytes maxL ret ws rm rm.cells rm.slots n ∧ (Cond.static y).before args s = true) (hn : As.length = n) (hst : st = As.reverse ++ rest) (hcat : (rest.map fun v => v.category).sum ≤ 8) (hdg : decode cc pc = .ok (.invokestatic index, 3)) (hf : cells + rm.cells ≤ R.cells ∧ slots + rm.slots ≤ R.slots) (kk : ∀ (r : Int32) (S2 : St), GF p l e R s m args below meth c D N a C A nL (cells + rm.cells) (slots + rm.slots) (fun res : RX => vx_MQ below (QXv D tys N a C A res) (XXc D tys N a C A res) args s mc ms A) (f r S2) (pc + 3) lv (.int r :: rest) S2) : GF p l e R s m args below meth c D N a C A nL cells slots (fun res : RX => vx_MQ below (QXv D tys N a C A res) (XXc D tys N a C A res) args s mc ms A) (cx y0 f) pc lv st S :=
  g_xcoreVi hc hout hlocks hA hmc hms (fun H locs ls q hP hD hS hl hy => ⟨_, vx_runS (g := F0 m pc ls st) hc.1 (hM q hy H.size) cw ⟨pw_blind hT, pw_at hT hE hA hc.2 hP hD hS⟩ rfl hn hl.1 hst (lv_room (ls := ls) (rest := st) hcat) hdg hf⟩) kk
theorem g_xcoreVv (hc : CT p s m args c cc nL own Ts D tys) (hout : ∀ z ∈ c.exceptionTable.toList, False) (hlocks : meth.locks = false) {rm : Room} {y0 : Option RX} {f : Int32 → St → Option RX} {st : List Value} (hA : A = AA N a s.heap.size) (hmc : cells + rm.cells ≤ mc) (hms : slots + rm.slots ≤ ms) (hrun : ∀ (H : Heap) (locs : List Loc) (ls : Array Slot) (q : RX), va_P D vwCl (wl N a (C S)) H → va_D A (wl N a (C S)) → va_S A s.heap H locs → lv_has ls nL lv → y0 = some q → ∃ av : Array Value, vx_Run p l e R s m args below meth c H locs cells slots rm.cells rm.slots (F0 m pc ls st) rest (QXv D tys N a C (AA N a H.size) q av) (XXc D tys N a C (AA N a H.size) q) (AA N a H.size)) (kk : ∀ (S2 : St), GF p l e R s m args below meth c D N a C A nL (cells + rm.cells) (slots + rm.slots) (fun res : RX => vx_MQ below (QXv D tys N a C A res) (XXc D tys N a C A res) args s mc ms A) (f 0 S2) (pc + 3) lv rest S2) : GF p l e R s m args below meth c D N a C A nL cells slots (fun res : RX => vx_MQ below (QXv D tys N a C A res) (XXc D tys N a C A res) args s mc ms A) (cx y0 f) pc lv st S := by
  intro res h H locs hP hD hS ls hl
  cases hy : y0 with
  | none => rw [hy] at h; cases h
  | some q =>
    rw [hy] at h
    obtain ⟨av, hr⟩ := hrun H locs ls q hP hD hS hl hy
    have hsub : ∀ z, AA N a H.size z → A z := fun z h => by rw [hA]; exact AA_sub hS.1 z h
    refine vx_callv hr hS (fun z _ h => hsub z h) hsub (fun z _ h => hsub z h) (fun E ce q9 u t H1 locs1 ht hvm _ hB hz hk hS1 hce hcv hcl => ?_) (fun u t H1 locs1 ht hvm hpost hB hz hk hS1 => ?_)
    · obtain ⟨hpost, hP1, hK1, hD1⟩ := hB
      subst hpost
      cases h
      rw [ht] at hP1
      exact vx_out (fun z hz => (hout z hz).elim) hlocks hce hcv hcl (fun t2 ht2 hvm2 => ⟨u, trivial, ⟨rfl, by rw [ht2]; exact hP1, va_K.moved hvm2 hc.2, hD1.weaken (fun _ _ _ h => hsub _ h)⟩, hS1.F ht2⟩) hS1.2.2 hmc hms
    · subst hpost
      obtain ⟨hP1, hK1, hD1⟩ := hB
      rw [ht] at hP1
      exact kk u res h H1 locs1 hP1 (hD1.weaken (fun _ _ _ h => hsub _ h)) hS1 ls hl
theorem g_xcallVVv (hc : CT p s m args c cc nL own Ts D tys) (hout : ∀ z ∈ c.exceptionTable.toList, False) (hlocks : meth.locks = false) {y0 : Option RX} {f : Int32 → St → Option RX} {st As : List Value} {y : MethodName} {ws : List Cond} {rm : Room} {index n maxL k ci : Nat} {bytes : ByteArray} {ret : Option FieldType} {q0 : vw_C} {fs : List Value} (hE : Ev A s) (hT : TR Ev) (hA : A = AA N a s.heap.size) (hmc : cells + rm.cells ≤ mc) (hms : slots + rm.slots ≤ ms) (hM : ∀ q, y0 = some q → Xv l y ws rm D tys N a C Ev (.ref (a k) :: As) S q) (cw : CallW R s args own q0.1 index y bytes maxL ret ws rm rm.cells rm.slots n) (hk : k < N) (he : C S k = .inr (ci, fs)) (hcl : vwCl[ci]? = some q0) (hn : As.length = n) (hst : st = As.reverse ++ .ref (a k) :: rest) (hcat : (rest.map fun v => v.category).sum ≤ 8) (hdg : decode cc pc = .ok (.invokevirtual index, 3)) (hf : cells + rm.cells ≤ R.cells ∧ slots + rm.slots ≤ R.slots) (kk : ∀ (S2 : St), GF p l e R s m args below meth c D N a C A nL (cells + rm.cells) (slots + rm.slots) (fun res : RX => vx_MQ below (QXv D tys N a C A res) (XXc D tys N a C A res) args s mc ms A) (f 0 S2) (pc + 3) lv rest S2) : GF p l e R s m args below meth c D N a C A nL cells slots (fun res : RX => vx_MQ below (QXv D tys N a C A res) (XXc D tys N a C A res) args s mc ms A) (cx y0 f) pc lv st S :=
  g_xcoreVv hc hout hlocks hA hmc hms (fun H locs ls q hP hD hS hl hy => ⟨_, vx_runV (g := F0 m pc ls st) hc.1 (hM q hy H.size) cw ⟨pw_blind hT, va_recv hc.2 hP hcl (by rw [wl_at hk, he]), pw_at hT hE hA hc.2 hP hD hS⟩ rfl hn hl.1 hst (lv_room (ls := ls) (rest := st) hcat) hdg hf⟩) kk
theorem g_xcallSVv (hc : CT p s m args c cc nL own Ts D tys) (hout : ∀ z ∈ c.exceptionTable.toList, False) (hlocks : meth.locks = false) {y0 : Option RX} {f : Int32 → St → Option RX} {st As : List Value} {y : MethodName} {ws : List Cond} {rm : Room} {index n maxL : Nat} {bytes : ByteArray} {ret : Option FieldType} (hE : Ev A s) (hT : TR Ev) (hA : A = AA N a s.heap.size) (hmc : cells + rm.cells ≤ mc) (hms : slots + rm.slots ≤ ms) (hM : ∀ q, y0 = some q → Xv l y ws rm D tys N a C Ev As S q) (cw : CallB R s args own index y bytes maxL ret ws rm rm.cells rm.slots n ∧ (Cond.static y).before args s = true) (hn : As.length = n) (hst : st = As.reverse ++ rest) (hcat : (rest.map fun v => v.category).sum ≤ 8) (hdg : decode cc pc = .ok (.invokestatic index, 3)) (hf : cells + rm.cells ≤ R.cells ∧ slots + rm.slots ≤ R.slots) (kk : ∀ (S2 : St), GF p l e R s m args below meth c D N a C A nL (cells + rm.cells) (slots + rm.slots) (fun res : RX => vx_MQ below (QXv D tys N a C A res) (XXc D tys N a C A res) args s mc ms A) (f 0 S2) (pc + 3) lv rest S2) : GF p l e R s m args below meth c D N a C A nL cells slots (fun res : RX => vx_MQ below (QXv D tys N a C A res) (XXc D tys N a C A res) args s mc ms A) (cx y0 f) pc lv st S :=
  g_xcoreVv hc hout hlocks hA hmc hms (fun H locs ls q hP hD hS hl hy => ⟨_, vx_runS (g := F0 m pc ls st) hc.1 (hM q hy H.size) cw ⟨pw_blind hT, pw_at hT hE hA hc.2 hP hD hS⟩ rfl hn hl.1 hst (lv_room (ls := ls) (rest := st) hcat) hdg hf⟩) kk
end GX
theorem m_Ki {l : Launch} {y : MethodName} {ws ws' : List Cond} {rm : Room} {D : va_G} {tys : List (ClassId × FieldType)} {N : Nat} {a : Nat → Nat} {C : St → Nat → va_E} {Ev : (Nat → Prop) → State → Prop} {av : List Value} {S : St} {cc : ByteArray} {nL : Nat} {ret : Option FieldType} {x : Option (Int32 × St)} {lv : List (Nat × Value)} (hy : plainName y.cls = true) (hw : ws = Cond.code y cc nL ret :: ws') (hlen : (lg_sl av).length ≤ nL) (hlv : lv_args 0 av = lv)
    (h : ∀ (p : Program) (e : Env) (s : State) (m : MethodId) (args : Array Value) (below : List Frame) (meth : Method) (c : Code), CT p s m args c cc nL y.cls ws D tys → meth.sig.returnType = ret → meth.locks = false → Ev (AA N a s.heap.size) s → GF p l e rm s m args below meth c D N a C (AA N a s.heap.size) nL 0 0 (fun res => MQ below (va_Qi (fun r u => (r, u) = res) (Bw D tys N a C (AA N a s.heap.size)) (AA N a s.heap.size)) args s 0 0 (AA N a s.heap.size)) x 0 lv [] S) : ∀ q, x = some q → Ki l y ws rm D tys N a C Ev av S q := by
  intro q hq sz
  refine Met.ofW (cc := cc) (maxL := nL) (ret := ret) hy hw ?_
  intro p e s m args below meth c s₁ B hml hv
  obtain ⟨rfl, hsz, hP, hK, hD0, hE⟩ := hv
  subst hsz
  have hl := lv_entry av (n := nL) hlen
  rw [lg_entry_eq]
  generalize (lg_sl av ++ List.replicate (nL - (lg_sl av).length) Slot.unset).toArray = ls at hl ⊢
  rw [hlv] at hl
  exact h p e s m av.toArray below meth c ⟨⟨B.exec, B.bytes, hml, findClass_of_methodNamed B.named, atoms_spec (ws := ws) B.pre⟩, hK⟩ B.returns B.notSynchronized hE q hq s.heap [] hP (AA_D hD0) va_S.rf ls hl
theorem m_Kv {l : Launch} {y : MethodName} {ws ws' : List Cond} {rm : Room} {D : va_G} {tys : List (ClassId × FieldType)} {N : Nat} {a : Nat → Nat} {C : St → Nat → va_E} {Ev : (Nat → Prop) → State → Prop} {av : List Value} {S : St} {cc : ByteArray} {nL : Nat} {ret : Option FieldType} {x : Option (Int32 × St)} {lv : List (Nat × Value)} (hy : plainName y.cls = true) (hw : ws = Cond.code y cc nL ret :: ws') (hlen : (lg_sl av).length ≤ nL) (hlv : lv_args 0 av = lv)
    (h : ∀ (p : Program) (e : Env) (s : State) (m : MethodId) (args : Array Value) (below : List Frame) (meth : Method) (c : Code), CT p s m args c cc nL y.cls ws D tys → meth.sig.returnType = ret → meth.locks = false → Ev (AA N a s.heap.size) s → GF p l e rm s m args below meth c D N a C (AA N a s.heap.size) nL 0 0 (fun res => MQ below (va_Qv (fun u => ((0 : Int32), u) = res) (Bw D tys N a C (AA N a s.heap.size)) (AA N a s.heap.size)) args s 0 0 (AA N a s.heap.size)) x 0 lv [] S) : ∀ q, x = some q → Kv l y ws rm D tys N a C Ev av S q := by
  intro q hq sz
  refine Met.ofW (cc := cc) (maxL := nL) (ret := ret) hy hw ?_
  intro p e s m args below meth c s₁ B hml hv
  obtain ⟨rfl, hsz, hP, hK, hD0, hE⟩ := hv
  subst hsz
  have hl := lv_entry av (n := nL) hlen
  rw [lg_entry_eq]
  generalize (lg_sl av ++ List.replicate (nL - (lg_sl av).length) Slot.unset).toArray = ls at hl ⊢
  rw [hlv] at hl
  exact h p e s m av.toArray below meth c ⟨⟨B.exec, B.bytes, hml, findClass_of_methodNamed B.named, atoms_spec (ws := ws) B.pre⟩, hK⟩ B.returns B.notSynchronized hE q hq s.heap [] hP (AA_D hD0) va_S.rf ls hl
theorem m_Xi {l : Launch} {y : MethodName} {ws ws' : List Cond} {rm : Room} {D : va_G} {tys : List (ClassId × FieldType)} {N : Nat} {a : Nat → Nat} {C : St → Nat → va_E} {Ev : (Nat → Prop) → State → Prop} {av : List Value} {S : St} {cc : ByteArray} {nL : Nat} {ret : Option FieldType} {x : Option RX} {lv : List (Nat × Value)} (hy : plainName y.cls = true) (hw : ws = Cond.code y cc nL ret :: ws') (hlen : (lg_sl av).length ≤ nL) (hlv : lv_args 0 av = lv)
    (h : ∀ (p : Program) (e : Env) (s : State) (m : MethodId) (args : Array Value) (below : List Frame) (meth : Method) (c : Code), CT p s m args c cc nL y.cls ws D tys → meth.sig.returnType = ret → meth.locks = false → (∀ z ∈ c.exceptionTable.toList, False) → Ev (AA N a s.heap.size) s → GF p l e rm s m args below meth c D N a C (AA N a s.heap.size) nL 0 0 (fun res : RX => vx_MQ below (QXi D tys N a C (AA N a s.heap.size) res) (XXc D tys N a C (AA N a s.heap.size) res) args s rm.cells rm.slots (AA N a s.heap.size)) x 0 lv [] S) : ∀ q, x = some q → Xi l y ws rm D tys N a C Ev av S q := by
  intro q hq sz
  refine vx_ofW (cc := cc) (maxL := nL) (ret := ret) hy hw ?_
  intro p e s m args below meth c s₁ B hml hout hv
  obtain ⟨rfl, hsz, hP, hK, hD0, hE⟩ := hv
  subst hsz
  have hl := lv_entry av (n := nL) hlen
  rw [lg_entry_eq]
  generalize (lg_sl av ++ List.replicate (nL - (lg_sl av).length) Slot.unset).toArray = ls at hl ⊢
  rw [hlv] at hl
  exact h p e s m av.toArray below meth c ⟨⟨B.exec, B.bytes, hml, findClass_of_methodNamed B.named, atoms_spec (ws := ws) B.pre⟩, hK⟩ B.returns B.notSynchronized hout hE q hq s.heap [] hP (AA_D hD0) va_S.rf ls hl
theorem m_Xv {l : Launch} {y : MethodName} {ws ws' : List Cond} {rm : Room} {D : va_G} {tys : List (ClassId × FieldType)} {N : Nat} {a : Nat → Nat} {C : St → Nat → va_E} {Ev : (Nat → Prop) → State → Prop} {av : List Value} {S : St} {cc : ByteArray} {nL : Nat} {ret : Option FieldType} {x : Option RX} {lv : List (Nat × Value)} (hy : plainName y.cls = true) (hw : ws = Cond.code y cc nL ret :: ws') (hlen : (lg_sl av).length ≤ nL) (hlv : lv_args 0 av = lv)
    (h : ∀ (p : Program) (e : Env) (s : State) (m : MethodId) (args : Array Value) (below : List Frame) (meth : Method) (c : Code), CT p s m args c cc nL y.cls ws D tys → meth.sig.returnType = ret → meth.locks = false → (∀ z ∈ c.exceptionTable.toList, False) → Ev (AA N a s.heap.size) s → GF p l e rm s m args below meth c D N a C (AA N a s.heap.size) nL 0 0 (fun res : RX => vx_MQ below (QXv D tys N a C (AA N a s.heap.size) res) (XXc D tys N a C (AA N a s.heap.size) res) args s rm.cells rm.slots (AA N a s.heap.size)) x 0 lv [] S) : ∀ q, x = some q → Xv l y ws rm D tys N a C Ev av S q := by
  intro q hq sz
  refine vx_ofW (cc := cc) (maxL := nL) (ret := ret) hy hw ?_
  intro p e s m args below meth c s₁ B hml hout hv
  obtain ⟨rfl, hsz, hP, hK, hD0, hE⟩ := hv
  subst hsz
  have hl := lv_entry av (n := nL) hlen
  rw [lg_entry_eq]
  generalize (lg_sl av ++ List.replicate (nL - (lg_sl av).length) Slot.unset).toArray = ls at hl ⊢
  rw [hlv] at hl
  exact h p e s m av.toArray below meth c ⟨⟨B.exec, B.bytes, hml, findClass_of_methodNamed B.named, atoms_spec (ws := ws) B.pre⟩, hK⟩ B.returns B.notSynchronized hout hE q hq s.heap [] hP (AA_D hD0) va_S.rf ls hl
end
section
theorem zz_end : True := trivial
end
