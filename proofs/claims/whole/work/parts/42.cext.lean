/-! the class: what is laid out stays, whatever filters are set and cells made -/
def XE (R : am_R) (K : am_K) (R' : am_R) (K' : am_K) : Prop := (∀ a i, i ≠ 8 → a < K.2.1 → R' a i = R a i) ∧ (∀ a, a < K.2.1 → K'.1 a = K.1 a) ∧ K.2.1 ≤ K'.2.1
theorem XE.rf (R : am_R) (K : am_K) : XE R K R K := ⟨fun _ _ _ _ => rfl, fun _ _ => rfl, Nat.le_refl _⟩
theorem XE.tr {R R' R'' : am_R} {K K' K'' : am_K} (h : XE R K R' K') (h' : XE R' K' R'' K'') : XE R K R'' K'' := ⟨fun a i q1 q2 => (h'.1 a i q1 (Nat.lt_of_lt_of_le q2 h.2.2)).trans (h.1 a i q1 q2), fun a q => (h'.2.1 a (Nat.lt_of_lt_of_le q h.2.2)).trans (h.2.1 a q), Nat.le_trans h.2.2 h'.2.2⟩
theorem isK_lt {K : am_K} {a t : Nat} (h : am_isK K a t = true) : a < K.2.1 := (am_isK_of h).2.1
theorem isK_xe {R R' : am_R} {K K' : am_K} {a t : Nat} (e : XE R K R' K') (h : am_isK K a t = true) : am_isK K' a t = true := by
  obtain ⟨h1, h2, h3⟩ := am_isK_of h
  have := e.2.2
  unfold am_isK
  simp [h1, h3, Nat.lt_of_lt_of_le h2 this]
theorem XE.ur (R : am_R) (K : am_K) (a : Nat) (v : Option Nat) : XE R K (am_ur R a 8 v) K := ⟨fun b i q _ => by unfold am_ur; rw [if_neg (fun z => q z.2)], fun _ _ => rfl, Nat.le_refl _⟩
theorem PL.xe {R R' : am_R} {K K' : am_K} {a : Nat} (h : PL R K a) (e : XE R K R' K') : PL R' K' a := by
  obtain ⟨⟨h1, h2, h3, h4, h5, h6, h7⟩, ⟨r1, r2, r3, r4, r5, r6⟩, l1, l2, l3, l4, l5⟩ := h
  refine ⟨⟨isK_xe e h1, isK_xe e h2, isK_xe e h3, isK_xe e h4, isK_xe e h5, isK_xe e h6, isK_xe e h7⟩, ⟨?_, ?_, ?_, ?_, ?_, ?_⟩, ?_, ?_, ?_, ?_, ?_⟩
  · rw [e.1 _ _ (by omega) (isK_lt h1)]; exact r1
  · rw [e.1 _ _ (by omega) (isK_lt h1)]; exact r2
  · rw [e.1 _ _ (by omega) (isK_lt h1)]; exact r3
  · rw [e.1 _ _ (by omega) (isK_lt h4)]; exact r4
  · rw [e.1 _ _ (by omega) (isK_lt h4)]; exact r5
  · rw [e.1 _ _ (by omega) (isK_lt h4)]; exact r6
  · rw [e.2.1 _ (isK_lt h2)]; exact l1
  · rw [e.2.1 _ (isK_lt h3)]; exact l2
  · rw [e.2.1 _ (isK_lt h5)]; exact l3
  · rw [e.2.1 _ (isK_lt h6)]; exact l4
  · rw [e.2.1 _ (isK_lt h7)]; exact l5
theorem ML.xe {R R' : am_R} {K K' : am_K} {a : Nat} (h : ML R K a) (e : XE R K R' K') : ML R' K' a := by
  obtain ⟨h1, h2, h3, h4⟩ := h
  exact ⟨isK_xe e h1, isK_xe e h2, by rw [e.1 _ _ (by omega) (isK_lt h1)]; exact h3, by rw [e.2.1 _ (isK_lt h2)]; exact h4⟩
theorem SL.xe {R R' : am_R} {K K' : am_K} (h : SL R K) (e : XE R K R' K') : SL R' K' := by
  obtain ⟨h1, h2, h3, h4⟩ := h
  exact ⟨isK_xe e h1, isK_xe e h2, by rw [e.1 _ _ (by omega) (isK_lt h1)]; exact h3, by rw [e.2.1 _ (isK_lt h2)]; exact h4⟩
theorem CL.xe {R R' : am_R} {K K' : am_K} {q : Nat} (h : CL R K q) (e : XE R K R' K') : CL R' K' q := by
  obtain ⟨h1, h2, h3, h4, h5, h6, h7, h8, h9⟩ := h
  exact ⟨isK_xe e h1, isK_xe e h2, isK_xe e h3, isK_xe e h4, by rw [e.1 _ _ (by omega) (isK_lt h1)]; exact h5, by rw [e.1 _ _ (by omega) (isK_lt h2)]; exact h6, by rw [e.1 _ _ (by omega) (isK_lt h1)]; exact h7, by rw [e.2.1 _ (isK_lt h3)]; exact h8, by rw [e.2.1 _ (isK_lt h4)]; exact h9⟩
theorem RT.xe {I : am_I} {R R' : am_R} {K K' : am_K} {a d m n : Nat} {tx : Nat → Int32} (h : RT I R K a d m n tx) (e : XE R K R' K') : RT I R' K' a d m n tx := by
  obtain ⟨g1, g2, g3, g4, g5, g6, g7, g8⟩ := h
  exact ⟨isK_xe e g1, isK_xe e g2, by rw [e.1 _ _ (by omega) (isK_lt g1)]; exact g3, by rw [e.2.1 _ (isK_lt g2)]; exact g4, g5, g6, g7, g8⟩
theorem SB.xe {R R' : am_R} {K K' : am_K} {b : Nat} (h : SB R K b) (e : XE R K R' K') : SB R' K' b := by
  obtain ⟨⟨h1, h2, h3⟩, ⟨r0, r1, r2, r3⟩, hm, hp1, hp2, hp⟩ := h
  refine ⟨⟨isK_xe e h1, isK_xe e h2, by rw [e.2.1 _ (isK_lt h2)]; exact h3⟩, ⟨?_, ?_, ?_, ?_⟩, hm.xe e, hp1.xe e, hp2.xe e, fun p hp' => ⟨?_, isK_xe e (hp p hp').2⟩⟩
  · rw [e.1 _ _ (by omega) (isK_lt h1)]; exact r0
  · rw [e.1 _ _ (by omega) (isK_lt h1)]; exact r1
  · rw [e.1 _ _ (by omega) (isK_lt h1)]; exact r2
  · rw [e.1 _ _ (by omega) (isK_lt h1)]; exact r3
  · rw [e.1 _ _ (by omega) (isK_lt h2)]; exact (hp p hp').1
theorem MK.xe {R R' : am_R} {K K' : am_K} (h : MK R K) (e : XE R K R' K') : MK R' K' := by
  obtain ⟨⟨h1, h2, h3, h4, h5, h6, h7, h8, h9⟩, ⟨g2, g3, g4, g5, g6, g7, g8, g9⟩, r1, r2, r3, r4, r5, r6, r7, r8⟩ := h
  refine ⟨⟨isK_xe e h1, isK_xe e h2, isK_xe e h3, isK_xe e h4, isK_xe e h5, isK_xe e h6, isK_xe e h7, isK_xe e h8, isK_xe e h9⟩, ⟨?_, ?_, ?_, ?_, ?_, ?_, ?_, ?_⟩, ?_, ?_, ?_, ?_, ?_, ?_, ?_, ?_⟩
  · rw [e.2.1 _ (isK_lt h2)]; exact g2
  · rw [e.2.1 _ (isK_lt h3)]; exact g3
  · rw [e.2.1 _ (isK_lt h4)]; exact g4
  · rw [e.2.1 _ (isK_lt h5)]; exact g5
  · rw [e.2.1 _ (isK_lt h6)]; exact g6
  · rw [e.2.1 _ (isK_lt h7)]; exact g7
  · rw [e.2.1 _ (isK_lt h8)]; exact g8
  · rw [e.2.1 _ (isK_lt h9)]; exact g9
  · rw [e.1 _ _ (by omega) (isK_lt h1)]; exact r1
  · rw [e.1 _ _ (by omega) (isK_lt h1)]; exact r2
  · rw [e.1 _ _ (by omega) (isK_lt h1)]; exact r3
  · rw [e.1 _ _ (by omega) (isK_lt h1)]; exact r4
  · rw [e.1 _ _ (by omega) (isK_lt h1)]; exact r5
  · rw [e.1 _ _ (by omega) (isK_lt h1)]; exact r6
  · rw [e.1 _ _ (by omega) (isK_lt h1)]; exact r7
  · rw [e.1 _ _ (by omega) (isK_lt h1)]; exact r8
/-- cells from 156 on that are made stay as they are -/
def DY (I : am_I) (K : am_K) (I' : am_I) : Prop := ∀ a, 156 ≤ a → a < K.2.1 → I' a = I a
theorem DY.rf (I : am_I) (K : am_K) : DY I K I := fun _ _ _ => rfl
theorem FL.fr {I I' : am_I} {R R' : am_R} {K K' : am_K} {pa pa' u : Nat} {f f' : Nat → Int32} (h : FL I R K pa u f) (hR : R' pa' 8 = R pa 8) (e : XE R K R' K') (hd : DY I K I') (hf : ∀ j, u + 7 ≤ j → j < u + 208 → f' j = f j) : FL I' R' K' pa' u f' := by
  rcases h with ⟨h1, h2⟩ | ⟨x, n, h1, h2, h3, h4, h5⟩
  · exact Or.inl ⟨hR.trans h1, by rw [hf _ (by omega) (by omega)]; exact h2⟩
  · refine Or.inr ⟨x, n, hR.trans h1, h2, h3, by rw [hf _ (by omega) (by omega)]; exact h4, ?_⟩
    have n2 := h5.2.2.2.2.2.2.1
    exact ((h5.xe e).fr (hd x h2 (isK_lt h5.1)) (hd (x + 1) (by omega) (isK_lt h5.2.1))).cg (fun i hi => by
      rw [hf _ (by omega) (by omega)])
theorem RPb.fr {I I' : am_I} {R R' : am_R} {K K' : am_K} {pa p : Nat} {f f' : Nat → Int32} (h : RPb I R K pa p f) (hI : I' pa = I pa) (hR : R' pa 8 = R pa 8) (e : XE R K R' K') (hd : DY I K I') (hf : ∀ j, 70 + 208 * p ≤ j → j < 70 + 208 * p + 208 → f' j = f j) : RPb I' R' K' pa p f' := by
  obtain ⟨h1, h2, h3, h4⟩ := h
  have f0 := hf (70 + 208 * p) (by omega) (by omega)
  refine ⟨by rw [hI]; exact h1, by rw [hI, f0]; exact h2, by rw [f0]; exact h3, fun z => ?_⟩
  rw [f0] at z
  obtain ⟨⟨a1, a2, a3, a4, a5, a6⟩, a7⟩ := h4 z
  rw [hI, hf _ (by omega) (by omega), hf _ (by omega) (by omega), hf _ (by omega) (by omega), hf _ (by omega) (by omega), hf _ (by omega) (by omega), hf _ (by omega) (by omega)]
  exact ⟨⟨a1, a2, a3, a4, a5, a6⟩, a7.fr hR e hd (fun j j1 j2 => hf j (by omega) (by omega))⟩
theorem RS.fr {I I' : am_I} {R R' : am_R} {K K' : am_K} {b : Nat} {f : Nat → Int32} (h : RS I R K b f) (hI : ∀ a, b ≤ a → a < b + 24 → I' a = I a) (hR : ∀ p, p < 6 → R' (b + 18 + p) 8 = R (b + 18 + p) 8) (e : XE R K R' K') (hd : DY I K I') : RS I' R' K' b f := by
  obtain ⟨h1, h2, h3, h4⟩ := h
  refine ⟨fun k hk => by rw [hI _ (by omega) (by omega)]; exact h1 k hk, h2.cg (fun j hj => hI _ (by omega) (by omega)) (fun _ _ _ => rfl), h3.cg (fun j hj => hI _ (by omega) (by omega)) (fun _ _ _ => rfl), fun p hp => (h4 p hp).fr (hI _ (by omega) (by omega)) (hR p hp) e hd (fun _ _ _ => rfl)⟩
section CY
variable (I : am_I) (R : am_R) (K : am_K)
theorem c_layOn (pa : Nat) (h : am_isK K pa 3 = true) (kd x : Int32) : ev 21 0 [some (.ref pa), some (.int kd), some (.int x)] [] (I, R, K) = some (none, (st I pa (uf (uf (uf (uf (uf (uf (uf (I pa) 1 (nI 0)) 2 kd) 3 x) 4 (nI 0)) 5 (nI 0)) 6 (nI 0)) 7 (nI 0)), am_ur R pa 8 none, K)) := by
  simp (disch := first | assumption | omega | exact ixN (by assumption) (by omega) (by omega) | exact ne_10 | exact ne_1000 | exact ne_4) only [s21_0, s21_0a, s21_1, s21_2, s21_5, s21_5a, s21_6, s21_7, s21_10, s21_10a, s21_11, s21_12, s21_15, s21_15a, s21_16, s21_17, s21_20, s21_20a, s21_21, s21_22, s21_25, s21_25a, s21_26, s21_27, s21_30, s21_30a, s21_31, s21_32, s21_35, s21_35a, s21_36, s21_37, s21_37a, s21_40, ↓reduceIte, eq_self, Option.bind_some, Option.bind_none, Option.toList_some, Option.toList_none, List.cons_append, List.nil_append, am_rf_s, am_rf_n, am_c1_i, am_c1_r, am_c1_n, List.all_cons, List.all_nil, Bool.and_self, Bool.and_true, Bool.true_and, List.length_cons, List.length_nil, Nat.reduceAdd, Nat.reduceSub, Nat.reduceMul, Nat.reduceLeDiff, Nat.reduceLT, Nat.zero_le, Nat.le_refl, ne_10, ne_1000, ne_4, not_false_eq_true, or_true, true_or, Nat.one_ne_zero, Nat.zero_ne_one, Nat.reduceEqDiff, Bool.true_eq_false, Bool.false_eq_true, n10, ui_st, st_st, st_eq, st_ne, uf_eq, uf_ne]
theorem c_goIf (pa : Nat) (h : am_isK K pa 3 = true) : ev 22 0 [some (.ref pa)] [] (I, R, K) = some (none, (if I pa 1 = nI 2 ∧ I pa 7 ≤ nI 0 then st I pa (uf (I pa) 1 (nI 3)) else I, R, K)) := by
  by_cases q1 : I pa 1 = nI 2
  · by_cases q2 : nI 0 < I pa 7
    · rw [if_neg (fun z => Int32.not_le.mpr q2 z.2)]
      simp (disch := first | assumption | omega | exact ixN (by assumption) (by omega) (by omega) | exact ne_10 | exact ne_1000 | exact ne_4) only [s22_0, s22_0a, s22_1, s22_4, s22_5, s22_8, s22_8a, s22_9, s22_12, s22_15, s22_15a, s22_16, s22_17, s22_20, ↓reduceIte, eq_self, Option.bind_some, Option.bind_none, Option.toList_some, Option.toList_none, List.cons_append, List.nil_append, am_rf_s, am_rf_n, am_c1_i, am_c1_r, am_c1_n, List.all_cons, List.all_nil, Bool.and_self, Bool.and_true, Bool.true_and, List.length_cons, List.length_nil, Nat.reduceAdd, Nat.reduceSub, Nat.reduceMul, Nat.reduceLeDiff, Nat.reduceLT, Nat.zero_le, Nat.le_refl, ne_10, ne_1000, ne_4, not_false_eq_true, or_true, true_or, Nat.one_ne_zero, Nat.zero_ne_one, Nat.reduceEqDiff, Bool.true_eq_false, Bool.false_eq_true, n10, q1, q2]
    · rw [if_pos ⟨q1, Int32.not_lt.mp q2⟩]
      simp (disch := first | assumption | omega | exact ixN (by assumption) (by omega) (by omega) | exact ne_10 | exact ne_1000 | exact ne_4) only [s22_0, s22_0a, s22_1, s22_4, s22_5, s22_8, s22_8a, s22_9, s22_12, s22_15, s22_15a, s22_16, s22_17, s22_20, ↓reduceIte, eq_self, Option.bind_some, Option.bind_none, Option.toList_some, Option.toList_none, List.cons_append, List.nil_append, am_rf_s, am_rf_n, am_c1_i, am_c1_r, am_c1_n, List.all_cons, List.all_nil, Bool.and_self, Bool.and_true, Bool.true_and, List.length_cons, List.length_nil, Nat.reduceAdd, Nat.reduceSub, Nat.reduceMul, Nat.reduceLeDiff, Nat.reduceLT, Nat.zero_le, Nat.le_refl, ne_10, ne_1000, ne_4, not_false_eq_true, or_true, true_or, Nat.one_ne_zero, Nat.zero_ne_one, Nat.reduceEqDiff, Bool.true_eq_false, Bool.false_eq_true, n10, ui_st, st_st, st_eq, st_ne, uf_eq, uf_ne, q1, q2]
  · rw [if_neg (fun z => q1 z.1)]
    simp (disch := first | assumption | omega | exact ixN (by assumption) (by omega) (by omega) | exact ne_10 | exact ne_1000 | exact ne_4) only [s22_0, s22_0a, s22_1, s22_4, s22_5, s22_8, s22_8a, s22_9, s22_12, s22_15, s22_15a, s22_16, s22_17, s22_20, ↓reduceIte, eq_self, Option.bind_some, Option.bind_none, Option.toList_some, Option.toList_none, List.cons_append, List.nil_append, am_rf_s, am_rf_n, am_c1_i, am_c1_r, am_c1_n, List.all_cons, List.all_nil, Bool.and_self, Bool.and_true, Bool.true_and, List.length_cons, List.length_nil, Nat.reduceAdd, Nat.reduceSub, Nat.reduceMul, Nat.reduceLeDiff, Nat.reduceLT, Nat.zero_le, Nat.le_refl, ne_10, ne_1000, ne_4, not_false_eq_true, or_true, true_or, Nat.one_ne_zero, Nat.zero_ne_one, Nat.reduceEqDiff, Bool.true_eq_false, Bool.false_eq_true, n10, q1]
theorem c_bcopy (pa pb : Nat) (h : am_isK K pa 3 = true) (h' : am_isK K pb 3 = true) (hne : pb ≠ pa) : ev 24 0 [some (.ref pa), some (.ref pb)] [] (I, R, K) = some (none, (st I pa (uf (uf (uf (uf (uf (uf (uf (I pa) 1 (I pb 1)) 2 (I pb 2)) 3 (I pb 3)) 4 (I pb 4)) 5 (I pb 5)) 6 (I pb 6)) 7 (I pb 7)), am_ur R pa 8 (R pb 8), K)) := by
  cases z : R pb 8 with
  | none => simp (disch := first | assumption | omega | exact ixN (by assumption) (by omega) (by omega) | exact ne_10 | exact ne_1000 | exact ne_4) only [s24_0, s24_0a, s24_1, s24_1a, s24_2, s24_5, s24_8, s24_8a, s24_9, s24_9a, s24_10, s24_13, s24_16, s24_16a, s24_17, s24_17a, s24_18, s24_21, s24_24, s24_24a, s24_25, s24_25a, s24_26, s24_29, s24_32, s24_32a, s24_33, s24_33a, s24_34, s24_37, s24_40, s24_40a, s24_41, s24_41a, s24_42, s24_45, s24_48, s24_48a, s24_49, s24_49a, s24_50, s24_53, s24_56, s24_56a, s24_57, s24_57a, s24_58, s24_61, s24_61a, s24_64, ↓reduceIte, eq_self, Option.bind_some, Option.bind_none, Option.toList_some, Option.toList_none, List.cons_append, List.nil_append, am_rf_s, am_rf_n, am_c1_i, am_c1_r, am_c1_n, List.all_cons, List.all_nil, Bool.and_self, Bool.and_true, Bool.true_and, List.length_cons, List.length_nil, Nat.reduceAdd, Nat.reduceSub, Nat.reduceMul, Nat.reduceLeDiff, Nat.reduceLT, Nat.zero_le, Nat.le_refl, ne_10, ne_1000, ne_4, not_false_eq_true, or_true, true_or, Nat.one_ne_zero, Nat.zero_ne_one, Nat.reduceEqDiff, Bool.true_eq_false, Bool.false_eq_true, n10, ui_st, st_st, st_eq, st_ne, uf_eq, uf_ne, z]
  | some y => simp (disch := first | assumption | omega | exact ixN (by assumption) (by omega) (by omega) | exact ne_10 | exact ne_1000 | exact ne_4) only [s24_0, s24_0a, s24_1, s24_1a, s24_2, s24_5, s24_8, s24_8a, s24_9, s24_9a, s24_10, s24_13, s24_16, s24_16a, s24_17, s24_17a, s24_18, s24_21, s24_24, s24_24a, s24_25, s24_25a, s24_26, s24_29, s24_32, s24_32a, s24_33, s24_33a, s24_34, s24_37, s24_40, s24_40a, s24_41, s24_41a, s24_42, s24_45, s24_48, s24_48a, s24_49, s24_49a, s24_50, s24_53, s24_56, s24_56a, s24_57, s24_57a, s24_58, s24_61, s24_61a, s24_64, ↓reduceIte, eq_self, Option.bind_some, Option.bind_none, Option.toList_some, Option.toList_none, List.cons_append, List.nil_append, am_rf_s, am_rf_n, am_c1_i, am_c1_r, am_c1_n, List.all_cons, List.all_nil, Bool.and_self, Bool.and_true, Bool.true_and, List.length_cons, List.length_nil, Nat.reduceAdd, Nat.reduceSub, Nat.reduceMul, Nat.reduceLeDiff, Nat.reduceLT, Nat.zero_le, Nat.le_refl, ne_10, ne_1000, ne_4, not_false_eq_true, or_true, true_or, Nat.one_ne_zero, Nat.zero_ne_one, Nat.reduceEqDiff, Bool.true_eq_false, Bool.false_eq_true, n10, ui_st, st_st, st_eq, st_ne, uf_eq, uf_ne, z]
end CY
