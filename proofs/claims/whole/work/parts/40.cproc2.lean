/-! the class: a processor's leaves -/
def cpy (n : Nat) (g h : Nat → Int32) : Nat → Int32 := fun j => if j < n then g j else h j
theorem cp0 (I : am_I) (s d n : Nat) : am_cp I s 0 d 0 n = st I d (cpy n (I s) (I d)) := by
  funext b j
  unfold am_cp st cpy
  by_cases h : b = d
  · subst h
    by_cases q : j < n
    · simp [q]
    · simp [q]
  · simp [h]
theorem cpy_lt {n : Nat} {g h : Nat → Int32} {j : Nat} (q : j < n) : cpy n g h j = g j := by unfold cpy; rw [if_pos q]
theorem np0 : ¬ nI 0 < 0 := by decide
theorem np4 : ¬ nI 4 < 0 := by decide
theorem np6 : ¬ nI 6 < 0 := by decide
theorem np8 : ¬ nI 8 < 0 := by decide
def ptl (I : am_I) (a : Nat) (w : Int32) : Int32 := if w = nI 0 then I a 4 else if w = nI 1 then I a 5 else if w = nI 2 then I a 3 else if w = nI 3 then (if I a 6 = nI 0 then nI 0 else nI 1) else -1
section CU
variable (I : am_I) (R : am_R) (K : am_K)
theorem c_isAt (a q nc : Nat) (cd : Nat → Int32) (b : Nat → Bool) (h : PL R K a) (hc : RC I R K q nc cd b) (h6 : I a 6 = nI 0) : ev 26 0 [some (.ref a), some (.ref q)] [] (I, R, K) = some (some (.int (bI (bA nc b (I a 4)))), (if bA nc b (I a 4) = false then st I a (uf (I a) 6 (nI 1)) else I, R, K)) := by
  have h1 := h.1.1
  have k1 := hc.1.1
  have z1 : nI 1 = nI 0 ∨ nI 1 = nI 1 := Or.inr rfl
  have be := c_beginsAt I R K q nc cd b hc.1 hc.2.1 hc.2.2 (I a 4)
  cases z : bA nc b (I a 4) with
  | false =>
    rw [z] at be
    simp (disch := first | assumption | omega | exact ixN (by assumption) (by omega) (by omega) | exact ne_10 | exact ne_1000 | exact ne_4) only [s26_0, s26_0a, s26_1, s26_1a, s26_2, s26_5, s26_8, s26_11, s26_11a, s26_12, s26_13, s26_16, s26_16a, s26_17, s26_20, s26_23, s26_24, s26_27, s26_28, s26_28a, s26_28b, s26_28c, ↓reduceIte, eq_self, Option.bind_some, Option.bind_none, Option.toList_some, Option.toList_none, List.cons_append, List.nil_append, am_rf_s, am_rf_n, am_c1_i, am_c1_r, am_c1_n, List.all_cons, List.all_nil, Bool.and_self, Bool.and_true, Bool.true_and, List.length_cons, List.length_nil, Nat.reduceAdd, Nat.reduceSub, Nat.reduceMul, Nat.reduceLeDiff, Nat.reduceLT, Nat.zero_le, Nat.le_refl, ne_10, ne_1000, ne_4, not_false_eq_true, or_true, true_or, Nat.one_ne_zero, Nat.zero_ne_one, Nat.reduceEqDiff, Bool.true_eq_false, Bool.false_eq_true, n10, ui_st, st_st, st_eq, st_ne, uf_eq, uf_ne, be, bI_f]
  | true =>
    rw [z] at be
    simp (disch := first | assumption | omega | exact ixN (by assumption) (by omega) (by omega) | exact ne_10 | exact ne_1000 | exact ne_4) only [s26_0, s26_0a, s26_1, s26_1a, s26_2, s26_5, s26_8, s26_11, s26_11a, s26_12, s26_13, s26_16, s26_16a, s26_17, s26_20, s26_23, s26_24, s26_27, s26_28, s26_28a, s26_28b, s26_28c, ↓reduceIte, eq_self, Option.bind_some, Option.bind_none, Option.toList_some, Option.toList_none, List.cons_append, List.nil_append, am_rf_s, am_rf_n, am_c1_i, am_c1_r, am_c1_n, List.all_cons, List.all_nil, Bool.and_self, Bool.and_true, Bool.true_and, List.length_cons, List.length_nil, Nat.reduceAdd, Nat.reduceSub, Nat.reduceMul, Nat.reduceLeDiff, Nat.reduceLT, Nat.zero_le, Nat.le_refl, ne_10, ne_1000, ne_4, not_false_eq_true, or_true, true_or, Nat.one_ne_zero, Nat.zero_ne_one, Nat.reduceEqDiff, Bool.true_eq_false, Bool.false_eq_true, n10, ui_st, st_st, st_eq, st_ne, uf_eq, uf_ne, be, bI_t, h6]
theorem c_holderAt (a d k : Nat) (h : PL R K a) (hd : I a 3 = nI d) (hd6 : d ≤ 6) (hk : k < 2 ^ 31) : ev 33 0 [some (.ref a), some (.int (nI k))] [] (I, R, K) = some (some (.int (if k < d then I (a + 2) k else -1)), (I, R, K)) := by
  obtain ⟨⟨h1, h2, h3, h4, h5, h6, h7⟩, ⟨r1, r2, r3, r4, r5, r6⟩, l1, l2, l3, l4, l5⟩ := h
  have m0 : ¬ nI k < nI 0 := nI_pos hk
  by_cases q : k < d
  · have q1 : ¬ d ≤ k := by omega
    have q2 : ¬ 6 ≤ k := by omega
    rw [if_pos q]
    simp (disch := first | assumption | omega | exact ixN (by assumption) (by omega) (by omega) | exact ne_10 | exact ne_1000 | exact ne_4) only [s33_0, s33_1, s33_4, s33_5, s33_5a, s33_6, s33_9, s33_12, s33_13, s33_15, s33_18, s33_18a, s33_19, s33_22, s33_23, s33_24, s33_27, s33_28, ↓reduceIte, eq_self, Option.bind_some, Option.bind_none, Option.toList_some, Option.toList_none, List.cons_append, List.nil_append, am_rf_s, am_rf_n, am_c1_i, am_c1_r, am_c1_n, List.all_cons, List.all_nil, Bool.and_self, Bool.and_true, Bool.true_and, List.length_cons, List.length_nil, Nat.reduceAdd, Nat.reduceSub, Nat.reduceMul, Nat.reduceLeDiff, Nat.reduceLT, Nat.zero_le, Nat.le_refl, ne_10, ne_1000, ne_4, not_false_eq_true, or_true, true_or, Nat.one_ne_zero, Nat.zero_ne_one, Nat.reduceEqDiff, Bool.true_eq_false, Bool.false_eq_true, n10, nI_leI, nI_clamp, m0, hd, q1, q2, r2]
  · have q1 : d ≤ k := by omega
    rw [if_neg q]
    simp (disch := first | assumption | omega | exact ixN (by assumption) (by omega) (by omega) | exact ne_10 | exact ne_1000 | exact ne_4) only [s33_0, s33_1, s33_4, s33_5, s33_5a, s33_6, s33_9, s33_12, s33_13, s33_15, s33_18, s33_18a, s33_19, s33_22, s33_23, s33_24, s33_27, s33_28, ↓reduceIte, eq_self, Option.bind_some, Option.bind_none, Option.toList_some, Option.toList_none, List.cons_append, List.nil_append, am_rf_s, am_rf_n, am_c1_i, am_c1_r, am_c1_n, List.all_cons, List.all_nil, Bool.and_self, Bool.and_true, Bool.true_and, List.length_cons, List.length_nil, Nat.reduceAdd, Nat.reduceSub, Nat.reduceMul, Nat.reduceLeDiff, Nat.reduceLT, Nat.zero_le, Nat.le_refl, ne_10, ne_1000, ne_4, not_false_eq_true, or_true, true_or, Nat.one_ne_zero, Nat.zero_ne_one, Nat.reduceEqDiff, Bool.true_eq_false, Bool.false_eq_true, n10, nI_leI, nI_clamp, m0, hd, q1]
theorem c_returnAt (a d k : Nat) (h : PL R K a) (hd : I a 3 = nI d) (hd6 : d ≤ 6) (hk : k < d) : ev 32 0 [some (.ref a), some (.int (nI k))] [] (I, R, K) = some (some (.int (I (a + 1) k)), (I, R, K)) := by
  obtain ⟨⟨h1, h2, h3, h4, h5, h6, h7⟩, ⟨r1, r2, r3, r4, r5, r6⟩, l1, l2, l3, l4, l5⟩ := h
  have m0 : ¬ nI k < nI 0 := nI_pos (by omega)
  have q1 : ¬ d ≤ k := by omega
  have q2 : ¬ 6 ≤ k := by omega
  simp (disch := first | assumption | omega | exact ixN (by assumption) (by omega) (by omega) | exact ne_10 | exact ne_1000 | exact ne_4) only [s32_0, s32_1, s32_4, s32_5, s32_5a, s32_6, s32_9, s32_12, s32_13, s32_15, s32_18, s32_18a, s32_19, s32_22, s32_23, s32_24, s32_27, s32_29, ↓reduceIte, eq_self, Option.bind_some, Option.bind_none, Option.toList_some, Option.toList_none, List.cons_append, List.nil_append, am_rf_s, am_rf_n, am_c1_i, am_c1_r, am_c1_n, List.all_cons, List.all_nil, Bool.and_self, Bool.and_true, Bool.true_and, List.length_cons, List.length_nil, Nat.reduceAdd, Nat.reduceSub, Nat.reduceMul, Nat.reduceLeDiff, Nat.reduceLT, Nat.zero_le, Nat.le_refl, ne_10, ne_1000, ne_4, not_false_eq_true, or_true, true_or, Nat.one_ne_zero, Nat.zero_ne_one, Nat.reduceEqDiff, Bool.true_eq_false, Bool.false_eq_true, n10, nI_leI, nI_clamp, m0, hd, q1, q2, r1]
theorem c_topHolder (a d : Nat) (h : PL R K a) (hd : I a 3 = nI d) (hd6 : d ≤ 6) : ev 34 0 [some (.ref a)] [] (I, R, K) = some (some (.int (if d = 0 then -1 else I (a + 2) (d - 1))), (I, R, K)) := by
  have h1 := h.1.1
  by_cases q : d = 0
  · subst q
    have e0 : nI 0 - nI 1 < nI 0 := by decide
    have ho : ev 33 0 [some (.ref a), some (.int (nI 0 - nI 1))] [] (I, R, K) = some (some (.int (-1)), (I, R, K)) := by
      simp (disch := first | assumption | omega | exact ixN (by assumption) (by omega) (by omega) | exact ne_10 | exact ne_1000 | exact ne_4) only [s33_0, s33_1, s33_4, s33_5, s33_5a, s33_6, s33_9, s33_12, s33_13, s33_15, s33_18, s33_18a, s33_19, s33_22, s33_23, s33_24, s33_27, s33_28, ↓reduceIte, eq_self, Option.bind_some, Option.bind_none, Option.toList_some, Option.toList_none, List.cons_append, List.nil_append, am_rf_s, am_rf_n, am_c1_i, am_c1_r, am_c1_n, List.all_cons, List.all_nil, Bool.and_self, Bool.and_true, Bool.true_and, List.length_cons, List.length_nil, Nat.reduceAdd, Nat.reduceSub, Nat.reduceMul, Nat.reduceLeDiff, Nat.reduceLT, Nat.zero_le, Nat.le_refl, ne_10, ne_1000, ne_4, not_false_eq_true, or_true, true_or, Nat.one_ne_zero, Nat.zero_ne_one, Nat.reduceEqDiff, Bool.true_eq_false, Bool.false_eq_true, n10, e0]
    simp (disch := first | assumption | omega | exact ixN (by assumption) (by omega) (by omega) | exact ne_10 | exact ne_1000 | exact ne_4) only [s34_0, s34_0a, s34_1, s34_1a, s34_2, s34_5, s34_6, s34_7, s34_10, ↓reduceIte, eq_self, Option.bind_some, Option.bind_none, Option.toList_some, Option.toList_none, List.cons_append, List.nil_append, am_rf_s, am_rf_n, am_c1_i, am_c1_r, am_c1_n, List.all_cons, List.all_nil, Bool.and_self, Bool.and_true, Bool.true_and, List.length_cons, List.length_nil, Nat.reduceAdd, Nat.reduceSub, Nat.reduceMul, Nat.reduceLeDiff, Nat.reduceLT, Nat.zero_le, Nat.le_refl, ne_10, ne_1000, ne_4, not_false_eq_true, or_true, true_or, Nat.one_ne_zero, Nat.zero_ne_one, Nat.reduceEqDiff, Bool.true_eq_false, Bool.false_eq_true, n10, hd, ho]
  · have ho := c_holderAt I R K a d (d - 1) h hd hd6 (by omega)
    rw [if_pos (by omega)] at ho
    simp (disch := first | assumption | omega | exact ixN (by assumption) (by omega) (by omega) | exact ne_10 | exact ne_1000 | exact ne_4) only [s34_0, s34_0a, s34_1, s34_1a, s34_2, s34_5, s34_6, s34_7, s34_10, ↓reduceIte, eq_self, Option.bind_some, Option.bind_none, Option.toList_some, Option.toList_none, List.cons_append, List.nil_append, am_rf_s, am_rf_n, am_c1_i, am_c1_r, am_c1_n, List.all_cons, List.all_nil, Bool.and_self, Bool.and_true, Bool.true_and, List.length_cons, List.length_nil, Nat.reduceAdd, Nat.reduceSub, Nat.reduceMul, Nat.reduceLeDiff, Nat.reduceLT, Nat.zero_le, Nat.le_refl, ne_10, ne_1000, ne_4, not_false_eq_true, or_true, true_or, Nat.one_ne_zero, Nat.zero_ne_one, Nat.reduceEqDiff, Bool.true_eq_false, Bool.false_eq_true, n10, pk_sub, hd, ho, q]
theorem c_holdTop (a d : Nat) (h : PL R K a) (hd : I a 3 = nI d) (hd6 : d ≤ 6) (p : Int32) : ev 35 0 [some (.ref a), some (.int p), none] [] (I, R, K) = if d = 0 ∨ ¬ I (a + 2) (d - 1) = -1 then some (some (.int (nI 0)), (I, R, K)) else some (some (.int (nI 1)), (st I (a + 2) (uf (I (a + 2)) (d - 1) p), R, K)) := by
  obtain ⟨⟨h1, h2, h3, h4, h5, h6, h7⟩, ⟨r1, r2, r3, r4, r5, r6⟩, l1, l2, l3, l4, l5⟩ := h
  by_cases q : d = 0
  · subst q
    have e0 : nI 0 - nI 1 < nI 0 := by decide
    rw [if_pos (Or.inl rfl)]
    simp (disch := first | assumption | omega | exact ixN (by assumption) (by omega) (by omega) | exact ne_10 | exact ne_1000 | exact ne_4) only [s35_0, s35_0a, s35_1, s35_4, s35_5, s35_6, s35_7, s35_8, s35_11, s35_12, s35_14, s35_17, s35_17a, s35_18, s35_21, s35_22, s35_23, s35_24, s35_27, s35_28, s35_28a, s35_28b, s35_28c, s35_29, s35_29a, s35_30, s35_33, s35_34, s35_35, s35_36, s35_37, s35_37a, s35_37b, s35_37c, ↓reduceIte, eq_self, Option.bind_some, Option.bind_none, Option.toList_some, Option.toList_none, List.cons_append, List.nil_append, am_rf_s, am_rf_n, am_c1_i, am_c1_r, am_c1_n, List.all_cons, List.all_nil, Bool.and_self, Bool.and_true, Bool.true_and, List.length_cons, List.length_nil, Nat.reduceAdd, Nat.reduceSub, Nat.reduceMul, Nat.reduceLeDiff, Nat.reduceLT, Nat.zero_le, Nat.le_refl, ne_10, ne_1000, ne_4, not_false_eq_true, or_true, true_or, Nat.one_ne_zero, Nat.zero_ne_one, Nat.reduceEqDiff, Bool.true_eq_false, Bool.false_eq_true, n10, hd, e0]
  · have m0 : ¬ nI (d - 1) < nI 0 := nI_pos (by omega)
    have q2 : ¬ 6 ≤ d - 1 := by omega
    by_cases q3 : I (a + 2) (d - 1) = -1
    · rw [if_neg (by rintro (z | z); exact q z; exact z q3)]
      simp (disch := first | assumption | omega | exact ixN (by assumption) (by omega) (by omega) | exact ne_10 | exact ne_1000 | exact ne_4) only [s35_0, s35_0a, s35_1, s35_4, s35_5, s35_6, s35_7, s35_8, s35_11, s35_12, s35_14, s35_17, s35_17a, s35_18, s35_21, s35_22, s35_23, s35_24, s35_27, s35_28, s35_28a, s35_28b, s35_28c, s35_29, s35_29a, s35_30, s35_33, s35_34, s35_35, s35_36, s35_37, s35_37a, s35_37b, s35_37c, ↓reduceIte, eq_self, Option.bind_some, Option.bind_none, Option.toList_some, Option.toList_none, List.cons_append, List.nil_append, am_rf_s, am_rf_n, am_c1_i, am_c1_r, am_c1_n, List.all_cons, List.all_nil, Bool.and_self, Bool.and_true, Bool.true_and, List.length_cons, List.length_nil, Nat.reduceAdd, Nat.reduceSub, Nat.reduceMul, Nat.reduceLeDiff, Nat.reduceLT, Nat.zero_le, Nat.le_refl, ne_10, ne_1000, ne_4, not_false_eq_true, or_true, true_or, Nat.one_ne_zero, Nat.zero_ne_one, Nat.reduceEqDiff, Bool.true_eq_false, Bool.false_eq_true, n10, pk_sub, nI_leI, nI_clamp, ui_st, hd, m0, q2, r2, q3]
    · rw [if_pos (Or.inr q3)]
      simp (disch := first | assumption | omega | exact ixN (by assumption) (by omega) (by omega) | exact ne_10 | exact ne_1000 | exact ne_4) only [s35_0, s35_0a, s35_1, s35_4, s35_5, s35_6, s35_7, s35_8, s35_11, s35_12, s35_14, s35_17, s35_17a, s35_18, s35_21, s35_22, s35_23, s35_24, s35_27, s35_28, s35_28a, s35_28b, s35_28c, s35_29, s35_29a, s35_30, s35_33, s35_34, s35_35, s35_36, s35_37, s35_37a, s35_37b, s35_37c, ↓reduceIte, eq_self, Option.bind_some, Option.bind_none, Option.toList_some, Option.toList_none, List.cons_append, List.nil_append, am_rf_s, am_rf_n, am_c1_i, am_c1_r, am_c1_n, List.all_cons, List.all_nil, Bool.and_self, Bool.and_true, Bool.true_and, List.length_cons, List.length_nil, Nat.reduceAdd, Nat.reduceSub, Nat.reduceMul, Nat.reduceLeDiff, Nat.reduceLT, Nat.zero_le, Nat.le_refl, ne_10, ne_1000, ne_4, not_false_eq_true, or_true, true_or, Nat.one_ne_zero, Nat.zero_ne_one, Nat.reduceEqDiff, Bool.true_eq_false, Bool.false_eq_true, n10, pk_sub, nI_leI, nI_clamp, ui_st, hd, m0, q2, r2, q3]
theorem c_goTo (a : Nat) (h : PL R K a) (x y : Int32) : ev 36 0 [some (.ref a), some (.int x), some (.int y)] [] (I, R, K) = some (none, (st I a (uf (uf (uf (uf (I a) 4 x) 5 y) 3 (nI 0)) 6 (nI 0)), R, K)) := by
  have h1 := h.1.1
  have z0 : nI 0 = nI 0 ∨ nI 0 = nI 1 := Or.inl rfl
  simp (disch := first | assumption | omega | exact ixN (by assumption) (by omega) (by omega) | exact ne_10 | exact ne_1000 | exact ne_4) only [s36_0, s36_0a, s36_1, s36_2, s36_5, s36_5a, s36_6, s36_7, s36_10, s36_10a, s36_11, s36_12, s36_15, s36_15a, s36_16, s36_17, s36_20, ↓reduceIte, eq_self, Option.bind_some, Option.bind_none, Option.toList_some, Option.toList_none, List.cons_append, List.nil_append, am_rf_s, am_rf_n, am_c1_i, am_c1_r, am_c1_n, List.all_cons, List.all_nil, Bool.and_self, Bool.and_true, Bool.true_and, List.length_cons, List.length_nil, Nat.reduceAdd, Nat.reduceSub, Nat.reduceMul, Nat.reduceLeDiff, Nat.reduceLT, Nat.zero_le, Nat.le_refl, ne_10, ne_1000, ne_4, not_false_eq_true, or_true, true_or, Nat.one_ne_zero, Nat.zero_ne_one, Nat.reduceEqDiff, Bool.true_eq_false, Bool.false_eq_true, n10, ui_st, st_st, st_eq, st_ne, uf_eq, uf_ne]
theorem c_ptell (a : Nat) (h : PL R K a) (w : Int32) : ev 37 0 [some (.ref a), some (.int w)] [] (I, R, K) = some (some (.int (ptl I a w)), (I, R, K)) := by
  have h1 := h.1.1
  unfold ptl
  simp (disch := first | assumption | omega | exact ixN (by assumption) (by omega) (by omega) | exact ne_10 | exact ne_1000 | exact ne_4) only [s37_0, s37_1, s37_32, s37_32a, s37_33, s37_36, s37_37, s37_37a, s37_38, s37_41, s37_42, s37_42a, s37_43, s37_46, s37_47, s37_47a, s37_48, s37_51, s37_54, s37_55, s37_58, s37_59, s37_60, s37_61, ↓reduceIte, eq_self, Option.bind_some, Option.bind_none, Option.toList_some, Option.toList_none, List.cons_append, List.nil_append, am_rf_s, am_rf_n, am_c1_i, am_c1_r, am_c1_n, List.all_cons, List.all_nil, Bool.and_self, Bool.and_true, Bool.true_and, List.length_cons, List.length_nil, Nat.reduceAdd, Nat.reduceSub, Nat.reduceMul, Nat.reduceLeDiff, Nat.reduceLT, Nat.zero_le, Nat.le_refl, ne_10, ne_1000, ne_4, not_false_eq_true, or_true, true_or, Nat.one_ne_zero, Nat.zero_ne_one, Nat.reduceEqDiff, Bool.true_eq_false, Bool.false_eq_true, n10]
  repeat' split
  all_goals rfl
theorem c_pclear (a : Nat) (h : PL R K a) : ∃ I', ev 38 0 [some (.ref a)] [] (I, R, K) = some (none, (I', R, K)) ∧ (∀ j, 3 ≤ j → j ≤ 7 → I' a j = nI 0) ∧ I' (a + 3) 3 = nI 0 ∧ I' (a + 3) 4 = nI 0 ∧ (∀ c, c ≠ a → c ≠ a + 3 → I' c = I c) := by
  have g := c_goTo I R K a h (nI 0) (nI 0)
  obtain ⟨⟨h1, h2, h3, h4, h5, h6, h7⟩, ⟨r1, r2, r3, r4, r5, r6⟩, l1, l2, l3, l4, l5⟩ := h
  have rc : ∀ J : am_I, ev 44 0 [some (.ref (a + 3))] [] (J, R, K) = some (none, (st J (a + 3) (uf (uf (J (a + 3)) 3 (nI 0)) 4 (nI 0)), R, K)) := fun J => by
    simp (disch := first | assumption | omega | exact ixN (by assumption) (by omega) (by omega) | exact ne_10 | exact ne_1000 | exact ne_4) only [s44_0, s44_0a, s44_1, s44_2, s44_5, s44_5a, s44_6, s44_7, s44_10, ↓reduceIte, eq_self, Option.bind_some, Option.bind_none, Option.toList_some, Option.toList_none, List.cons_append, List.nil_append, am_rf_s, am_rf_n, am_c1_i, am_c1_r, am_c1_n, List.all_cons, List.all_nil, Bool.and_self, Bool.and_true, Bool.true_and, List.length_cons, List.length_nil, Nat.reduceAdd, Nat.reduceSub, Nat.reduceMul, Nat.reduceLeDiff, Nat.reduceLT, Nat.zero_le, Nat.le_refl, ne_10, ne_1000, ne_4, not_false_eq_true, or_true, true_or, Nat.one_ne_zero, Nat.zero_ne_one, Nat.reduceEqDiff, Bool.true_eq_false, Bool.false_eq_true, n10, ui_st, st_st, st_eq, st_ne, uf_eq, uf_ne]
  refine ⟨_, by
    simp (disch := first | assumption | omega | exact ixN (by assumption) (by omega) (by omega) | exact ne_10 | exact ne_1000 | exact ne_4) only [s38_0, s38_0a, s38_1, s38_2, s38_3, s38_6, s38_6a, s38_7, s38_8, s38_11, s38_11a, s38_12, s38_15, s38_18, ↓reduceIte, eq_self, Option.bind_some, Option.bind_none, Option.toList_some, Option.toList_none, List.cons_append, List.nil_append, am_rf_s, am_rf_n, am_c1_i, am_c1_r, am_c1_n, List.all_cons, List.all_nil, Bool.and_self, Bool.and_true, Bool.true_and, List.length_cons, List.length_nil, Nat.reduceAdd, Nat.reduceSub, Nat.reduceMul, Nat.reduceLeDiff, Nat.reduceLT, Nat.zero_le, Nat.le_refl, ne_10, ne_1000, ne_4, not_false_eq_true, or_true, true_or, Nat.one_ne_zero, Nat.zero_ne_one, Nat.reduceEqDiff, Bool.true_eq_false, Bool.false_eq_true, n10, ui_st, st_st, st_eq, st_ne, uf_eq, uf_ne, g, r3, rc]
    rfl, ?_, by first | assumption | (simp (disch := omega) only [st_eq, st_ne, uf_eq, uf_ne]; done) | (simp (disch := omega) only [st_eq, st_ne, uf_eq, uf_ne]; assumption), by first | assumption | (simp (disch := omega) only [st_eq, st_ne, uf_eq, uf_ne]; done) | (simp (disch := omega) only [st_eq, st_ne, uf_eq, uf_ne]; assumption), fun c z1 z2 => by first | assumption | (simp (disch := omega) only [st_eq, st_ne, uf_eq, uf_ne]; done) | (simp (disch := omega) only [st_eq, st_ne, uf_eq, uf_ne]; assumption)⟩
  intro j j1 j2
  have : j = 3 ∨ j = 4 ∨ j = 5 ∨ j = 6 ∨ j = 7 := by omega
  rcases this with rfl | rfl | rfl | rfl | rfl
  all_goals first | assumption | (simp (disch := omega) only [st_eq, st_ne, uf_eq, uf_ne]; done) | (simp (disch := omega) only [st_eq, st_ne, uf_eq, uf_ne]; assumption)
theorem c_pcopy (a b : Nat) (h : PL R K a) (hb : PL R K b) (hab : a + 6 < b ∨ b + 6 < a) (h01 : I b 6 = nI 0 ∨ I b 6 = nI 1) : ∃ I', ev 39 0 [some (.ref a), some (.ref b)] [] (I, R, K) = some (none, (I', R, K)) ∧ (∀ j, 3 ≤ j → j ≤ 7 → I' a j = I b j) ∧ I' (a + 3) 3 = I (b + 3) 3 ∧ I' (a + 3) 4 = I (b + 3) 4 ∧ (∀ k, k < 6 → I' (a + 1) k = I (b + 1) k ∧ I' (a + 2) k = I (b + 2) k) ∧ (∀ k, k < 4 → I' (a + 4) k = I (b + 4) k ∧ I' (a + 5) k = I (b + 5) k ∧ I' (a + 6) k = I (b + 6) k) ∧ (∀ c, (c < a ∨ a + 6 < c) → I' c = I c) := by
  obtain ⟨⟨h1, h2, h3, h4, h5, h6, h7⟩, ⟨r1, r2, r3, r4, r5, r6⟩, l1, l2, l3, l4, l5⟩ := h
  obtain ⟨⟨h1', h2', h3', h4', h5', h6', h7'⟩, ⟨r1', r2', r3', r4', r5', r6'⟩, l1', l2', l3', l4', l5'⟩ := hb
  have p0 := np0
  have p4 := np4
  have p6 := np6
  have s06 : (nI 0).toNatClampNeg + (nI 6).toNatClampNeg = 6 := by decide
  have s04 : (nI 0).toNatClampNeg + (nI 4).toNatClampNeg = 4 := by decide
  have q1 : (nI 0).toNatClampNeg + (nI 6).toNatClampNeg ≤ K.1 (a + 1) := by omega
  have q2 : (nI 0).toNatClampNeg + (nI 6).toNatClampNeg ≤ K.1 (a + 2) := by omega
  have q3 : (nI 0).toNatClampNeg + (nI 4).toNatClampNeg ≤ K.1 (a + 4) := by omega
  have q4 : (nI 0).toNatClampNeg + (nI 4).toNatClampNeg ≤ K.1 (a + 5) := by omega
  have q5 : (nI 0).toNatClampNeg + (nI 4).toNatClampNeg ≤ K.1 (a + 6) := by omega
  have u1 : (nI 0).toNatClampNeg + (nI 6).toNatClampNeg ≤ K.1 (b + 1) := by omega
  have u2 : (nI 0).toNatClampNeg + (nI 6).toNatClampNeg ≤ K.1 (b + 2) := by omega
  have u3 : (nI 0).toNatClampNeg + (nI 4).toNatClampNeg ≤ K.1 (b + 4) := by omega
  have u4 : (nI 0).toNatClampNeg + (nI 4).toNatClampNeg ≤ K.1 (b + 5) := by omega
  have u5 : (nI 0).toNatClampNeg + (nI 4).toNatClampNeg ≤ K.1 (b + 6) := by omega
  have k0 : (nI 0).toNatClampNeg = 0 := by decide
  have k4 : (nI 4).toNatClampNeg = 4 := by decide
  have k6 : (nI 6).toNatClampNeg = 6 := by decide
  have rc : ∀ J : am_I, ∃ I', ev 45 0 [some (.ref (a + 3)), some (.ref (b + 3))] [] (J, R, K) = some (none, (I', R, K)) ∧ I' (a + 3) 3 = J (b + 3) 3 ∧ I' (a + 3) 4 = J (b + 3) 4 ∧ (∀ k, k < 4 → I' (a + 4) k = J (b + 4) k ∧ I' (a + 5) k = J (b + 5) k ∧ I' (a + 6) k = J (b + 6) k) ∧ (∀ c, (c < a + 3 ∨ a + 6 < c) → I' c = J c) := fun J => by
    refine ⟨_, by
      simp (disch := first | assumption | omega | exact ixN (by assumption) (by omega) (by omega) | exact ne_10 | exact ne_1000 | exact ne_4) only [s45_0, s45_0a, s45_1, s45_4, s45_5, s45_5a, s45_6, s45_9, s45_10, s45_11, s45_14, s45_14a, s45_15, s45_18, s45_19, s45_19a, s45_20, s45_23, s45_24, s45_25, s45_28, s45_28a, s45_29, s45_32, s45_33, s45_33a, s45_34, s45_37, s45_38, s45_39, s45_42, s45_42a, s45_43, s45_43a, s45_44, s45_47, s45_50, s45_50a, s45_51, s45_51a, s45_52, s45_55, s45_58, ↓reduceIte, eq_self, Option.bind_some, Option.bind_none, Option.toList_some, Option.toList_none, List.cons_append, List.nil_append, am_rf_s, am_rf_n, am_c1_i, am_c1_r, am_c1_n, List.all_cons, List.all_nil, Bool.and_self, Bool.and_true, Bool.true_and, List.length_cons, List.length_nil, Nat.reduceAdd, Nat.reduceSub, Nat.reduceMul, Nat.reduceLeDiff, Nat.reduceLT, Nat.zero_le, Nat.le_refl, ne_10, ne_1000, ne_4, not_false_eq_true, or_true, true_or, Nat.one_ne_zero, Nat.zero_ne_one, Nat.reduceEqDiff, Bool.true_eq_false, Bool.false_eq_true, n10, ui_st, st_st, st_eq, st_ne, uf_eq, uf_ne, r4, r5, r6, r4', r5', r6', k0, k4, cp0]
      rfl, by first | assumption | (simp (disch := omega) only [st_eq, st_ne, uf_eq, uf_ne]; done) | (simp (disch := omega) only [st_eq, st_ne, uf_eq, uf_ne]; assumption), by first | assumption | (simp (disch := omega) only [st_eq, st_ne, uf_eq, uf_ne]; done) | (simp (disch := omega) only [st_eq, st_ne, uf_eq, uf_ne]; assumption), fun k hk => ⟨?_, ?_, ?_⟩, fun c z => by first | assumption | (simp (disch := omega) only [st_eq, st_ne, uf_eq, uf_ne]; done) | (simp (disch := omega) only [st_eq, st_ne, uf_eq, uf_ne]; assumption)⟩
    · simp (disch := omega) only [st_eq, st_ne, cpy_lt]
    · simp (disch := omega) only [st_eq, st_ne, cpy_lt]
    · simp (disch := omega) only [st_eq, st_ne, cpy_lt]
  obtain ⟨J, hJ⟩ : ∃ J, J = st (st I (a + 1) (cpy 6 (I (b + 1)) (I (a + 1)))) (a + 2) (cpy 6 (I (b + 2)) (I (a + 2))) := ⟨_, rfl⟩
  obtain ⟨J2, v1, v2, v3, v4, v5⟩ := rc J
  have b6 : J2 b 6 = nI 0 ∨ J2 b 6 = nI 1 := by
    rw [v5 b (by omega), hJ, st_ne _ _ (by omega), st_ne _ _ (by omega)]; exact h01
  have jb : ∀ c, (c < a ∨ a + 6 < c) → J2 c = I c := fun c z => by
    rw [v5 c (by omega), hJ, st_ne _ _ (by omega), st_ne _ _ (by omega)]
  have jbb := jb b (by omega)
  have jc : ∀ c, (c < a ∨ a + 6 < c) → J c = I c := fun c z => by
    rw [hJ, st_ne _ _ (by omega), st_ne _ _ (by omega)]
  have b6' : I b 6 = nI 0 ∨ I b 6 = nI 1 := h01
  have m2 : st I (a + 1) (cpy 6 (I (b + 1)) (I (a + 1))) (b + 2) = I (b + 2) := st_ne _ _ (by omega)
  have m3 : st I (a + 1) (cpy 6 (I (b + 1)) (I (a + 1))) (a + 2) = I (a + 2) := st_ne _ _ (by omega)
  refine ⟨st J2 a (uf (uf (uf (uf (uf (J2 a) 3 (I b 3)) 4 (I b 4)) 5 (I b 5)) 6 (I b 6)) 7 (I b 7)), ?_, ?_, ?_, ?_, ?_, ?_, ?_⟩
  · simp (disch := first | assumption | omega | exact ixN (by assumption) (by omega) (by omega) | exact ne_10 | exact ne_1000 | exact ne_4) only [s39_0, s39_0a, s39_1, s39_4, s39_5, s39_5a, s39_6, s39_9, s39_10, s39_12, s39_15, s39_15a, s39_16, s39_19, s39_20, s39_20a, s39_21, s39_24, s39_25, s39_27, s39_30, s39_30a, s39_31, s39_34, s39_34a, s39_35, s39_38, s39_41, s39_41a, s39_42, s39_42a, s39_43, s39_46, s39_49, s39_49a, s39_50, s39_50a, s39_51, s39_54, s39_57, s39_57a, s39_58, s39_58a, s39_59, s39_62, s39_65, s39_65a, s39_66, s39_66a, s39_67, s39_70, s39_73, s39_73a, s39_74, s39_74a, s39_75, s39_78, s39_81, ↓reduceIte, eq_self, Option.bind_some, Option.bind_none, Option.toList_some, Option.toList_none, List.cons_append, List.nil_append, am_rf_s, am_rf_n, am_c1_i, am_c1_r, am_c1_n, List.all_cons, List.all_nil, Bool.and_self, Bool.and_true, Bool.true_and, List.length_cons, List.length_nil, Nat.reduceAdd, Nat.reduceSub, Nat.reduceMul, Nat.reduceLeDiff, Nat.reduceLT, Nat.zero_le, Nat.le_refl, ne_10, ne_1000, ne_4, not_false_eq_true, or_true, true_or, Nat.one_ne_zero, Nat.zero_ne_one, Nat.reduceEqDiff, Bool.true_eq_false, Bool.false_eq_true, n10, ui_st, st_st, st_eq, st_ne, uf_eq, uf_ne, r1, r2, r3, r1', r2', r3', k0, k6, cp0, m2, m3, ← hJ, v1, jbb]
  · intro j j1 j2
    have : j = 3 ∨ j = 4 ∨ j = 5 ∨ j = 6 ∨ j = 7 := by omega
    rcases this with rfl | rfl | rfl | rfl | rfl
    all_goals first | assumption | (simp (disch := omega) only [st_eq, st_ne, uf_eq, uf_ne]; done) | (simp (disch := omega) only [st_eq, st_ne, uf_eq, uf_ne]; assumption)
  · rw [st_ne _ _ (by omega), v2, jc _ (by omega)]
  · rw [st_ne _ _ (by omega), v3, jc _ (by omega)]
  · intro k hk
    rw [st_ne _ _ (by omega), st_ne _ _ (by omega), v5 (a + 1) (by omega), v5 (a + 2) (by omega), hJ]
    exact ⟨by rw [st_ne _ _ (by omega), st_eq, cpy_lt hk], by rw [st_eq, cpy_lt hk]⟩
  · intro k hk
    obtain ⟨y1, y2, y3⟩ := v4 k hk
    rw [st_ne _ _ (by omega), st_ne _ _ (by omega), st_ne _ _ (by omega), y1, y2, y3, jc _ (by omega), jc _ (by omega), jc _ (by omega)]
    exact ⟨rfl, rfl, rfl⟩
  · intro c z
    rw [st_ne _ _ (by omega), jb c z]
end CU
