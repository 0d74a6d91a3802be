/-! base rows for contracts -/
theorem am_rf_s (a : Nat) : am_rf (some a) = .ref a := rfl
theorem am_rf_n : am_rf none = .null := rfl
theorem am_c1_i (x : Int32) : am_c1 (.int x) = true := rfl
theorem am_c1_r (x : Nat) : am_c1 (.ref x) = true := rfl
theorem am_c1_n : am_c1 .null = true := rfl
theorem n10 : (nI 1 = nI 0) = False := eq_false (by decide)
theorem ne_10 : ¬ nI 10 = nI 0 := by decide
theorem ne_1000 : ¬ nI 1000 = nI 0 := by decide
theorem ne_4 : ¬ nI 4 = nI 0 := by decide
theorem bI_t : bI true = nI 1 := rfl
theorem bI_f : bI false = nI 0 := rfl
section C0
variable (I : am_I) (R : am_R) (K : am_K)
theorem c_within (x a b : Int32) : ev 96 0 [some (.int x), some (.int a), some (.int b)] [] (I, R, K) = some (some (.int (bI (decide (a ≤ x) && decide (x ≤ b)))), (I, R, K)) := by
  simp only [s96_0, s96_1, s96_2, s96_5, s96_6, s96_7, s96_10, s96_11, s96_14, s96_15, s96_15a, s96_15b, s96_15c, ↓reduceIte, eq_self, Option.bind_some, Option.bind_none, Option.toList_some, Option.toList_none, List.cons_append, List.nil_append, am_rf_s, am_rf_n, am_c1_i, am_c1_r, am_c1_n, List.all_cons, List.all_nil, Bool.and_self, Bool.and_true, Bool.true_and, List.length_cons, List.length_nil, Nat.reduceAdd, Nat.reduceSub, Nat.reduceMul, Nat.reduceLeDiff, Nat.reduceLT, Nat.zero_le, Nat.le_refl, ne_10, ne_1000, ne_4, not_false_eq_true, or_true, true_or, Nat.one_ne_zero, Nat.zero_ne_one, Nat.reduceEqDiff, Bool.true_eq_false, Bool.false_eq_true, n10]
  by_cases h1 : x < a
  · simp [h1, bI, Int32.not_le.mpr h1]
  · by_cases h2 : b < x
    · simp [h1, h2, bI, Int32.not_le.mpr h2]
    · simp [h1, h2, bI, Int32.not_lt.mp h1, Int32.not_lt.mp h2]
theorem c_isIn (x a b : Int32) : ev 104 0 [some (.int x), some (.int a), some (.int b)] [] (I, R, K) = some (some (.int (bI (decide (a ≤ x) && decide (x ≤ b)))), (I, R, K)) := by
  simp only [s104_0, s104_1, s104_2, s104_5, s104_6, s104_7, s104_10, s104_11, s104_14, s104_15, s104_15a, s104_15b, s104_15c, ↓reduceIte, eq_self, Option.bind_some, Option.bind_none, Option.toList_some, Option.toList_none, List.cons_append, List.nil_append, am_rf_s, am_rf_n, am_c1_i, am_c1_r, am_c1_n, List.all_cons, List.all_nil, Bool.and_self, Bool.and_true, Bool.true_and, List.length_cons, List.length_nil, Nat.reduceAdd, Nat.reduceSub, Nat.reduceMul, Nat.reduceLeDiff, Nat.reduceLT, Nat.zero_le, Nat.le_refl, ne_10, ne_1000, ne_4, not_false_eq_true, or_true, true_or, Nat.one_ne_zero, Nat.zero_ne_one, Nat.reduceEqDiff, Bool.true_eq_false, Bool.false_eq_true, n10]
  by_cases h1 : x < a
  · simp [h1, bI, Int32.not_le.mpr h1]
  · by_cases h2 : b < x
    · simp [h1, h2, bI, Int32.not_le.mpr h2]
    · simp [h1, h2, bI, Int32.not_lt.mp h1, Int32.not_lt.mp h2]
end C0
section C1
variable (I : am_I) (R : am_R) (K : am_K)
theorem c_Text_clear (a : Nat) (h : am_isK K a 8 = true) : ev 66 0 [some (.ref a)] [] (I, R, K) = some (none, (am_ui I a 1 (nI 0), R, K)) := by
  simp only [s66_0, s66_0a, s66_1, s66_2, s66_5, ↓reduceIte, eq_self, Option.bind_some, Option.bind_none, Option.toList_some, Option.toList_none, List.cons_append, List.nil_append, am_rf_s, am_rf_n, am_c1_i, am_c1_r, am_c1_n, List.all_cons, List.all_nil, Bool.and_self, Bool.and_true, Bool.true_and, List.length_cons, List.length_nil, Nat.reduceAdd, Nat.reduceSub, Nat.reduceMul, Nat.reduceLeDiff, Nat.reduceLT, Nat.zero_le, Nat.le_refl, ne_10, ne_1000, ne_4, not_false_eq_true, or_true, true_or, Nat.one_ne_zero, Nat.zero_ne_one, Nat.reduceEqDiff, Bool.true_eq_false, Bool.false_eq_true, n10, h]
theorem c_Text_at (a d : Nat) (x : Int32) (h : am_isK K a 8 = true) (hd : R a 0 = some d) (h2 : am_isK K d 22 = true) (hx : am_ix x (K.1 d) = true) (h0 : ¬ x < nI 0) (h1 : x < I a 1) (h3 : x < nI (K.1 d)) : ev 67 0 [some (.ref a), some (.int x)] [] (I, R, K) = some (some (.int (am_h (I d x.toNatClampNeg))), (I, R, K)) := by
  simp [s67_0, s67_1, s67_4, s67_5, s67_5a, s67_6, s67_9, s67_12, s67_13, s67_13a, s67_14, s67_17, s67_17a, s67_17b, s67_17c, s67_18, s67_21, s67_21a, s67_22, s67_25, s67_26, s67_27, s67_30, s67_31, s67_31a, ↓reduceIte, eq_self, Option.bind_some, Option.bind_none, Option.toList_some, Option.toList_none, List.cons_append, List.nil_append, am_rf_s, am_rf_n, am_c1_i, am_c1_r, am_c1_n, List.all_cons, List.all_nil, Bool.and_self, Bool.and_true, Bool.true_and, List.length_cons, List.length_nil, Nat.reduceAdd, Nat.reduceSub, Nat.reduceMul, Nat.reduceLeDiff, Nat.reduceLT, Nat.zero_le, Nat.le_refl, ne_10, ne_1000, ne_4, not_false_eq_true, or_true, true_or, Nat.one_ne_zero, Nat.zero_ne_one, Nat.reduceEqDiff, Bool.true_eq_false, Bool.false_eq_true, n10, h, hd, h2, hx, h0, Int32.not_le.mpr h1, Int32.not_le.mpr h3]
end C1
