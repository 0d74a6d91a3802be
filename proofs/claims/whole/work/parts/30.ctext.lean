/-! the class: letters -/
/-- Text a, its letters at d with room for m: n letters tx -/
def RT (I : am_I) (R : am_R) (K : am_K) (a d m n : Nat) (tx : Nat → Int32) : Prop := am_isK K a 8 = true ∧ am_isK K d 22 = true ∧ R a 0 = some d ∧ K.1 d = m ∧ I a 1 = nI n ∧ n ≤ m ∧ m ≤ 200 ∧ ∀ i, i < n → am_h (I d i) = tx i
def tN (tx : Nat → Int32) (n i : Nat) : Int32 := if i < n then tx i else nI 0
def fgI (c : Int32) : Int32 := if c < nI 48 then -4 else if nI 57 < c then -4 else c - nI 48
def wO (c : Int32) : Nat := if c = nI 99 ∨ c = nI 106 ∨ c = nI 122 then 3 else if c = nI 100 ∨ c = nI 104 ∨ c = nI 105 ∨ c = nI 114 then 1 else if c = nI 108 ∨ c = nI 112 ∨ c = nI 115 then 2 else 0
theorem am_h_all : ∀ k, k < 128 → am_h (nI k) = nI k := by decide +kernel
theorem am_h_nI {k : Nat} (h : k < 128) : am_h (nI k) = nI k := am_h_all k h
theorem i2c_nI {k : Nat} (h : k < 128) : ((nI k).toUInt32 % 65536).toInt32 = nI k := am_h_all k h
section CT
variable (I : am_I) (R : am_R) (K : am_K) (a d m n : Nat) (tx : Nat → Int32)
theorem c_at (h : RT I R K a d m n tx) (i : Nat) (hi : i < 2 ^ 31) : ev 67 0 [some (.ref a), some (.int (nI i))] [] (I, R, K) = some (some (.int (tN tx n i)), (I, R, K)) := by
  obtain ⟨h1, h2, h3, h4, h5, h6, h7, h8⟩ := h
  have h0 : ¬ nI i < nI 0 := nI_pos hi
  unfold tN
  by_cases q : i < n
  · have q1 : ¬ n ≤ i := by omega
    have q2 : ¬ m ≤ i := by omega
    rw [if_pos q, ← h8 i q]
    simp (disch := first | assumption | omega | exact ixN (by assumption) (by omega) (by omega) | exact ne_10 | exact ne_1000 | exact ne_4) only [s67_0, s67_1, s67_4, s67_5, s67_5a, s67_6, s67_9, s67_12, s67_13, s67_13a, s67_14, s67_17, s67_17a, s67_17b, s67_17c, s67_18, s67_21, s67_21a, s67_22, s67_25, s67_26, s67_27, s67_30, s67_31, s67_31a, ↓reduceIte, eq_self, Option.bind_some, Option.bind_none, Option.toList_some, Option.toList_none, List.cons_append, List.nil_append, am_rf_s, am_rf_n, am_c1_i, am_c1_r, am_c1_n, List.all_cons, List.all_nil, Bool.and_self, Bool.and_true, Bool.true_and, List.length_cons, List.length_nil, Nat.reduceAdd, Nat.reduceSub, Nat.reduceMul, Nat.reduceLeDiff, Nat.reduceLT, Nat.zero_le, Nat.le_refl, ne_10, ne_1000, ne_4, not_false_eq_true, or_true, true_or, Nat.one_ne_zero, Nat.zero_ne_one, Nat.reduceEqDiff, Bool.true_eq_false, Bool.false_eq_true, n10, nI_leI, nI_clamp, h0, h3, h4, h5, q1, q2]
  · have q1 : n ≤ i := by omega
    rw [if_neg q]
    simp (disch := first | assumption | omega | exact ixN (by assumption) (by omega) (by omega) | exact ne_10 | exact ne_1000 | exact ne_4) only [s67_0, s67_1, s67_4, s67_5, s67_5a, s67_6, s67_9, s67_12, s67_13, s67_13a, s67_14, s67_17, s67_17a, s67_17b, s67_17c, s67_18, s67_21, s67_21a, s67_22, s67_25, s67_26, s67_27, s67_30, s67_31, s67_31a, ↓reduceIte, eq_self, Option.bind_some, Option.bind_none, Option.toList_some, Option.toList_none, List.cons_append, List.nil_append, am_rf_s, am_rf_n, am_c1_i, am_c1_r, am_c1_n, List.all_cons, List.all_nil, Bool.and_self, Bool.and_true, Bool.true_and, List.length_cons, List.length_nil, Nat.reduceAdd, Nat.reduceSub, Nat.reduceMul, Nat.reduceLeDiff, Nat.reduceLT, Nat.zero_le, Nat.le_refl, ne_10, ne_1000, ne_4, not_false_eq_true, or_true, true_or, Nat.one_ne_zero, Nat.zero_ne_one, Nat.reduceEqDiff, Bool.true_eq_false, Bool.false_eq_true, n10, nI_leI, nI_clamp, h0, h3, h4, h5, q1]
theorem c_figureAt (h : RT I R K a d m n tx) (i : Nat) (hi : i < 2 ^ 31) : ev 68 0 [some (.ref a), some (.int (nI i)), none] [] (I, R, K) = some (some (.int (fgI (tN tx n i))), (I, R, K)) := by
  have e := c_at I R K a d m n tx h i hi
  have h1 := h.1
  unfold fgI
  by_cases q : tN tx n i < nI 48
  · simp (disch := first | assumption | omega | exact ixN (by assumption) (by omega) (by omega) | exact ne_10 | exact ne_1000 | exact ne_4) only [s68_0, s68_0a, s68_1, s68_2, s68_5, s68_6, s68_7, s68_9, s68_12, s68_13, s68_15, s68_18, s68_19, s68_21, s68_22, s68_25, s68_27, ↓reduceIte, eq_self, Option.bind_some, Option.bind_none, Option.toList_some, Option.toList_none, List.cons_append, List.nil_append, am_rf_s, am_rf_n, am_c1_i, am_c1_r, am_c1_n, List.all_cons, List.all_nil, Bool.and_self, Bool.and_true, Bool.true_and, List.length_cons, List.length_nil, Nat.reduceAdd, Nat.reduceSub, Nat.reduceMul, Nat.reduceLeDiff, Nat.reduceLT, Nat.zero_le, Nat.le_refl, ne_10, ne_1000, ne_4, not_false_eq_true, or_true, true_or, Nat.one_ne_zero, Nat.zero_ne_one, Nat.reduceEqDiff, Bool.true_eq_false, Bool.false_eq_true, n10, e, q]
  · by_cases q2 : nI 57 < tN tx n i
    · simp (disch := first | assumption | omega | exact ixN (by assumption) (by omega) (by omega) | exact ne_10 | exact ne_1000 | exact ne_4) only [s68_0, s68_0a, s68_1, s68_2, s68_5, s68_6, s68_7, s68_9, s68_12, s68_13, s68_15, s68_18, s68_19, s68_21, s68_22, s68_25, s68_27, ↓reduceIte, eq_self, Option.bind_some, Option.bind_none, Option.toList_some, Option.toList_none, List.cons_append, List.nil_append, am_rf_s, am_rf_n, am_c1_i, am_c1_r, am_c1_n, List.all_cons, List.all_nil, Bool.and_self, Bool.and_true, Bool.true_and, List.length_cons, List.length_nil, Nat.reduceAdd, Nat.reduceSub, Nat.reduceMul, Nat.reduceLeDiff, Nat.reduceLT, Nat.zero_le, Nat.le_refl, ne_10, ne_1000, ne_4, not_false_eq_true, or_true, true_or, Nat.one_ne_zero, Nat.zero_ne_one, Nat.reduceEqDiff, Bool.true_eq_false, Bool.false_eq_true, n10, e, q, q2]
    · simp (disch := first | assumption | omega | exact ixN (by assumption) (by omega) (by omega) | exact ne_10 | exact ne_1000 | exact ne_4) only [s68_0, s68_0a, s68_1, s68_2, s68_5, s68_6, s68_7, s68_9, s68_12, s68_13, s68_15, s68_18, s68_19, s68_21, s68_22, s68_25, s68_27, ↓reduceIte, eq_self, Option.bind_some, Option.bind_none, Option.toList_some, Option.toList_none, List.cons_append, List.nil_append, am_rf_s, am_rf_n, am_c1_i, am_c1_r, am_c1_n, List.all_cons, List.all_nil, Bool.and_self, Bool.and_true, Bool.true_and, List.length_cons, List.length_nil, Nat.reduceAdd, Nat.reduceSub, Nat.reduceMul, Nat.reduceLeDiff, Nat.reduceLT, Nat.zero_le, Nat.le_refl, ne_10, ne_1000, ne_4, not_false_eq_true, or_true, true_or, Nat.one_ne_zero, Nat.zero_ne_one, Nat.reduceEqDiff, Bool.true_eq_false, Bool.false_eq_true, n10, e, q, q2]
theorem c_add (h : RT I R K a d m n tx) (c : Int32) : ev 65 0 [some (.ref a), some (.int c)] [] (I, R, K) = if n = m then some (some (.int (nI 0)), (I, R, K)) else some (some (.int (nI 1)), (st (st I d (uf (I d) n c)) a (uf (I a) 1 (nI (n + 1))), R, K)) := by
  obtain ⟨h1, h2, h3, h4, h5, h6, h7, h8⟩ := h
  have h0 : ¬ nI n < nI 0 := nI_pos (by omega)
  have had : a ≠ d := by
    rintro rfl
    have e1 := (am_isK_of h1).2.2
    have e2 := (am_isK_of h2).2.2
    omega
  by_cases q : n = m
  · have q1 : ¬ n < m := by omega
    rw [if_pos q]
    simp (disch := first | assumption | omega | exact ixN (by assumption) (by omega) (by omega) | exact ne_10 | exact ne_1000 | exact ne_4) only [s65_0, s65_0a, s65_1, s65_4, s65_7, s65_7a, s65_8, s65_11, s65_11a, s65_12, s65_15, s65_15a, s65_15b, s65_15c, s65_16, s65_19, s65_20, s65_20a, s65_20b, s65_20c, s65_21, s65_21a, s65_22, s65_25, s65_25a, s65_26, s65_29, s65_30, s65_31, s65_31a, s65_32, s65_33, s65_36, s65_37, s65_38, s65_41, s65_42, s65_42a, s65_42b, s65_42c, ↓reduceIte, eq_self, Option.bind_some, Option.bind_none, Option.toList_some, Option.toList_none, List.cons_append, List.nil_append, am_rf_s, am_rf_n, am_c1_i, am_c1_r, am_c1_n, List.all_cons, List.all_nil, Bool.and_self, Bool.and_true, Bool.true_and, List.length_cons, List.length_nil, Nat.reduceAdd, Nat.reduceSub, Nat.reduceMul, Nat.reduceLeDiff, Nat.reduceLT, Nat.zero_le, Nat.le_refl, ne_10, ne_1000, ne_4, not_false_eq_true, or_true, true_or, Nat.one_ne_zero, Nat.zero_ne_one, Nat.reduceEqDiff, Bool.true_eq_false, Bool.false_eq_true, n10, nI_ltI, h0, h3, h4, h5, q1]
  · have q1 : n < m := by omega
    rw [if_neg q]
    simp (disch := first | assumption | omega | exact ixN (by assumption) (by omega) (by omega) | exact ne_10 | exact ne_1000 | exact ne_4) only [s65_0, s65_0a, s65_1, s65_4, s65_7, s65_7a, s65_8, s65_11, s65_11a, s65_12, s65_15, s65_15a, s65_15b, s65_15c, s65_16, s65_19, s65_20, s65_20a, s65_20b, s65_20c, s65_21, s65_21a, s65_22, s65_25, s65_25a, s65_26, s65_29, s65_30, s65_31, s65_31a, s65_32, s65_33, s65_36, s65_37, s65_38, s65_41, s65_42, s65_42a, s65_42b, s65_42c, ↓reduceIte, eq_self, Option.bind_some, Option.bind_none, Option.toList_some, Option.toList_none, List.cons_append, List.nil_append, am_rf_s, am_rf_n, am_c1_i, am_c1_r, am_c1_n, List.all_cons, List.all_nil, Bool.and_self, Bool.and_true, Bool.true_and, List.length_cons, List.length_nil, Nat.reduceAdd, Nat.reduceSub, Nat.reduceMul, Nat.reduceLeDiff, Nat.reduceLT, Nat.zero_le, Nat.le_refl, ne_10, ne_1000, ne_4, not_false_eq_true, or_true, true_or, Nat.one_ne_zero, Nat.zero_ne_one, Nat.reduceEqDiff, Bool.true_eq_false, Bool.false_eq_true, n10, nI_ltI, nI_add, nI_clamp, ui_st, st_st, st_eq, st_ne, uf_eq, uf_ne, h0, h3, h4, h5, q1]
theorem RT.add (h : RT I R K a d m n tx) (hn : n < m) (c : Int32) (hc : am_h c = c) : RT (st (st I d (uf (I d) n c)) a (uf (I a) 1 (nI (n + 1)))) R K a d m (n + 1) (uf tx n c) := by
  obtain ⟨h1, h2, h3, h4, h5, h6, h7, h8⟩ := h
  have had : d ≠ a := by
    rintro rfl
    have e1 := (am_isK_of h1).2.2
    have e2 := (am_isK_of h2).2.2
    omega
  refine ⟨h1, h2, h3, h4, by rw [st_eq, uf_eq], by omega, h7, fun i hi => ?_⟩
  rw [st_ne _ _ had, st_eq]
  unfold uf
  by_cases q : i = n
  · rw [if_pos q, if_pos q]; exact hc
  · rw [if_neg q, if_neg q]; exact h8 i (by omega)
end CT
section CW
variable (I : am_I) (R : am_R) (K : am_K)
theorem c_widthOf (c : Int32) : ev 98 0 [some (.int c)] [] (I, R, K) = some (some (.int (nI (wO c))), (I, R, K)) := by
  unfold wO
  by_cases q1 : c = nI 99 ∨ c = nI 106 ∨ c = nI 122
  · rw [if_pos q1]
    rcases q1 with q | q | q
    all_goals subst q; simp (disch := first | assumption | omega | exact ixN (by assumption) (by omega) (by omega) | exact ne_10 | exact ne_1000 | exact ne_4) only [s98_0, s98_1, s98_112, s98_113, s98_114, s98_115, s98_116, s98_117, s98_118, s98_119, ↓reduceIte, eq_self, Option.bind_some, Option.bind_none, Option.toList_some, Option.toList_none, List.cons_append, List.nil_append, am_rf_s, am_rf_n, am_c1_i, am_c1_r, am_c1_n, List.all_cons, List.all_nil, Bool.and_self, Bool.and_true, Bool.true_and, List.length_cons, List.length_nil, Nat.reduceAdd, Nat.reduceSub, Nat.reduceMul, Nat.reduceLeDiff, Nat.reduceLT, Nat.zero_le, Nat.le_refl, ne_10, ne_1000, ne_4, not_false_eq_true, or_true, true_or, Nat.one_ne_zero, Nat.zero_ne_one, Nat.reduceEqDiff, Bool.true_eq_false, Bool.false_eq_true, n10, nI_eq]
  · rw [if_neg q1]
    by_cases q2 : c = nI 100 ∨ c = nI 104 ∨ c = nI 105 ∨ c = nI 114
    · rw [if_pos q2]
      rcases q2 with q | q | q | q
      all_goals subst q; simp (disch := first | assumption | omega | exact ixN (by assumption) (by omega) (by omega) | exact ne_10 | exact ne_1000 | exact ne_4) only [s98_0, s98_1, s98_112, s98_113, s98_114, s98_115, s98_116, s98_117, s98_118, s98_119, ↓reduceIte, eq_self, Option.bind_some, Option.bind_none, Option.toList_some, Option.toList_none, List.cons_append, List.nil_append, am_rf_s, am_rf_n, am_c1_i, am_c1_r, am_c1_n, List.all_cons, List.all_nil, Bool.and_self, Bool.and_true, Bool.true_and, List.length_cons, List.length_nil, Nat.reduceAdd, Nat.reduceSub, Nat.reduceMul, Nat.reduceLeDiff, Nat.reduceLT, Nat.zero_le, Nat.le_refl, ne_10, ne_1000, ne_4, not_false_eq_true, or_true, true_or, Nat.one_ne_zero, Nat.zero_ne_one, Nat.reduceEqDiff, Bool.true_eq_false, Bool.false_eq_true, n10, nI_eq]
    · rw [if_neg q2]
      by_cases q3 : c = nI 108 ∨ c = nI 112 ∨ c = nI 115
      · rw [if_pos q3]
        rcases q3 with q | q | q
        all_goals subst q; simp (disch := first | assumption | omega | exact ixN (by assumption) (by omega) (by omega) | exact ne_10 | exact ne_1000 | exact ne_4) only [s98_0, s98_1, s98_112, s98_113, s98_114, s98_115, s98_116, s98_117, s98_118, s98_119, ↓reduceIte, eq_self, Option.bind_some, Option.bind_none, Option.toList_some, Option.toList_none, List.cons_append, List.nil_append, am_rf_s, am_rf_n, am_c1_i, am_c1_r, am_c1_n, List.all_cons, List.all_nil, Bool.and_self, Bool.and_true, Bool.true_and, List.length_cons, List.length_nil, Nat.reduceAdd, Nat.reduceSub, Nat.reduceMul, Nat.reduceLeDiff, Nat.reduceLT, Nat.zero_le, Nat.le_refl, ne_10, ne_1000, ne_4, not_false_eq_true, or_true, true_or, Nat.one_ne_zero, Nat.zero_ne_one, Nat.reduceEqDiff, Bool.true_eq_false, Bool.false_eq_true, n10, nI_eq]
      · rw [if_neg q3]
        simp only [not_or] at q1 q2 q3
        obtain ⟨a1, a2, a3⟩ := q1
        obtain ⟨b1, b2, b3, b4⟩ := q2
        obtain ⟨c1, c2, c3⟩ := q3
        simp (disch := first | assumption | omega | exact ixN (by assumption) (by omega) (by omega) | exact ne_10 | exact ne_1000 | exact ne_4) only [s98_0, s98_1, s98_112, s98_113, s98_114, s98_115, s98_116, s98_117, s98_118, s98_119, ↓reduceIte, eq_self, Option.bind_some, Option.bind_none, Option.toList_some, Option.toList_none, List.cons_append, List.nil_append, am_rf_s, am_rf_n, am_c1_i, am_c1_r, am_c1_n, List.all_cons, List.all_nil, Bool.and_self, Bool.and_true, Bool.true_and, List.length_cons, List.length_nil, Nat.reduceAdd, Nat.reduceSub, Nat.reduceMul, Nat.reduceLeDiff, Nat.reduceLT, Nat.zero_le, Nat.le_refl, ne_10, ne_1000, ne_4, not_false_eq_true, or_true, true_or, Nat.one_ne_zero, Nat.zero_ne_one, Nat.reduceEqDiff, Bool.true_eq_false, Bool.false_eq_true, n10, a1, a2, a3, b1, b2, b3, b4, c1, c2, c3, ite_self]
theorem c_isNumber (x : Int32) : ev 97 0 [some (.int x)] [] (I, R, K) = some (some (.int (bI (inR x 0 999))), (I, R, K)) := by
  cases q : inR x 0 999 with
  | true => simp (disch := first | assumption | omega | exact ixN (by assumption) (by omega) (by omega) | exact ne_10 | exact ne_1000 | exact ne_4) only [s97_0, s97_1, s97_2, s97_5, s97_8, s97_8a, s97_8b, s97_8c, ↓reduceIte, eq_self, Option.bind_some, Option.bind_none, Option.toList_some, Option.toList_none, List.cons_append, List.nil_append, am_rf_s, am_rf_n, am_c1_i, am_c1_r, am_c1_n, List.all_cons, List.all_nil, Bool.and_self, Bool.and_true, Bool.true_and, List.length_cons, List.length_nil, Nat.reduceAdd, Nat.reduceSub, Nat.reduceMul, Nat.reduceLeDiff, Nat.reduceLT, Nat.zero_le, Nat.le_refl, ne_10, ne_1000, ne_4, not_false_eq_true, or_true, true_or, Nat.one_ne_zero, Nat.zero_ne_one, Nat.reduceEqDiff, Bool.true_eq_false, Bool.false_eq_true, n10, c_within, inR_e, q, bI_t]
  | false => simp (disch := first | assumption | omega | exact ixN (by assumption) (by omega) (by omega) | exact ne_10 | exact ne_1000 | exact ne_4) only [s97_0, s97_1, s97_2, s97_5, s97_8, s97_8a, s97_8b, s97_8c, ↓reduceIte, eq_self, Option.bind_some, Option.bind_none, Option.toList_some, Option.toList_none, List.cons_append, List.nil_append, am_rf_s, am_rf_n, am_c1_i, am_c1_r, am_c1_n, List.all_cons, List.all_nil, Bool.and_self, Bool.and_true, Bool.true_and, List.length_cons, List.length_nil, Nat.reduceAdd, Nat.reduceSub, Nat.reduceMul, Nat.reduceLeDiff, Nat.reduceLT, Nat.zero_le, Nat.le_refl, ne_10, ne_1000, ne_4, not_false_eq_true, or_true, true_or, Nat.one_ne_zero, Nat.zero_ne_one, Nat.reduceEqDiff, Bool.true_eq_false, Bool.false_eq_true, n10, c_within, inR_e, q, bI_f]
theorem c_max (x y : Int32) : ev 152 0 [some (.int x), some (.int y)] [] (I, R, K) = some (some (.int (if x < y then y else x)), (I, R, K)) := by
  by_cases q : x < y
  · simp (disch := first | assumption | omega | exact ixN (by assumption) (by omega) (by omega) | exact ne_10 | exact ne_1000 | exact ne_4) only [s152_0, s152_1, s152_2, s152_5, s152_6, s152_9, s152_10, ↓reduceIte, eq_self, Option.bind_some, Option.bind_none, Option.toList_some, Option.toList_none, List.cons_append, List.nil_append, am_rf_s, am_rf_n, am_c1_i, am_c1_r, am_c1_n, List.all_cons, List.all_nil, Bool.and_self, Bool.and_true, Bool.true_and, List.length_cons, List.length_nil, Nat.reduceAdd, Nat.reduceSub, Nat.reduceMul, Nat.reduceLeDiff, Nat.reduceLT, Nat.zero_le, Nat.le_refl, ne_10, ne_1000, ne_4, not_false_eq_true, or_true, true_or, Nat.one_ne_zero, Nat.zero_ne_one, Nat.reduceEqDiff, Bool.true_eq_false, Bool.false_eq_true, n10, q]
  · simp (disch := first | assumption | omega | exact ixN (by assumption) (by omega) (by omega) | exact ne_10 | exact ne_1000 | exact ne_4) only [s152_0, s152_1, s152_2, s152_5, s152_6, s152_9, s152_10, ↓reduceIte, eq_self, Option.bind_some, Option.bind_none, Option.toList_some, Option.toList_none, List.cons_append, List.nil_append, am_rf_s, am_rf_n, am_c1_i, am_c1_r, am_c1_n, List.all_cons, List.all_nil, Bool.and_self, Bool.and_true, Bool.true_and, List.length_cons, List.length_nil, Nat.reduceAdd, Nat.reduceSub, Nat.reduceMul, Nat.reduceLeDiff, Nat.reduceLT, Nat.zero_le, Nat.le_refl, ne_10, ne_1000, ne_4, not_false_eq_true, or_true, true_or, Nat.one_ne_zero, Nat.zero_ne_one, Nat.reduceEqDiff, Bool.true_eq_false, Bool.false_eq_true, n10, q]
theorem c_min (x y : Int32) : ev 153 0 [some (.int x), some (.int y)] [] (I, R, K) = some (some (.int (if y < x then y else x)), (I, R, K)) := by
  by_cases q : y < x
  · simp (disch := first | assumption | omega | exact ixN (by assumption) (by omega) (by omega) | exact ne_10 | exact ne_1000 | exact ne_4) only [s153_0, s153_1, s153_2, s153_5, s153_6, s153_9, s153_10, ↓reduceIte, eq_self, Option.bind_some, Option.bind_none, Option.toList_some, Option.toList_none, List.cons_append, List.nil_append, am_rf_s, am_rf_n, am_c1_i, am_c1_r, am_c1_n, List.all_cons, List.all_nil, Bool.and_self, Bool.and_true, Bool.true_and, List.length_cons, List.length_nil, Nat.reduceAdd, Nat.reduceSub, Nat.reduceMul, Nat.reduceLeDiff, Nat.reduceLT, Nat.zero_le, Nat.le_refl, ne_10, ne_1000, ne_4, not_false_eq_true, or_true, true_or, Nat.one_ne_zero, Nat.zero_ne_one, Nat.reduceEqDiff, Bool.true_eq_false, Bool.false_eq_true, n10, q]
  · simp (disch := first | assumption | omega | exact ixN (by assumption) (by omega) (by omega) | exact ne_10 | exact ne_1000 | exact ne_4) only [s153_0, s153_1, s153_2, s153_5, s153_6, s153_9, s153_10, ↓reduceIte, eq_self, Option.bind_some, Option.bind_none, Option.toList_some, Option.toList_none, List.cons_append, List.nil_append, am_rf_s, am_rf_n, am_c1_i, am_c1_r, am_c1_n, List.all_cons, List.all_nil, Bool.and_self, Bool.and_true, Bool.true_and, List.length_cons, List.length_nil, Nat.reduceAdd, Nat.reduceSub, Nat.reduceMul, Nat.reduceLeDiff, Nat.reduceLT, Nat.zero_le, Nat.le_refl, ne_10, ne_1000, ne_4, not_false_eq_true, or_true, true_or, Nat.one_ne_zero, Nat.zero_ne_one, Nat.reduceEqDiff, Bool.true_eq_false, Bool.false_eq_true, n10, q]
end CW
