/-! the class: code that is read -/
theorem am_hh (x : Int32) : am_h (am_h x) = am_h x := by
  have := nar_h x
  show vp_nar .char (am_h x) = am_h x
  unfold vp_nar
  rw [this]
def CL (R : am_R) (K : am_K) (q : Nat) : Prop := am_isK K q 0 = true ∧ am_isK K (q + 1) 8 = true ∧ am_isK K (q + 2) 22 = true ∧ am_isK K (q + 3) 21 = true ∧ R q 0 = some (q + 1) ∧ R (q + 1) 0 = some (q + 2) ∧ R q 1 = some (q + 3) ∧ K.1 (q + 2) = 60 ∧ K.1 (q + 3) = 60
def RB6 (B : Nat → Int32) (b : Nat → Bool) : Prop := ∀ j, j < 60 → am_b (B j) = bI (b j)
theorem RB6.up {B : Nat → Int32} {b : Nat → Bool} (h : RB6 B b) (i : Nat) : RB6 (uf B i (nI 1)) (ub b i) := fun j hj => by
  unfold uf ub
  by_cases q : j = i
  · rw [if_pos q, if_pos q]; exact am_b_1
  · rw [if_neg q, if_neg q]; exact h j hj
def hs (nc : Nat) (x : Int32) : Bool := decide (nI 0 ≤ x) && decide (x < nI nc)
def bA (nc : Nat) (b : Nat → Bool) (x : Int32) : Bool := hs nc x && b x.toNatClampNeg
def nmI (cd : Nat → Int32) (nc i : Nat) : Int32 := if wO (tN cd nc i) = 2 then fgI (tN cd nc (i + 1)) else if wO (tN cd nc i) = 3 then nI 10 * fgI (tN cd nc (i + 1)) + fgI (tN cd nc (i + 2)) else -4
theorem hs_of {nc : Nat} {x : Int32} (h : hs nc x = true) (hn : nc ≤ 200) : ∃ q, q < nc ∧ x = nI q := by
  unfold hs at h
  simp only [Bool.and_eq_true, decide_eq_true_eq] at h
  obtain ⟨q, hq, rfl⟩ : ∃ q, q < 2 ^ 31 ∧ x = nI q := nI_of (Int32.not_lt.mpr h.1)
  exact ⟨q, (nI_ltI hq (by omega)).mp h.2, rfl⟩
theorem hs_nI {nc i : Nat} (hi : i < 2 ^ 31) (hn : nc ≤ 200) : hs nc (nI i) = decide (i < nc) := by
  unfold hs
  have h0 : nI 0 ≤ nI i := nI_le (by omega) hi
  simp only [h0, decide_true, Bool.true_and, nI_ltI hi (show nc < 2 ^ 31 by omega)]
theorem fig_t {tx : Nat → Int32} {n i : Nat} (h : fig tx n i 9 = true) : ∃ a, a ≤ 9 ∧ tx i = nI (48 + a) ∧ i < n ∧ fgI (tN tx n i) = nI a := by
  obtain ⟨h1, a, ha, h2⟩ := fig_of h (by omega)
  refine ⟨a, ha, h2, h1, ?_⟩
  unfold fgI tN
  rw [if_pos h1, h2, if_neg (by rw [nI_ltI (by omega) (by omega)]; omega), if_neg (by rw [nI_ltI (by omega) (by omega)]; omega), pk_sub (by omega)]
  congr 1; omega
theorem fig_f {tx : Nat → Int32} {n i : Nat} (h : fig tx n i 9 = false) : fgI (tN tx n i) = -4 := by
  unfold fgI tN
  by_cases q : i < n
  · rw [if_pos q]
    unfold fig inR at h
    simp only [q, decide_true, Bool.true_and, Bool.and_eq_false_iff, decide_eq_false_iff_not] at h
    rcases h with h | h
    · rw [if_pos (Int32.not_le.mp h)]
    · by_cases q2 : tx i < nI 48
      · rw [if_pos q2]
      · rw [if_neg q2, if_pos (Int32.not_le.mp h)]
  · rw [if_neg q, if_pos (by decide)]
theorem fig_7 {tx : Nat → Int32} {n i : Nat} : inR (fgI (tN tx n i)) 0 7 = fig tx n i 7 := by
  cases h : fig tx n i 9 with
  | false =>
    rw [fig_f h]
    cases h7 : fig tx n i 7 with
    | false => decide
    | true =>
      exfalso
      obtain ⟨h1, a, ha, h2⟩ := fig_of h7 (by omega)
      unfold fig inR at h
      rw [h2] at h
      have e1 : nI 48 ≤ nI (48 + a) := nI_le (by omega) (by omega)
      have e2 : nI (48 + a) ≤ nI (48 + 9) := nI_le (by omega) (by omega)
      simp [h1, e1, e2] at h
  | true =>
    obtain ⟨a, ha, h2, h1, h3⟩ := fig_t h
    rw [h3]
    unfold fig inR
    rw [h2]
    have e1 : nI 48 ≤ nI (48 + a) := nI_le (by omega) (by omega)
    have e0 : nI 0 ≤ nI a := nI_le (by omega) (by omega)
    simp only [h1, e1, e0, decide_true, Bool.true_and]
    have e3 : (nI a ≤ nI 7) = (a ≤ 7) := by rw [nI_leI (by omega) (by omega)]
    have e4 : (nI (48 + a) ≤ nI (48 + 7)) = (a ≤ 7) := by rw [nI_leI (by omega) (by omega)]; apply propext; omega
    simp only [e3, e4]
theorem wO_wd {tx : Nat → Int32} {n i : Nat} : wd tx n i = if wO (tx i) = 3 then (if fig tx n (i + 1) 9 = true ∧ fig tx n (i + 2) 9 = true then 3 else 0) else if wO (tx i) = 2 then (if fig tx n (i + 1) 7 = true then 2 else 0) else wO (tx i) := by
  unfold wd wO
  by_cases q1 : tx i = nI 99 ∨ tx i = nI 106 ∨ tx i = nI 122
  · simp only [if_pos q1, if_true]
  · by_cases q2 : tx i = nI 100 ∨ tx i = nI 104 ∨ tx i = nI 105 ∨ tx i = nI 114
    · simp only [if_neg q1, if_pos q2]; rfl
    · by_cases q3 : tx i = nI 108 ∨ tx i = nI 112 ∨ tx i = nI 115
      · simp only [if_neg q1, if_neg q2, if_pos q3]; rfl
      · simp only [if_neg q1, if_neg q2, if_neg q3]; rfl
theorem wO_le (c : Int32) : wO c ≤ 3 := by
  unfold wO; repeat' split
  all_goals omega
section CC
variable (I : am_I) (R : am_R) (K : am_K) (q nc : Nat) (cd : Nat → Int32) (b : Nat → Bool)
theorem c_has (h : CL R K q) (ht : RT I R K (q + 1) (q + 2) 60 nc cd) (x : Int32) : ev 5 0 [some (.ref q), some (.int x)] [] (I, R, K) = some (some (.int (bI (hs nc x))), (I, R, K)) := by
  obtain ⟨h1, h2, h3, h4, h5, h6, h7, h8, h9⟩ := h
  have t5 := ht.2.2.2.2.1
  unfold hs
  by_cases q0 : x < nI 0
  · simp (disch := first | assumption | omega | exact ixN (by assumption) (by omega) (by omega) | exact ne_10 | exact ne_1000 | exact ne_4) only [s5_0, s5_1, s5_4, s5_5, s5_5a, s5_6, s5_9, s5_12, s5_15, s5_16, s5_19, s5_20, s5_20a, s5_20b, s5_20c, ↓reduceIte, eq_self, Option.bind_some, Option.bind_none, Option.toList_some, Option.toList_none, List.cons_append, List.nil_append, am_rf_s, am_rf_n, am_c1_i, am_c1_r, am_c1_n, List.all_cons, List.all_nil, Bool.and_self, Bool.and_true, Bool.true_and, List.length_cons, List.length_nil, Nat.reduceAdd, Nat.reduceSub, Nat.reduceMul, Nat.reduceLeDiff, Nat.reduceLT, Nat.zero_le, Nat.le_refl, ne_10, ne_1000, ne_4, not_false_eq_true, or_true, true_or, Nat.one_ne_zero, Nat.zero_ne_one, Nat.reduceEqDiff, Bool.true_eq_false, Bool.false_eq_true, n10, q0, Int32.not_le.mpr q0, decide_false, Bool.false_and, bI_f]
  · by_cases q1 : nI nc ≤ x
    · simp (disch := first | assumption | omega | exact ixN (by assumption) (by omega) (by omega) | exact ne_10 | exact ne_1000 | exact ne_4) only [s5_0, s5_1, s5_4, s5_5, s5_5a, s5_6, s5_9, s5_12, s5_15, s5_16, s5_19, s5_20, s5_20a, s5_20b, s5_20c, ↓reduceIte, eq_self, Option.bind_some, Option.bind_none, Option.toList_some, Option.toList_none, List.cons_append, List.nil_append, am_rf_s, am_rf_n, am_c1_i, am_c1_r, am_c1_n, List.all_cons, List.all_nil, Bool.and_self, Bool.and_true, Bool.true_and, List.length_cons, List.length_nil, Nat.reduceAdd, Nat.reduceSub, Nat.reduceMul, Nat.reduceLeDiff, Nat.reduceLT, Nat.zero_le, Nat.le_refl, ne_10, ne_1000, ne_4, not_false_eq_true, or_true, true_or, Nat.one_ne_zero, Nat.zero_ne_one, Nat.reduceEqDiff, Bool.true_eq_false, Bool.false_eq_true, n10, q0, h5, t5, q1, Int32.not_lt.mpr q1, decide_false, Bool.and_false, bI_f]
    · simp (disch := first | assumption | omega | exact ixN (by assumption) (by omega) (by omega) | exact ne_10 | exact ne_1000 | exact ne_4) only [s5_0, s5_1, s5_4, s5_5, s5_5a, s5_6, s5_9, s5_12, s5_15, s5_16, s5_19, s5_20, s5_20a, s5_20b, s5_20c, ↓reduceIte, eq_self, Option.bind_some, Option.bind_none, Option.toList_some, Option.toList_none, List.cons_append, List.nil_append, am_rf_s, am_rf_n, am_c1_i, am_c1_r, am_c1_n, List.all_cons, List.all_nil, Bool.and_self, Bool.and_true, Bool.true_and, List.length_cons, List.length_nil, Nat.reduceAdd, Nat.reduceSub, Nat.reduceMul, Nat.reduceLeDiff, Nat.reduceLT, Nat.zero_le, Nat.le_refl, ne_10, ne_1000, ne_4, not_false_eq_true, or_true, true_or, Nat.one_ne_zero, Nat.zero_ne_one, Nat.reduceEqDiff, Bool.true_eq_false, Bool.false_eq_true, n10, q0, h5, t5, q1, Int32.not_lt.mp q0, Int32.not_le.mp q1, decide_true, bI_t]
theorem c_beginsAt (h : CL R K q) (ht : RT I R K (q + 1) (q + 2) 60 nc cd) (hb : RB6 (I (q + 3)) b) (x : Int32) : ev 6 0 [some (.ref q), some (.int x)] [] (I, R, K) = some (some (.int (bI (bA nc b x))), (I, R, K)) := by
  have e := c_has I R K q nc cd h ht x
  obtain ⟨h1, h2, h3, h4, h5, h6, h7, h8, h9⟩ := h
  have t6 := ht.2.2.2.2.2.1
  unfold bA
  cases q0 : hs nc x with
  | false =>
    rw [q0] at e
    simp (disch := first | assumption | omega | exact ixN (by assumption) (by omega) (by omega) | exact ne_10 | exact ne_1000 | exact ne_4) only [s6_0, s6_0a, s6_1, s6_2, s6_5, s6_8, s6_9, s6_9a, s6_10, s6_13, s6_13a, s6_13b, s6_13c, s6_14, s6_17, s6_17a, s6_18, s6_21, s6_22, s6_23, s6_26, s6_27, s6_30, s6_31, s6_31a, s6_31b, s6_31c, ↓reduceIte, eq_self, Option.bind_some, Option.bind_none, Option.toList_some, Option.toList_none, List.cons_append, List.nil_append, am_rf_s, am_rf_n, am_c1_i, am_c1_r, am_c1_n, List.all_cons, List.all_nil, Bool.and_self, Bool.and_true, Bool.true_and, List.length_cons, List.length_nil, Nat.reduceAdd, Nat.reduceSub, Nat.reduceMul, Nat.reduceLeDiff, Nat.reduceLT, Nat.zero_le, Nat.le_refl, ne_10, ne_1000, ne_4, not_false_eq_true, or_true, true_or, Nat.one_ne_zero, Nat.zero_ne_one, Nat.reduceEqDiff, Bool.true_eq_false, Bool.false_eq_true, n10, e, bI_f, Bool.false_and]
  | true =>
    rw [q0] at e
    obtain ⟨i, hi, rfl⟩ := hs_of q0 (by omega)
    have q1 : ¬ 60 ≤ i := by omega
    have bi := hb i (by omega)
    cases q2 : b i with
    | false =>
      rw [q2] at bi
      simp (disch := first | assumption | omega | exact ixN (by assumption) (by omega) (by omega) | exact ne_10 | exact ne_1000 | exact ne_4) only [s6_0, s6_0a, s6_1, s6_2, s6_5, s6_8, s6_9, s6_9a, s6_10, s6_13, s6_13a, s6_13b, s6_13c, s6_14, s6_17, s6_17a, s6_18, s6_21, s6_22, s6_23, s6_26, s6_27, s6_30, s6_31, s6_31a, s6_31b, s6_31c, ↓reduceIte, eq_self, Option.bind_some, Option.bind_none, Option.toList_some, Option.toList_none, List.cons_append, List.nil_append, am_rf_s, am_rf_n, am_c1_i, am_c1_r, am_c1_n, List.all_cons, List.all_nil, Bool.and_self, Bool.and_true, Bool.true_and, List.length_cons, List.length_nil, Nat.reduceAdd, Nat.reduceSub, Nat.reduceMul, Nat.reduceLeDiff, Nat.reduceLT, Nat.zero_le, Nat.le_refl, ne_10, ne_1000, ne_4, not_false_eq_true, or_true, true_or, Nat.one_ne_zero, Nat.zero_ne_one, Nat.reduceEqDiff, Bool.true_eq_false, Bool.false_eq_true, n10, nI_leI, nI_clamp, e, bI_t, h7, h9, q1, bi, bI_f, q2]
    | true =>
      rw [q2] at bi
      simp (disch := first | assumption | omega | exact ixN (by assumption) (by omega) (by omega) | exact ne_10 | exact ne_1000 | exact ne_4) only [s6_0, s6_0a, s6_1, s6_2, s6_5, s6_8, s6_9, s6_9a, s6_10, s6_13, s6_13a, s6_13b, s6_13c, s6_14, s6_17, s6_17a, s6_18, s6_21, s6_22, s6_23, s6_26, s6_27, s6_30, s6_31, s6_31a, s6_31b, s6_31c, ↓reduceIte, eq_self, Option.bind_some, Option.bind_none, Option.toList_some, Option.toList_none, List.cons_append, List.nil_append, am_rf_s, am_rf_n, am_c1_i, am_c1_r, am_c1_n, List.all_cons, List.all_nil, Bool.and_self, Bool.and_true, Bool.true_and, List.length_cons, List.length_nil, Nat.reduceAdd, Nat.reduceSub, Nat.reduceMul, Nat.reduceLeDiff, Nat.reduceLT, Nat.zero_le, Nat.le_refl, ne_10, ne_1000, ne_4, not_false_eq_true, or_true, true_or, Nat.one_ne_zero, Nat.zero_ne_one, Nat.reduceEqDiff, Bool.true_eq_false, Bool.false_eq_true, n10, nI_leI, nI_clamp, e, bI_t, h7, h9, q1, bi, q2]
theorem c_letterAt (h : CL R K q) (ht : RT I R K (q + 1) (q + 2) 60 nc cd) (i : Nat) (hi : i < 2 ^ 31) : ev 7 0 [some (.ref q), some (.int (nI i))] [] (I, R, K) = some (some (.int (tN cd nc i)), (I, R, K)) := by
  have e := c_at I R K (q + 1) (q + 2) 60 nc cd ht i hi
  obtain ⟨h1, h2, h3, h4, h5, h6, h7, h8, h9⟩ := h
  have t8 := ht.2.2.2.2.2.2.2
  unfold tN at e ⊢
  by_cases c : i < nc
  · rw [if_pos c] at e ⊢
    rw [← t8 i c] at e ⊢
    simp (disch := first | assumption | omega | exact ixN (by assumption) (by omega) (by omega) | exact ne_10 | exact ne_1000 | exact ne_4) only [s7_0, s7_0a, s7_1, s7_4, s7_5, s7_8, s7_8a, ↓reduceIte, eq_self, Option.bind_some, Option.bind_none, Option.toList_some, Option.toList_none, List.cons_append, List.nil_append, am_rf_s, am_rf_n, am_c1_i, am_c1_r, am_c1_n, List.all_cons, List.all_nil, Bool.and_self, Bool.and_true, Bool.true_and, List.length_cons, List.length_nil, Nat.reduceAdd, Nat.reduceSub, Nat.reduceMul, Nat.reduceLeDiff, Nat.reduceLT, Nat.zero_le, Nat.le_refl, ne_10, ne_1000, ne_4, not_false_eq_true, or_true, true_or, Nat.one_ne_zero, Nat.zero_ne_one, Nat.reduceEqDiff, Bool.true_eq_false, Bool.false_eq_true, n10, h5, e]
  · rw [if_neg c] at e ⊢
    simp (disch := first | assumption | omega | exact ixN (by assumption) (by omega) (by omega) | exact ne_10 | exact ne_1000 | exact ne_4) only [s7_0, s7_0a, s7_1, s7_4, s7_5, s7_8, s7_8a, ↓reduceIte, eq_self, Option.bind_some, Option.bind_none, Option.toList_some, Option.toList_none, List.cons_append, List.nil_append, am_rf_s, am_rf_n, am_c1_i, am_c1_r, am_c1_n, List.all_cons, List.all_nil, Bool.and_self, Bool.and_true, Bool.true_and, List.length_cons, List.length_nil, Nat.reduceAdd, Nat.reduceSub, Nat.reduceMul, Nat.reduceLeDiff, Nat.reduceLT, Nat.zero_le, Nat.le_refl, ne_10, ne_1000, ne_4, not_false_eq_true, or_true, true_or, Nat.one_ne_zero, Nat.zero_ne_one, Nat.reduceEqDiff, Bool.true_eq_false, Bool.false_eq_true, n10, h5, e]
theorem c_numberAt (h : CL R K q) (ht : RT I R K (q + 1) (q + 2) 60 nc cd) (i : Nat) (hi : i < 1000) : ev 8 0 [some (.ref q), some (.int (nI i))] [] (I, R, K) = some (some (.int (nmI cd nc i)), (I, R, K)) := by
  have e := c_letterAt I R K q nc cd h ht i (by omega)
  have f1 := c_figureAt I R K (q + 1) (q + 2) 60 nc cd ht (i + 1) (by omega)
  have f2 := c_figureAt I R K (q + 1) (q + 2) 60 nc cd ht (i + 2) (by omega)
  obtain ⟨h1, h2, h3, h4, h5, h6, h7, h8, h9⟩ := h
  have w3 := wO_le (tN cd nc i)
  unfold nmI
  by_cases c2 : wO (tN cd nc i) = 2
  · simp (disch := first | assumption | omega | exact ixN (by assumption) (by omega) (by omega) | exact ne_10 | exact ne_1000 | exact ne_4) only [s8_0, s8_0a, s8_1, s8_2, s8_5, s8_8, s8_36, s8_36a, s8_37, s8_40, s8_41, s8_42, s8_43, s8_46, s8_47, s8_49, s8_49a, s8_50, s8_53, s8_54, s8_55, s8_56, s8_59, s8_60, s8_60a, s8_61, s8_64, s8_65, s8_66, s8_67, s8_70, s8_71, s8_72, s8_74, ↓reduceIte, eq_self, Option.bind_some, Option.bind_none, Option.toList_some, Option.toList_none, List.cons_append, List.nil_append, am_rf_s, am_rf_n, am_c1_i, am_c1_r, am_c1_n, List.all_cons, List.all_nil, Bool.and_self, Bool.and_true, Bool.true_and, List.length_cons, List.length_nil, Nat.reduceAdd, Nat.reduceSub, Nat.reduceMul, Nat.reduceLeDiff, Nat.reduceLT, Nat.zero_le, Nat.le_refl, ne_10, ne_1000, ne_4, not_false_eq_true, or_true, true_or, Nat.one_ne_zero, Nat.zero_ne_one, Nat.reduceEqDiff, Bool.true_eq_false, Bool.false_eq_true, n10, nI_eq, nI_add, e, c_widthOf, c2, h5, f1]
  · by_cases c3 : wO (tN cd nc i) = 3
    · simp (disch := first | assumption | omega | exact ixN (by assumption) (by omega) (by omega) | exact ne_10 | exact ne_1000 | exact ne_4) only [s8_0, s8_0a, s8_1, s8_2, s8_5, s8_8, s8_36, s8_36a, s8_37, s8_40, s8_41, s8_42, s8_43, s8_46, s8_47, s8_49, s8_49a, s8_50, s8_53, s8_54, s8_55, s8_56, s8_59, s8_60, s8_60a, s8_61, s8_64, s8_65, s8_66, s8_67, s8_70, s8_71, s8_72, s8_74, ↓reduceIte, eq_self, Option.bind_some, Option.bind_none, Option.toList_some, Option.toList_none, List.cons_append, List.nil_append, am_rf_s, am_rf_n, am_c1_i, am_c1_r, am_c1_n, List.all_cons, List.all_nil, Bool.and_self, Bool.and_true, Bool.true_and, List.length_cons, List.length_nil, Nat.reduceAdd, Nat.reduceSub, Nat.reduceMul, Nat.reduceLeDiff, Nat.reduceLT, Nat.zero_le, Nat.le_refl, ne_10, ne_1000, ne_4, not_false_eq_true, or_true, true_or, Nat.one_ne_zero, Nat.zero_ne_one, Nat.reduceEqDiff, Bool.true_eq_false, Bool.false_eq_true, n10, nI_eq, nI_add, e, c_widthOf, c3, h5, f1, f2]
    · have c2' : ¬ nI (wO (tN cd nc i)) = nI 2 := by rw [nI_eq (by omega) (by omega)]; exact c2
      have c3' : ¬ nI (wO (tN cd nc i)) = nI 3 := by rw [nI_eq (by omega) (by omega)]; exact c3
      simp (disch := first | assumption | omega | exact ixN (by assumption) (by omega) (by omega) | exact ne_10 | exact ne_1000 | exact ne_4) only [s8_0, s8_0a, s8_1, s8_2, s8_5, s8_8, s8_36, s8_36a, s8_37, s8_40, s8_41, s8_42, s8_43, s8_46, s8_47, s8_49, s8_49a, s8_50, s8_53, s8_54, s8_55, s8_56, s8_59, s8_60, s8_60a, s8_61, s8_64, s8_65, s8_66, s8_67, s8_70, s8_71, s8_72, s8_74, ↓reduceIte, eq_self, Option.bind_some, Option.bind_none, Option.toList_some, Option.toList_none, List.cons_append, List.nil_append, am_rf_s, am_rf_n, am_c1_i, am_c1_r, am_c1_n, List.all_cons, List.all_nil, Bool.and_self, Bool.and_true, Bool.true_and, List.length_cons, List.length_nil, Nat.reduceAdd, Nat.reduceSub, Nat.reduceMul, Nat.reduceLeDiff, Nat.reduceLT, Nat.zero_le, Nat.le_refl, ne_10, ne_1000, ne_4, not_false_eq_true, or_true, true_or, Nat.one_ne_zero, Nat.zero_ne_one, Nat.reduceEqDiff, Bool.true_eq_false, Bool.false_eq_true, n10, e, c_widthOf, c2, c3, c2', c3']
theorem c_widthAt (ta td m n : Nat) (tx : Nat → Int32) (ht : RT I R K ta td m n tx) (i : Nat) (hi : i < n) : ev 4 0 [some (.ref ta), some (.int (nI i)), none, none] [] (I, R, K) = some (some (.int (nI (wd tx n i))), (I, R, K)) := by
  have hn : n ≤ 200 := by have h6 := ht.2.2.2.2.2.1; have h7 := ht.2.2.2.2.2.2.1; omega
  have h1 := ht.1
  have e := c_at I R K ta td m n tx ht i (by omega)
  have f1 := c_figureAt I R K ta td m n tx ht (i + 1) (by omega)
  have f2 := c_figureAt I R K ta td m n tx ht (i + 2) (by omega)
  have et : tN tx n i = tx i := by unfold tN; rw [if_pos hi]
  rw [et] at e
  have w3 := wO_le (tx i)
  have n44 : ((-4 : Int32) = -4) = True := eq_true rfl
  rw [wO_wd]
  by_cases c3 : wO (tx i) = 3
  · rw [if_pos c3]
    cases g1 : fig tx n (i + 1) 9 with
    | false =>
      rw [fig_f g1] at f1
      simp (disch := first | assumption | omega | exact ixN (by assumption) (by omega) (by omega) | exact ne_10 | exact ne_1000 | exact ne_4) only [s4_0, s4_0a, s4_1, s4_2, s4_5, s4_8, s4_9, s4_10, s4_11, s4_14, s4_14a, s4_15, s4_16, s4_17, s4_18, s4_21, s4_22, s4_24, s4_27, s4_30, s4_31, s4_34, s4_35, s4_36, s4_37, s4_38, s4_41, s4_41a, s4_42, s4_43, s4_44, s4_45, s4_48, s4_50, s4_53, s4_53a, s4_54, s4_55, s4_56, s4_57, s4_60, s4_62, s4_65, s4_66, s4_69, s4_70, s4_71, s4_72, s4_75, s4_76, s4_79, s4_80, s4_81, s4_82, ↓reduceIte, eq_self, Option.bind_some, Option.bind_none, Option.toList_some, Option.toList_none, List.cons_append, List.nil_append, am_rf_s, am_rf_n, am_c1_i, am_c1_r, am_c1_n, List.all_cons, List.all_nil, Bool.and_self, Bool.and_true, Bool.true_and, List.length_cons, List.length_nil, Nat.reduceAdd, Nat.reduceSub, Nat.reduceMul, Nat.reduceLeDiff, Nat.reduceLT, Nat.zero_le, Nat.le_refl, ne_10, ne_1000, ne_4, not_false_eq_true, or_true, true_or, Nat.one_ne_zero, Nat.zero_ne_one, Nat.reduceEqDiff, Bool.true_eq_false, Bool.false_eq_true, n10, nI_eq, nI_add, e, c_widthOf, c3, f1, false_and]
    | true =>
      obtain ⟨a, ha, -, -, ha2⟩ := fig_t g1
      rw [ha2] at f1
      have na := neg4 a (by omega)
      cases g2 : fig tx n (i + 2) 9 with
      | false =>
        rw [fig_f g2] at f2
        simp (disch := first | assumption | omega | exact ixN (by assumption) (by omega) (by omega) | exact ne_10 | exact ne_1000 | exact ne_4) only [s4_0, s4_0a, s4_1, s4_2, s4_5, s4_8, s4_9, s4_10, s4_11, s4_14, s4_14a, s4_15, s4_16, s4_17, s4_18, s4_21, s4_22, s4_24, s4_27, s4_30, s4_31, s4_34, s4_35, s4_36, s4_37, s4_38, s4_41, s4_41a, s4_42, s4_43, s4_44, s4_45, s4_48, s4_50, s4_53, s4_53a, s4_54, s4_55, s4_56, s4_57, s4_60, s4_62, s4_65, s4_66, s4_69, s4_70, s4_71, s4_72, s4_75, s4_76, s4_79, s4_80, s4_81, s4_82, ↓reduceIte, eq_self, Option.bind_some, Option.bind_none, Option.toList_some, Option.toList_none, List.cons_append, List.nil_append, am_rf_s, am_rf_n, am_c1_i, am_c1_r, am_c1_n, List.all_cons, List.all_nil, Bool.and_self, Bool.and_true, Bool.true_and, List.length_cons, List.length_nil, Nat.reduceAdd, Nat.reduceSub, Nat.reduceMul, Nat.reduceLeDiff, Nat.reduceLT, Nat.zero_le, Nat.le_refl, ne_10, ne_1000, ne_4, not_false_eq_true, or_true, true_or, Nat.one_ne_zero, Nat.zero_ne_one, Nat.reduceEqDiff, Bool.true_eq_false, Bool.false_eq_true, n10, nI_eq, nI_add, e, c_widthOf, c3, f1, f2, na, and_false]
      | true =>
        obtain ⟨a2, hb, -, -, hb2⟩ := fig_t g2
        rw [hb2] at f2
        have nb := neg4 a2 (by omega)
        simp (disch := first | assumption | omega | exact ixN (by assumption) (by omega) (by omega) | exact ne_10 | exact ne_1000 | exact ne_4) only [s4_0, s4_0a, s4_1, s4_2, s4_5, s4_8, s4_9, s4_10, s4_11, s4_14, s4_14a, s4_15, s4_16, s4_17, s4_18, s4_21, s4_22, s4_24, s4_27, s4_30, s4_31, s4_34, s4_35, s4_36, s4_37, s4_38, s4_41, s4_41a, s4_42, s4_43, s4_44, s4_45, s4_48, s4_50, s4_53, s4_53a, s4_54, s4_55, s4_56, s4_57, s4_60, s4_62, s4_65, s4_66, s4_69, s4_70, s4_71, s4_72, s4_75, s4_76, s4_79, s4_80, s4_81, s4_82, ↓reduceIte, eq_self, Option.bind_some, Option.bind_none, Option.toList_some, Option.toList_none, List.cons_append, List.nil_append, am_rf_s, am_rf_n, am_c1_i, am_c1_r, am_c1_n, List.all_cons, List.all_nil, Bool.and_self, Bool.and_true, Bool.true_and, List.length_cons, List.length_nil, Nat.reduceAdd, Nat.reduceSub, Nat.reduceMul, Nat.reduceLeDiff, Nat.reduceLT, Nat.zero_le, Nat.le_refl, ne_10, ne_1000, ne_4, not_false_eq_true, or_true, true_or, Nat.one_ne_zero, Nat.zero_ne_one, Nat.reduceEqDiff, Bool.true_eq_false, Bool.false_eq_true, n10, nI_eq, nI_add, e, c_widthOf, c3, f1, f2, na, nb, and_self]
  · rw [if_neg c3]
    by_cases c2 : wO (tx i) = 2
    · rw [if_pos c2]
      cases g : fig tx n (i + 1) 7 with
      | false =>
        have g' := fig_7 (tx := tx) (n := n) (i := i + 1)
        rw [g] at g'
        simp (disch := first | assumption | omega | exact ixN (by assumption) (by omega) (by omega) | exact ne_10 | exact ne_1000 | exact ne_4) only [s4_0, s4_0a, s4_1, s4_2, s4_5, s4_8, s4_9, s4_10, s4_11, s4_14, s4_14a, s4_15, s4_16, s4_17, s4_18, s4_21, s4_22, s4_24, s4_27, s4_30, s4_31, s4_34, s4_35, s4_36, s4_37, s4_38, s4_41, s4_41a, s4_42, s4_43, s4_44, s4_45, s4_48, s4_50, s4_53, s4_53a, s4_54, s4_55, s4_56, s4_57, s4_60, s4_62, s4_65, s4_66, s4_69, s4_70, s4_71, s4_72, s4_75, s4_76, s4_79, s4_80, s4_81, s4_82, ↓reduceIte, eq_self, Option.bind_some, Option.bind_none, Option.toList_some, Option.toList_none, List.cons_append, List.nil_append, am_rf_s, am_rf_n, am_c1_i, am_c1_r, am_c1_n, List.all_cons, List.all_nil, Bool.and_self, Bool.and_true, Bool.true_and, List.length_cons, List.length_nil, Nat.reduceAdd, Nat.reduceSub, Nat.reduceMul, Nat.reduceLeDiff, Nat.reduceLT, Nat.zero_le, Nat.le_refl, ne_10, ne_1000, ne_4, not_false_eq_true, or_true, true_or, Nat.one_ne_zero, Nat.zero_ne_one, Nat.reduceEqDiff, Bool.true_eq_false, Bool.false_eq_true, n10, nI_eq, nI_add, e, c_widthOf, c2, f1, c_within, inR_e, g', bI_f]
      | true =>
        have g' := fig_7 (tx := tx) (n := n) (i := i + 1)
        rw [g] at g'
        simp (disch := first | assumption | omega | exact ixN (by assumption) (by omega) (by omega) | exact ne_10 | exact ne_1000 | exact ne_4) only [s4_0, s4_0a, s4_1, s4_2, s4_5, s4_8, s4_9, s4_10, s4_11, s4_14, s4_14a, s4_15, s4_16, s4_17, s4_18, s4_21, s4_22, s4_24, s4_27, s4_30, s4_31, s4_34, s4_35, s4_36, s4_37, s4_38, s4_41, s4_41a, s4_42, s4_43, s4_44, s4_45, s4_48, s4_50, s4_53, s4_53a, s4_54, s4_55, s4_56, s4_57, s4_60, s4_62, s4_65, s4_66, s4_69, s4_70, s4_71, s4_72, s4_75, s4_76, s4_79, s4_80, s4_81, s4_82, ↓reduceIte, eq_self, Option.bind_some, Option.bind_none, Option.toList_some, Option.toList_none, List.cons_append, List.nil_append, am_rf_s, am_rf_n, am_c1_i, am_c1_r, am_c1_n, List.all_cons, List.all_nil, Bool.and_self, Bool.and_true, Bool.true_and, List.length_cons, List.length_nil, Nat.reduceAdd, Nat.reduceSub, Nat.reduceMul, Nat.reduceLeDiff, Nat.reduceLT, Nat.zero_le, Nat.le_refl, ne_10, ne_1000, ne_4, not_false_eq_true, or_true, true_or, Nat.one_ne_zero, Nat.zero_ne_one, Nat.reduceEqDiff, Bool.true_eq_false, Bool.false_eq_true, n10, nI_eq, nI_add, e, c_widthOf, c2, f1, c_within, inR_e, g', bI_t]
    · rw [if_neg c2]
      have c2' : ¬ nI (wO (tx i)) = nI 2 := by rw [nI_eq (by omega) (by omega)]; exact c2
      have c3' : ¬ nI (wO (tx i)) = nI 3 := by rw [nI_eq (by omega) (by omega)]; exact c3
      simp (disch := first | assumption | omega | exact ixN (by assumption) (by omega) (by omega) | exact ne_10 | exact ne_1000 | exact ne_4) only [s4_0, s4_0a, s4_1, s4_2, s4_5, s4_8, s4_9, s4_10, s4_11, s4_14, s4_14a, s4_15, s4_16, s4_17, s4_18, s4_21, s4_22, s4_24, s4_27, s4_30, s4_31, s4_34, s4_35, s4_36, s4_37, s4_38, s4_41, s4_41a, s4_42, s4_43, s4_44, s4_45, s4_48, s4_50, s4_53, s4_53a, s4_54, s4_55, s4_56, s4_57, s4_60, s4_62, s4_65, s4_66, s4_69, s4_70, s4_71, s4_72, s4_75, s4_76, s4_79, s4_80, s4_81, s4_82, ↓reduceIte, eq_self, Option.bind_some, Option.bind_none, Option.toList_some, Option.toList_none, List.cons_append, List.nil_append, am_rf_s, am_rf_n, am_c1_i, am_c1_r, am_c1_n, List.all_cons, List.all_nil, Bool.and_self, Bool.and_true, Bool.true_and, List.length_cons, List.length_nil, Nat.reduceAdd, Nat.reduceSub, Nat.reduceMul, Nat.reduceLeDiff, Nat.reduceLT, Nat.zero_le, Nat.le_refl, ne_10, ne_1000, ne_4, not_false_eq_true, or_true, true_or, Nat.one_ne_zero, Nat.zero_ne_one, Nat.reduceEqDiff, Bool.true_eq_false, Bool.false_eq_true, n10, e, c_widthOf, c2', c3']
end CC
