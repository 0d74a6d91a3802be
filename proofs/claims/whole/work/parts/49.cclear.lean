/-! the class: Memory.together, Memory.clear, State.clear -/
section DD
variable (R : am_R) (K : am_K)
theorem c_together (I : am_I) (ma : Nat) (h : ML R K ma) : ev 17 0 [some (.ref ma), none, none] [] (I, R, K) = some (some (.int (cu (I (ma + 1)) 8 0 (nI 0))), (I, R, K)) := by
  obtain ⟨h1, h2, h3, h4⟩ := h
  have loop : ∀ (r k : Nat) (s : Int32), k + r = 8 → ev 17 4 [some (.ref ma), some (.int s), some (.int (nI k))] [] (I, R, K) = some (some (.int (cu (I (ma + 1)) r k s)), (I, R, K)) := by
    intro r
    induction r with
    | zero =>
      intro k s hk
      have hk : k = 8 := by omega
      subst hk
      simp (disch := first | assumption | omega | exact ixN (by assumption) (by omega) (by omega) | exact ne_10 | exact ne_1000 | exact ne_4) only [s17_0, s17_1, s17_2, s17_3, s17_4, s17_5, s17_5a, s17_6, s17_9, s17_9a, s17_9b, s17_9c, s17_10, s17_13, s17_14, s17_14a, s17_15, s17_18, s17_19, s17_20, s17_21, s17_22, s17_25, s17_28, s17_29, ↓reduceIte, eq_self, Option.bind_some, Option.bind_none, Option.toList_some, Option.toList_none, List.cons_append, List.nil_append, am_rf_s, am_rf_n, am_c1_i, am_c1_r, am_c1_n, List.all_cons, List.all_nil, Bool.and_self, Bool.and_true, Bool.true_and, List.length_cons, List.length_nil, Nat.reduceAdd, Nat.reduceSub, Nat.reduceMul, Nat.reduceLeDiff, Nat.reduceLT, Nat.zero_le, Nat.le_refl, ne_10, ne_1000, ne_4, not_false_eq_true, or_true, true_or, Nat.one_ne_zero, Nat.zero_ne_one, Nat.reduceEqDiff, Bool.true_eq_false, Bool.false_eq_true, n10, nI_leI, h3, h4, cu]
    | succ r ih =>
      intro k s hk
      unfold cu
      rw [← ih (k + 1) _ (by omega), s17_4]
      simp (disch := first | assumption | omega | exact ixN (by assumption) (by omega) (by omega) | exact ne_10 | exact ne_1000 | exact ne_4) only [s17_5, s17_5a, s17_6, s17_9, s17_9a, s17_9b, s17_9c, s17_10, s17_13, s17_14, s17_14a, s17_15, s17_18, s17_19, s17_20, s17_21, s17_22, s17_25, ↓reduceIte, eq_self, Option.bind_some, Option.bind_none, Option.toList_some, Option.toList_none, List.cons_append, List.nil_append, am_rf_s, am_rf_n, am_c1_i, am_c1_r, am_c1_n, List.all_cons, List.all_nil, Bool.and_self, Bool.and_true, Bool.true_and, List.length_cons, List.length_nil, Nat.reduceAdd, Nat.reduceSub, Nat.reduceMul, Nat.reduceLeDiff, Nat.reduceLT, Nat.zero_le, Nat.le_refl, ne_10, ne_1000, ne_4, not_false_eq_true, or_true, true_or, Nat.one_ne_zero, Nat.zero_ne_one, Nat.reduceEqDiff, Bool.true_eq_false, Bool.false_eq_true, n10, nI_leI, nI_add, nI_clamp, h3, h4, show ¬ 8 ≤ k by omega]
  simp (disch := first | assumption | omega | exact ixN (by assumption) (by omega) (by omega) | exact ne_10 | exact ne_1000 | exact ne_4) only [s17_0, s17_1, s17_2, s17_3, loop 8 0 (nI 0) rfl]
theorem c_mclear (ma : Nat) (h : ML R K ma) (I : am_I) : ev 18 0 [some (.ref ma), none] [] (I, R, K) = some (none, (st I (ma + 1) (cpy 8 (fun _ => nI 0) (I (ma + 1))), R, K)) := by
  obtain ⟨h1, h2, h3, h4⟩ := h
  have loop : ∀ (r k : Nat), k + r = 8 → ev 18 2 [some (.ref ma), some (.int (nI k))] [] (st I (ma + 1) (cpy k (fun _ => nI 0) (I (ma + 1))), R, K) = some (none, (st I (ma + 1) (cpy 8 (fun _ => nI 0) (I (ma + 1))), R, K)) := by
    intro r
    induction r with
    | zero =>
      intro k hk
      have hk : k = 8 := by omega
      subst hk
      simp (disch := first | assumption | omega | exact ixN (by assumption) (by omega) (by omega) | exact ne_10 | exact ne_1000 | exact ne_4) only [s18_0, s18_1, s18_2, s18_3, s18_3a, s18_4, s18_7, s18_7a, s18_7b, s18_7c, s18_8, s18_11, s18_11a, s18_12, s18_15, s18_16, s18_17, s18_18, s18_21, s18_24, ↓reduceIte, eq_self, Option.bind_some, Option.bind_none, Option.toList_some, Option.toList_none, List.cons_append, List.nil_append, am_rf_s, am_rf_n, am_c1_i, am_c1_r, am_c1_n, List.all_cons, List.all_nil, Bool.and_self, Bool.and_true, Bool.true_and, List.length_cons, List.length_nil, Nat.reduceAdd, Nat.reduceSub, Nat.reduceMul, Nat.reduceLeDiff, Nat.reduceLT, Nat.zero_le, Nat.le_refl, ne_10, ne_1000, ne_4, not_false_eq_true, or_true, true_or, Nat.one_ne_zero, Nat.zero_ne_one, Nat.reduceEqDiff, Bool.true_eq_false, Bool.false_eq_true, n10, nI_leI, h3, h4]
    | succ r ih =>
      intro k hk
      have e2 : uf (cpy k (fun _ => nI 0) (I (ma + 1))) k (nI 0) = cpy (k + 1) (fun _ => nI 0) (I (ma + 1)) := by
        funext j
        unfold uf cpy
        by_cases z : j = k
        · subst z; rw [if_pos rfl, if_pos (by omega)]
        · rw [if_neg z]
          dsimp only
          by_cases z2 : j < k
          · rw [if_pos z2, if_pos (by omega)]
          · rw [if_neg z2, if_neg (by omega)]
      rw [← ih (k + 1) (by omega), s18_2]
      simp (disch := first | assumption | omega | exact ixN (by assumption) (by omega) (by omega) | exact ne_10 | exact ne_1000 | exact ne_4) only [s18_3, s18_3a, s18_4, s18_7, s18_7a, s18_7b, s18_7c, s18_8, s18_11, s18_11a, s18_12, s18_15, s18_16, s18_17, s18_18, s18_21, ↓reduceIte, eq_self, Option.bind_some, Option.bind_none, Option.toList_some, Option.toList_none, List.cons_append, List.nil_append, am_rf_s, am_rf_n, am_c1_i, am_c1_r, am_c1_n, List.all_cons, List.all_nil, Bool.and_self, Bool.and_true, Bool.true_and, List.length_cons, List.length_nil, Nat.reduceAdd, Nat.reduceSub, Nat.reduceMul, Nat.reduceLeDiff, Nat.reduceLT, Nat.zero_le, Nat.le_refl, ne_10, ne_1000, ne_4, not_false_eq_true, or_true, true_or, Nat.one_ne_zero, Nat.zero_ne_one, Nat.reduceEqDiff, Bool.true_eq_false, Bool.false_eq_true, n10, nI_leI, nI_add, nI_clamp, ui_st, st_st, st_eq, st_ne, uf_eq, uf_ne, h3, h4, show ¬ 8 ≤ k by omega, e2]
  have e0 : I = st I (ma + 1) (cpy 0 (fun _ => nI 0) (I (ma + 1))) := by
    have : cpy 0 (fun _ => nI 0) (I (ma + 1)) = I (ma + 1) := by
      funext j; unfold cpy; rw [if_neg (by omega)]
    rw [this, st_id]
  have l0 := loop 8 0 rfl
  rw [← e0] at l0
  simp (disch := first | assumption | omega | exact ixN (by assumption) (by omega) (by omega) | exact ne_10 | exact ne_1000 | exact ne_4) only [s18_0, s18_1, l0]
end DD
