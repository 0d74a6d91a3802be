/-! the class: processor, returns, ring, look, asked, count -/
section DM
variable (I : am_I) (R : am_R) (K : am_K) (n nc cs : Nat) (tx cd bg f wz : Nat → Int32)
theorem ptl_f (h : RS I R K 14 f) (hw : WF f e0) (q : Nat) (hq : q < 2) (w : Int32) : ptl I (17 + 7 * q) w = (if w = nI 0 then f (8 + 31 * q + 1) else if w = nI 1 then f (8 + 31 * q) else if w = nI 2 then f (8 + 31 * q + 2) else if w = nI 3 then f (8 + 31 * q + 15) else -1) := by
  obtain ⟨⟨g1, g2, g3, g4, g5, g6, g7⟩, -⟩ := h.q hq
  unfold ptl
  rw [g1, g2, g3, g4]
  rcases (hw.2.1 q hq).2.2.1 with h0 | h0
  · rw [h0]; rfl
  · rw [h0]; rfl
theorem k_processor (h : CH I R K n tx nc cd bg f cs wz) (hw : WF f e0) (c w : Int32) : ev 85 0 [some (.ref 3), some (.int c), some (.int w), none] [] (I, R, K) = some (some (.int (sp_processor f c w)), (I, R, K)) := by
  obtain ⟨x1, xt, xl, xd, xn, xh, -⟩ := id h.1.1
  have sb := h.1.2.2.2.1
  have kb := sb.1.1
  unfold sp_processor
  by_cases c0 : inR c 0 1 = false
  · have pn := k_prn I R K n nc cs tx cd bg f wz h c c0
    rw [if_pos c0]
    simp (disch := first | assumption | omega | exact ixN (by assumption) (by omega) (by omega) | exact ne_10 | exact ne_1000 | exact ne_4) only [s85_0, s85_0a, s85_1, s85_4, s85_5, s85_8, s85_8a, s85_9, s85_9a, s85_10, s85_10a, s85_13, s85_14, s85_15, s85_16, s85_44, s85_44a, s85_45, s85_48, s85_49, s85_49a, s85_50, s85_53, s85_56, s85_57, s85_57a, s85_58, s85_61, s85_64, s85_65, s85_65a, s85_66, s85_67, s85_70, ↓reduceIte, eq_self, Option.bind_some, Option.bind_none, Option.toList_some, Option.toList_none, List.cons_append, List.nil_append, am_rf_s, am_rf_n, am_c1_i, am_c1_r, am_c1_n, List.all_cons, List.all_nil, Bool.and_self, Bool.and_true, Bool.true_and, List.length_cons, List.length_nil, Nat.reduceAdd, Nat.reduceSub, Nat.reduceMul, Nat.reduceLeDiff, Nat.reduceLT, Nat.zero_le, Nat.le_refl, ne_10, ne_1000, ne_4, not_false_eq_true, or_true, true_or, Nat.one_ne_zero, Nat.zero_ne_one, Nat.reduceEqDiff, Bool.true_eq_false, Bool.false_eq_true, n10, xn, pn]
  · have c0' := nf c0
    rw [if_neg c0]
    obtain ⟨q, q1, q2, rfl⟩ := inR_of c0' (by omega) (by omega)
    have pn := k_pro I R K n nc cs tx cd bg f wz h q (by omega)
    have pl := sb.q (c := q) (by omega)
    have kq := pl.1.1
    have k3 := pl.1.2.2.2.1
    have r3 := pl.2.1.2.2.1
    obtain ⟨⟨g1, g2, g3, g4, g5, g6, g7⟩, -⟩ := h.2.2.2.2.1.q (c := q) (by omega)
    have pt := c_ptell I R K (17 + 7 * q) pl w
    rw [ptl_f I R K f h.2.2.2.2.1 hw q (by omega) w] at pt
    rw [nI_clamp (show q < 2 ^ 31 by omega)]
    unfold sp_proc
    by_cases w4 : w = nI 4
    · subst w4
      simp (disch := first | assumption | omega | exact ixN (by assumption) (by omega) (by omega) | exact ne_10 | exact ne_1000 | exact ne_4) only [s85_0, s85_0a, s85_1, s85_4, s85_5, s85_8, s85_8a, s85_9, s85_9a, s85_10, s85_10a, s85_13, s85_14, s85_15, s85_16, s85_44, s85_44a, s85_45, s85_48, s85_49, s85_49a, s85_50, s85_53, s85_56, s85_57, s85_57a, s85_58, s85_61, s85_64, s85_65, s85_65a, s85_66, s85_67, s85_70, ↓reduceIte, eq_self, Option.bind_some, Option.bind_none, Option.toList_some, Option.toList_none, List.cons_append, List.nil_append, am_rf_s, am_rf_n, am_c1_i, am_c1_r, am_c1_n, List.all_cons, List.all_nil, Bool.and_self, Bool.and_true, Bool.true_and, List.length_cons, List.length_nil, Nat.reduceAdd, Nat.reduceSub, Nat.reduceMul, Nat.reduceLeDiff, Nat.reduceLT, Nat.zero_le, Nat.le_refl, ne_10, ne_1000, ne_4, not_false_eq_true, or_true, true_or, Nat.one_ne_zero, Nat.zero_ne_one, Nat.reduceEqDiff, Bool.true_eq_false, Bool.false_eq_true, n10, nI_eq, xn, pn, g5]
    · by_cases w5 : w = nI 5
      · subst w5
        simp (disch := first | assumption | omega | exact ixN (by assumption) (by omega) (by omega) | exact ne_10 | exact ne_1000 | exact ne_4) only [s85_0, s85_0a, s85_1, s85_4, s85_5, s85_8, s85_8a, s85_9, s85_9a, s85_10, s85_10a, s85_13, s85_14, s85_15, s85_16, s85_44, s85_44a, s85_45, s85_48, s85_49, s85_49a, s85_50, s85_53, s85_56, s85_57, s85_57a, s85_58, s85_61, s85_64, s85_65, s85_65a, s85_66, s85_67, s85_70, ↓reduceIte, eq_self, Option.bind_some, Option.bind_none, Option.toList_some, Option.toList_none, List.cons_append, List.nil_append, am_rf_s, am_rf_n, am_c1_i, am_c1_r, am_c1_n, List.all_cons, List.all_nil, Bool.and_self, Bool.and_true, Bool.true_and, List.length_cons, List.length_nil, Nat.reduceAdd, Nat.reduceSub, Nat.reduceMul, Nat.reduceLeDiff, Nat.reduceLT, Nat.zero_le, Nat.le_refl, ne_10, ne_1000, ne_4, not_false_eq_true, or_true, true_or, Nat.one_ne_zero, Nat.zero_ne_one, Nat.reduceEqDiff, Bool.true_eq_false, Bool.false_eq_true, n10, nI_eq, xn, pn, r3, g6]
      · by_cases w6 : w = nI 6
        · subst w6
          simp (disch := first | assumption | omega | exact ixN (by assumption) (by omega) (by omega) | exact ne_10 | exact ne_1000 | exact ne_4) only [s85_0, s85_0a, s85_1, s85_4, s85_5, s85_8, s85_8a, s85_9, s85_9a, s85_10, s85_10a, s85_13, s85_14, s85_15, s85_16, s85_44, s85_44a, s85_45, s85_48, s85_49, s85_49a, s85_50, s85_53, s85_56, s85_57, s85_57a, s85_58, s85_61, s85_64, s85_65, s85_65a, s85_66, s85_67, s85_70, ↓reduceIte, eq_self, Option.bind_some, Option.bind_none, Option.toList_some, Option.toList_none, List.cons_append, List.nil_append, am_rf_s, am_rf_n, am_c1_i, am_c1_r, am_c1_n, List.all_cons, List.all_nil, Bool.and_self, Bool.and_true, Bool.true_and, List.length_cons, List.length_nil, Nat.reduceAdd, Nat.reduceSub, Nat.reduceMul, Nat.reduceLeDiff, Nat.reduceLT, Nat.zero_le, Nat.le_refl, ne_10, ne_1000, ne_4, not_false_eq_true, or_true, true_or, Nat.one_ne_zero, Nat.zero_ne_one, Nat.reduceEqDiff, Bool.true_eq_false, Bool.false_eq_true, n10, nI_eq, xn, pn, r3, g7]
        · simp (disch := first | assumption | omega | exact ixN (by assumption) (by omega) (by omega) | exact ne_10 | exact ne_1000 | exact ne_4) only [s85_0, s85_0a, s85_1, s85_4, s85_5, s85_8, s85_8a, s85_9, s85_9a, s85_10, s85_10a, s85_13, s85_14, s85_15, s85_16, s85_44, s85_44a, s85_45, s85_48, s85_49, s85_49a, s85_50, s85_53, s85_56, s85_57, s85_57a, s85_58, s85_61, s85_64, s85_65, s85_65a, s85_66, s85_67, s85_70, ↓reduceIte, eq_self, Option.bind_some, Option.bind_none, Option.toList_some, Option.toList_none, List.cons_append, List.nil_append, am_rf_s, am_rf_n, am_c1_i, am_c1_r, am_c1_n, List.all_cons, List.all_nil, Bool.and_self, Bool.and_true, Bool.true_and, List.length_cons, List.length_nil, Nat.reduceAdd, Nat.reduceSub, Nat.reduceMul, Nat.reduceLeDiff, Nat.reduceLT, Nat.zero_le, Nat.le_refl, ne_10, ne_1000, ne_4, not_false_eq_true, or_true, true_or, Nat.one_ne_zero, Nat.zero_ne_one, Nat.reduceEqDiff, Bool.true_eq_false, Bool.false_eq_true, n10, nI_eq, xn, pn, w4, w5, w6, pt]
theorem k_returns (h : CH I R K n tx nc cd bg f cs wz) (hw : WF f e0) (c k r : Int32) : ev 86 0 [some (.ref 3), some (.int c), some (.int k), some (.int r), none, none] [] (I, R, K) = some (some (.int (sp_returns f c k r)), (I, R, K)) := by
  obtain ⟨x1, xt, xl, xd, xn, xh, -⟩ := id h.1.1
  have sb := h.1.2.2.2.1
  have kb := sb.1.1
  unfold sp_returns
  by_cases c0 : inR c 0 1 = false
  · have pn := k_prn I R K n nc cs tx cd bg f wz h c c0
    rw [if_pos c0]
    simp (disch := first | assumption | omega | exact ixN (by assumption) (by omega) (by omega) | exact ne_10 | exact ne_1000 | exact ne_4) only [s86_0, s86_0a, s86_1, s86_4, s86_5, s86_8, s86_8a, s86_10, s86_10a, s86_12, s86_12a, s86_15, s86_16, s86_19, s86_20, s86_21, s86_22, s86_25, s86_28, s86_29, s86_30, s86_31, s86_31a, s86_33, s86_36, s86_39, s86_41, s86_42, s86_43, s86_46, s86_46a, s86_48, s86_49, s86_52, s86_53, s86_56, s86_57, s86_60, s86_61, s86_63, s86_65, s86_68, s86_70, s86_73, s86_73a, s86_75, s86_76, s86_79, ↓reduceIte, eq_self, Option.bind_some, Option.bind_none, Option.toList_some, Option.toList_none, List.cons_append, List.nil_append, am_rf_s, am_rf_n, am_c1_i, am_c1_r, am_c1_n, List.all_cons, List.all_nil, Bool.and_self, Bool.and_true, Bool.true_and, List.length_cons, List.length_nil, Nat.reduceAdd, Nat.reduceSub, Nat.reduceMul, Nat.reduceLeDiff, Nat.reduceLT, Nat.zero_le, Nat.le_refl, ne_10, ne_1000, ne_4, not_false_eq_true, or_true, true_or, Nat.one_ne_zero, Nat.zero_ne_one, Nat.reduceEqDiff, Bool.true_eq_false, Bool.false_eq_true, n10, xn, pn]
  · have c0' := nf c0
    rw [if_neg c0]
    obtain ⟨q, q1, q2, rfl⟩ := inR_of c0' (by omega) (by omega)
    have pn := k_pro I R K n nc cs tx cd bg f wz h q (by omega)
    have pl := sb.q (c := q) (by omega)
    have kq := pl.1.1
    have sq := h.2.2.2.2.1.q (c := q) (by omega)
    rw [nI_clamp (show q < 2 ^ 31 by omega)]
    by_cases c1 : k < nI 0
    · rw [if_pos c1]
      simp (disch := first | assumption | omega | exact ixN (by assumption) (by omega) (by omega) | exact ne_10 | exact ne_1000 | exact ne_4) only [s86_0, s86_0a, s86_1, s86_4, s86_5, s86_8, s86_8a, s86_10, s86_10a, s86_12, s86_12a, s86_15, s86_16, s86_19, s86_20, s86_21, s86_22, s86_25, s86_28, s86_29, s86_30, s86_31, s86_31a, s86_33, s86_36, s86_39, s86_41, s86_42, s86_43, s86_46, s86_46a, s86_48, s86_49, s86_52, s86_53, s86_56, s86_57, s86_60, s86_61, s86_63, s86_65, s86_68, s86_70, s86_73, s86_73a, s86_75, s86_76, s86_79, ↓reduceIte, eq_self, Option.bind_some, Option.bind_none, Option.toList_some, Option.toList_none, List.cons_append, List.nil_append, am_rf_s, am_rf_n, am_c1_i, am_c1_r, am_c1_n, List.all_cons, List.all_nil, Bool.and_self, Bool.and_true, Bool.true_and, List.length_cons, List.length_nil, Nat.reduceAdd, Nat.reduceSub, Nat.reduceMul, Nat.reduceLeDiff, Nat.reduceLT, Nat.zero_le, Nat.le_refl, ne_10, ne_1000, ne_4, not_false_eq_true, or_true, true_or, Nat.one_ne_zero, Nat.zero_ne_one, Nat.reduceEqDiff, Bool.true_eq_false, Bool.false_eq_true, n10, xn, pn, c1]
    · rw [if_neg c1]
      obtain ⟨j, hj, rfl⟩ := nI_of (x := k) c1
      by_cases c2 : inR r 0 1 = false
      · rw [if_pos c2]
        simp (disch := first | assumption | omega | exact ixN (by assumption) (by omega) (by omega) | exact ne_10 | exact ne_1000 | exact ne_4) only [s86_0, s86_0a, s86_1, s86_4, s86_5, s86_8, s86_8a, s86_10, s86_10a, s86_12, s86_12a, s86_15, s86_16, s86_19, s86_20, s86_21, s86_22, s86_25, s86_28, s86_29, s86_30, s86_31, s86_31a, s86_33, s86_36, s86_39, s86_41, s86_42, s86_43, s86_46, s86_46a, s86_48, s86_49, s86_52, s86_53, s86_56, s86_57, s86_60, s86_61, s86_63, s86_65, s86_68, s86_70, s86_73, s86_73a, s86_75, s86_76, s86_79, ↓reduceIte, eq_self, Option.bind_some, Option.bind_none, Option.toList_some, Option.toList_none, List.cons_append, List.nil_append, am_rf_s, am_rf_n, am_c1_i, am_c1_r, am_c1_n, List.all_cons, List.all_nil, Bool.and_self, Bool.and_true, Bool.true_and, List.length_cons, List.length_nil, Nat.reduceAdd, Nat.reduceSub, Nat.reduceMul, Nat.reduceLeDiff, Nat.reduceLT, Nat.zero_le, Nat.le_refl, ne_10, ne_1000, ne_4, not_false_eq_true, or_true, true_or, Nat.one_ne_zero, Nat.zero_ne_one, Nat.reduceEqDiff, Bool.true_eq_false, Bool.false_eq_true, n10, xn, pn, c1, c_within, inR_e, c2, bI_f]
      · have c2' := nf c2
        rw [if_neg c2]
        obtain ⟨d, d1, d2, d3⟩ := (hw.2.1 q (by omega)).2.2.2.1
        have i3 : I (17 + 7 * q) 3 = nI d := by rw [sq.1.1]; exact d2
        rw [d2, nI_clamp hj]
        by_cases c3' : j < d
        · have c3'' : nI j < nI d := nI_lt c3' (by omega)
          rw [if_pos c3'']
          obtain ⟨-, y, y1, y2⟩ := d3 j c3'
          obtain ⟨d', e1, e2, e3⟩ := sq.2.1
          have ed : d' = d := by rw [d2, nI_eq (by omega) (by omega)] at e2; exact e2.symm
          subst ed
          obtain ⟨e4, e5⟩ := e3 j c3'
          have ra := c_returnAt I R K (17 + 7 * q) d' j pl i3 d1 c3'
          rw [e4] at ra
          by_cases c4 : r = nI 0
          · subst c4
            rw [if_pos rfl]
            have ho := c_holderAt I R K (17 + 7 * q) d' j pl i3 d1 (by omega)
            rw [if_pos c3', e5, y2] at ho
            rw [y2]
            by_cases c5 : y = 0
            · subst c5
              have em : nI 0 - nI 1 = -1 := by decide
              rw [em] at ho
              rw [if_pos (Int32.le_refl _)]
              simp (disch := first | assumption | omega | exact ixN (by assumption) (by omega) (by omega) | exact ne_10 | exact ne_1000 | exact ne_4) only [s86_0, s86_0a, s86_1, s86_4, s86_5, s86_8, s86_8a, s86_10, s86_10a, s86_12, s86_12a, s86_15, s86_16, s86_19, s86_20, s86_21, s86_22, s86_25, s86_28, s86_29, s86_30, s86_31, s86_31a, s86_33, s86_36, s86_39, s86_41, s86_42, s86_43, s86_46, s86_46a, s86_48, s86_49, s86_52, s86_53, s86_56, s86_57, s86_60, s86_61, s86_63, s86_65, s86_68, s86_70, s86_73, s86_73a, s86_75, s86_76, s86_79, ↓reduceIte, eq_self, Option.bind_some, Option.bind_none, Option.toList_some, Option.toList_none, List.cons_append, List.nil_append, am_rf_s, am_rf_n, am_c1_i, am_c1_r, am_c1_n, List.all_cons, List.all_nil, Bool.and_self, Bool.and_true, Bool.true_and, List.length_cons, List.length_nil, Nat.reduceAdd, Nat.reduceSub, Nat.reduceMul, Nat.reduceLeDiff, Nat.reduceLT, Nat.zero_le, Nat.le_refl, ne_10, ne_1000, ne_4, not_false_eq_true, or_true, true_or, Nat.one_ne_zero, Nat.zero_ne_one, Nat.reduceEqDiff, Bool.true_eq_false, Bool.false_eq_true, n10, xn, pn, c1, c_within, inR_e, c2', bI_t, i3, c3'', ho, ra]
            · have em : ¬ nI y - nI 1 = -1 := by
                rw [pk_sub (by omega)]
                intro z
                have z2 := nI_pos (n := y - 1) (by omega)
                rw [z] at z2
                exact z2 (by decide)
              rw [if_neg (by rw [nI_leI (by omega) (by omega)]; omega)]
              simp (disch := first | assumption | omega | exact ixN (by assumption) (by omega) (by omega) | exact ne_10 | exact ne_1000 | exact ne_4) only [s86_0, s86_0a, s86_1, s86_4, s86_5, s86_8, s86_8a, s86_10, s86_10a, s86_12, s86_12a, s86_15, s86_16, s86_19, s86_20, s86_21, s86_22, s86_25, s86_28, s86_29, s86_30, s86_31, s86_31a, s86_33, s86_36, s86_39, s86_41, s86_42, s86_43, s86_46, s86_46a, s86_48, s86_49, s86_52, s86_53, s86_56, s86_57, s86_60, s86_61, s86_63, s86_65, s86_68, s86_70, s86_73, s86_73a, s86_75, s86_76, s86_79, ↓reduceIte, eq_self, Option.bind_some, Option.bind_none, Option.toList_some, Option.toList_none, List.cons_append, List.nil_append, am_rf_s, am_rf_n, am_c1_i, am_c1_r, am_c1_n, List.all_cons, List.all_nil, Bool.and_self, Bool.and_true, Bool.true_and, List.length_cons, List.length_nil, Nat.reduceAdd, Nat.reduceSub, Nat.reduceMul, Nat.reduceLeDiff, Nat.reduceLT, Nat.zero_le, Nat.le_refl, ne_10, ne_1000, ne_4, not_false_eq_true, or_true, true_or, Nat.one_ne_zero, Nat.zero_ne_one, Nat.reduceEqDiff, Bool.true_eq_false, Bool.false_eq_true, n10, xn, pn, c1, c_within, inR_e, c2', bI_t, i3, c3'', ho, em]
          · rw [if_neg c4]
            simp (disch := first | assumption | omega | exact ixN (by assumption) (by omega) (by omega) | exact ne_10 | exact ne_1000 | exact ne_4) only [s86_0, s86_0a, s86_1, s86_4, s86_5, s86_8, s86_8a, s86_10, s86_10a, s86_12, s86_12a, s86_15, s86_16, s86_19, s86_20, s86_21, s86_22, s86_25, s86_28, s86_29, s86_30, s86_31, s86_31a, s86_33, s86_36, s86_39, s86_41, s86_42, s86_43, s86_46, s86_46a, s86_48, s86_49, s86_52, s86_53, s86_56, s86_57, s86_60, s86_61, s86_63, s86_65, s86_68, s86_70, s86_73, s86_73a, s86_75, s86_76, s86_79, ↓reduceIte, eq_self, Option.bind_some, Option.bind_none, Option.toList_some, Option.toList_none, List.cons_append, List.nil_append, am_rf_s, am_rf_n, am_c1_i, am_c1_r, am_c1_n, List.all_cons, List.all_nil, Bool.and_self, Bool.and_true, Bool.true_and, List.length_cons, List.length_nil, Nat.reduceAdd, Nat.reduceSub, Nat.reduceMul, Nat.reduceLeDiff, Nat.reduceLT, Nat.zero_le, Nat.le_refl, ne_10, ne_1000, ne_4, not_false_eq_true, or_true, true_or, Nat.one_ne_zero, Nat.zero_ne_one, Nat.reduceEqDiff, Bool.true_eq_false, Bool.false_eq_true, n10, xn, pn, c1, c_within, inR_e, c2', bI_t, i3, c3'', c4, ra]
        · have c3'' : ¬ nI j < nI d := nI_nlt (by omega) hj
          rw [if_neg c3'']
          simp (disch := first | assumption | omega | exact ixN (by assumption) (by omega) (by omega) | exact ne_10 | exact ne_1000 | exact ne_4) only [s86_0, s86_0a, s86_1, s86_4, s86_5, s86_8, s86_8a, s86_10, s86_10a, s86_12, s86_12a, s86_15, s86_16, s86_19, s86_20, s86_21, s86_22, s86_25, s86_28, s86_29, s86_30, s86_31, s86_31a, s86_33, s86_36, s86_39, s86_41, s86_42, s86_43, s86_46, s86_46a, s86_48, s86_49, s86_52, s86_53, s86_56, s86_57, s86_60, s86_61, s86_63, s86_65, s86_68, s86_70, s86_73, s86_73a, s86_75, s86_76, s86_79, ↓reduceIte, eq_self, Option.bind_some, Option.bind_none, Option.toList_some, Option.toList_none, List.cons_append, List.nil_append, am_rf_s, am_rf_n, am_c1_i, am_c1_r, am_c1_n, List.all_cons, List.all_nil, Bool.and_self, Bool.and_true, Bool.true_and, List.length_cons, List.length_nil, Nat.reduceAdd, Nat.reduceSub, Nat.reduceMul, Nat.reduceLeDiff, Nat.reduceLT, Nat.zero_le, Nat.le_refl, ne_10, ne_1000, ne_4, not_false_eq_true, or_true, true_or, Nat.one_ne_zero, Nat.zero_ne_one, Nat.reduceEqDiff, Bool.true_eq_false, Bool.false_eq_true, n10, xn, pn, c1, c_within, inR_e, c2', bI_t, i3, c3'']
theorem k_ring (h : CH I R K n tx nc cd bg f cs wz) (hw : WF f e0) (c k w : Int32) : ev 87 0 [some (.ref 3), some (.int c), some (.int k), some (.int w), none] [] (I, R, K) = some (some (.int (sp_ring f c k w)), (I, R, K)) := by
  obtain ⟨x1, xt, xl, xd, xn, xh, -⟩ := id h.1.1
  have sb := h.1.2.2.2.1
  have kb := sb.1.1
  unfold sp_ring
  by_cases c0 : inR c 0 1 = false
  · have pn := k_prn I R K n nc cs tx cd bg f wz h c c0
    rw [if_pos c0]
    simp (disch := first | assumption | omega | exact ixN (by assumption) (by omega) (by omega) | exact ne_10 | exact ne_1000 | exact ne_4) only [s87_0, s87_0a, s87_1, s87_4, s87_5, s87_8, s87_8a, s87_10, s87_10a, s87_12, s87_12a, s87_15, s87_16, s87_19, s87_20, s87_21, s87_22, s87_25, s87_28, s87_29, s87_30, s87_30a, s87_32, s87_35, s87_36, s87_37, s87_40, ↓reduceIte, eq_self, Option.bind_some, Option.bind_none, Option.toList_some, Option.toList_none, List.cons_append, List.nil_append, am_rf_s, am_rf_n, am_c1_i, am_c1_r, am_c1_n, List.all_cons, List.all_nil, Bool.and_self, Bool.and_true, Bool.true_and, List.length_cons, List.length_nil, Nat.reduceAdd, Nat.reduceSub, Nat.reduceMul, Nat.reduceLeDiff, Nat.reduceLT, Nat.zero_le, Nat.le_refl, ne_10, ne_1000, ne_4, not_false_eq_true, or_true, true_or, Nat.one_ne_zero, Nat.zero_ne_one, Nat.reduceEqDiff, Bool.true_eq_false, Bool.false_eq_true, n10, xn, pn]
  · have c0' := nf c0
    rw [if_neg c0]
    obtain ⟨q, q1, q2, rfl⟩ := inR_of c0' (by omega) (by omega)
    have pn := k_pro I R K n nc cs tx cd bg f wz h q (by omega)
    have pl := sb.q (c := q) (by omega)
    have kq := pl.1.1
    have k3 := pl.1.2.2.2.1
    have r3 := pl.2.1.2.2.1
    have sq := h.2.2.2.2.1.q (c := q) (by omega)
    rw [nI_clamp (show q < 2 ^ 31 by omega)]
    by_cases c1 : k < nI 0
    · rw [if_pos c1]
      simp (disch := first | assumption | omega | exact ixN (by assumption) (by omega) (by omega) | exact ne_10 | exact ne_1000 | exact ne_4) only [s87_0, s87_0a, s87_1, s87_4, s87_5, s87_8, s87_8a, s87_10, s87_10a, s87_12, s87_12a, s87_15, s87_16, s87_19, s87_20, s87_21, s87_22, s87_25, s87_28, s87_29, s87_30, s87_30a, s87_32, s87_35, s87_36, s87_37, s87_40, ↓reduceIte, eq_self, Option.bind_some, Option.bind_none, Option.toList_some, Option.toList_none, List.cons_append, List.nil_append, am_rf_s, am_rf_n, am_c1_i, am_c1_r, am_c1_n, List.all_cons, List.all_nil, Bool.and_self, Bool.and_true, Bool.true_and, List.length_cons, List.length_nil, Nat.reduceAdd, Nat.reduceSub, Nat.reduceMul, Nat.reduceLeDiff, Nat.reduceLT, Nat.zero_le, Nat.le_refl, ne_10, ne_1000, ne_4, not_false_eq_true, or_true, true_or, Nat.one_ne_zero, Nat.zero_ne_one, Nat.reduceEqDiff, Bool.true_eq_false, Bool.false_eq_true, n10, xn, pn, c1]
    · rw [if_neg c1]
      obtain ⟨j, hj, rfl⟩ := nI_of (x := k) c1
      by_cases c2 : inR w 0 2 = false
      · rw [if_pos c2]
        simp (disch := first | assumption | omega | exact ixN (by assumption) (by omega) (by omega) | exact ne_10 | exact ne_1000 | exact ne_4) only [s87_0, s87_0a, s87_1, s87_4, s87_5, s87_8, s87_8a, s87_10, s87_10a, s87_12, s87_12a, s87_15, s87_16, s87_19, s87_20, s87_21, s87_22, s87_25, s87_28, s87_29, s87_30, s87_30a, s87_32, s87_35, s87_36, s87_37, s87_40, ↓reduceIte, eq_self, Option.bind_some, Option.bind_none, Option.toList_some, Option.toList_none, List.cons_append, List.nil_append, am_rf_s, am_rf_n, am_c1_i, am_c1_r, am_c1_n, List.all_cons, List.all_nil, Bool.and_self, Bool.and_true, Bool.true_and, List.length_cons, List.length_nil, Nat.reduceAdd, Nat.reduceSub, Nat.reduceMul, Nat.reduceLeDiff, Nat.reduceLT, Nat.zero_le, Nat.le_refl, ne_10, ne_1000, ne_4, not_false_eq_true, or_true, true_or, Nat.one_ne_zero, Nat.zero_ne_one, Nat.reduceEqDiff, Bool.true_eq_false, Bool.false_eq_true, n10, xn, pn, c1, c_within, inR_e, c2, bI_f]
      · have c2' := nf c2
        rw [if_neg c2]
        obtain ⟨m, m1, m2, rfl⟩ := inR_of c2' (by omega) (by omega)
        obtain ⟨n', n1, n2, n3⟩ := sq.2.2
        have i3 : I (17 + 7 * q + 3) 3 = nI n' := by rw [sq.1.2.2.2.2.2.1]; exact n2
        have rt := c_rtell I R K (17 + 7 * q) n' pl n1 i3 j m hj m2
        rw [n2, nI_clamp hj, nI_clamp (show m < 2 ^ 31 by omega)]
        by_cases c3' : n' ≤ j
        · rw [if_pos c3'] at rt
          rw [if_pos (nI_le c3' hj)]
          simp (disch := first | assumption | omega | exact ixN (by assumption) (by omega) (by omega) | exact ne_10 | exact ne_1000 | exact ne_4) only [s87_0, s87_0a, s87_1, s87_4, s87_5, s87_8, s87_8a, s87_10, s87_10a, s87_12, s87_12a, s87_15, s87_16, s87_19, s87_20, s87_21, s87_22, s87_25, s87_28, s87_29, s87_30, s87_30a, s87_32, s87_35, s87_36, s87_37, s87_40, ↓reduceIte, eq_self, Option.bind_some, Option.bind_none, Option.toList_some, Option.toList_none, List.cons_append, List.nil_append, am_rf_s, am_rf_n, am_c1_i, am_c1_r, am_c1_n, List.all_cons, List.all_nil, Bool.and_self, Bool.and_true, Bool.true_and, List.length_cons, List.length_nil, Nat.reduceAdd, Nat.reduceSub, Nat.reduceMul, Nat.reduceLeDiff, Nat.reduceLT, Nat.zero_le, Nat.le_refl, ne_10, ne_1000, ne_4, not_false_eq_true, or_true, true_or, Nat.one_ne_zero, Nat.zero_ne_one, Nat.reduceEqDiff, Bool.true_eq_false, Bool.false_eq_true, n10, xn, pn, c1, c_within, inR_e, c2', bI_t, r3, rt]
        · rw [if_neg c3'] at rt
          rw [if_neg (by rw [nI_leI (by omega) hj]; exact c3')]
          obtain ⟨e1, e2, e3⟩ := n3 j (by omega)
          have er : I (17 + 7 * q + 4 + m) j = f (8 + 31 * q + 18 + 3 * j + m) := by
            have : m = 0 ∨ m = 1 ∨ m = 2 := by omega
            rcases this with rfl | rfl | rfl
            · exact e1
            · rw [show 17 + 7 * q + 4 + 1 = 17 + 7 * q + 5 by omega, e2]; congr 1; omega
            · rw [show 17 + 7 * q + 4 + 2 = 17 + 7 * q + 6 by omega, e3]; congr 1; omega
          rw [er] at rt
          simp (disch := first | assumption | omega | exact ixN (by assumption) (by omega) (by omega) | exact ne_10 | exact ne_1000 | exact ne_4) only [s87_0, s87_0a, s87_1, s87_4, s87_5, s87_8, s87_8a, s87_10, s87_10a, s87_12, s87_12a, s87_15, s87_16, s87_19, s87_20, s87_21, s87_22, s87_25, s87_28, s87_29, s87_30, s87_30a, s87_32, s87_35, s87_36, s87_37, s87_40, ↓reduceIte, eq_self, Option.bind_some, Option.bind_none, Option.toList_some, Option.toList_none, List.cons_append, List.nil_append, am_rf_s, am_rf_n, am_c1_i, am_c1_r, am_c1_n, List.all_cons, List.all_nil, Bool.and_self, Bool.and_true, Bool.true_and, List.length_cons, List.length_nil, Nat.reduceAdd, Nat.reduceSub, Nat.reduceMul, Nat.reduceLeDiff, Nat.reduceLT, Nat.zero_le, Nat.le_refl, ne_10, ne_1000, ne_4, not_false_eq_true, or_true, true_or, Nat.one_ne_zero, Nat.zero_ne_one, Nat.reduceEqDiff, Bool.true_eq_false, Bool.false_eq_true, n10, xn, pn, c1, c_within, inR_e, c2', bI_t, r3, rt]
theorem k_look (h : CH I R K n tx nc cd bg f cs wz) (p w : Int32) : ev 88 0 [some (.ref 3), some (.int p), some (.int w), none] [] (I, R, K) = some (some (.int (sp_look f p w)), (I, R, K)) := by
  obtain ⟨x1, xt, xl, xd, xn, xh, -⟩ := id h.1.1
  have sb := h.1.2.2.2.1
  have kb := sb.1.1
  have pn := c_probeOrNull I R K 14 sb p
  unfold sp_look
  by_cases c0 : inR p 0 5 = false
  · rw [c0] at pn
    rw [if_pos c0]
    simp (disch := first | assumption | omega | exact ixN (by assumption) (by omega) (by omega) | exact ne_10 | exact ne_1000 | exact ne_4) only [s88_0, s88_0a, s88_1, s88_4, s88_5, s88_8, s88_8a, s88_9, s88_9a, s88_10, s88_10a, s88_13, s88_14, s88_15, s88_17, s88_20, s88_23, s88_24, s88_25, s88_25a, s88_26, s88_29, s88_30, s88_33, s88_34, s88_37, s88_39, s88_40, s88_40a, s88_41, s88_42, s88_45, ↓reduceIte, eq_self, Option.bind_some, Option.bind_none, Option.toList_some, Option.toList_none, List.cons_append, List.nil_append, am_rf_s, am_rf_n, am_c1_i, am_c1_r, am_c1_n, List.all_cons, List.all_nil, Bool.and_self, Bool.and_true, Bool.true_and, List.length_cons, List.length_nil, Nat.reduceAdd, Nat.reduceSub, Nat.reduceMul, Nat.reduceLeDiff, Nat.reduceLT, Nat.zero_le, Nat.le_refl, ne_10, ne_1000, ne_4, not_false_eq_true, or_true, true_or, Nat.one_ne_zero, Nat.zero_ne_one, Nat.reduceEqDiff, Bool.true_eq_false, Bool.false_eq_true, n10, xn, pn, pRef]
  · have c0' := nf c0
    rw [if_neg c0]
    rw [c0'] at pn
    obtain ⟨q, q1, q2, rfl⟩ := inR_of c0' (by omega) (by omega)
    have kp := (sb.2.2.2.2.2 q (by omega)).2
    obtain ⟨p1, p2, p3, p4⟩ := h.2.2.2.2.1.2.2.2 q (by omega)
    have e32 : 14 + 18 + q = 32 + q := by omega
    rw [e32] at kp p1 p2 p4
    rw [nI_clamp (show q < 2 ^ 31 by omega)] at pn ⊢
    by_cases c1 : inR w 0 7 = false
    · rw [if_pos c1]
      simp (disch := first | assumption | omega | exact ixN (by assumption) (by omega) (by omega) | exact ne_10 | exact ne_1000 | exact ne_4) only [s88_0, s88_0a, s88_1, s88_4, s88_5, s88_8, s88_8a, s88_9, s88_9a, s88_10, s88_10a, s88_13, s88_14, s88_15, s88_17, s88_20, s88_23, s88_24, s88_25, s88_25a, s88_26, s88_29, s88_30, s88_33, s88_34, s88_37, s88_39, s88_40, s88_40a, s88_41, s88_42, s88_45, ↓reduceIte, eq_self, Option.bind_some, Option.bind_none, Option.toList_some, Option.toList_none, List.cons_append, List.nil_append, am_rf_s, am_rf_n, am_c1_i, am_c1_r, am_c1_n, List.all_cons, List.all_nil, Bool.and_self, Bool.and_true, Bool.true_and, List.length_cons, List.length_nil, Nat.reduceAdd, Nat.reduceSub, Nat.reduceMul, Nat.reduceLeDiff, Nat.reduceLT, Nat.zero_le, Nat.le_refl, ne_10, ne_1000, ne_4, not_false_eq_true, or_true, true_or, Nat.one_ne_zero, Nat.zero_ne_one, Nat.reduceEqDiff, Bool.true_eq_false, Bool.false_eq_true, n10, xn, pn, pRef, e32, c_within, inR_e, c1, bI_f]
    · have c1' := nf c1
      rw [if_neg c1]
      obtain ⟨m, m1, m2, rfl⟩ := inR_of c1' (by omega) (by omega)
      rw [nI_clamp (show m < 2 ^ 31 by omega)]
      by_cases c3' : f (70 + 208 * q) = nI 3
      · have i1 : I (32 + q) 1 = nI 3 := p2.trans c3'
        by_cases c2 : m = 0
        · subst c2
          rw [if_pos (Int32.le_refl _), Nat.add_zero, c3']
          have bt : ev 23 0 [some (.ref (32 + q)), some (.int (nI 0))] [] (I, R, K) = some (some (.int (nI 3)), (I, R, K)) := by
            simp (disch := first | assumption | omega | exact ixN (by assumption) (by omega) (by omega) | exact ne_10 | exact ne_1000 | exact ne_4) only [s23_0, s23_1, s23_48, s23_48a, s23_49, s23_52, s23_53, s23_53a, s23_54, s23_57, s23_58, s23_58a, s23_59, s23_62, s23_63, s23_63a, s23_64, s23_67, s23_68, s23_68a, s23_69, s23_72, s23_73, s23_73a, s23_74, s23_77, s23_78, s23_78a, s23_79, s23_82, s23_83, s23_83a, s23_84, s23_87, s23_87a, s23_90, s23_91, s23_94, s23_94a, s23_95, s23_98, s23_101, s23_102, s23_103, ↓reduceIte, eq_self, Option.bind_some, Option.bind_none, Option.toList_some, Option.toList_none, List.cons_append, List.nil_append, am_rf_s, am_rf_n, am_c1_i, am_c1_r, am_c1_n, List.all_cons, List.all_nil, Bool.and_self, Bool.and_true, Bool.true_and, List.length_cons, List.length_nil, Nat.reduceAdd, Nat.reduceSub, Nat.reduceMul, Nat.reduceLeDiff, Nat.reduceLT, Nat.zero_le, Nat.le_refl, ne_10, ne_1000, ne_4, not_false_eq_true, or_true, true_or, Nat.one_ne_zero, Nat.zero_ne_one, Nat.reduceEqDiff, Bool.true_eq_false, Bool.false_eq_true, n10, nI_eq, i1]
          simp (disch := first | assumption | omega | exact ixN (by assumption) (by omega) (by omega) | exact ne_10 | exact ne_1000 | exact ne_4) only [s88_0, s88_0a, s88_1, s88_4, s88_5, s88_8, s88_8a, s88_9, s88_9a, s88_10, s88_10a, s88_13, s88_14, s88_15, s88_17, s88_20, s88_23, s88_24, s88_25, s88_25a, s88_26, s88_29, s88_30, s88_33, s88_34, s88_37, s88_39, s88_40, s88_40a, s88_41, s88_42, s88_45, ↓reduceIte, eq_self, Option.bind_some, Option.bind_none, Option.toList_some, Option.toList_none, List.cons_append, List.nil_append, am_rf_s, am_rf_n, am_c1_i, am_c1_r, am_c1_n, List.all_cons, List.all_nil, Bool.and_self, Bool.and_true, Bool.true_and, List.length_cons, List.length_nil, Nat.reduceAdd, Nat.reduceSub, Nat.reduceMul, Nat.reduceLeDiff, Nat.reduceLT, Nat.zero_le, Nat.le_refl, ne_10, ne_1000, ne_4, not_false_eq_true, or_true, true_or, Nat.one_ne_zero, Nat.zero_ne_one, Nat.reduceEqDiff, Bool.true_eq_false, Bool.false_eq_true, n10, nI_eq, xn, pn, pRef, e32, c_within, inR_e, c1', bI_t, i1, bt]
        · rw [if_neg (by rw [nI_leI (by omega) (by omega)]; omega), if_pos c3']
          simp (disch := first | assumption | omega | exact ixN (by assumption) (by omega) (by omega) | exact ne_10 | exact ne_1000 | exact ne_4) only [s88_0, s88_0a, s88_1, s88_4, s88_5, s88_8, s88_8a, s88_9, s88_9a, s88_10, s88_10a, s88_13, s88_14, s88_15, s88_17, s88_20, s88_23, s88_24, s88_25, s88_25a, s88_26, s88_29, s88_30, s88_33, s88_34, s88_37, s88_39, s88_40, s88_40a, s88_41, s88_42, s88_45, ↓reduceIte, eq_self, Option.bind_some, Option.bind_none, Option.toList_some, Option.toList_none, List.cons_append, List.nil_append, am_rf_s, am_rf_n, am_c1_i, am_c1_r, am_c1_n, List.all_cons, List.all_nil, Bool.and_self, Bool.and_true, Bool.true_and, List.length_cons, List.length_nil, Nat.reduceAdd, Nat.reduceSub, Nat.reduceMul, Nat.reduceLeDiff, Nat.reduceLT, Nat.zero_le, Nat.le_refl, ne_10, ne_1000, ne_4, not_false_eq_true, or_true, true_or, Nat.one_ne_zero, Nat.zero_ne_one, Nat.reduceEqDiff, Bool.true_eq_false, Bool.false_eq_true, n10, nI_eq, xn, pn, pRef, e32, c_within, inR_e, c1', bI_t, i1, c2]
      · have i1 : ¬ I (32 + q) 1 = nI 3 := by rw [p2]; exact c3'
        obtain ⟨⟨a1, a2, a3, a4, a5, a6⟩, a7⟩ := p4 c3'
        have e : (if nI m ≤ nI 0 then f (70 + 208 * q + m) else if f (70 + 208 * q) = nI 3 then -2 else f (70 + 208 * q + m)) = f (70 + 208 * q + m) := by
          rw [if_neg c3']; split <;> rfl
        rw [e]
        have bt : ∃ n', btl I (32 + q) n' m = f (70 + 208 * q + m) ∧ ((R (32 + q) 8 = none ∧ n' = 0) ∨ ∃ x, R (32 + q) 8 = some x ∧ am_isK K x 8 = true ∧ I x 1 = nI n') := by
          rcases a7 with ⟨z1, z2⟩ | ⟨x, n', z1, z2, z3, z4, z5⟩
          · refine ⟨0, ?_, Or.inl ⟨z1, rfl⟩⟩
            unfold btl
            have : m = 0 ∨ m = 1 ∨ m = 2 ∨ m = 3 ∨ m = 4 ∨ m = 5 ∨ m = 6 ∨ m = 7 := by omega
            rcases this with rfl | rfl | rfl | rfl | rfl | rfl | rfl | rfl
            · exact p2
            · exact a1
            · exact a2
            · exact a3
            · exact a4
            · exact a5
            · exact a6
            · exact z2.symm
          · refine ⟨n', ?_, Or.inr ⟨x, z1, z5.1, z5.2.2.2.2.1⟩⟩
            unfold btl
            have : m = 0 ∨ m = 1 ∨ m = 2 ∨ m = 3 ∨ m = 4 ∨ m = 5 ∨ m = 6 ∨ m = 7 := by omega
            rcases this with rfl | rfl | rfl | rfl | rfl | rfl | rfl | rfl
            · exact p2
            · exact a1
            · exact a2
            · exact a3
            · exact a4
            · exact a5
            · exact a6
            · exact z4.symm
        obtain ⟨n', b1, b2⟩ := bt
        have te := c_btell R K I (32 + q) n' m kp m2 b2
        rw [b1] at te
        simp (disch := first | assumption | omega | exact ixN (by assumption) (by omega) (by omega) | exact ne_10 | exact ne_1000 | exact ne_4) only [s88_0, s88_0a, s88_1, s88_4, s88_5, s88_8, s88_8a, s88_9, s88_9a, s88_10, s88_10a, s88_13, s88_14, s88_15, s88_17, s88_20, s88_23, s88_24, s88_25, s88_25a, s88_26, s88_29, s88_30, s88_33, s88_34, s88_37, s88_39, s88_40, s88_40a, s88_41, s88_42, s88_45, ↓reduceIte, eq_self, Option.bind_some, Option.bind_none, Option.toList_some, Option.toList_none, List.cons_append, List.nil_append, am_rf_s, am_rf_n, am_c1_i, am_c1_r, am_c1_n, List.all_cons, List.all_nil, Bool.and_self, Bool.and_true, Bool.true_and, List.length_cons, List.length_nil, Nat.reduceAdd, Nat.reduceSub, Nat.reduceMul, Nat.reduceLeDiff, Nat.reduceLT, Nat.zero_le, Nat.le_refl, ne_10, ne_1000, ne_4, not_false_eq_true, or_true, true_or, Nat.one_ne_zero, Nat.zero_ne_one, Nat.reduceEqDiff, Bool.true_eq_false, Bool.false_eq_true, n10, nI_eq, xn, pn, pRef, e32, c_within, inR_e, c1', bI_t, i1, te]
theorem k_asked (h : CH I R K n tx nc cd bg f cs wz) (hw : WF f e0) (a : Int32) : ∃ I', ev 89 0 [some (.ref 3), some (.int a)] [] (I, R, K) = some (some (.int (sp_asked f tx n a)), (I', R, K)) ∧ CH I' R K n tx nc cd bg f cs wz ∧ FC I I' := by
  obtain ⟨x1, xt, xl, xd, xn, xh, xs, -⟩ := id h.1.1
  have sb := h.1.2.2.2.1
  have kb := sb.1.1
  have rm : R 14 0 = some 15 := sb.2.1.1
  have ks := h.1.2.2.2.2.2.1.1
  have isn := c_isNumber I R K a
  unfold sp_asked
  by_cases c0 : inR a 0 999 = false
  · rw [c0] at isn
    rw [if_pos c0]
    refine ⟨I, ?_, h, FC.rf I⟩
    simp (disch := first | assumption | omega | exact ixN (by assumption) (by omega) (by omega) | exact ne_10 | exact ne_1000 | exact ne_4) only [s89_0, s89_1, s89_4, s89_7, s89_7a, s89_8, s89_11, s89_11a, s89_12, s89_15, s89_16, s89_16a, s89_17, s89_20, s89_23, s89_26, s89_29, s89_30, ↓reduceIte, eq_self, Option.bind_some, Option.bind_none, Option.toList_some, Option.toList_none, List.cons_append, List.nil_append, am_rf_s, am_rf_n, am_c1_i, am_c1_r, am_c1_n, List.all_cons, List.all_nil, Bool.and_self, Bool.and_true, Bool.true_and, List.length_cons, List.length_nil, Nat.reduceAdd, Nat.reduceSub, Nat.reduceMul, Nat.reduceLeDiff, Nat.reduceLT, Nat.zero_le, Nat.le_refl, ne_10, ne_1000, ne_4, not_false_eq_true, or_true, true_or, Nat.one_ne_zero, Nat.zero_ne_one, Nat.reduceEqDiff, Bool.true_eq_false, Bool.false_eq_true, n10, isn, bI_f]
  · have c0' := nf c0
    rw [if_neg c0]
    rw [c0'] at isn
    obtain ⟨q, q1, q2, rfl⟩ := inR_of c0' (by omega) (by omega)
    obtain ⟨J, v1, v2⟩ := c_ask I R K h.1.2.2.2.2.2.1 15 4 5 200 n tx f (nI q) (nb_nI (by omega)) sb.2.2.1 (by omega) (by omega) hw.1 h.2.1 h.2.2.2.2.1.1
    rw [(ask_pos (g := tx) (n := n) hw.1 (nb_nI (show q < 1000 by omega))).1] at v1
    refine ⟨J, ?_, h.sk (fun a ha => v2 a (by omega) (by omega)), fun a z1 z2 => v2 a (by omega) (by omega)⟩
    simp (disch := first | assumption | omega | exact ixN (by assumption) (by omega) (by omega) | exact ne_10 | exact ne_1000 | exact ne_4) only [s89_0, s89_1, s89_4, s89_7, s89_7a, s89_8, s89_11, s89_11a, s89_12, s89_15, s89_16, s89_16a, s89_17, s89_20, s89_23, s89_26, s89_29, s89_30, ↓reduceIte, eq_self, Option.bind_some, Option.bind_none, Option.toList_some, Option.toList_none, List.cons_append, List.nil_append, am_rf_s, am_rf_n, am_c1_i, am_c1_r, am_c1_n, List.all_cons, List.all_nil, Bool.and_self, Bool.and_true, Bool.true_and, List.length_cons, List.length_nil, Nat.reduceAdd, Nat.reduceSub, Nat.reduceMul, Nat.reduceLeDiff, Nat.reduceLT, Nat.zero_le, Nat.le_refl, ne_10, ne_1000, ne_4, not_false_eq_true, or_true, true_or, Nat.one_ne_zero, Nat.zero_ne_one, Nat.reduceEqDiff, Bool.true_eq_false, Bool.false_eq_true, n10, isn, bI_t, xs, xt, xn, rm, v1]
theorem k_count (h : CH I R K n tx nc cd bg f cs wz) (w : Int32) : ev 91 0 [some (.ref 3), some (.int w)] [] (I, R, K) = some (some (.int (sp_count bg nc f cs n w)), (I, R, K)) := by
  obtain ⟨x1, xt, xl, xd, xn, xh, xs, -⟩ := id h.1.1
  have sb := h.1.2.2.2.1
  have kb := sb.1.1
  have kl := h.1.2.1.1
  have kh := h.1.2.2.2.2.1.1
  have rl : R 6 0 = some 7 := h.1.2.1.2.2.2.2.1
  have k7 : am_isK K 7 8 = true := h.1.2.1.2.1
  obtain ⟨b, rc, be⟩ := h.2.2.1
  have i7 : I 7 1 = nI nc := rc.2.1.2.2.2.2.1
  have i6 : I 6 2 = cu (fun k => if am_b (bg k) = nI 0 then nI 0 else nI 1) nc 0 (nI 0) := h.2.2.2.1
  have k4 := h.2.1.1
  have i4 := h.2.1.2.2.2.2.1
  have i38 : I 38 2 = nI cs := by obtain ⟨l, l1, l2, l3, l4, -⟩ := h.2.2.2.2.2; exact l3
  have h0 := c_howManyAre I R K 14 f sb h.2.2.2.2.1 (nI 0)
  have h2 := c_howManyAre I R K 14 f sb h.2.2.2.2.1 (nI 2)
  have hh := c_howManyHeld I R K 14 f sb h.2.2.2.2.1
  unfold sp_count
  by_cases w0 : w = nI 0
  · subst w0
    simp (disch := first | assumption | omega | exact ixN (by assumption) (by omega) (by omega) | exact ne_10 | exact ne_1000 | exact ne_4) only [s91_0, s91_1, s91_44, s91_44a, s91_45, s91_48, s91_51, s91_54, s91_55, s91_55a, s91_56, s91_59, s91_62, s91_63, s91_63a, s91_64, s91_67, s91_68, s91_71, s91_72, s91_72a, s91_73, s91_76, s91_77, s91_80, s91_81, s91_81a, s91_82, s91_85, s91_88, s91_89, s91_89a, s91_90, s91_93, s91_96, s91_97, s91_97a, s91_98, s91_101, s91_104, s91_105, s91_106, ↓reduceIte, eq_self, Option.bind_some, Option.bind_none, Option.toList_some, Option.toList_none, List.cons_append, List.nil_append, am_rf_s, am_rf_n, am_c1_i, am_c1_r, am_c1_n, List.all_cons, List.all_nil, Bool.and_self, Bool.and_true, Bool.true_and, List.length_cons, List.length_nil, Nat.reduceAdd, Nat.reduceSub, Nat.reduceMul, Nat.reduceLeDiff, Nat.reduceLT, Nat.zero_le, Nat.le_refl, ne_10, ne_1000, ne_4, not_false_eq_true, or_true, true_or, Nat.one_ne_zero, Nat.zero_ne_one, Nat.reduceEqDiff, Bool.true_eq_false, Bool.false_eq_true, n10, nI_eq, xl, rl, i7]
  · by_cases w1 : w = nI 1
    · subst w1
      rw [if_neg w0, if_pos rfl, ← i6]
      simp (disch := first | assumption | omega | exact ixN (by assumption) (by omega) (by omega) | exact ne_10 | exact ne_1000 | exact ne_4) only [s91_0, s91_1, s91_44, s91_44a, s91_45, s91_48, s91_51, s91_54, s91_55, s91_55a, s91_56, s91_59, s91_62, s91_63, s91_63a, s91_64, s91_67, s91_68, s91_71, s91_72, s91_72a, s91_73, s91_76, s91_77, s91_80, s91_81, s91_81a, s91_82, s91_85, s91_88, s91_89, s91_89a, s91_90, s91_93, s91_96, s91_97, s91_97a, s91_98, s91_101, s91_104, s91_105, s91_106, ↓reduceIte, eq_self, Option.bind_some, Option.bind_none, Option.toList_some, Option.toList_none, List.cons_append, List.nil_append, am_rf_s, am_rf_n, am_c1_i, am_c1_r, am_c1_n, List.all_cons, List.all_nil, Bool.and_self, Bool.and_true, Bool.true_and, List.length_cons, List.length_nil, Nat.reduceAdd, Nat.reduceSub, Nat.reduceMul, Nat.reduceLeDiff, Nat.reduceLT, Nat.zero_le, Nat.le_refl, ne_10, ne_1000, ne_4, not_false_eq_true, or_true, true_or, Nat.one_ne_zero, Nat.zero_ne_one, Nat.reduceEqDiff, Bool.true_eq_false, Bool.false_eq_true, n10, nI_eq, xl]
    · by_cases w2 : w = nI 2
      · subst w2
        simp (disch := first | assumption | omega | exact ixN (by assumption) (by omega) (by omega) | exact ne_10 | exact ne_1000 | exact ne_4) only [s91_0, s91_1, s91_44, s91_44a, s91_45, s91_48, s91_51, s91_54, s91_55, s91_55a, s91_56, s91_59, s91_62, s91_63, s91_63a, s91_64, s91_67, s91_68, s91_71, s91_72, s91_72a, s91_73, s91_76, s91_77, s91_80, s91_81, s91_81a, s91_82, s91_85, s91_88, s91_89, s91_89a, s91_90, s91_93, s91_96, s91_97, s91_97a, s91_98, s91_101, s91_104, s91_105, s91_106, ↓reduceIte, eq_self, Option.bind_some, Option.bind_none, Option.toList_some, Option.toList_none, List.cons_append, List.nil_append, am_rf_s, am_rf_n, am_c1_i, am_c1_r, am_c1_n, List.all_cons, List.all_nil, Bool.and_self, Bool.and_true, Bool.true_and, List.length_cons, List.length_nil, Nat.reduceAdd, Nat.reduceSub, Nat.reduceMul, Nat.reduceLeDiff, Nat.reduceLT, Nat.zero_le, Nat.le_refl, ne_10, ne_1000, ne_4, not_false_eq_true, or_true, true_or, Nat.one_ne_zero, Nat.zero_ne_one, Nat.reduceEqDiff, Bool.true_eq_false, Bool.false_eq_true, n10, nI_eq, xn, h0]
      · by_cases w3 : w = nI 3
        · subst w3
          simp (disch := first | assumption | omega | exact ixN (by assumption) (by omega) (by omega) | exact ne_10 | exact ne_1000 | exact ne_4) only [s91_0, s91_1, s91_44, s91_44a, s91_45, s91_48, s91_51, s91_54, s91_55, s91_55a, s91_56, s91_59, s91_62, s91_63, s91_63a, s91_64, s91_67, s91_68, s91_71, s91_72, s91_72a, s91_73, s91_76, s91_77, s91_80, s91_81, s91_81a, s91_82, s91_85, s91_88, s91_89, s91_89a, s91_90, s91_93, s91_96, s91_97, s91_97a, s91_98, s91_101, s91_104, s91_105, s91_106, ↓reduceIte, eq_self, Option.bind_some, Option.bind_none, Option.toList_some, Option.toList_none, List.cons_append, List.nil_append, am_rf_s, am_rf_n, am_c1_i, am_c1_r, am_c1_n, List.all_cons, List.all_nil, Bool.and_self, Bool.and_true, Bool.true_and, List.length_cons, List.length_nil, Nat.reduceAdd, Nat.reduceSub, Nat.reduceMul, Nat.reduceLeDiff, Nat.reduceLT, Nat.zero_le, Nat.le_refl, ne_10, ne_1000, ne_4, not_false_eq_true, or_true, true_or, Nat.one_ne_zero, Nat.zero_ne_one, Nat.reduceEqDiff, Bool.true_eq_false, Bool.false_eq_true, n10, nI_eq, xn, h2]
        · by_cases w4 : w = nI 4
          · subst w4
            simp (disch := first | assumption | omega | exact ixN (by assumption) (by omega) (by omega) | exact ne_10 | exact ne_1000 | exact ne_4) only [s91_0, s91_1, s91_44, s91_44a, s91_45, s91_48, s91_51, s91_54, s91_55, s91_55a, s91_56, s91_59, s91_62, s91_63, s91_63a, s91_64, s91_67, s91_68, s91_71, s91_72, s91_72a, s91_73, s91_76, s91_77, s91_80, s91_81, s91_81a, s91_82, s91_85, s91_88, s91_89, s91_89a, s91_90, s91_93, s91_96, s91_97, s91_97a, s91_98, s91_101, s91_104, s91_105, s91_106, ↓reduceIte, eq_self, Option.bind_some, Option.bind_none, Option.toList_some, Option.toList_none, List.cons_append, List.nil_append, am_rf_s, am_rf_n, am_c1_i, am_c1_r, am_c1_n, List.all_cons, List.all_nil, Bool.and_self, Bool.and_true, Bool.true_and, List.length_cons, List.length_nil, Nat.reduceAdd, Nat.reduceSub, Nat.reduceMul, Nat.reduceLeDiff, Nat.reduceLT, Nat.zero_le, Nat.le_refl, ne_10, ne_1000, ne_4, not_false_eq_true, or_true, true_or, Nat.one_ne_zero, Nat.zero_ne_one, Nat.reduceEqDiff, Bool.true_eq_false, Bool.false_eq_true, n10, nI_eq, xn, hh]
          · by_cases w5 : w = nI 5
            · subst w5
              simp (disch := first | assumption | omega | exact ixN (by assumption) (by omega) (by omega) | exact ne_10 | exact ne_1000 | exact ne_4) only [s91_0, s91_1, s91_44, s91_44a, s91_45, s91_48, s91_51, s91_54, s91_55, s91_55a, s91_56, s91_59, s91_62, s91_63, s91_63a, s91_64, s91_67, s91_68, s91_71, s91_72, s91_72a, s91_73, s91_76, s91_77, s91_80, s91_81, s91_81a, s91_82, s91_85, s91_88, s91_89, s91_89a, s91_90, s91_93, s91_96, s91_97, s91_97a, s91_98, s91_101, s91_104, s91_105, s91_106, ↓reduceIte, eq_self, Option.bind_some, Option.bind_none, Option.toList_some, Option.toList_none, List.cons_append, List.nil_append, am_rf_s, am_rf_n, am_c1_i, am_c1_r, am_c1_n, List.all_cons, List.all_nil, Bool.and_self, Bool.and_true, Bool.true_and, List.length_cons, List.length_nil, Nat.reduceAdd, Nat.reduceSub, Nat.reduceMul, Nat.reduceLeDiff, Nat.reduceLT, Nat.zero_le, Nat.le_refl, ne_10, ne_1000, ne_4, not_false_eq_true, or_true, true_or, Nat.one_ne_zero, Nat.zero_ne_one, Nat.reduceEqDiff, Bool.true_eq_false, Bool.false_eq_true, n10, nI_eq, xh, i38]
            · by_cases w6 : w = nI 6
              · subst w6
                simp (disch := first | assumption | omega | exact ixN (by assumption) (by omega) (by omega) | exact ne_10 | exact ne_1000 | exact ne_4) only [s91_0, s91_1, s91_44, s91_44a, s91_45, s91_48, s91_51, s91_54, s91_55, s91_55a, s91_56, s91_59, s91_62, s91_63, s91_63a, s91_64, s91_67, s91_68, s91_71, s91_72, s91_72a, s91_73, s91_76, s91_77, s91_80, s91_81, s91_81a, s91_82, s91_85, s91_88, s91_89, s91_89a, s91_90, s91_93, s91_96, s91_97, s91_97a, s91_98, s91_101, s91_104, s91_105, s91_106, ↓reduceIte, eq_self, Option.bind_some, Option.bind_none, Option.toList_some, Option.toList_none, List.cons_append, List.nil_append, am_rf_s, am_rf_n, am_c1_i, am_c1_r, am_c1_n, List.all_cons, List.all_nil, Bool.and_self, Bool.and_true, Bool.true_and, List.length_cons, List.length_nil, Nat.reduceAdd, Nat.reduceSub, Nat.reduceMul, Nat.reduceLeDiff, Nat.reduceLT, Nat.zero_le, Nat.le_refl, ne_10, ne_1000, ne_4, not_false_eq_true, or_true, true_or, Nat.one_ne_zero, Nat.zero_ne_one, Nat.reduceEqDiff, Bool.true_eq_false, Bool.false_eq_true, n10, nI_eq, xt, i4]
              · simp (disch := first | assumption | omega | exact ixN (by assumption) (by omega) (by omega) | exact ne_10 | exact ne_1000 | exact ne_4) only [s91_0, s91_1, s91_44, s91_44a, s91_45, s91_48, s91_51, s91_54, s91_55, s91_55a, s91_56, s91_59, s91_62, s91_63, s91_63a, s91_64, s91_67, s91_68, s91_71, s91_72, s91_72a, s91_73, s91_76, s91_77, s91_80, s91_81, s91_81a, s91_82, s91_85, s91_88, s91_89, s91_89a, s91_90, s91_93, s91_96, s91_97, s91_97a, s91_98, s91_101, s91_104, s91_105, s91_106, ↓reduceIte, eq_self, Option.bind_some, Option.bind_none, Option.toList_some, Option.toList_none, List.cons_append, List.nil_append, am_rf_s, am_rf_n, am_c1_i, am_c1_r, am_c1_n, List.all_cons, List.all_nil, Bool.and_self, Bool.and_true, Bool.true_and, List.length_cons, List.length_nil, Nat.reduceAdd, Nat.reduceSub, Nat.reduceMul, Nat.reduceLeDiff, Nat.reduceLT, Nat.zero_le, Nat.le_refl, ne_10, ne_1000, ne_4, not_false_eq_true, or_true, true_or, Nat.one_ne_zero, Nat.zero_ne_one, Nat.reduceEqDiff, Bool.true_eq_false, Bool.false_eq_true, n10, w0, w1, w2, w3, w4, w5, w6]
end DM
