/-! the reference's constructor -/
section DV
theorem i_rows (I : am_I) (R : am_R) (K : am_K) (hz : FZ I R K) (hk : am_isK K 147 10 = true) (hn : K.2.1 = 148) : ∃ R' K', ev 99 0 [some (.ref 147)] [] (I, R, K) = ev 99 72 [some (.ref 147)] [] (I, R', K') ∧ FZ I R' K' ∧ GX 147 R K R' K' ∧ K'.2.1 = 156 ∧ K'.2.2 = K.2.2 + 8433 ∧ MK R' K' := by
  have p0_5 : ¬ nI 5 < 0 := by decide
  have p1_5 : (nI 5).toNatClampNeg ≤ 10000 := by decide
  have p2_5 : (nI 5).toNatClampNeg = 5 := by decide
  have p0_60 : ¬ nI 60 < 0 := by decide
  have p1_60 : (nI 60).toNatClampNeg ≤ 10000 := by decide
  have p2_60 : (nI 60).toNatClampNeg = 60 := by decide
  have p0_200 : ¬ nI 200 < 0 := by decide
  have p1_200 : (nI 200).toNatClampNeg ≤ 10000 := by decide
  have p2_200 : (nI 200).toNatClampNeg = 200 := by decide
  have p0_1318 : ¬ nI 1318 < 0 := by decide
  have p1_1318 : (nI 1318).toNatClampNeg ≤ 10000 := by decide
  have p2_1318 : (nI 1318).toNatClampNeg = 1318 := by decide
  have p0_5272 : ¬ nI 5272 < 0 := by decide
  have p1_5272 : (nI 5272).toNatClampNeg ≤ 10000 := by decide
  have p2_5272 : (nI 5272).toNatClampNeg = 5272 := by decide
  have la0 := isK_lt hk
  have zi0 := hz.zi
  have zr0 := hz.zr
  have t0 : am_tag K.2.1 = 20 := by rw [hn]; decide +kernel
  obtain ⟨z0, g0, k0, l0⟩ := af hz la0 1 200 200 20 t0
  obtain ⟨Ra0, hRa0⟩ : ∃ Ra0, Ra0 = am_ur R 147 1 (some K.2.1) := ⟨_, rfl⟩
  obtain ⟨Ka0, hKa0⟩ : ∃ Ka0, Ka0 = kN K 200 200 := ⟨_, rfl⟩
  rw [← hRa0, ← hKa0] at z0 g0
  rw [← hKa0, hn] at k0 l0
  have kc0 : am_isK Ka0 147 10 = true := isK_mono hk g0.2.2
  have f0_1 : Ra0 147 1 = some 148 := by rw [hRa0, ur_eq, hn]
  have nn0 : Ka0.2.1 = 149 := by rw [hKa0, kN_n, hn]
  have ss0 : Ka0.2.2 = K.2.2 + 200 := by rw [hKa0, kN_s]
  have la1 := isK_lt kc0
  have zi1 := z0.zi
  have zr1 := z0.zr
  have t1 : am_tag Ka0.2.1 = 20 := by rw [nn0]; decide +kernel
  obtain ⟨z1, g1, k1, l1⟩ := af z0 la1 3 60 60 20 t1
  obtain ⟨Ra1, hRa1⟩ : ∃ Ra1, Ra1 = am_ur Ra0 147 3 (some Ka0.2.1) := ⟨_, rfl⟩
  obtain ⟨Ka1, hKa1⟩ : ∃ Ka1, Ka1 = kN Ka0 60 60 := ⟨_, rfl⟩
  rw [← hRa1, ← hKa1] at z1 g1
  rw [← hKa1, nn0] at k1 l1
  have kc1 : am_isK Ka1 147 10 = true := isK_mono kc0 g1.2.2
  have f1_1 : Ra1 147 1 = some 148 := by rw [hRa1, ur_ni _ (by omega)]; exact f0_1
  have f1_3 : Ra1 147 3 = some 149 := by rw [hRa1, ur_eq, nn0]
  have nn1 : Ka1.2.1 = 150 := by rw [hKa1, kN_n, nn0]
  have ss1 : Ka1.2.2 = Ka0.2.2 + 60 := by rw [hKa1, kN_s]
  have la2 := isK_lt kc1
  have zi2 := z1.zi
  have zr2 := z1.zr
  have t2 : am_tag Ka1.2.1 = 21 := by rw [nn1]; decide +kernel
  obtain ⟨z2, g2, k2, l2⟩ := af z1 la2 4 60 60 21 t2
  obtain ⟨Ra2, hRa2⟩ : ∃ Ra2, Ra2 = am_ur Ra1 147 4 (some Ka1.2.1) := ⟨_, rfl⟩
  obtain ⟨Ka2, hKa2⟩ : ∃ Ka2, Ka2 = kN Ka1 60 60 := ⟨_, rfl⟩
  rw [← hRa2, ← hKa2] at z2 g2
  rw [← hKa2, nn1] at k2 l2
  have kc2 : am_isK Ka2 147 10 = true := isK_mono kc1 g2.2.2
  have f2_1 : Ra2 147 1 = some 148 := by rw [hRa2, ur_ni _ (by omega)]; exact f1_1
  have f2_3 : Ra2 147 3 = some 149 := by rw [hRa2, ur_ni _ (by omega)]; exact f1_3
  have f2_4 : Ra2 147 4 = some 150 := by rw [hRa2, ur_eq, nn1]
  have nn2 : Ka2.2.1 = 151 := by rw [hKa2, kN_n, nn1]
  have ss2 : Ka2.2.2 = Ka1.2.2 + 60 := by rw [hKa2, kN_s]
  have la3 := isK_lt kc2
  have zi3 := z2.zi
  have zr3 := z2.zr
  have t3 : am_tag Ka2.2.1 = 20 := by rw [nn2]; decide +kernel
  obtain ⟨z3, g3, k3, l3⟩ := af z2 la3 5 1318 1318 20 t3
  obtain ⟨Ra3, hRa3⟩ : ∃ Ra3, Ra3 = am_ur Ra2 147 5 (some Ka2.2.1) := ⟨_, rfl⟩
  obtain ⟨Ka3, hKa3⟩ : ∃ Ka3, Ka3 = kN Ka2 1318 1318 := ⟨_, rfl⟩
  rw [← hRa3, ← hKa3] at z3 g3
  rw [← hKa3, nn2] at k3 l3
  have kc3 : am_isK Ka3 147 10 = true := isK_mono kc2 g3.2.2
  have f3_1 : Ra3 147 1 = some 148 := by rw [hRa3, ur_ni _ (by omega)]; exact f2_1
  have f3_3 : Ra3 147 3 = some 149 := by rw [hRa3, ur_ni _ (by omega)]; exact f2_3
  have f3_4 : Ra3 147 4 = some 150 := by rw [hRa3, ur_ni _ (by omega)]; exact f2_4
  have f3_5 : Ra3 147 5 = some 151 := by rw [hRa3, ur_eq, nn2]
  have nn3 : Ka3.2.1 = 152 := by rw [hKa3, kN_n, nn2]
  have ss3 : Ka3.2.2 = Ka2.2.2 + 1318 := by rw [hKa3, kN_s]
  have la4 := isK_lt kc3
  have zi4 := z3.zi
  have zr4 := z3.zr
  have t4 : am_tag Ka3.2.1 = 20 := by rw [nn3]; decide +kernel
  obtain ⟨z4, g4, k4, l4⟩ := af z3 la4 6 1318 1318 20 t4
  obtain ⟨Ra4, hRa4⟩ : ∃ Ra4, Ra4 = am_ur Ra3 147 6 (some Ka3.2.1) := ⟨_, rfl⟩
  obtain ⟨Ka4, hKa4⟩ : ∃ Ka4, Ka4 = kN Ka3 1318 1318 := ⟨_, rfl⟩
  rw [← hRa4, ← hKa4] at z4 g4
  rw [← hKa4, nn3] at k4 l4
  have kc4 : am_isK Ka4 147 10 = true := isK_mono kc3 g4.2.2
  have f4_1 : Ra4 147 1 = some 148 := by rw [hRa4, ur_ni _ (by omega)]; exact f3_1
  have f4_3 : Ra4 147 3 = some 149 := by rw [hRa4, ur_ni _ (by omega)]; exact f3_3
  have f4_4 : Ra4 147 4 = some 150 := by rw [hRa4, ur_ni _ (by omega)]; exact f3_4
  have f4_5 : Ra4 147 5 = some 151 := by rw [hRa4, ur_ni _ (by omega)]; exact f3_5
  have f4_6 : Ra4 147 6 = some 152 := by rw [hRa4, ur_eq, nn3]
  have nn4 : Ka4.2.1 = 153 := by rw [hKa4, kN_n, nn3]
  have ss4 : Ka4.2.2 = Ka3.2.2 + 1318 := by rw [hKa4, kN_s]
  have la5 := isK_lt kc4
  have zi5 := z4.zi
  have zr5 := z4.zr
  have t5 : am_tag Ka4.2.1 = 20 := by rw [nn4]; decide +kernel
  obtain ⟨z5, g5, k5, l5⟩ := af z4 la5 7 5272 5272 20 t5
  obtain ⟨Ra5, hRa5⟩ : ∃ Ra5, Ra5 = am_ur Ra4 147 7 (some Ka4.2.1) := ⟨_, rfl⟩
  obtain ⟨Ka5, hKa5⟩ : ∃ Ka5, Ka5 = kN Ka4 5272 5272 := ⟨_, rfl⟩
  rw [← hRa5, ← hKa5] at z5 g5
  rw [← hKa5, nn4] at k5 l5
  have kc5 : am_isK Ka5 147 10 = true := isK_mono kc4 g5.2.2
  have f5_1 : Ra5 147 1 = some 148 := by rw [hRa5, ur_ni _ (by omega)]; exact f4_1
  have f5_3 : Ra5 147 3 = some 149 := by rw [hRa5, ur_ni _ (by omega)]; exact f4_3
  have f5_4 : Ra5 147 4 = some 150 := by rw [hRa5, ur_ni _ (by omega)]; exact f4_4
  have f5_5 : Ra5 147 5 = some 151 := by rw [hRa5, ur_ni _ (by omega)]; exact f4_5
  have f5_6 : Ra5 147 6 = some 152 := by rw [hRa5, ur_ni _ (by omega)]; exact f4_6
  have f5_7 : Ra5 147 7 = some 153 := by rw [hRa5, ur_eq, nn4]
  have nn5 : Ka5.2.1 = 154 := by rw [hKa5, kN_n, nn4]
  have ss5 : Ka5.2.2 = Ka4.2.2 + 5272 := by rw [hKa5, kN_s]
  have la6 := isK_lt kc5
  have zi6 := z5.zi
  have zr6 := z5.zr
  have t6 : am_tag Ka5.2.1 = 21 := by rw [nn5]; decide +kernel
  obtain ⟨z6, g6, k6, l6⟩ := af z5 la6 9 200 200 21 t6
  obtain ⟨Ra6, hRa6⟩ : ∃ Ra6, Ra6 = am_ur Ra5 147 9 (some Ka5.2.1) := ⟨_, rfl⟩
  obtain ⟨Ka6, hKa6⟩ : ∃ Ka6, Ka6 = kN Ka5 200 200 := ⟨_, rfl⟩
  rw [← hRa6, ← hKa6] at z6 g6
  rw [← hKa6, nn5] at k6 l6
  have kc6 : am_isK Ka6 147 10 = true := isK_mono kc5 g6.2.2
  have f6_1 : Ra6 147 1 = some 148 := by rw [hRa6, ur_ni _ (by omega)]; exact f5_1
  have f6_3 : Ra6 147 3 = some 149 := by rw [hRa6, ur_ni _ (by omega)]; exact f5_3
  have f6_4 : Ra6 147 4 = some 150 := by rw [hRa6, ur_ni _ (by omega)]; exact f5_4
  have f6_5 : Ra6 147 5 = some 151 := by rw [hRa6, ur_ni _ (by omega)]; exact f5_5
  have f6_6 : Ra6 147 6 = some 152 := by rw [hRa6, ur_ni _ (by omega)]; exact f5_6
  have f6_7 : Ra6 147 7 = some 153 := by rw [hRa6, ur_ni _ (by omega)]; exact f5_7
  have f6_9 : Ra6 147 9 = some 154 := by rw [hRa6, ur_eq, nn5]
  have nn6 : Ka6.2.1 = 155 := by rw [hKa6, kN_n, nn5]
  have ss6 : Ka6.2.2 = Ka5.2.2 + 200 := by rw [hKa6, kN_s]
  have la7 := isK_lt kc6
  have zi7 := z6.zi
  have zr7 := z6.zr
  have t7 : am_tag Ka6.2.1 = 20 := by rw [nn6]; decide +kernel
  obtain ⟨z7, g7, k7, l7⟩ := af z6 la7 10 5 5 20 t7
  obtain ⟨Ra7, hRa7⟩ : ∃ Ra7, Ra7 = am_ur Ra6 147 10 (some Ka6.2.1) := ⟨_, rfl⟩
  obtain ⟨Ka7, hKa7⟩ : ∃ Ka7, Ka7 = kN Ka6 5 5 := ⟨_, rfl⟩
  rw [← hRa7, ← hKa7] at z7 g7
  rw [← hKa7, nn6] at k7 l7
  have kc7 : am_isK Ka7 147 10 = true := isK_mono kc6 g7.2.2
  have f7_1 : Ra7 147 1 = some 148 := by rw [hRa7, ur_ni _ (by omega)]; exact f6_1
  have f7_3 : Ra7 147 3 = some 149 := by rw [hRa7, ur_ni _ (by omega)]; exact f6_3
  have f7_4 : Ra7 147 4 = some 150 := by rw [hRa7, ur_ni _ (by omega)]; exact f6_4
  have f7_5 : Ra7 147 5 = some 151 := by rw [hRa7, ur_ni _ (by omega)]; exact f6_5
  have f7_6 : Ra7 147 6 = some 152 := by rw [hRa7, ur_ni _ (by omega)]; exact f6_6
  have f7_7 : Ra7 147 7 = some 153 := by rw [hRa7, ur_ni _ (by omega)]; exact f6_7
  have f7_9 : Ra7 147 9 = some 154 := by rw [hRa7, ur_ni _ (by omega)]; exact f6_9
  have f7_10 : Ra7 147 10 = some 155 := by rw [hRa7, ur_eq, nn6]
  have nn7 : Ka7.2.1 = 156 := by rw [hKa7, kN_n, nn6]
  have ss7 : Ka7.2.2 = Ka6.2.2 + 5 := by rw [hKa7, kN_s]
  have G7 : GX 147 Ra7 Ka7 Ra7 Ka7 := ⟨fun _ _ _ => rfl, fun _ _ => rfl, Nat.le_refl _⟩
  have G6 : GX 147 Ra6 Ka6 Ra7 Ka7 := g7.tr G7
  have G5 : GX 147 Ra5 Ka5 Ra7 Ka7 := g6.tr G6
  have G4 : GX 147 Ra4 Ka4 Ra7 Ka7 := g5.tr G5
  have G3 : GX 147 Ra3 Ka3 Ra7 Ka7 := g4.tr G4
  have G2 : GX 147 Ra2 Ka2 Ra7 Ka7 := g3.tr G3
  have G1 : GX 147 Ra1 Ka1 Ra7 Ka7 := g2.tr G2
  have G0 : GX 147 Ra0 Ka0 Ra7 Ka7 := g1.tr G1
  refine ⟨Ra7, Ka7, ?_, z7, g0.tr G0, nn7, ?_, ⟨kc7, isK_mono k0 G0.2.2, isK_mono k1 G1.2.2, isK_mono k2 G2.2.2, isK_mono k3 G3.2.2, isK_mono k4 G4.2.2, isK_mono k5 G5.2.2, isK_mono k6 G6.2.2, isK_mono k7 G7.2.2⟩, ⟨by rw [G0.2.1 _ (by omega)]; exact l0, by rw [G1.2.1 _ (by omega)]; exact l1, by rw [G2.2.1 _ (by omega)]; exact l2, by rw [G3.2.1 _ (by omega)]; exact l3, by rw [G4.2.1 _ (by omega)]; exact l4, by rw [G5.2.1 _ (by omega)]; exact l5, by rw [G6.2.1 _ (by omega)]; exact l6, by rw [G7.2.1 _ (by omega)]; exact l7⟩, ⟨f7_1, f7_3, f7_4, f7_5, f7_6, f7_7, f7_9, f7_10⟩⟩
  · simp (disch := first | assumption | omega | exact ixN (by assumption) (by omega) (by omega) | exact ne_10 | exact ne_1000 | exact ne_4) only [s99_0, s99_0a, s99_1, s99_4, s99_4a, s99_5, s99_8, s99_10, s99_10a, ↓reduceIte, eq_self, Option.bind_some, Option.bind_none, Option.toList_some, Option.toList_none, List.cons_append, List.nil_append, am_rf_s, am_rf_n, am_c1_i, am_c1_r, am_c1_n, List.all_cons, List.all_nil, Bool.and_self, Bool.and_true, Bool.true_and, List.length_cons, List.length_nil, Nat.reduceAdd, Nat.reduceSub, Nat.reduceMul, Nat.reduceLeDiff, Nat.reduceLT, Nat.zero_le, Nat.le_refl, ne_10, ne_1000, ne_4, not_false_eq_true, or_true, true_or, Nat.one_ne_zero, Nat.zero_ne_one, Nat.reduceEqDiff, Bool.true_eq_false, Bool.false_eq_true, n10, am_mk_k, p2_200, zi0, zr0, ← hKa0, ← hRa0]
    simp (disch := first | assumption | omega | exact ixN (by assumption) (by omega) (by omega) | exact ne_10 | exact ne_1000 | exact ne_4) only [s99_13, s99_13a, s99_14, s99_16, s99_18, s99_18a, ↓reduceIte, eq_self, Option.bind_some, Option.bind_none, Option.toList_some, Option.toList_none, List.cons_append, List.nil_append, am_rf_s, am_rf_n, am_c1_i, am_c1_r, am_c1_n, List.all_cons, List.all_nil, Bool.and_self, Bool.and_true, Bool.true_and, List.length_cons, List.length_nil, Nat.reduceAdd, Nat.reduceSub, Nat.reduceMul, Nat.reduceLeDiff, Nat.reduceLT, Nat.zero_le, Nat.le_refl, ne_10, ne_1000, ne_4, not_false_eq_true, or_true, true_or, Nat.one_ne_zero, Nat.zero_ne_one, Nat.reduceEqDiff, Bool.true_eq_false, Bool.false_eq_true, n10, am_mk_k, p2_60, zi1, zr1, ← hKa1, ← hRa1]
    simp (disch := first | assumption | omega | exact ixN (by assumption) (by omega) (by omega) | exact ne_10 | exact ne_1000 | exact ne_4) only [s99_21, s99_21a, s99_22, s99_24, s99_26, s99_26a, ↓reduceIte, eq_self, Option.bind_some, Option.bind_none, Option.toList_some, Option.toList_none, List.cons_append, List.nil_append, am_rf_s, am_rf_n, am_c1_i, am_c1_r, am_c1_n, List.all_cons, List.all_nil, Bool.and_self, Bool.and_true, Bool.true_and, List.length_cons, List.length_nil, Nat.reduceAdd, Nat.reduceSub, Nat.reduceMul, Nat.reduceLeDiff, Nat.reduceLT, Nat.zero_le, Nat.le_refl, ne_10, ne_1000, ne_4, not_false_eq_true, or_true, true_or, Nat.one_ne_zero, Nat.zero_ne_one, Nat.reduceEqDiff, Bool.true_eq_false, Bool.false_eq_true, n10, am_mk_k, p2_60, zi2, zr2, ← hKa2, ← hRa2]
    simp (disch := first | assumption | omega | exact ixN (by assumption) (by omega) (by omega) | exact ne_10 | exact ne_1000 | exact ne_4) only [s99_29, s99_29a, s99_30, s99_33, s99_35, s99_35a, ↓reduceIte, eq_self, Option.bind_some, Option.bind_none, Option.toList_some, Option.toList_none, List.cons_append, List.nil_append, am_rf_s, am_rf_n, am_c1_i, am_c1_r, am_c1_n, List.all_cons, List.all_nil, Bool.and_self, Bool.and_true, Bool.true_and, List.length_cons, List.length_nil, Nat.reduceAdd, Nat.reduceSub, Nat.reduceMul, Nat.reduceLeDiff, Nat.reduceLT, Nat.zero_le, Nat.le_refl, ne_10, ne_1000, ne_4, not_false_eq_true, or_true, true_or, Nat.one_ne_zero, Nat.zero_ne_one, Nat.reduceEqDiff, Bool.true_eq_false, Bool.false_eq_true, n10, am_mk_k, p2_1318, zi3, zr3, ← hKa3, ← hRa3]
    simp (disch := first | assumption | omega | exact ixN (by assumption) (by omega) (by omega) | exact ne_10 | exact ne_1000 | exact ne_4) only [s99_38, s99_38a, s99_39, s99_42, s99_44, s99_44a, ↓reduceIte, eq_self, Option.bind_some, Option.bind_none, Option.toList_some, Option.toList_none, List.cons_append, List.nil_append, am_rf_s, am_rf_n, am_c1_i, am_c1_r, am_c1_n, List.all_cons, List.all_nil, Bool.and_self, Bool.and_true, Bool.true_and, List.length_cons, List.length_nil, Nat.reduceAdd, Nat.reduceSub, Nat.reduceMul, Nat.reduceLeDiff, Nat.reduceLT, Nat.zero_le, Nat.le_refl, ne_10, ne_1000, ne_4, not_false_eq_true, or_true, true_or, Nat.one_ne_zero, Nat.zero_ne_one, Nat.reduceEqDiff, Bool.true_eq_false, Bool.false_eq_true, n10, am_mk_k, p2_1318, zi4, zr4, ← hKa4, ← hRa4]
    simp (disch := first | assumption | omega | exact ixN (by assumption) (by omega) (by omega) | exact ne_10 | exact ne_1000 | exact ne_4) only [s99_47, s99_47a, s99_48, s99_51, s99_53, s99_53a, ↓reduceIte, eq_self, Option.bind_some, Option.bind_none, Option.toList_some, Option.toList_none, List.cons_append, List.nil_append, am_rf_s, am_rf_n, am_c1_i, am_c1_r, am_c1_n, List.all_cons, List.all_nil, Bool.and_self, Bool.and_true, Bool.true_and, List.length_cons, List.length_nil, Nat.reduceAdd, Nat.reduceSub, Nat.reduceMul, Nat.reduceLeDiff, Nat.reduceLT, Nat.zero_le, Nat.le_refl, ne_10, ne_1000, ne_4, not_false_eq_true, or_true, true_or, Nat.one_ne_zero, Nat.zero_ne_one, Nat.reduceEqDiff, Bool.true_eq_false, Bool.false_eq_true, n10, am_mk_k, p2_5272, zi5, zr5, ← hKa5, ← hRa5]
    simp (disch := first | assumption | omega | exact ixN (by assumption) (by omega) (by omega) | exact ne_10 | exact ne_1000 | exact ne_4) only [s99_56, s99_56a, s99_57, s99_60, s99_62, s99_62a, ↓reduceIte, eq_self, Option.bind_some, Option.bind_none, Option.toList_some, Option.toList_none, List.cons_append, List.nil_append, am_rf_s, am_rf_n, am_c1_i, am_c1_r, am_c1_n, List.all_cons, List.all_nil, Bool.and_self, Bool.and_true, Bool.true_and, List.length_cons, List.length_nil, Nat.reduceAdd, Nat.reduceSub, Nat.reduceMul, Nat.reduceLeDiff, Nat.reduceLT, Nat.zero_le, Nat.le_refl, ne_10, ne_1000, ne_4, not_false_eq_true, or_true, true_or, Nat.one_ne_zero, Nat.zero_ne_one, Nat.reduceEqDiff, Bool.true_eq_false, Bool.false_eq_true, n10, am_mk_k, p2_200, zi6, zr6, ← hKa6, ← hRa6]
    simp (disch := first | assumption | omega | exact ixN (by assumption) (by omega) (by omega) | exact ne_10 | exact ne_1000 | exact ne_4) only [s99_65, s99_65a, s99_66, s99_67, s99_69, s99_69a, ↓reduceIte, eq_self, Option.bind_some, Option.bind_none, Option.toList_some, Option.toList_none, List.cons_append, List.nil_append, am_rf_s, am_rf_n, am_c1_i, am_c1_r, am_c1_n, List.all_cons, List.all_nil, Bool.and_self, Bool.and_true, Bool.true_and, List.length_cons, List.length_nil, Nat.reduceAdd, Nat.reduceSub, Nat.reduceMul, Nat.reduceLeDiff, Nat.reduceLT, Nat.zero_le, Nat.le_refl, ne_10, ne_1000, ne_4, not_false_eq_true, or_true, true_or, Nat.one_ne_zero, Nat.zero_ne_one, Nat.reduceEqDiff, Bool.true_eq_false, Bool.false_eq_true, n10, am_mk_k, p2_5, zi7, zr7, ← hKa7, ← hRa7]
  · omega
end DV
section DW
variable (R : am_R) (K : am_K) (n cs : Nat) (tx f wz : Nat → Int32)
theorem m_none (h : MK R K) (I : am_I) (c : Nat) (cd bg : Nat → Int32) (hr : MR I n tx c cd bg f cs wz) (hc : c < 60) (x : Int32) : ∃ I', ev 100 0 [some (.ref 147), some (.int x)] [] (I, R, K) = some (none, (I', R, K)) ∧ MR I' n tx (c + 1) (uf cd c x) (uf bg c (nI 1)) f cs wz ∧ FM I I' := by
  obtain ⟨⟨h1, h2, h3, h4, h5, h6, h7, h8, h9⟩, ⟨g2, g3, g4, g5, g6, g7, g8, g9⟩, r1, r2, r3, r4, r5, r6, r7, r8⟩ := h
  obtain ⟨m1, m2, m3, m4, m5, m6, m7, m8⟩ := hr
  refine ⟨st (st (st I 150 (uf (I 150) c (nI 1))) 149 (uf (I 149) c x)) 147 (uf (I 147) 2 (nI (c + 1))), ?_, ⟨?_, ?_, ?_, ?_, ?_, ?_, ?_, ?_⟩, ((FM.st I _ (by omega) (by omega)).tr (FM.st _ _ (by omega) (by omega))).tr (FM.st _ _ (by omega) (by omega))⟩
  · simp (disch := first | assumption | omega | exact ixN (by assumption) (by omega) (by omega) | exact ne_10 | exact ne_1000 | exact ne_4) only [s100_0, s100_0a, s100_1, s100_4, s100_4a, s100_5, s100_8, s100_9, s100_10, s100_10a, s100_11, s100_14, s100_14a, s100_15, s100_18, s100_19, s100_20, s100_20a, s100_21, s100_22, s100_25, s100_26, s100_27, s100_30, ↓reduceIte, eq_self, Option.bind_some, Option.bind_none, Option.toList_some, Option.toList_none, List.cons_append, List.nil_append, am_rf_s, am_rf_n, am_c1_i, am_c1_r, am_c1_n, List.all_cons, List.all_nil, Bool.and_self, Bool.and_true, Bool.true_and, List.length_cons, List.length_nil, Nat.reduceAdd, Nat.reduceSub, Nat.reduceMul, Nat.reduceLeDiff, Nat.reduceLT, Nat.zero_le, Nat.le_refl, ne_10, ne_1000, ne_4, not_false_eq_true, or_true, true_or, Nat.one_ne_zero, Nat.zero_ne_one, Nat.reduceEqDiff, Bool.true_eq_false, Bool.false_eq_true, n10, nI_add, nI_clamp, ui_st, st_st, st_eq, st_ne, uf_eq, uf_ne, r2, r3, m3]
  · rw [st_eq, uf_ne _ _ (by omega)]; exact m1
  · rw [st_ne _ _ (by omega), st_ne _ _ (by omega), st_ne _ _ (by omega)]; exact m2
  · rw [st_eq, uf_eq]
  · rw [st_ne _ _ (by omega), st_eq, m4]
  · rw [st_ne _ _ (by omega), st_ne _ _ (by omega), st_eq, m5]
  · rw [st_ne _ _ (by omega), st_ne _ _ (by omega), st_ne _ _ (by omega)]; exact m6
  · rw [st_eq, uf_ne _ _ (by omega)]; exact m7
  · rw [st_ne _ _ (by omega), st_ne _ _ (by omega), st_ne _ _ (by omega)]; exact m8
theorem m_put1 {I : am_I} {c : Nat} {cd bg : Nat → Int32} (hr : MR I n tx c cd bg f cs wz) (x : Int32) : MR (st (st I 149 (uf (I 149) c x)) 147 (uf (I 147) 2 (nI (c + 1)))) n tx (c + 1) (uf cd c x) bg f cs wz ∧ FM I (st (st I 149 (uf (I 149) c x)) 147 (uf (I 147) 2 (nI (c + 1)))) := by
  obtain ⟨m1, m2, m3, m4, m5, m6, m7, m8⟩ := hr
  refine ⟨⟨?_, ?_, ?_, ?_, ?_, ?_, ?_, ?_⟩, (FM.st I _ (by omega) (by omega)).tr (FM.st _ _ (by omega) (by omega))⟩
  · rw [st_eq, uf_ne _ _ (by omega)]; exact m1
  · rw [st_ne _ _ (by omega), st_ne _ _ (by omega)]; exact m2
  · rw [st_eq, uf_eq]
  · rw [st_ne _ _ (by omega), st_eq, m4]
  · rw [st_ne _ _ (by omega), st_ne _ _ (by omega)]; exact m5
  · rw [st_ne _ _ (by omega), st_ne _ _ (by omega)]; exact m6
  · rw [st_eq, uf_ne _ _ (by omega)]; exact m7
  · rw [st_ne _ _ (by omega), st_ne _ _ (by omega)]; exact m8
theorem m_one (h : MK R K) (I : am_I) (c : Nat) (cd bg : Nat → Int32) (hr : MR I n tx c cd bg f cs wz) (hc : c + 1 < 60) (x : Int32) (k : Nat) : ∃ I', ev 101 0 [some (.ref 147), some (.int x), some (.int (nI k))] [] (I, R, K) = some (none, (I', R, K)) ∧ MR I' n tx (c + 2) (uf (uf cd c x) (c + 1) (nI (48 + k))) (uf bg c (nI 1)) f cs wz ∧ FM I I' := by
  obtain ⟨J, j1, j2, j3⟩ := m_none R K n cs tx f wz h I c cd bg hr (by omega) x
  obtain ⟨⟨h1, h2, h3, h4, h5, h6, h7, h8, h9⟩, ⟨g2, g3, g4, g5, g6, g7, g8, g9⟩, r1, r2, r3, r4, r5, r6, r7, r8⟩ := h
  obtain ⟨v1, v2⟩ := m_put1 n cs tx f wz j2 (nI (48 + k))
  have m3 := j2.2.2.1
  refine ⟨_, ?_, v1, j3.tr v2⟩
  simp (disch := first | assumption | omega | exact ixN (by assumption) (by omega) (by omega) | exact ne_10 | exact ne_1000 | exact ne_4) only [s101_0, s101_0a, s101_1, s101_2, s101_5, s101_5a, s101_6, s101_9, s101_9a, s101_10, s101_13, s101_15, s101_16, s101_17, s101_18, s101_18a, s101_19, s101_20, s101_23, s101_24, s101_25, s101_28, ↓reduceIte, eq_self, Option.bind_some, Option.bind_none, Option.toList_some, Option.toList_none, List.cons_append, List.nil_append, am_rf_s, am_rf_n, am_c1_i, am_c1_r, am_c1_n, List.all_cons, List.all_nil, Bool.and_self, Bool.and_true, Bool.true_and, List.length_cons, List.length_nil, Nat.reduceAdd, Nat.reduceSub, Nat.reduceMul, Nat.reduceLeDiff, Nat.reduceLT, Nat.zero_le, Nat.le_refl, ne_10, ne_1000, ne_4, not_false_eq_true, or_true, true_or, Nat.one_ne_zero, Nat.zero_ne_one, Nat.reduceEqDiff, Bool.true_eq_false, Bool.false_eq_true, n10, nI_add, nI_clamp, ui_st, st_st, st_eq, st_ne, uf_eq, uf_ne, r2, j1, m3]
theorem m_two (h : MK R K) (I : am_I) (c : Nat) (cd bg : Nat → Int32) (hr : MR I n tx c cd bg f cs wz) (hc : c + 2 < 60) (x : Int32) (k : Nat) (hk : k < 100) : ∃ I', ev 102 0 [some (.ref 147), some (.int x), some (.int (nI k))] [] (I, R, K) = some (none, (I', R, K)) ∧ MR I' n tx (c + 3) (uf (uf (uf cd c x) (c + 1) (nI (48 + k / 10))) (c + 2) (nI (48 + k % 10))) (uf bg c (nI 1)) f cs wz ∧ FM I I' := by
  obtain ⟨J, j1, j2, j3⟩ := m_one R K n cs tx f wz h I c cd bg hr (by omega) x (k / 10)
  obtain ⟨⟨h1, h2, h3, h4, h5, h6, h7, h8, h9⟩, ⟨g2, g3, g4, g5, g6, g7, g8, g9⟩, r1, r2, r3, r4, r5, r6, r7, r8⟩ := h
  obtain ⟨v1, v2⟩ := m_put1 n cs tx f wz j2 (nI (48 + k % 10))
  have m3 := j2.2.2.1
  have ed : nI k / nI 10 = nI (k / 10) := pk_div (by omega) (by omega) (by omega)
  have er : nI k - nI (k / 10) * nI 10 = nI (k % 10) := by rw [← ed]; exact pk_rem (by omega) (by omega) (by omega)
  refine ⟨_, ?_, v1, j3.tr v2⟩
  simp (disch := first | assumption | omega | exact ixN (by assumption) (by omega) (by omega) | exact ne_10 | exact ne_1000 | exact ne_4) only [s102_0, s102_0a, s102_1, s102_2, s102_3, s102_5, s102_6, s102_9, s102_9a, s102_10, s102_13, s102_13a, s102_14, s102_17, s102_19, s102_20, s102_22, s102_23, s102_24, s102_25, s102_25a, s102_26, s102_27, s102_30, s102_31, s102_32, s102_35, ↓reduceIte, eq_self, Option.bind_some, Option.bind_none, Option.toList_some, Option.toList_none, List.cons_append, List.nil_append, am_rf_s, am_rf_n, am_c1_i, am_c1_r, am_c1_n, List.all_cons, List.all_nil, Bool.and_self, Bool.and_true, Bool.true_and, List.length_cons, List.length_nil, Nat.reduceAdd, Nat.reduceSub, Nat.reduceMul, Nat.reduceLeDiff, Nat.reduceLT, Nat.zero_le, Nat.le_refl, ne_10, ne_1000, ne_4, not_false_eq_true, or_true, true_or, Nat.one_ne_zero, Nat.zero_ne_one, Nat.reduceEqDiff, Bool.true_eq_false, Bool.false_eq_true, n10, nI_add, nI_clamp, ui_st, st_st, st_eq, st_ne, uf_eq, uf_ne, r2, ed, er, j1, m3]
end DW
def cdM : Nat → Int32 := (uf (uf (uf (uf (uf (uf (uf (uf (uf (uf (uf (uf (uf (uf (uf (uf (uf (uf (uf (uf (uf (uf (uf (uf z0 0 (nI 108)) 1 (nI (48 + 0))) 2 (nI 122)) 3 (nI (48 + 13 / 10))) 4 (nI (48 + 13 % 10))) 5 (nI 99)) 6 (nI (48 + 14 / 10))) 7 (nI (48 + 14 % 10))) 8 (nI 115)) 9 (nI (48 + 0))) 10 (nI 106)) 11 (nI (48 + 0 / 10))) 12 (nI (48 + 0 % 10))) 13 (nI 104)) 14 (nI 108)) 15 (nI (48 + 1))) 16 (nI 112)) 17 (nI (48 + 2))) 18 (nI 115)) 19 (nI (48 + 1))) 20 (nI 108)) 21 (nI (48 + 0))) 22 (nI 100)) 23 (nI 114))
def bgM : Nat → Int32 := (uf (uf (uf (uf (uf (uf (uf (uf (uf (uf (uf (uf z0 0 (nI 1)) 2 (nI 1)) 5 (nI 1)) 8 (nI 1)) 10 (nI 1)) 13 (nI 1)) 14 (nI 1)) 16 (nI 1)) 18 (nI 1)) 20 (nI 1)) 22 (nI 1)) 23 (nI 1))
theorem cdM_e : cdM = lyC txA 24 z0 := by
  have h : ∀ j, j < 60 → cdM j = lyC txA 24 z0 j := by decide +kernel
  funext j
  by_cases q : j < 60
  · exact h j q
  · unfold lyC cdM
    rw [if_neg q]
    simp (disch := omega) only [uf_ne]
theorem bgM_e : bgM = lyB txA 24 z0 := by
  have h : ∀ j, j < 60 → bgM j = lyB txA 24 z0 j := by decide +kernel
  funext j
  by_cases q : j < 60
  · exact h j q
  · unfold lyB bgM
    rw [if_neg q]
    simp (disch := omega) only [uf_ne]
theorem m_code0 (R : am_R) (K : am_K) (n cs : Nat) (tx f wz : Nat → Int32) (h : MK R K) (I : am_I) (hr : MR I n tx 0 z0 z0 f cs wz) : ∃ I', ev 99 72 [some (.ref 147)] [] (I, R, K) = some (none, (I', R, K)) ∧ MR I' n tx 24 (lyC txA 24 z0) (lyB txA 24 z0) (sEmp f) 0 wz ∧ FM I I' := by
  obtain ⟨J0, a0, b0, c0⟩ := m_one R K n cs tx f wz h I 0 _ _ hr (by omega) (nI 108) 0
  obtain ⟨J1, a1, b1, c1⟩ := m_two R K n cs tx f wz h J0 2 _ _ b0 (by omega) (nI 122) 13 (by omega)
  obtain ⟨J2, a2, b2, c2⟩ := m_two R K n cs tx f wz h J1 5 _ _ b1 (by omega) (nI 99) 14 (by omega)
  obtain ⟨J3, a3, b3, c3⟩ := m_one R K n cs tx f wz h J2 8 _ _ b2 (by omega) (nI 115) 0
  obtain ⟨J4, a4, b4, c4⟩ := m_two R K n cs tx f wz h J3 10 _ _ b3 (by omega) (nI 106) 0 (by omega)
  obtain ⟨J5, a5, b5, c5⟩ := m_none R K n cs tx f wz h J4 13 _ _ b4 (by omega) (nI 104)
  obtain ⟨J6, a6, b6, c6⟩ := m_one R K n cs tx f wz h J5 14 _ _ b5 (by omega) (nI 108) 1
  obtain ⟨J7, a7, b7, c7⟩ := m_one R K n cs tx f wz h J6 16 _ _ b6 (by omega) (nI 112) 2
  obtain ⟨J8, a8, b8, c8⟩ := m_one R K n cs tx f wz h J7 18 _ _ b7 (by omega) (nI 115) 1
  obtain ⟨J9, a9, b9, c9⟩ := m_one R K n cs tx f wz h J8 20 _ _ b8 (by omega) (nI 108) 0
  obtain ⟨J10, a10, b10, c10⟩ := m_none R K n cs tx f wz h J9 22 _ _ b9 (by omega) (nI 100)
  obtain ⟨J11, a11, b11, c11⟩ := m_none R K n cs tx f wz h J10 23 _ _ b10 (by omega) (nI 114)
  have e : MR J11 n tx 24 (lyC txA 24 z0) (lyB txA 24 z0) f cs wz := by rw [← cdM_e, ← bgM_e]; exact b11
  obtain ⟨J12, e1, e2, e3⟩ := m_empties J11 R K n 24 cs tx (lyC txA 24 z0) (lyB txA 24 z0) f wz h e
  have k147 := h.1.1
  refine ⟨J12, ?_, e2, c0.tr (c1.tr (c2.tr (c3.tr (c4.tr (c5.tr (c6.tr (c7.tr (c8.tr (c9.tr (c10.tr (c11.tr e3)))))))))))⟩
  simp (disch := first | assumption | omega | exact ixN (by assumption) (by omega) (by omega) | exact ne_10 | exact ne_1000 | exact ne_4) only [s99_72, s99_72a, s99_73, s99_75, s99_76, ↓reduceIte, eq_self, Option.bind_some, Option.bind_none, Option.toList_some, Option.toList_none, List.cons_append, List.nil_append, am_rf_s, am_rf_n, am_c1_i, am_c1_r, am_c1_n, List.all_cons, List.all_nil, Bool.and_self, Bool.and_true, Bool.true_and, List.length_cons, List.length_nil, Nat.reduceAdd, Nat.reduceSub, Nat.reduceMul, Nat.reduceLeDiff, Nat.reduceLT, Nat.zero_le, Nat.le_refl, ne_10, ne_1000, ne_4, not_false_eq_true, or_true, true_or, Nat.one_ne_zero, Nat.zero_ne_one, Nat.reduceEqDiff, Bool.true_eq_false, Bool.false_eq_true, n10, a0]
  simp (disch := first | assumption | omega | exact ixN (by assumption) (by omega) (by omega) | exact ne_10 | exact ne_1000 | exact ne_4) only [s99_79, s99_79a, s99_80, s99_82, s99_84, ↓reduceIte, eq_self, Option.bind_some, Option.bind_none, Option.toList_some, Option.toList_none, List.cons_append, List.nil_append, am_rf_s, am_rf_n, am_c1_i, am_c1_r, am_c1_n, List.all_cons, List.all_nil, Bool.and_self, Bool.and_true, Bool.true_and, List.length_cons, List.length_nil, Nat.reduceAdd, Nat.reduceSub, Nat.reduceMul, Nat.reduceLeDiff, Nat.reduceLT, Nat.zero_le, Nat.le_refl, ne_10, ne_1000, ne_4, not_false_eq_true, or_true, true_or, Nat.one_ne_zero, Nat.zero_ne_one, Nat.reduceEqDiff, Bool.true_eq_false, Bool.false_eq_true, n10, a1]
  simp (disch := first | assumption | omega | exact ixN (by assumption) (by omega) (by omega) | exact ne_10 | exact ne_1000 | exact ne_4) only [s99_87, s99_87a, s99_88, s99_90, s99_92, ↓reduceIte, eq_self, Option.bind_some, Option.bind_none, Option.toList_some, Option.toList_none, List.cons_append, List.nil_append, am_rf_s, am_rf_n, am_c1_i, am_c1_r, am_c1_n, List.all_cons, List.all_nil, Bool.and_self, Bool.and_true, Bool.true_and, List.length_cons, List.length_nil, Nat.reduceAdd, Nat.reduceSub, Nat.reduceMul, Nat.reduceLeDiff, Nat.reduceLT, Nat.zero_le, Nat.le_refl, ne_10, ne_1000, ne_4, not_false_eq_true, or_true, true_or, Nat.one_ne_zero, Nat.zero_ne_one, Nat.reduceEqDiff, Bool.true_eq_false, Bool.false_eq_true, n10, a2]
  simp (disch := first | assumption | omega | exact ixN (by assumption) (by omega) (by omega) | exact ne_10 | exact ne_1000 | exact ne_4) only [s99_95, s99_95a, s99_96, s99_98, s99_99, ↓reduceIte, eq_self, Option.bind_some, Option.bind_none, Option.toList_some, Option.toList_none, List.cons_append, List.nil_append, am_rf_s, am_rf_n, am_c1_i, am_c1_r, am_c1_n, List.all_cons, List.all_nil, Bool.and_self, Bool.and_true, Bool.true_and, List.length_cons, List.length_nil, Nat.reduceAdd, Nat.reduceSub, Nat.reduceMul, Nat.reduceLeDiff, Nat.reduceLT, Nat.zero_le, Nat.le_refl, ne_10, ne_1000, ne_4, not_false_eq_true, or_true, true_or, Nat.one_ne_zero, Nat.zero_ne_one, Nat.reduceEqDiff, Bool.true_eq_false, Bool.false_eq_true, n10, a3]
  simp (disch := first | assumption | omega | exact ixN (by assumption) (by omega) (by omega) | exact ne_10 | exact ne_1000 | exact ne_4) only [s99_102, s99_102a, s99_103, s99_105, s99_106, ↓reduceIte, eq_self, Option.bind_some, Option.bind_none, Option.toList_some, Option.toList_none, List.cons_append, List.nil_append, am_rf_s, am_rf_n, am_c1_i, am_c1_r, am_c1_n, List.all_cons, List.all_nil, Bool.and_self, Bool.and_true, Bool.true_and, List.length_cons, List.length_nil, Nat.reduceAdd, Nat.reduceSub, Nat.reduceMul, Nat.reduceLeDiff, Nat.reduceLT, Nat.zero_le, Nat.le_refl, ne_10, ne_1000, ne_4, not_false_eq_true, or_true, true_or, Nat.one_ne_zero, Nat.zero_ne_one, Nat.reduceEqDiff, Bool.true_eq_false, Bool.false_eq_true, n10, a4]
  simp (disch := first | assumption | omega | exact ixN (by assumption) (by omega) (by omega) | exact ne_10 | exact ne_1000 | exact ne_4) only [s99_109, s99_109a, s99_110, s99_112, ↓reduceIte, eq_self, Option.bind_some, Option.bind_none, Option.toList_some, Option.toList_none, List.cons_append, List.nil_append, am_rf_s, am_rf_n, am_c1_i, am_c1_r, am_c1_n, List.all_cons, List.all_nil, Bool.and_self, Bool.and_true, Bool.true_and, List.length_cons, List.length_nil, Nat.reduceAdd, Nat.reduceSub, Nat.reduceMul, Nat.reduceLeDiff, Nat.reduceLT, Nat.zero_le, Nat.le_refl, ne_10, ne_1000, ne_4, not_false_eq_true, or_true, true_or, Nat.one_ne_zero, Nat.zero_ne_one, Nat.reduceEqDiff, Bool.true_eq_false, Bool.false_eq_true, n10, a5]
  simp (disch := first | assumption | omega | exact ixN (by assumption) (by omega) (by omega) | exact ne_10 | exact ne_1000 | exact ne_4) only [s99_115, s99_115a, s99_116, s99_118, s99_119, ↓reduceIte, eq_self, Option.bind_some, Option.bind_none, Option.toList_some, Option.toList_none, List.cons_append, List.nil_append, am_rf_s, am_rf_n, am_c1_i, am_c1_r, am_c1_n, List.all_cons, List.all_nil, Bool.and_self, Bool.and_true, Bool.true_and, List.length_cons, List.length_nil, Nat.reduceAdd, Nat.reduceSub, Nat.reduceMul, Nat.reduceLeDiff, Nat.reduceLT, Nat.zero_le, Nat.le_refl, ne_10, ne_1000, ne_4, not_false_eq_true, or_true, true_or, Nat.one_ne_zero, Nat.zero_ne_one, Nat.reduceEqDiff, Bool.true_eq_false, Bool.false_eq_true, n10, a6]
  simp (disch := first | assumption | omega | exact ixN (by assumption) (by omega) (by omega) | exact ne_10 | exact ne_1000 | exact ne_4) only [s99_122, s99_122a, s99_123, s99_125, s99_126, ↓reduceIte, eq_self, Option.bind_some, Option.bind_none, Option.toList_some, Option.toList_none, List.cons_append, List.nil_append, am_rf_s, am_rf_n, am_c1_i, am_c1_r, am_c1_n, List.all_cons, List.all_nil, Bool.and_self, Bool.and_true, Bool.true_and, List.length_cons, List.length_nil, Nat.reduceAdd, Nat.reduceSub, Nat.reduceMul, Nat.reduceLeDiff, Nat.reduceLT, Nat.zero_le, Nat.le_refl, ne_10, ne_1000, ne_4, not_false_eq_true, or_true, true_or, Nat.one_ne_zero, Nat.zero_ne_one, Nat.reduceEqDiff, Bool.true_eq_false, Bool.false_eq_true, n10, a7]
  simp (disch := first | assumption | omega | exact ixN (by assumption) (by omega) (by omega) | exact ne_10 | exact ne_1000 | exact ne_4) only [s99_129, s99_129a, s99_130, s99_132, s99_133, ↓reduceIte, eq_self, Option.bind_some, Option.bind_none, Option.toList_some, Option.toList_none, List.cons_append, List.nil_append, am_rf_s, am_rf_n, am_c1_i, am_c1_r, am_c1_n, List.all_cons, List.all_nil, Bool.and_self, Bool.and_true, Bool.true_and, List.length_cons, List.length_nil, Nat.reduceAdd, Nat.reduceSub, Nat.reduceMul, Nat.reduceLeDiff, Nat.reduceLT, Nat.zero_le, Nat.le_refl, ne_10, ne_1000, ne_4, not_false_eq_true, or_true, true_or, Nat.one_ne_zero, Nat.zero_ne_one, Nat.reduceEqDiff, Bool.true_eq_false, Bool.false_eq_true, n10, a8]
  simp (disch := first | assumption | omega | exact ixN (by assumption) (by omega) (by omega) | exact ne_10 | exact ne_1000 | exact ne_4) only [s99_136, s99_136a, s99_137, s99_139, s99_140, ↓reduceIte, eq_self, Option.bind_some, Option.bind_none, Option.toList_some, Option.toList_none, List.cons_append, List.nil_append, am_rf_s, am_rf_n, am_c1_i, am_c1_r, am_c1_n, List.all_cons, List.all_nil, Bool.and_self, Bool.and_true, Bool.true_and, List.length_cons, List.length_nil, Nat.reduceAdd, Nat.reduceSub, Nat.reduceMul, Nat.reduceLeDiff, Nat.reduceLT, Nat.zero_le, Nat.le_refl, ne_10, ne_1000, ne_4, not_false_eq_true, or_true, true_or, Nat.one_ne_zero, Nat.zero_ne_one, Nat.reduceEqDiff, Bool.true_eq_false, Bool.false_eq_true, n10, a9]
  simp (disch := first | assumption | omega | exact ixN (by assumption) (by omega) (by omega) | exact ne_10 | exact ne_1000 | exact ne_4) only [s99_143, s99_143a, s99_144, s99_146, ↓reduceIte, eq_self, Option.bind_some, Option.bind_none, Option.toList_some, Option.toList_none, List.cons_append, List.nil_append, am_rf_s, am_rf_n, am_c1_i, am_c1_r, am_c1_n, List.all_cons, List.all_nil, Bool.and_self, Bool.and_true, Bool.true_and, List.length_cons, List.length_nil, Nat.reduceAdd, Nat.reduceSub, Nat.reduceMul, Nat.reduceLeDiff, Nat.reduceLT, Nat.zero_le, Nat.le_refl, ne_10, ne_1000, ne_4, not_false_eq_true, or_true, true_or, Nat.one_ne_zero, Nat.zero_ne_one, Nat.reduceEqDiff, Bool.true_eq_false, Bool.false_eq_true, n10, a10]
  simp (disch := first | assumption | omega | exact ixN (by assumption) (by omega) (by omega) | exact ne_10 | exact ne_1000 | exact ne_4) only [s99_149, s99_149a, s99_150, s99_152, ↓reduceIte, eq_self, Option.bind_some, Option.bind_none, Option.toList_some, Option.toList_none, List.cons_append, List.nil_append, am_rf_s, am_rf_n, am_c1_i, am_c1_r, am_c1_n, List.all_cons, List.all_nil, Bool.and_self, Bool.and_true, Bool.true_and, List.length_cons, List.length_nil, Nat.reduceAdd, Nat.reduceSub, Nat.reduceMul, Nat.reduceLeDiff, Nat.reduceLT, Nat.zero_le, Nat.le_refl, ne_10, ne_1000, ne_4, not_false_eq_true, or_true, true_or, Nat.one_ne_zero, Nat.zero_ne_one, Nat.reduceEqDiff, Bool.true_eq_false, Bool.false_eq_true, n10, a11]
  simp (disch := first | assumption | omega | exact ixN (by assumption) (by omega) (by omega) | exact ne_10 | exact ne_1000 | exact ne_4) only [s99_155, s99_155a, s99_156, s99_159, ↓reduceIte, eq_self, Option.bind_some, Option.bind_none, Option.toList_some, Option.toList_none, List.cons_append, List.nil_append, am_rf_s, am_rf_n, am_c1_i, am_c1_r, am_c1_n, List.all_cons, List.all_nil, Bool.and_self, Bool.and_true, Bool.true_and, List.length_cons, List.length_nil, Nat.reduceAdd, Nat.reduceSub, Nat.reduceMul, Nat.reduceLeDiff, Nat.reduceLT, Nat.zero_le, Nat.le_refl, ne_10, ne_1000, ne_4, not_false_eq_true, or_true, true_or, Nat.one_ne_zero, Nat.zero_ne_one, Nat.reduceEqDiff, Bool.true_eq_false, Bool.false_eq_true, n10, e1]
