/-! the class: Stack.ask -/
section CN
variable (I : am_I) (R : am_R) (K : am_K)
theorem c_turnTop (h : SL R K) (s : List Int32) (hs : KC I s) : ∃ I', ev 49 0 [some (.ref 136), none] [] (I, R, K) = some (some (.int (bI (kstep (nI 33) s).isSome)), (I', R, K)) ∧ FK I I' ∧ ∀ s', kstep (nI 33) s = some s' → KC I' s' := by
  obtain ⟨q1, q2, q3, q4⟩ := hs
  obtain ⟨h1, h2, h3, h4⟩ := h
  match s, q1, q2, q3, q4 with
  | [], q1, q2, q3, q4 =>
    have q2 : I 136 1 = nI 0 := q2
    have e0 : nI 0 - nI 1 < nI 0 := by decide
    refine ⟨I, ?_, FK.rf I, fun s' z => by simp [kstep] at z⟩
    simp (disch := first | assumption | omega | exact ixN (by assumption) (by omega) (by omega) | exact ne_10 | exact ne_1000 | exact ne_4) only [s49_0, s49_0a, s49_1, s49_4, s49_5, s49_6, s49_7, s49_8, s49_11, s49_12, s49_13, s49_16, s49_17, s49_17a, s49_17b, s49_17c, s49_18, s49_18a, s49_19, s49_22, s49_23, s49_23a, s49_24, s49_27, s49_28, s49_29, s49_32, s49_33, s49_36, s49_37, s49_38, s49_39, s49_39a, s49_39b, s49_39c, ↓reduceIte, eq_self, Option.bind_some, Option.bind_none, Option.toList_some, Option.toList_none, List.cons_append, List.nil_append, am_rf_s, am_rf_n, am_c1_i, am_c1_r, am_c1_n, List.all_cons, List.all_nil, Bool.and_self, Bool.and_true, Bool.true_and, List.length_cons, List.length_nil, Nat.reduceAdd, Nat.reduceSub, Nat.reduceMul, Nat.reduceLeDiff, Nat.reduceLT, Nat.zero_le, Nat.le_refl, ne_10, ne_1000, ne_4, not_false_eq_true, or_true, true_or, Nat.one_ne_zero, Nat.zero_ne_one, Nat.reduceEqDiff, Bool.true_eq_false, Bool.false_eq_true, n10, q2, e0, kstep, Option.isSome_none, bI_f]
  | x :: r, q1, q2, q3, q4 =>
    have q2 : I 136 1 = nI (r.length + 1) := q2
    have q3 : r.length + 1 ≤ 4 := q3
    have c2 : r.length < 4 := by omega
    have e1 : r.length + 1 - 1 = r.length := rfl
    have h0 : ¬ nI r.length < nI 0 := nI_pos (by omega)
    have hx : I 137 r.length = x := q1.1
    refine ⟨st I 137 (uf (I 137) r.length (if x = nI 0 then nI 1 else nI 0)), ?_, fun a z1 z2 => by rw [st_ne _ _ z2], fun s' z => ?_⟩
    · by_cases c : x = nI 0
      · simp (disch := first | assumption | omega | exact ixN (by assumption) (by omega) (by omega) | exact ne_10 | exact ne_1000 | exact ne_4) only [s49_0, s49_0a, s49_1, s49_4, s49_5, s49_6, s49_7, s49_8, s49_11, s49_12, s49_13, s49_16, s49_17, s49_17a, s49_17b, s49_17c, s49_18, s49_18a, s49_19, s49_22, s49_23, s49_23a, s49_24, s49_27, s49_28, s49_29, s49_32, s49_33, s49_36, s49_37, s49_38, s49_39, s49_39a, s49_39b, s49_39c, ↓reduceIte, eq_self, Option.bind_some, Option.bind_none, Option.toList_some, Option.toList_none, List.cons_append, List.nil_append, am_rf_s, am_rf_n, am_c1_i, am_c1_r, am_c1_n, List.all_cons, List.all_nil, Bool.and_self, Bool.and_true, Bool.true_and, List.length_cons, List.length_nil, Nat.reduceAdd, Nat.reduceSub, Nat.reduceMul, Nat.reduceLeDiff, Nat.reduceLT, Nat.zero_le, Nat.le_refl, ne_10, ne_1000, ne_4, not_false_eq_true, or_true, true_or, Nat.one_ne_zero, Nat.zero_ne_one, Nat.reduceEqDiff, Bool.true_eq_false, Bool.false_eq_true, n10, pk_sub, nI_ltI, nI_clamp, ui_st, q2, e1, h0, c2, h3, hx, c, kstep, Option.isSome_some, bI_t]
      · simp (disch := first | assumption | omega | exact ixN (by assumption) (by omega) (by omega) | exact ne_10 | exact ne_1000 | exact ne_4) only [s49_0, s49_0a, s49_1, s49_4, s49_5, s49_6, s49_7, s49_8, s49_11, s49_12, s49_13, s49_16, s49_17, s49_17a, s49_17b, s49_17c, s49_18, s49_18a, s49_19, s49_22, s49_23, s49_23a, s49_24, s49_27, s49_28, s49_29, s49_32, s49_33, s49_36, s49_37, s49_38, s49_39, s49_39a, s49_39b, s49_39c, ↓reduceIte, eq_self, Option.bind_some, Option.bind_none, Option.toList_some, Option.toList_none, List.cons_append, List.nil_append, am_rf_s, am_rf_n, am_c1_i, am_c1_r, am_c1_n, List.all_cons, List.all_nil, Bool.and_self, Bool.and_true, Bool.true_and, List.length_cons, List.length_nil, Nat.reduceAdd, Nat.reduceSub, Nat.reduceMul, Nat.reduceLeDiff, Nat.reduceLT, Nat.zero_le, Nat.le_refl, ne_10, ne_1000, ne_4, not_false_eq_true, or_true, true_or, Nat.one_ne_zero, Nat.zero_ne_one, Nat.reduceEqDiff, Bool.true_eq_false, Bool.false_eq_true, n10, pk_sub, nI_ltI, nI_clamp, ui_st, q2, e1, h0, c2, h3, hx, c, kstep, Option.isSome_some, bI_t]
    · simp only [kstep, if_true] at z
      cases z
      refine ⟨⟨by rw [st_eq, uf_eq], q1.2.up (fun i hi => by rw [st_eq, uf_ne _ _ (by omega)])⟩, by rw [st_ne _ _ (by omega)]; exact q2, q3, fun w hw => ?_⟩
      rcases List.mem_cons.mp hw with rfl | hw
      · split
        · exact nb_nI (by omega)
        · exact nb_nI (by omega)
      · exact q4 w (List.mem_cons_of_mem _ hw)
theorem nb_ne4 {x : Int32} (h : nb x) : ¬ x = -4 := by
  obtain ⟨v, hv, rfl⟩ := h
  exact neg4 v (by omega)
theorem c_join (h : SL R K) (sg : Int32) (hsg : ¬ sg = nI 33) (s : List Int32) (hs : KC I s) : ∃ I', ev 50 0 [some (.ref 136), some (.int sg), none, none] [] (I, R, K) = some (some (.int (bI (kstep sg s).isSome)), (I', R, K)) ∧ FK I I' ∧ ∀ s', kstep sg s = some s' → KC I' s' := by
  obtain ⟨q1, q2, q3, q4⟩ := hs
  obtain ⟨h1, h2, h3, h4⟩ := h
  match s, q1, q2, q3, q4 with
  | [], q1, q2, q3, q4 =>
    have q2 : I 136 1 = nI 0 := q2
    have e0 : nI 0 - nI 1 < nI 1 := by decide
    refine ⟨I, ?_, FK.rf I, fun s' z => by simp [kstep, hsg] at z⟩
    simp (disch := first | assumption | omega | exact ixN (by assumption) (by omega) (by omega) | exact ne_10 | exact ne_1000 | exact ne_4) only [s50_0, s50_0a, s50_1, s50_4, s50_5, s50_6, s50_7, s50_8, s50_9, s50_12, s50_13, s50_14, s50_17, s50_18, s50_18a, s50_18b, s50_18c, s50_19, s50_20, s50_20a, s50_21, s50_24, s50_25, s50_26, s50_27, s50_28, s50_28a, s50_29, s50_32, s50_33, s50_34, s50_37, s50_38, s50_39, s50_41, s50_44, s50_45, s50_45a, s50_45b, s50_45c, s50_46, s50_46a, s50_47, s50_50, s50_51, s50_52, s50_53, s50_54, s50_55, s50_55a, s50_56, s50_57, s50_60, s50_61, s50_62, s50_65, s50_66, s50_66a, s50_66b, s50_66c, ↓reduceIte, eq_self, Option.bind_some, Option.bind_none, Option.toList_some, Option.toList_none, List.cons_append, List.nil_append, am_rf_s, am_rf_n, am_c1_i, am_c1_r, am_c1_n, List.all_cons, List.all_nil, Bool.and_self, Bool.and_true, Bool.true_and, List.length_cons, List.length_nil, Nat.reduceAdd, Nat.reduceSub, Nat.reduceMul, Nat.reduceLeDiff, Nat.reduceLT, Nat.zero_le, Nat.le_refl, ne_10, ne_1000, ne_4, not_false_eq_true, or_true, true_or, Nat.one_ne_zero, Nat.zero_ne_one, Nat.reduceEqDiff, Bool.true_eq_false, Bool.false_eq_true, n10, q2, e0, kstep, if_neg hsg, Option.isSome_none, bI_f]
  | [y], q1, q2, q3, q4 =>
    have q2 : I 136 1 = nI 1 := q2
    have e0 : nI 1 - nI 1 < nI 1 := by decide
    refine ⟨I, ?_, FK.rf I, fun s' z => by simp [kstep, hsg] at z⟩
    simp (disch := first | assumption | omega | exact ixN (by assumption) (by omega) (by omega) | exact ne_10 | exact ne_1000 | exact ne_4) only [s50_0, s50_0a, s50_1, s50_4, s50_5, s50_6, s50_7, s50_8, s50_9, s50_12, s50_13, s50_14, s50_17, s50_18, s50_18a, s50_18b, s50_18c, s50_19, s50_20, s50_20a, s50_21, s50_24, s50_25, s50_26, s50_27, s50_28, s50_28a, s50_29, s50_32, s50_33, s50_34, s50_37, s50_38, s50_39, s50_41, s50_44, s50_45, s50_45a, s50_45b, s50_45c, s50_46, s50_46a, s50_47, s50_50, s50_51, s50_52, s50_53, s50_54, s50_55, s50_55a, s50_56, s50_57, s50_60, s50_61, s50_62, s50_65, s50_66, s50_66a, s50_66b, s50_66c, ↓reduceIte, eq_self, Option.bind_some, Option.bind_none, Option.toList_some, Option.toList_none, List.cons_append, List.nil_append, am_rf_s, am_rf_n, am_c1_i, am_c1_r, am_c1_n, List.all_cons, List.all_nil, Bool.and_self, Bool.and_true, Bool.true_and, List.length_cons, List.length_nil, Nat.reduceAdd, Nat.reduceSub, Nat.reduceMul, Nat.reduceLeDiff, Nat.reduceLT, Nat.zero_le, Nat.le_refl, ne_10, ne_1000, ne_4, not_false_eq_true, or_true, true_or, Nat.one_ne_zero, Nat.zero_ne_one, Nat.reduceEqDiff, Bool.true_eq_false, Bool.false_eq_true, n10, q2, e0, kstep, if_neg hsg, Option.isSome_none, bI_f]
  | y :: x :: r, q1, q2, q3, q4 =>
    have q2 : I 136 1 = nI (r.length + 1 + 1) := q2
    have q3 : r.length + 1 + 1 ≤ 4 := q3
    have e1 : r.length + 1 + 1 - 1 = r.length + 1 := rfl
    have e2 : r.length + 1 - 1 = r.length := rfl
    have c1 : ¬ r.length + 1 < 1 := by omega
    have c2 : r.length + 1 < 4 := by omega
    have hy : I 137 (r.length + 1) = y := q1.1
    have hx : I 137 r.length = x := q1.2.1
    have ny := q4 y (List.mem_cons_self ..)
    have nx := q4 x (List.mem_cons_of_mem _ (List.mem_cons_self ..))
    by_cases c : tw sg (nI 0) (nI 0) = -4
    · have c' : tw sg x y = -4 := by
        apply tw_none (x' := x) (y' := y)
        intro z
        have : ∀ s ∈ [nI 38, nI 42, nI 43, nI 45, nI 60, nI 61, nI 124], ¬ tw s (nI 0) (nI 0) = -4 := by decide
        exact this sg (by simpa using z) c
      refine ⟨I, ?_, FK.rf I, fun s' z => by simp [kstep, hsg, c] at z⟩
      simp (disch := first | assumption | omega | exact ixN (by assumption) (by omega) (by omega) | exact ne_10 | exact ne_1000 | exact ne_4) only [s50_0, s50_0a, s50_1, s50_4, s50_5, s50_6, s50_7, s50_8, s50_9, s50_12, s50_13, s50_14, s50_17, s50_18, s50_18a, s50_18b, s50_18c, s50_19, s50_20, s50_20a, s50_21, s50_24, s50_25, s50_26, s50_27, s50_28, s50_28a, s50_29, s50_32, s50_33, s50_34, s50_37, s50_38, s50_39, s50_41, s50_44, s50_45, s50_45a, s50_45b, s50_45c, s50_46, s50_46a, s50_47, s50_50, s50_51, s50_52, s50_53, s50_54, s50_55, s50_55a, s50_56, s50_57, s50_60, s50_61, s50_62, s50_65, s50_66, s50_66a, s50_66b, s50_66c, ↓reduceIte, eq_self, Option.bind_some, Option.bind_none, Option.toList_some, Option.toList_none, List.cons_append, List.nil_append, am_rf_s, am_rf_n, am_c1_i, am_c1_r, am_c1_n, List.all_cons, List.all_nil, Bool.and_self, Bool.and_true, Bool.true_and, List.length_cons, List.length_nil, Nat.reduceAdd, Nat.reduceSub, Nat.reduceMul, Nat.reduceLeDiff, Nat.reduceLT, Nat.zero_le, Nat.le_refl, ne_10, ne_1000, ne_4, not_false_eq_true, or_true, true_or, Nat.one_ne_zero, Nat.zero_ne_one, Nat.reduceEqDiff, Bool.true_eq_false, Bool.false_eq_true, n10, pk_sub, nI_ltI, nI_clamp, q2, e1, e2, c1, c2, h3, hx, hy, c_joined, c', c, kstep, if_neg hsg, Option.isSome_none, bI_f]
    · have nt := nb_tw nx ny c
      have n4 := nb_ne4 nt
      refine ⟨st (st I 137 (uf (I 137) r.length (tw sg x y))) 136 (uf (I 136) 1 (nI (r.length + 1))), ?_, fun a z1 z2 => by rw [st_ne _ _ z1, st_ne _ _ z2], fun s' z => ?_⟩
      · simp (disch := first | assumption | omega | exact ixN (by assumption) (by omega) (by omega) | exact ne_10 | exact ne_1000 | exact ne_4) only [s50_0, s50_0a, s50_1, s50_4, s50_5, s50_6, s50_7, s50_8, s50_9, s50_12, s50_13, s50_14, s50_17, s50_18, s50_18a, s50_18b, s50_18c, s50_19, s50_20, s50_20a, s50_21, s50_24, s50_25, s50_26, s50_27, s50_28, s50_28a, s50_29, s50_32, s50_33, s50_34, s50_37, s50_38, s50_39, s50_41, s50_44, s50_45, s50_45a, s50_45b, s50_45c, s50_46, s50_46a, s50_47, s50_50, s50_51, s50_52, s50_53, s50_54, s50_55, s50_55a, s50_56, s50_57, s50_60, s50_61, s50_62, s50_65, s50_66, s50_66a, s50_66b, s50_66c, ↓reduceIte, eq_self, Option.bind_some, Option.bind_none, Option.toList_some, Option.toList_none, List.cons_append, List.nil_append, am_rf_s, am_rf_n, am_c1_i, am_c1_r, am_c1_n, List.all_cons, List.all_nil, Bool.and_self, Bool.and_true, Bool.true_and, List.length_cons, List.length_nil, Nat.reduceAdd, Nat.reduceSub, Nat.reduceMul, Nat.reduceLeDiff, Nat.reduceLT, Nat.zero_le, Nat.le_refl, ne_10, ne_1000, ne_4, not_false_eq_true, or_true, true_or, Nat.one_ne_zero, Nat.zero_ne_one, Nat.reduceEqDiff, Bool.true_eq_false, Bool.false_eq_true, n10, pk_sub, nI_ltI, nI_clamp, ui_st, st_st, st_eq, st_ne, uf_eq, uf_ne, q2, e1, e2, c1, c2, h3, hx, hy, c_joined, n4, c, kstep, if_neg hsg, Option.isSome_some, bI_t]
      · simp only [kstep, if_neg hsg, if_neg c] at z
        cases z
        refine ⟨⟨by rw [st_ne _ _ (by omega), st_eq, uf_eq], q1.2.2.up (fun i hi => by rw [st_ne _ _ (by omega), st_eq, uf_ne _ _ (by omega)])⟩, by rw [st_eq, uf_eq]; rfl, by simp; omega, fun w hw => ?_⟩
        rcases List.mem_cons.mp hw with rfl | hw
        · exact nt
        · exact q4 w (List.mem_cons_of_mem _ (List.mem_cons_of_mem _ hw))
def askC : Option Int32 → Int32
  | none => -2
  | some v => v
theorem c_ask_loop (h : SL R K) (ma ta td m n : Nat) (tx mem : Nat → Int32) (acc : Int32) (hacc : nb acc) (hma : ML R K ma) (hm136 : ma ≠ 136 ∧ ma + 1 ≠ 137) (ht : ta ≠ 136 ∧ td ≠ 137) (hmem : ∀ k, k < 8 → nb (mem k)) :
    ∀ (r k : Nat) (s : List Int32) (I : am_I) (l5 l6 l7 : Option Value), n + 1 ≤ k + r → k ≤ n → KC I s → RT I R K ta td m n tx → (∀ i, i < 8 → I (ma + 1) i = mem i) →
    ∃ I', ev 47 8 [some (.ref 136), some (.ref ta), some (.int acc), some (.ref ma), some (.int (nI k)), l5, l6, l7] [] (I, R, K) = some (some (.int (askC (kgo mem tx n acc r k s))), (I', R, K)) ∧ FK I I' := by
  have hSL := h
  obtain ⟨h1, h2, h3, h4⟩ := h
  intro r
  induction r with
  | zero => intro k s I l5 l6 l7 q1 q2; omega
  | succ r ih =>
    intro k s I l5 l6 l7 q1 q2 hs hT hm
    have t1 := hT.1
    have t2 := hT.2.1
    have t5 := hT.2.2.2.2.1
    have n200 : n ≤ 200 := by have h6 := hT.2.2.2.2.2.1; have h7 := hT.2.2.2.2.2.2.1; omega
    have m1 := hma.1
    have m2 := hma.2.1
    have keep : ∀ I', FK I I' → RT I' R K ta td m n tx ∧ (∀ i, i < 8 → I' (ma + 1) i = mem i) := by
      intro I' hj
      have d1 : ta ≠ 137 := by rintro rfl; have a := (am_isK_of t1).2.2; have b := (am_isK_of h2).2.2; omega
      have d2 : td ≠ 136 := by rintro rfl; have a := (am_isK_of t2).2.2; have b := (am_isK_of h1).2.2; omega
      have d3 : ma + 1 ≠ 136 := by intro e; rw [e] at m2; have a := (am_isK_of m2).2.2; have b := (am_isK_of h1).2.2; omega
      exact ⟨hT.fr (hj ta ht.1 d1) (hj td d2 ht.2), fun i hi => by rw [hj (ma + 1) d3 hm136.2]; exact hm i hi⟩
    by_cases ck : n ≤ k
    · refine ⟨I, ?_, FK.rf I⟩
      have ek : k = n := by omega
      obtain ⟨z1, z2, z3, z4⟩ := hs
      unfold kgo
      rw [if_pos ck]
      match s, z1, z2, z3 with
      | [], z1, z2, z3 =>
        have z2 : I 136 1 = nI 0 := z2
        simp (disch := first | assumption | omega | exact ixN (by assumption) (by omega) (by omega) | exact ne_10 | exact ne_1000 | exact ne_4) only [s47_8, s47_10, s47_10a, s47_11, s47_14, s47_172, s47_172a, s47_173, s47_176, s47_177, s47_180, s47_180a, s47_181, s47_184, s47_185, s47_186, s47_189, s47_191, ↓reduceIte, eq_self, Option.bind_some, Option.bind_none, Option.toList_some, Option.toList_none, List.cons_append, List.nil_append, am_rf_s, am_rf_n, am_c1_i, am_c1_r, am_c1_n, List.all_cons, List.all_nil, Bool.and_self, Bool.and_true, Bool.true_and, List.length_cons, List.length_nil, Nat.reduceAdd, Nat.reduceSub, Nat.reduceMul, Nat.reduceLeDiff, Nat.reduceLT, Nat.zero_le, Nat.le_refl, ne_10, ne_1000, ne_4, not_false_eq_true, or_true, true_or, Nat.one_ne_zero, Nat.zero_ne_one, Nat.reduceEqDiff, Bool.true_eq_false, Bool.false_eq_true, n10, nI_leI, nI_eq, ck, t5, z2, kend, askC]
      | [v], z1, z2, z3 =>
        have z2 : I 136 1 = nI 1 := z2
        have zv : I 137 0 = v := z1.1
        simp (disch := first | assumption | omega | exact ixN (by assumption) (by omega) (by omega) | exact ne_10 | exact ne_1000 | exact ne_4) only [s47_8, s47_10, s47_10a, s47_11, s47_14, s47_172, s47_172a, s47_173, s47_176, s47_177, s47_180, s47_180a, s47_181, s47_184, s47_185, s47_186, s47_189, s47_191, ↓reduceIte, eq_self, Option.bind_some, Option.bind_none, Option.toList_some, Option.toList_none, List.cons_append, List.nil_append, am_rf_s, am_rf_n, am_c1_i, am_c1_r, am_c1_n, List.all_cons, List.all_nil, Bool.and_self, Bool.and_true, Bool.true_and, List.length_cons, List.length_nil, Nat.reduceAdd, Nat.reduceSub, Nat.reduceMul, Nat.reduceLeDiff, Nat.reduceLT, Nat.zero_le, Nat.le_refl, ne_10, ne_1000, ne_4, not_false_eq_true, or_true, true_or, Nat.one_ne_zero, Nat.zero_ne_one, Nat.reduceEqDiff, Bool.true_eq_false, Bool.false_eq_true, n10, nI_leI, nI_eq, nI_clamp, ck, t5, z2, kend, askC, h3, zv]
      | v :: w :: u, z1, z2, z3 =>
        have z2 : I 136 1 = nI (u.length + 2) := z2
        have z3 : u.length + 2 ≤ 4 := z3
        have z4 : ¬ u.length + 2 = 1 := by omega
        simp (disch := first | assumption | omega | exact ixN (by assumption) (by omega) (by omega) | exact ne_10 | exact ne_1000 | exact ne_4) only [s47_8, s47_10, s47_10a, s47_11, s47_14, s47_172, s47_172a, s47_173, s47_176, s47_177, s47_180, s47_180a, s47_181, s47_184, s47_185, s47_186, s47_189, s47_191, ↓reduceIte, eq_self, Option.bind_some, Option.bind_none, Option.toList_some, Option.toList_none, List.cons_append, List.nil_append, am_rf_s, am_rf_n, am_c1_i, am_c1_r, am_c1_n, List.all_cons, List.all_nil, Bool.and_self, Bool.and_true, Bool.true_and, List.length_cons, List.length_nil, Nat.reduceAdd, Nat.reduceSub, Nat.reduceMul, Nat.reduceLeDiff, Nat.reduceLT, Nat.zero_le, Nat.le_refl, ne_10, ne_1000, ne_4, not_false_eq_true, or_true, true_or, Nat.one_ne_zero, Nat.zero_ne_one, Nat.reduceEqDiff, Bool.true_eq_false, Bool.false_eq_true, n10, nI_leI, nI_eq, ck, t5, z2, z4, kend, askC]
    · have e := c_at I R K ta td m n tx hT k (by omega)
      have et : tN tx n k = tx k := by unfold tN; rw [if_pos (by omega)]
      rw [et] at e
      have f0 := c_figureAt I R K ta td m n tx hT k (by omega)
      have f1 := c_figureAt I R K ta td m n tx hT (k + 1) (by omega)
      unfold kgo
      rw [if_neg ck]
      by_cases c1 : tx k = nI 109
      · rw [if_pos c1]
        rw [c1] at e
        have g7 := fig_7 (tx := tx) (n := n) (i := k + 1)
        have mh := c_mhas I R K ma hma (fgI (tN tx n (k + 1)))
        rw [g7] at mh
        cases g : fig tx n (k + 1) 7 with
        | false =>
          rw [g] at mh
          have eR : (if n ≤ k + 1 then none else if (decide (nI 48 ≤ tx (k + 1)) && decide (tx (k + 1) ≤ nI 55)) = false then none else (kpush (mem (tx (k + 1) - nI 48).toNatClampNeg) s).bind (fun s' => kgo mem tx n acc r (k + 2) s')) = none := by
            by_cases z : n ≤ k + 1
            · rw [if_pos z]
            · rw [if_neg z, if_pos]
              unfold fig at g
              rw [show decide (k + 1 < n) = true from decide_eq_true (by omega), Bool.true_and] at g
              exact g
          rw [eR]
          refine ⟨I, ?_, FK.rf I⟩
          simp (disch := first | assumption | omega | exact ixN (by assumption) (by omega) (by omega) | exact ne_10 | exact ne_1000 | exact ne_4) only [s47_8, s47_10, s47_10a, s47_11, s47_14, s47_17, s47_17a, s47_18, s47_20, s47_23, s47_25, s47_25a, s47_26, s47_28, s47_30, s47_33, s47_35, s47_36, s47_37, s47_40, s47_42, s47_45, s47_47, s47_49, s47_51, s47_54, s47_54a, s47_55, s47_57, s47_60, s47_63, s47_63a, s47_64, s47_64a, s47_65, s47_67, s47_70, s47_73, s47_76, s47_77, s47_80, s47_81, s47_83, s47_86, s47_88, s47_90, s47_93, s47_95, s47_97, s47_100, s47_100a, s47_101, s47_103, s47_105, s47_108, s47_109, s47_112, s47_114, s47_117, s47_119, s47_122, s47_124, s47_126, s47_129, s47_129a, s47_130, s47_133, s47_136, s47_136a, s47_137, s47_139, s47_142, s47_144, s47_146, s47_149, s47_151, ↓reduceIte, eq_self, Option.bind_some, Option.bind_none, Option.toList_some, Option.toList_none, List.cons_append, List.nil_append, am_rf_s, am_rf_n, am_c1_i, am_c1_r, am_c1_n, List.all_cons, List.all_nil, Bool.and_self, Bool.and_true, Bool.true_and, List.length_cons, List.length_nil, Nat.reduceAdd, Nat.reduceSub, Nat.reduceMul, Nat.reduceLeDiff, Nat.reduceLT, Nat.zero_le, Nat.le_refl, ne_10, ne_1000, ne_4, not_false_eq_true, or_true, true_or, Nat.one_ne_zero, Nat.zero_ne_one, Nat.reduceEqDiff, Bool.true_eq_false, Bool.false_eq_true, n10, nI_leI, nI_add, nI_eq, ck, t5, e, f1, mh, bI_f, askC]
        | true =>
          rw [g] at mh
          obtain ⟨g1, a, ha, ha2⟩ := fig_of g (by omega)
          have fa := fg_dig ha2 (by omega) g1
          have mg := c_mget I R K ma hma a (by omega)
          rw [hm a (by omega)] at mg
          obtain ⟨I1, w1, w2, w3⟩ := c_sput I R K hSL (mem a) (hmem a (by omega)) s hs
          have eR : (if n ≤ k + 1 then none else if (decide (nI 48 ≤ tx (k + 1)) && decide (tx (k + 1) ≤ nI 55)) = false then none else (kpush (mem (tx (k + 1) - nI 48).toNatClampNeg) s).bind (fun s' => kgo mem tx n acc r (k + 2) s')) = (kpush (mem a) s).bind (fun s' => kgo mem tx n acc r (k + 2) s') := by
            rw [if_neg (by omega), if_neg, ha2, pk_sub (by omega), show 48 + a - 48 = a by omega, nI_clamp (by omega)]
            unfold fig at g
            rw [show decide (k + 1 < n) = true from decide_eq_true (by omega), Bool.true_and] at g
            intro z
            have g' : (decide (nI 48 ≤ tx (k + 1)) && decide (tx (k + 1) ≤ nI 55)) = true := g
            rw [z] at g'; cases g'
          rw [eR]
          rw [fa] at f1 mh
          cases c2 : kpush (mem a) s with
          | none =>
            rw [c2] at w1
            refine ⟨I1, ?_, w2⟩
            simp (disch := first | assumption | omega | exact ixN (by assumption) (by omega) (by omega) | exact ne_10 | exact ne_1000 | exact ne_4) only [s47_8, s47_10, s47_10a, s47_11, s47_14, s47_17, s47_17a, s47_18, s47_20, s47_23, s47_25, s47_25a, s47_26, s47_28, s47_30, s47_33, s47_35, s47_36, s47_37, s47_40, s47_42, s47_45, s47_47, s47_49, s47_51, s47_54, s47_54a, s47_55, s47_57, s47_60, s47_63, s47_63a, s47_64, s47_64a, s47_65, s47_67, s47_70, s47_73, s47_76, s47_77, s47_80, s47_81, s47_83, s47_86, s47_88, s47_90, s47_93, s47_95, s47_97, s47_100, s47_100a, s47_101, s47_103, s47_105, s47_108, s47_109, s47_112, s47_114, s47_117, s47_119, s47_122, s47_124, s47_126, s47_129, s47_129a, s47_130, s47_133, s47_136, s47_136a, s47_137, s47_139, s47_142, s47_144, s47_146, s47_149, s47_151, ↓reduceIte, eq_self, Option.bind_some, Option.bind_none, Option.toList_some, Option.toList_none, List.cons_append, List.nil_append, am_rf_s, am_rf_n, am_c1_i, am_c1_r, am_c1_n, List.all_cons, List.all_nil, Bool.and_self, Bool.and_true, Bool.true_and, List.length_cons, List.length_nil, Nat.reduceAdd, Nat.reduceSub, Nat.reduceMul, Nat.reduceLeDiff, Nat.reduceLT, Nat.zero_le, Nat.le_refl, ne_10, ne_1000, ne_4, not_false_eq_true, or_true, true_or, Nat.one_ne_zero, Nat.zero_ne_one, Nat.reduceEqDiff, Bool.true_eq_false, Bool.false_eq_true, n10, nI_leI, nI_add, nI_eq, ck, t5, e, f1, mh, mg, w1, bI_t, bI_f, askC, Option.isSome_none]
          | some s' =>
            rw [c2] at w1
            obtain ⟨k1, k2⟩ := keep I1 w2
            obtain ⟨I2, v1, v2⟩ := ih (k + 2) s' I1 (some (.int (nI 109))) (some (.int (nI a))) (some (.int (nI 1))) (by omega) (by omega) (w3 s' c2) k1 k2
            refine ⟨I2, ?_, w2.tr v2⟩
            rw [s47_8]
            simp (disch := first | assumption | omega | exact ixN (by assumption) (by omega) (by omega) | exact ne_10 | exact ne_1000 | exact ne_4) only [s47_10, s47_10a, s47_11, s47_14, s47_17, s47_17a, s47_18, s47_20, s47_23, s47_25, s47_25a, s47_26, s47_28, s47_30, s47_33, s47_35, s47_36, s47_37, s47_40, s47_42, s47_45, s47_47, s47_49, s47_51, s47_54, s47_54a, s47_55, s47_57, s47_60, s47_63, s47_63a, s47_64, s47_64a, s47_65, s47_67, s47_70, s47_73, s47_76, s47_77, s47_80, s47_81, s47_83, s47_86, s47_88, s47_90, s47_93, s47_95, s47_97, s47_100, s47_100a, s47_101, s47_103, s47_105, s47_108, s47_109, s47_112, s47_114, s47_117, s47_119, s47_122, s47_124, s47_126, s47_129, s47_129a, s47_130, s47_133, s47_136, s47_136a, s47_137, s47_139, s47_142, s47_144, s47_146, s47_149, s47_151, s47_152, s47_154, s47_156, s47_158, s47_161, s47_162, s47_165, s47_166, s47_167, s47_169, ↓reduceIte, eq_self, Option.bind_some, Option.bind_none, Option.toList_some, Option.toList_none, List.cons_append, List.nil_append, am_rf_s, am_rf_n, am_c1_i, am_c1_r, am_c1_n, List.all_cons, List.all_nil, Bool.and_self, Bool.and_true, Bool.true_and, List.length_cons, List.length_nil, Nat.reduceAdd, Nat.reduceSub, Nat.reduceMul, Nat.reduceLeDiff, Nat.reduceLT, Nat.zero_le, Nat.le_refl, ne_10, ne_1000, ne_4, not_false_eq_true, or_true, true_or, Nat.one_ne_zero, Nat.zero_ne_one, Nat.reduceEqDiff, Bool.true_eq_false, Bool.false_eq_true, n10, nI_leI, nI_add, nI_eq, ck, t5, e, f1, mh, mg, w1, bI_t, Option.isSome_some, v1]
      · rw [if_neg c1]
        -- what follows a letter that stands alone
        have back : ∀ (o : Option (List Int32)) (J : am_I) (x : Int32), FK I J → (∀ s', o = some s' → KC J s') → ∃ I', ev 47 144 [some (.ref 136), some (.ref ta), some (.int acc), some (.ref ma), some (.int (nI k)), some (.int (tx k)), some (.int x), some (.int (bI o.isSome))] [] (J, R, K) = some (some (.int (askC (o.bind (fun s' => kgo mem tx n acc r (k + 1) s')))), (I', R, K)) ∧ FK J I' := by
          intro o J x hj hk
          cases o with
          | none =>
            refine ⟨J, ?_, FK.rf J⟩
            simp (disch := first | assumption | omega | exact ixN (by assumption) (by omega) (by omega) | exact ne_10 | exact ne_1000 | exact ne_4) only [s47_144, s47_146, s47_149, s47_151, ↓reduceIte, eq_self, Option.bind_some, Option.bind_none, Option.toList_some, Option.toList_none, List.cons_append, List.nil_append, am_rf_s, am_rf_n, am_c1_i, am_c1_r, am_c1_n, List.all_cons, List.all_nil, Bool.and_self, Bool.and_true, Bool.true_and, List.length_cons, List.length_nil, Nat.reduceAdd, Nat.reduceSub, Nat.reduceMul, Nat.reduceLeDiff, Nat.reduceLT, Nat.zero_le, Nat.le_refl, ne_10, ne_1000, ne_4, not_false_eq_true, or_true, true_or, Nat.one_ne_zero, Nat.zero_ne_one, Nat.reduceEqDiff, Bool.true_eq_false, Bool.false_eq_true, n10, Option.isSome_none, bI_f, askC]
          | some s' =>
            obtain ⟨k1, k2⟩ := keep J hj
            obtain ⟨I2, v1, v2⟩ := ih (k + 1) s' J (some (.int (tx k))) (some (.int x)) (some (.int (nI 1))) (by omega) (by omega) (hk s' rfl) k1 k2
            refine ⟨I2, ?_, v2⟩
            simp (disch := first | assumption | omega | exact ixN (by assumption) (by omega) (by omega) | exact ne_10 | exact ne_1000 | exact ne_4) only [s47_144, s47_146, s47_149, s47_151, s47_152, s47_154, s47_156, s47_158, s47_161, s47_162, s47_165, s47_166, s47_167, s47_169, ↓reduceIte, eq_self, Option.bind_some, Option.bind_none, Option.toList_some, Option.toList_none, List.cons_append, List.nil_append, am_rf_s, am_rf_n, am_c1_i, am_c1_r, am_c1_n, List.all_cons, List.all_nil, Bool.and_self, Bool.and_true, Bool.true_and, List.length_cons, List.length_nil, Nat.reduceAdd, Nat.reduceSub, Nat.reduceMul, Nat.reduceLeDiff, Nat.reduceLT, Nat.zero_le, Nat.le_refl, ne_10, ne_1000, ne_4, not_false_eq_true, or_true, true_or, Nat.one_ne_zero, Nat.zero_ne_one, Nat.reduceEqDiff, Bool.true_eq_false, Bool.false_eq_true, n10, Option.isSome_some, bI_t, nI_add, c1, v1]
        have kt : tN tx n k = tx k := et
        rw [kt] at f0
        by_cases c2 : tx k = nI 97
        · rw [if_pos c2]
          obtain ⟨I1, w1, w2, w3⟩ := c_sput I R K hSL acc hacc s hs
          obtain ⟨I2, v1, v2⟩ := back (kpush acc s) I1 (fgI (tx k)) w2 w3
          refine ⟨I2, ?_, w2.tr v2⟩
          rw [← v1]
          simp (disch := first | assumption | omega | exact ixN (by assumption) (by omega) (by omega) | exact ne_10 | exact ne_1000 | exact ne_4) only [s47_8, s47_10, s47_10a, s47_11, s47_14, s47_17, s47_17a, s47_18, s47_20, s47_23, s47_25, s47_25a, s47_26, s47_28, s47_30, s47_33, s47_35, s47_36, s47_37, s47_40, s47_42, s47_45, s47_47, s47_49, s47_51, s47_54, s47_54a, s47_55, s47_57, s47_60, s47_63, s47_63a, s47_64, s47_64a, s47_65, s47_67, s47_70, s47_73, s47_76, s47_77, s47_80, s47_81, s47_83, s47_86, s47_88, s47_90, s47_93, s47_95, s47_97, s47_100, s47_100a, s47_101, s47_103, s47_105, s47_108, s47_109, s47_112, s47_114, s47_117, s47_119, ↓reduceIte, eq_self, Option.bind_some, Option.bind_none, Option.toList_some, Option.toList_none, List.cons_append, List.nil_append, am_rf_s, am_rf_n, am_c1_i, am_c1_r, am_c1_n, List.all_cons, List.all_nil, Bool.and_self, Bool.and_true, Bool.true_and, List.length_cons, List.length_nil, Nat.reduceAdd, Nat.reduceSub, Nat.reduceMul, Nat.reduceLeDiff, Nat.reduceLT, Nat.zero_le, Nat.le_refl, ne_10, ne_1000, ne_4, not_false_eq_true, or_true, true_or, Nat.one_ne_zero, Nat.zero_ne_one, Nat.reduceEqDiff, Bool.true_eq_false, Bool.false_eq_true, n10, nI_leI, nI_add, nI_eq, ck, t5, e, f0, c1, c2, w1]
        · rw [if_neg c2]
          cases g : fig tx n k 9 with
          | false =>
            have fa := fig_f g
            rw [kt] at fa
            have eR : (decide (nI 48 ≤ tx k) && decide (tx k ≤ nI 57)) = false := by
              unfold fig at g
              rw [show decide (k < n) = true from decide_eq_true (by omega), Bool.true_and] at g
              exact g
            rw [if_pos eR]
            rw [fa] at f0
            by_cases c3 : tx k = nI 33
            · obtain ⟨I1, w1, w2, w3⟩ := c_turnTop I R K hSL s hs
              rw [← c3] at w1 w3
              obtain ⟨I2, v1, v2⟩ := back (kstep (tx k) s) I1 (-4) w2 w3
              refine ⟨I2, ?_, w2.tr v2⟩
              rw [← v1]
              simp (disch := first | assumption | omega | exact ixN (by assumption) (by omega) (by omega) | exact ne_10 | exact ne_1000 | exact ne_4) only [s47_8, s47_10, s47_10a, s47_11, s47_14, s47_17, s47_17a, s47_18, s47_20, s47_23, s47_25, s47_25a, s47_26, s47_28, s47_30, s47_33, s47_35, s47_36, s47_37, s47_40, s47_42, s47_45, s47_47, s47_49, s47_51, s47_54, s47_54a, s47_55, s47_57, s47_60, s47_63, s47_63a, s47_64, s47_64a, s47_65, s47_67, s47_70, s47_73, s47_76, s47_77, s47_80, s47_81, s47_83, s47_86, s47_88, s47_90, s47_93, s47_95, s47_97, s47_100, s47_100a, s47_101, s47_103, s47_105, s47_108, s47_109, s47_112, s47_114, s47_117, s47_119, s47_122, s47_124, s47_126, s47_129, s47_129a, s47_130, s47_133, s47_136, s47_136a, s47_137, s47_139, s47_142, ↓reduceIte, eq_self, Option.bind_some, Option.bind_none, Option.toList_some, Option.toList_none, List.cons_append, List.nil_append, am_rf_s, am_rf_n, am_c1_i, am_c1_r, am_c1_n, List.all_cons, List.all_nil, Bool.and_self, Bool.and_true, Bool.true_and, List.length_cons, List.length_nil, Nat.reduceAdd, Nat.reduceSub, Nat.reduceMul, Nat.reduceLeDiff, Nat.reduceLT, Nat.zero_le, Nat.le_refl, ne_10, ne_1000, ne_4, not_false_eq_true, or_true, true_or, Nat.one_ne_zero, Nat.zero_ne_one, Nat.reduceEqDiff, Bool.true_eq_false, Bool.false_eq_true, n10, nI_leI, nI_add, ck, t5, e, f0, c1, c2, if_pos c3, w1]
            · obtain ⟨I1, w1, w2, w3⟩ := c_join I R K hSL (tx k) c3 s hs
              obtain ⟨I2, v1, v2⟩ := back (kstep (tx k) s) I1 (-4) w2 w3
              refine ⟨I2, ?_, w2.tr v2⟩
              rw [← v1]
              simp (disch := first | assumption | omega | exact ixN (by assumption) (by omega) (by omega) | exact ne_10 | exact ne_1000 | exact ne_4) only [s47_8, s47_10, s47_10a, s47_11, s47_14, s47_17, s47_17a, s47_18, s47_20, s47_23, s47_25, s47_25a, s47_26, s47_28, s47_30, s47_33, s47_35, s47_36, s47_37, s47_40, s47_42, s47_45, s47_47, s47_49, s47_51, s47_54, s47_54a, s47_55, s47_57, s47_60, s47_63, s47_63a, s47_64, s47_64a, s47_65, s47_67, s47_70, s47_73, s47_76, s47_77, s47_80, s47_81, s47_83, s47_86, s47_88, s47_90, s47_93, s47_95, s47_97, s47_100, s47_100a, s47_101, s47_103, s47_105, s47_108, s47_109, s47_112, s47_114, s47_117, s47_119, s47_122, s47_124, s47_126, s47_129, s47_129a, s47_130, s47_133, s47_136, s47_136a, s47_137, s47_139, s47_142, ↓reduceIte, eq_self, Option.bind_some, Option.bind_none, Option.toList_some, Option.toList_none, List.cons_append, List.nil_append, am_rf_s, am_rf_n, am_c1_i, am_c1_r, am_c1_n, List.all_cons, List.all_nil, Bool.and_self, Bool.and_true, Bool.true_and, List.length_cons, List.length_nil, Nat.reduceAdd, Nat.reduceSub, Nat.reduceMul, Nat.reduceLeDiff, Nat.reduceLT, Nat.zero_le, Nat.le_refl, ne_10, ne_1000, ne_4, not_false_eq_true, or_true, true_or, Nat.one_ne_zero, Nat.zero_ne_one, Nat.reduceEqDiff, Bool.true_eq_false, Bool.false_eq_true, n10, nI_leI, nI_add, ck, t5, e, f0, c1, c2, if_neg c3, w1]
          | true =>
            obtain ⟨a, ha, ha2, g1, fa⟩ := fig_t g
            rw [kt] at fa
            have eR : ¬ (decide (nI 48 ≤ tx k) && decide (tx k ≤ nI 57)) = false := by
              unfold fig at g
              rw [show decide (k < n) = true from decide_eq_true (by omega), Bool.true_and] at g
              intro z
              have g' : (decide (nI 48 ≤ tx k) && decide (tx k ≤ nI 57)) = true := g
              rw [z] at g'; cases g'
            have ev' : tx k - nI 48 = nI a := by rw [ha2, pk_sub (by omega)]; congr 1; omega
            rw [if_neg eR, ev']
            rw [fa] at f0
            have na := neg4 a (by omega)
            obtain ⟨I1, w1, w2, w3⟩ := c_sput I R K hSL (nI a) (nb_nI (by omega)) s hs
            obtain ⟨I2, v1, v2⟩ := back (kpush (nI a) s) I1 (nI a) w2 w3
            refine ⟨I2, ?_, w2.tr v2⟩
            rw [← v1]
            simp (disch := first | assumption | omega | exact ixN (by assumption) (by omega) (by omega) | exact ne_10 | exact ne_1000 | exact ne_4) only [s47_8, s47_10, s47_10a, s47_11, s47_14, s47_17, s47_17a, s47_18, s47_20, s47_23, s47_25, s47_25a, s47_26, s47_28, s47_30, s47_33, s47_35, s47_36, s47_37, s47_40, s47_42, s47_45, s47_47, s47_49, s47_51, s47_54, s47_54a, s47_55, s47_57, s47_60, s47_63, s47_63a, s47_64, s47_64a, s47_65, s47_67, s47_70, s47_73, s47_76, s47_77, s47_80, s47_81, s47_83, s47_86, s47_88, s47_90, s47_93, s47_95, s47_97, s47_100, s47_100a, s47_101, s47_103, s47_105, s47_108, s47_109, s47_112, s47_114, s47_117, s47_119, ↓reduceIte, eq_self, Option.bind_some, Option.bind_none, Option.toList_some, Option.toList_none, List.cons_append, List.nil_append, am_rf_s, am_rf_n, am_c1_i, am_c1_r, am_c1_n, List.all_cons, List.all_nil, Bool.and_self, Bool.and_true, Bool.true_and, List.length_cons, List.length_nil, Nat.reduceAdd, Nat.reduceSub, Nat.reduceMul, Nat.reduceLeDiff, Nat.reduceLT, Nat.zero_le, Nat.le_refl, ne_10, ne_1000, ne_4, not_false_eq_true, or_true, true_or, Nat.one_ne_zero, Nat.zero_ne_one, Nat.reduceEqDiff, Bool.true_eq_false, Bool.false_eq_true, n10, nI_leI, nI_add, ck, t5, e, f0, c1, c2, na, w1]
theorem c_ask (h : SL R K) (ma ta td m n : Nat) (tx mem : Nat → Int32) (acc : Int32) (hacc : nb acc) (hma : ML R K ma) (hm136 : ma ≠ 136 ∧ ma + 1 ≠ 137) (ht : ta ≠ 136 ∧ td ≠ 137) (hmem : ∀ k, k < 8 → nb (mem k)) (hT : RT I R K ta td m n tx) (hm : ∀ i, i < 8 → I (ma + 1) i = mem i) : ∃ I', ev 47 0 [some (.ref 136), some (.ref ta), some (.int acc), some (.ref ma), none, none, none, none] [] (I, R, K) = some (some (.int (askC (kask mem tx n acc))), (I', R, K)) ∧ FK I I' := by
  have hSL := h
  obtain ⟨h1, h2, h3, h4⟩ := h
  have fr : FK I (st I 136 (uf (I 136) 1 (nI 0))) := fun a z1 z2 => st_ne _ _ z1
  have t1 := hT.1
  have t2 := hT.2.1
  have m2 := hma.2.1
  have d1 : ta ≠ 137 := by rintro rfl; have a := (am_isK_of t1).2.2; have b := (am_isK_of h2).2.2; omega
  have d2 : td ≠ 136 := by rintro rfl; have a := (am_isK_of t2).2.2; have b := (am_isK_of h1).2.2; omega
  have d3 : ma + 1 ≠ 136 := by intro e; rw [e] at m2; have a := (am_isK_of m2).2.2; have b := (am_isK_of h1).2.2; omega
  obtain ⟨I2, v1, v2⟩ := c_ask_loop R K hSL ma ta td m n tx mem acc hacc hma hm136 ht hmem (n + 1) 0 [] (st I 136 (uf (I 136) 1 (nI 0))) none none none (by omega) (by omega) ⟨trivial, by rw [st_eq, uf_eq]; rfl, by simp, fun v hv => by cases hv⟩ (hT.fr (fr ta ht.1 d1) (fr td d2 ht.2)) (fun i hi => by rw [fr (ma + 1) d3 hm136.2]; exact hm i hi)
  refine ⟨I2, ?_, fr.tr v2⟩
  simp (disch := first | assumption | omega | exact ixN (by assumption) (by omega) (by omega) | exact ne_10 | exact ne_1000 | exact ne_4) only [s47_0, s47_0a, s47_1, s47_2, s47_5, s47_6, ↓reduceIte, eq_self, Option.bind_some, Option.bind_none, Option.toList_some, Option.toList_none, List.cons_append, List.nil_append, am_rf_s, am_rf_n, am_c1_i, am_c1_r, am_c1_n, List.all_cons, List.all_nil, Bool.and_self, Bool.and_true, Bool.true_and, List.length_cons, List.length_nil, Nat.reduceAdd, Nat.reduceSub, Nat.reduceMul, Nat.reduceLeDiff, Nat.reduceLT, Nat.zero_le, Nat.le_refl, ne_10, ne_1000, ne_4, not_false_eq_true, or_true, true_or, Nat.one_ne_zero, Nat.zero_ne_one, Nat.reduceEqDiff, Bool.true_eq_false, Bool.false_eq_true, n10, ui_st, v1]
  rfl
end CN
