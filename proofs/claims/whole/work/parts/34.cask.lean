/-! the class: Memory's leaves, Stack.ask -/
def ML (R : am_R) (K : am_K) (ma : Nat) : Prop := am_isK K ma 2 = true ∧ am_isK K (ma + 1) 20 = true ∧ R ma 0 = some (ma + 1) ∧ K.1 (ma + 1) = 8
def SL (R : am_R) (K : am_K) : Prop := am_isK K 136 6 = true ∧ am_isK K 137 20 = true ∧ R 136 0 = some 137 ∧ K.1 137 = 4
/-- a number from 0 to 999 -/
def nb (x : Int32) : Prop := ∃ v, v < 1000 ∧ x = nI v
theorem nb_nI {v : Nat} (h : v < 1000) : nb (nI v) := ⟨v, h, rfl⟩
theorem md_nI {v : Nat} (h : v < 2 ^ 31) : md (nI v) = nI (v % 1000) := by
  unfold md
  rw [pk_div h (by omega) (by omega), pk_mul, pk_sub (by have := Nat.div_mul_le_self v 1000; omega)]
  congr 1
  have := Nat.div_add_mod v 1000
  rw [Nat.mul_comm] at this
  omega
theorem nb_md {v : Nat} (h : v < 2 ^ 31) : nb (md (nI v)) := by
  rw [md_nI h]; exact nb_nI (Nat.mod_lt _ (by omega))
theorem nb_tw {s x y : Int32} (hx : nb x) (hy : nb y) (h : ¬ tw s (nI 0) (nI 0) = -4) : nb (tw s x y) := by
  obtain ⟨a, ha, rfl⟩ := hx
  obtain ⟨b, hb, rfl⟩ := hy
  have m1 : a * b < 2 ^ 31 := Nat.lt_of_le_of_lt (Nat.mul_le_mul (show a ≤ 1000 by omega) (show b ≤ 1000 by omega)) (by omega)
  have o0 : nb (nI 0) := nb_nI (by omega)
  have o1 : nb (nI 1) := nb_nI (by omega)
  unfold tw
  split
  · split
    · exact o0
    · split
      · exact o0
      · exact o1
  split
  · rw [pk_mul]; exact nb_md m1
  split
  · rw [nI_add]; exact nb_md (by omega)
  split
  · rw [nI_add, pk_sub (by omega)]; exact nb_md (by omega)
  split
  · split
    · exact o0
    · exact o1
  split
  · split
    · exact o1
    · exact o0
  split
  · split
    · split
      · exact o0
      · exact o1
    · exact o1
  · exfalso; apply h; unfold tw
    rename_i h1 h2 h3 h4 h5 h6 h7
    rw [if_neg h1, if_neg h2, if_neg h3, if_neg h4, if_neg h5, if_neg h6, if_neg h7]
theorem tw_none {s x y x' y' : Int32} (h : ¬ (s = nI 38 ∨ s = nI 42 ∨ s = nI 43 ∨ s = nI 45 ∨ s = nI 60 ∨ s = nI 61 ∨ s = nI 124)) : tw s x y = -4 := by
  simp only [not_or] at h
  obtain ⟨h1, h2, h3, h4, h5, h6, h7⟩ := h
  unfold tw
  rw [if_neg h1, if_neg h2, if_neg h3, if_neg h4, if_neg h5, if_neg h6, if_neg h7]
section CM
variable (I : am_I) (R : am_R) (K : am_K)
theorem c_mhas (ma : Nat) (h : ML R K ma) (x : Int32) : ev 14 0 [some (.ref ma), some (.int x)] [] (I, R, K) = some (some (.int (bI (inR x 0 7))), (I, R, K)) := by
  obtain ⟨h1, h2, h3, h4⟩ := h
  unfold inR
  by_cases q0 : x < nI 0
  · simp (disch := first | assumption | omega | exact ixN (by assumption) (by omega) (by omega) | exact ne_10 | exact ne_1000 | exact ne_4) only [s14_0, s14_1, s14_4, s14_5, s14_5a, s14_6, s14_9, s14_9a, s14_9b, s14_9c, s14_10, s14_13, s14_14, s14_17, s14_18, s14_18a, s14_18b, s14_18c, ↓reduceIte, eq_self, Option.bind_some, Option.bind_none, Option.toList_some, Option.toList_none, List.cons_append, List.nil_append, am_rf_s, am_rf_n, am_c1_i, am_c1_r, am_c1_n, List.all_cons, List.all_nil, Bool.and_self, Bool.and_true, Bool.true_and, List.length_cons, List.length_nil, Nat.reduceAdd, Nat.reduceSub, Nat.reduceMul, Nat.reduceLeDiff, Nat.reduceLT, Nat.zero_le, Nat.le_refl, ne_10, ne_1000, ne_4, not_false_eq_true, or_true, true_or, Nat.one_ne_zero, Nat.zero_ne_one, Nat.reduceEqDiff, Bool.true_eq_false, Bool.false_eq_true, n10, q0, Int32.not_le.mpr q0, decide_false, Bool.false_and, bI_f]
  · obtain ⟨k, hk, rfl⟩ : ∃ k, k < 2 ^ 31 ∧ x = nI k := nI_of q0
    have e0 : nI 0 ≤ nI k := Int32.not_lt.mp q0
    by_cases q1 : 8 ≤ k
    · have q2 : ¬ k ≤ 7 := by omega
      simp (disch := first | assumption | omega | exact ixN (by assumption) (by omega) (by omega) | exact ne_10 | exact ne_1000 | exact ne_4) only [s14_0, s14_1, s14_4, s14_5, s14_5a, s14_6, s14_9, s14_9a, s14_9b, s14_9c, s14_10, s14_13, s14_14, s14_17, s14_18, s14_18a, s14_18b, s14_18c, ↓reduceIte, eq_self, Option.bind_some, Option.bind_none, Option.toList_some, Option.toList_none, List.cons_append, List.nil_append, am_rf_s, am_rf_n, am_c1_i, am_c1_r, am_c1_n, List.all_cons, List.all_nil, Bool.and_self, Bool.and_true, Bool.true_and, List.length_cons, List.length_nil, Nat.reduceAdd, Nat.reduceSub, Nat.reduceMul, Nat.reduceLeDiff, Nat.reduceLT, Nat.zero_le, Nat.le_refl, ne_10, ne_1000, ne_4, not_false_eq_true, or_true, true_or, Nat.one_ne_zero, Nat.zero_ne_one, Nat.reduceEqDiff, Bool.true_eq_false, Bool.false_eq_true, n10, nI_leI, q0, h3, h4, q1, q2, decide_false, Bool.and_false, bI_f]
    · have q2 : k ≤ 7 := by omega
      simp (disch := first | assumption | omega | exact ixN (by assumption) (by omega) (by omega) | exact ne_10 | exact ne_1000 | exact ne_4) only [s14_0, s14_1, s14_4, s14_5, s14_5a, s14_6, s14_9, s14_9a, s14_9b, s14_9c, s14_10, s14_13, s14_14, s14_17, s14_18, s14_18a, s14_18b, s14_18c, ↓reduceIte, eq_self, Option.bind_some, Option.bind_none, Option.toList_some, Option.toList_none, List.cons_append, List.nil_append, am_rf_s, am_rf_n, am_c1_i, am_c1_r, am_c1_n, List.all_cons, List.all_nil, Bool.and_self, Bool.and_true, Bool.true_and, List.length_cons, List.length_nil, Nat.reduceAdd, Nat.reduceSub, Nat.reduceMul, Nat.reduceLeDiff, Nat.reduceLT, Nat.zero_le, Nat.le_refl, ne_10, ne_1000, ne_4, not_false_eq_true, or_true, true_or, Nat.one_ne_zero, Nat.zero_ne_one, Nat.reduceEqDiff, Bool.true_eq_false, Bool.false_eq_true, n10, nI_leI, q0, h3, h4, q1, q2, decide_true, bI_t]
theorem c_mget (ma : Nat) (h : ML R K ma) (k : Nat) (hk : k < 8) : ev 15 0 [some (.ref ma), some (.int (nI k))] [] (I, R, K) = some (some (.int (I (ma + 1) k)), (I, R, K)) := by
  have e := c_mhas I R K ma h (nI k)
  obtain ⟨h1, h2, h3, h4⟩ := h
  have q : inR (nI k) 0 7 = true := by
    unfold inR
    have e0 : nI 0 ≤ nI k := nI_le (by omega) (by omega)
    have e1 : nI k ≤ nI 7 := nI_le (by omega) (by omega)
    simp [e0, e1]
  rw [q] at e
  simp (disch := first | assumption | omega | exact ixN (by assumption) (by omega) (by omega) | exact ne_10 | exact ne_1000 | exact ne_4) only [s15_0, s15_0a, s15_1, s15_2, s15_5, s15_8, s15_8a, s15_9, s15_12, s15_13, s15_14, s15_17, s15_18, ↓reduceIte, eq_self, Option.bind_some, Option.bind_none, Option.toList_some, Option.toList_none, List.cons_append, List.nil_append, am_rf_s, am_rf_n, am_c1_i, am_c1_r, am_c1_n, List.all_cons, List.all_nil, Bool.and_self, Bool.and_true, Bool.true_and, List.length_cons, List.length_nil, Nat.reduceAdd, Nat.reduceSub, Nat.reduceMul, Nat.reduceLeDiff, Nat.reduceLT, Nat.zero_le, Nat.le_refl, ne_10, ne_1000, ne_4, not_false_eq_true, or_true, true_or, Nat.one_ne_zero, Nat.zero_ne_one, Nat.reduceEqDiff, Bool.true_eq_false, Bool.false_eq_true, n10, nI_clamp, e, bI_t, h3]
theorem c_joined (s x y : Int32) : ev 51 0 [some (.int s), some (.int x), some (.int y)] [] (I, R, K) = some (some (.int (tw s x y)), (I, R, K)) := by
  simp (disch := first | assumption | omega | exact ixN (by assumption) (by omega) (by omega) | exact ne_10 | exact ne_1000 | exact ne_4) only [s51_0, s51_1, s51_68, s51_69, s51_70, s51_71, s51_74, s51_75, s51_76, s51_77, s51_80, s51_81, s51_82, s51_83, s51_86, s51_87, s51_88, s51_89, s51_90, s51_91, s51_94, s51_95, s51_96, s51_97, s51_98, s51_101, s51_102, s51_105, s51_106, s51_107, s51_108, s51_109, s51_112, s51_113, s51_116, s51_117, s51_118, s51_119, s51_122, s51_123, s51_126, s51_127, s51_130, s51_131, s51_132, s51_133, s51_136, s51_137, s51_140, s51_141, s51_144, s51_145, s51_146, s51_148, ↓reduceIte, eq_self, Option.bind_some, Option.bind_none, Option.toList_some, Option.toList_none, List.cons_append, List.nil_append, am_rf_s, am_rf_n, am_c1_i, am_c1_r, am_c1_n, List.all_cons, List.all_nil, Bool.and_self, Bool.and_true, Bool.true_and, List.length_cons, List.length_nil, Nat.reduceAdd, Nat.reduceSub, Nat.reduceMul, Nat.reduceLeDiff, Nat.reduceLT, Nat.zero_le, Nat.le_refl, ne_10, ne_1000, ne_4, not_false_eq_true, or_true, true_or, Nat.one_ne_zero, Nat.zero_ne_one, Nat.reduceEqDiff, Bool.true_eq_false, Bool.false_eq_true, n10]
  unfold tw md
  repeat' split
  all_goals first | rfl | (exfalso; simp_all)
/-- the class's stack holds s -/
def KC (I : am_I) (s : List Int32) : Prop := SA (I 137) s ∧ I 136 1 = nI s.length ∧ s.length ≤ 4 ∧ ∀ v, v ∈ s → nb v
def FK (I I' : am_I) : Prop := ∀ a, a ≠ 136 → a ≠ 137 → I' a = I a
theorem FK.rf (I : am_I) : FK I I := fun _ _ _ => rfl
theorem FK.tr {I I' I'' : am_I} (h : FK I I') (h' : FK I' I'') : FK I I'' := fun a q1 q2 => (h' a q1 q2).trans (h a q1 q2)
theorem c_sput (h : SL R K) (v : Int32) (hv : nb v) (s : List Int32) (hs : KC I s) : ∃ I', ev 48 0 [some (.ref 136), some (.int v)] [] (I, R, K) = some (some (.int (bI (kpush v s).isSome)), (I', R, K)) ∧ FK I I' ∧ ∀ s', kpush v s = some s' → KC I' s' := by
  obtain ⟨q1, q2, q3, q4⟩ := hs
  obtain ⟨h1, h2, h3, h4⟩ := h
  have h0 : ¬ nI s.length < nI 0 := nI_pos (by omega)
  unfold kpush
  by_cases c : s.length = 4
  · refine ⟨I, ?_, FK.rf I, fun s' z => by simp [c] at z⟩
    have c2 : ¬ s.length < 4 := by omega
    simp (disch := first | assumption | omega | exact ixN (by assumption) (by omega) (by omega) | exact ne_10 | exact ne_1000 | exact ne_4) only [s48_0, s48_0a, s48_1, s48_4, s48_7, s48_7a, s48_8, s48_11, s48_12, s48_15, s48_16, s48_16a, s48_16b, s48_16c, s48_17, s48_17a, s48_18, s48_21, s48_21a, s48_22, s48_25, s48_26, s48_27, s48_27a, s48_28, s48_29, s48_32, s48_33, s48_34, s48_37, s48_38, s48_38a, s48_38b, s48_38c, ↓reduceIte, eq_self, Option.bind_some, Option.bind_none, Option.toList_some, Option.toList_none, List.cons_append, List.nil_append, am_rf_s, am_rf_n, am_c1_i, am_c1_r, am_c1_n, List.all_cons, List.all_nil, Bool.and_self, Bool.and_true, Bool.true_and, List.length_cons, List.length_nil, Nat.reduceAdd, Nat.reduceSub, Nat.reduceMul, Nat.reduceLeDiff, Nat.reduceLT, Nat.zero_le, Nat.le_refl, ne_10, ne_1000, ne_4, not_false_eq_true, or_true, true_or, Nat.one_ne_zero, Nat.zero_ne_one, Nat.reduceEqDiff, Bool.true_eq_false, Bool.false_eq_true, n10, nI_ltI, h0, q2, c2, c, Option.isSome_none, bI_f]
  · refine ⟨st (st I 137 (uf (I 137) s.length v)) 136 (uf (I 136) 1 (nI (s.length + 1))), ?_, fun a z1 z2 => by rw [st_ne _ _ z1, st_ne _ _ z2], fun s' z => ?_⟩
    · have c2 : s.length < 4 := by omega
      simp (disch := first | assumption | omega | exact ixN (by assumption) (by omega) (by omega) | exact ne_10 | exact ne_1000 | exact ne_4) only [s48_0, s48_0a, s48_1, s48_4, s48_7, s48_7a, s48_8, s48_11, s48_12, s48_15, s48_16, s48_16a, s48_16b, s48_16c, s48_17, s48_17a, s48_18, s48_21, s48_21a, s48_22, s48_25, s48_26, s48_27, s48_27a, s48_28, s48_29, s48_32, s48_33, s48_34, s48_37, s48_38, s48_38a, s48_38b, s48_38c, ↓reduceIte, eq_self, Option.bind_some, Option.bind_none, Option.toList_some, Option.toList_none, List.cons_append, List.nil_append, am_rf_s, am_rf_n, am_c1_i, am_c1_r, am_c1_n, List.all_cons, List.all_nil, Bool.and_self, Bool.and_true, Bool.true_and, List.length_cons, List.length_nil, Nat.reduceAdd, Nat.reduceSub, Nat.reduceMul, Nat.reduceLeDiff, Nat.reduceLT, Nat.zero_le, Nat.le_refl, ne_10, ne_1000, ne_4, not_false_eq_true, or_true, true_or, Nat.one_ne_zero, Nat.zero_ne_one, Nat.reduceEqDiff, Bool.true_eq_false, Bool.false_eq_true, n10, nI_ltI, nI_add, nI_clamp, ui_st, st_st, st_eq, st_ne, uf_eq, uf_ne, h0, h3, q2, c2, c, Option.isSome_some, bI_t]
    · rw [if_neg c] at z
      cases z
      refine ⟨⟨by rw [st_ne _ _ (by omega), st_eq, uf_eq], q1.up (fun i hi => by rw [st_ne _ _ (by omega), st_eq, uf_ne _ _ (by omega)])⟩, by rw [st_eq, uf_eq]; rfl, by simp; omega, fun w hw => ?_⟩
      rcases List.mem_cons.mp hw with rfl | hw
      · exact hv
      · exact q4 w hw
end CM
