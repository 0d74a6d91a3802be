/-! the reference: a filter is asked -/
def SA (g : Nat → Int32) : List Int32 → Prop
  | [] => True
  | v :: s => g s.length = v ∧ SA g s
theorem SA.up {g g' : Nat → Int32} : ∀ {s : List Int32}, SA g s → (∀ i, i < s.length → g' i = g i) → SA g' s
  | [], _, _ => trivial
  | v :: s, h, hg => ⟨by rw [hg s.length (by simp)]; exact h.1, SA.up h.2 (fun i hi => hg i (by simp; omega))⟩
def kpush (v : Int32) (s : List Int32) : Option (List Int32) := if s.length = 4 then none else some (v :: s)
def kstep (sg : Int32) (s : List Int32) : Option (List Int32) := if sg = nI 33 then (match s with
  | [] => none
  | x :: r => some ((if x = nI 0 then nI 1 else nI 0) :: r)) else match s with
  | y :: x :: r => if tw sg (nI 0) (nI 0) = -4 then none else some (tw sg x y :: r)
  | _ => none
/-- the reference's own working rows: aside, readBegins, stack, deep -/
def JN (I I' : am_I) : Prop := (∀ a, a ≠ 155 → a ≠ 147 → a ≠ 152 → a ≠ 154 → I' a = I a) ∧ ∀ j, j ≠ 11 → I' 147 j = I 147 j
theorem JN.rf (I : am_I) : JN I I := ⟨fun _ _ _ _ _ => rfl, fun _ _ => rfl⟩
theorem JN.tr {I I' I'' : am_I} (h : JN I I') (h' : JN I' I'') : JN I I'' := ⟨fun a q1 q2 q3 q4 => (h'.1 a q1 q2 q3 q4).trans (h.1 a q1 q2 q3 q4), fun j hj => (h'.2 j hj).trans (h.2 j hj)⟩
def KS (I : am_I) (s : List Int32) : Prop := SA (I 155) s ∧ I 147 11 = nI s.length ∧ s.length ≤ 4
theorem neg4 (k : Nat) (h : k < 2 ^ 31) : ¬ nI k = -4 := by
  intro e
  have := congrArg Int32.toInt e
  rw [nI_toInt h] at this
  have h4 : (-4 : Int32).toInt = -4 := by decide
  omega
section MA
variable (I : am_I) (R : am_R) (K : am_K)
theorem m_push (h : MK R K) (v : Int32) (s : List Int32) (hs : KS I s) : ∃ I', ev 113 0 [some (.ref 147), some (.int v)] [] (I, R, K) = some (some (.int (bI (kpush v s).isSome)), (I', R, K)) ∧ JN I I' ∧ ∀ s', kpush v s = some s' → KS I' s' := by
  obtain ⟨h1, h2, h3⟩ := hs
  rw [m_comes I R K h v s.length h2 h3]
  by_cases c : s.length = 4
  · refine ⟨I, by rw [if_pos c]; simp [kpush, c, bI], JN.rf I, fun s' q => by simp [kpush, c] at q⟩
  · refine ⟨_, by rw [if_neg c]; simp only [kpush, if_neg c]; rfl, ⟨fun a q1 q2 _ _ => by funext j; simp [am_ui, q1, q2], fun j q => by simp [am_ui, q]⟩, fun s' q => ?_⟩
    simp only [kpush, if_neg c] at q
    cases q
    refine ⟨⟨by simp [am_ui], h1.up (fun i hi => ?_)⟩, by simp [am_ui], by simp; omega⟩
    simp [am_ui, show i ≠ s.length by omega]
theorem m_takes (h : MK R K) (sg : Int32) (s : List Int32) (hs : KS I s) : ∃ I', ev 114 0 [some (.ref 147), some (.int sg)] [] (I, R, K) = some (some (.int (bI (kstep sg s).isSome)), (I', R, K)) ∧ JN I I' ∧ ∀ s', kstep sg s = some s' → KS I' s' := by
  obtain ⟨q1, q2, q3⟩ := hs
  obtain ⟨⟨h1, h2, h3, h4, h5, h6, h7, h8, h9⟩, ⟨g2, g3, g4, g5, g6, g7, g8, g9⟩, r1, r2, r3, r4, r5, r6, r7, r8⟩ := h
  by_cases c : sg = nI 33
  · match s, q1, q2, q3 with
    | [], q1, q2, q3 =>
      have q2 : I 147 11 = nI 0 := q2
      refine ⟨I, ?_, JN.rf I, fun s' q => by simp [kstep, c] at q⟩
      simp (disch := first | assumption | omega | exact ixN (by assumption) (by omega) (by omega) | exact ne_10 | exact ne_1000 | exact ne_4) only [s114_0, s114_1, s114_3, s114_6, s114_6a, s114_7, s114_10, s114_13, s114_13a, s114_14, s114_17, s114_17a, s114_18, s114_21, s114_22, s114_23, s114_23a, s114_24, s114_27, s114_27a, s114_28, s114_31, s114_32, s114_33, s114_34, s114_37, s114_38, s114_41, s114_42, s114_43, s114_43a, s114_44, s114_47, s114_50, s114_51, s114_54, s114_55, s114_55a, s114_55b, s114_55c, s114_56, s114_56a, s114_57, s114_60, s114_61, s114_64, s114_65, s114_66, s114_67, s114_70, s114_72, s114_75, s114_76, s114_76a, s114_76b, s114_76c, s114_77, s114_77a, s114_78, s114_79, s114_82, s114_83, s114_84, s114_87, s114_87a, s114_88, s114_91, s114_91a, s114_92, s114_95, s114_96, s114_97, s114_98, s114_98a, s114_99, s114_102, s114_102a, s114_103, s114_106, s114_107, s114_108, s114_109, s114_109a, s114_110, s114_113, s114_113a, s114_114, s114_117, s114_118, s114_121, s114_122, s114_123, s114_123a, s114_123b, s114_123c, ↓reduceIte, eq_self, Option.bind_some, Option.bind_none, Option.toList_some, Option.toList_none, List.cons_append, List.nil_append, am_rf_s, am_rf_n, am_c1_i, am_c1_r, am_c1_n, List.all_cons, List.all_nil, Bool.and_self, Bool.and_true, Bool.true_and, List.length_cons, List.length_nil, Nat.reduceAdd, Nat.reduceLeDiff, Nat.reduceLT, Nat.zero_le, Nat.le_refl, ne_10, ne_1000, ne_4, not_false_eq_true, or_true, true_or, Nat.one_ne_zero, Nat.reduceEqDiff, nI_add, pk_mul, pk_sub, nI_clamp, nI_ltI, nI_leI, nI_eq, c, q2, kstep, Option.isSome_none, bI_f]
    | x :: r, q1, q2, q3 =>
      have q2 : I 147 11 = nI (r.length + 1) := q2
      have q3 : r.length + 1 ≤ 4 := q3
      have q4 : I 155 r.length = x := q1.1
      refine ⟨am_ui I 155 r.length (if x = nI 0 then nI 1 else nI 0), ?_, ⟨fun a z1 z2 _ _ => by funext j; simp [am_ui, z1], fun j _ => by simp [am_ui]⟩, fun s' q => ?_⟩
      · have e1 : ∀ z, am_ui I 155 r.length z 147 11 = nI (r.length + 1) := fun z => by rw [← q2]; simp [am_ui]
        by_cases c2 : x = nI 0
        · simp (disch := first | assumption | omega | exact ixN (by assumption) (by omega) (by omega) | exact ne_10 | exact ne_1000 | exact ne_4) only [s114_0, s114_1, s114_3, s114_6, s114_6a, s114_7, s114_10, s114_13, s114_13a, s114_14, s114_17, s114_17a, s114_18, s114_21, s114_22, s114_23, s114_23a, s114_24, s114_27, s114_27a, s114_28, s114_31, s114_32, s114_33, s114_34, s114_37, s114_38, s114_41, s114_42, s114_43, s114_43a, s114_44, s114_47, s114_50, s114_51, s114_54, s114_55, s114_55a, s114_55b, s114_55c, s114_56, s114_56a, s114_57, s114_60, s114_61, s114_64, s114_65, s114_66, s114_67, s114_70, s114_72, s114_75, s114_76, s114_76a, s114_76b, s114_76c, s114_77, s114_77a, s114_78, s114_79, s114_82, s114_83, s114_84, s114_87, s114_87a, s114_88, s114_91, s114_91a, s114_92, s114_95, s114_96, s114_97, s114_98, s114_98a, s114_99, s114_102, s114_102a, s114_103, s114_106, s114_107, s114_108, s114_109, s114_109a, s114_110, s114_113, s114_113a, s114_114, s114_117, s114_118, s114_121, s114_122, s114_123, s114_123a, s114_123b, s114_123c, ↓reduceIte, eq_self, Option.bind_some, Option.bind_none, Option.toList_some, Option.toList_none, List.cons_append, List.nil_append, am_rf_s, am_rf_n, am_c1_i, am_c1_r, am_c1_n, List.all_cons, List.all_nil, Bool.and_self, Bool.and_true, Bool.true_and, List.length_cons, List.length_nil, Nat.reduceAdd, Nat.reduceLeDiff, Nat.reduceLT, Nat.zero_le, Nat.le_refl, ne_10, ne_1000, ne_4, not_false_eq_true, or_true, true_or, Nat.one_ne_zero, Nat.reduceEqDiff, nI_add, pk_mul, pk_sub, nI_clamp, nI_ltI, nI_leI, nI_eq, c, q2, r8, q4, c2, e1, kstep, Option.isSome_some, bI_t, Nat.add_sub_cancel, show ¬ r.length + 1 ≤ 0 by omega]
        · simp (disch := first | assumption | omega | exact ixN (by assumption) (by omega) (by omega) | exact ne_10 | exact ne_1000 | exact ne_4) only [s114_0, s114_1, s114_3, s114_6, s114_6a, s114_7, s114_10, s114_13, s114_13a, s114_14, s114_17, s114_17a, s114_18, s114_21, s114_22, s114_23, s114_23a, s114_24, s114_27, s114_27a, s114_28, s114_31, s114_32, s114_33, s114_34, s114_37, s114_38, s114_41, s114_42, s114_43, s114_43a, s114_44, s114_47, s114_50, s114_51, s114_54, s114_55, s114_55a, s114_55b, s114_55c, s114_56, s114_56a, s114_57, s114_60, s114_61, s114_64, s114_65, s114_66, s114_67, s114_70, s114_72, s114_75, s114_76, s114_76a, s114_76b, s114_76c, s114_77, s114_77a, s114_78, s114_79, s114_82, s114_83, s114_84, s114_87, s114_87a, s114_88, s114_91, s114_91a, s114_92, s114_95, s114_96, s114_97, s114_98, s114_98a, s114_99, s114_102, s114_102a, s114_103, s114_106, s114_107, s114_108, s114_109, s114_109a, s114_110, s114_113, s114_113a, s114_114, s114_117, s114_118, s114_121, s114_122, s114_123, s114_123a, s114_123b, s114_123c, ↓reduceIte, eq_self, Option.bind_some, Option.bind_none, Option.toList_some, Option.toList_none, List.cons_append, List.nil_append, am_rf_s, am_rf_n, am_c1_i, am_c1_r, am_c1_n, List.all_cons, List.all_nil, Bool.and_self, Bool.and_true, Bool.true_and, List.length_cons, List.length_nil, Nat.reduceAdd, Nat.reduceLeDiff, Nat.reduceLT, Nat.zero_le, Nat.le_refl, ne_10, ne_1000, ne_4, not_false_eq_true, or_true, true_or, Nat.one_ne_zero, Nat.reduceEqDiff, nI_add, pk_mul, pk_sub, nI_clamp, nI_ltI, nI_leI, nI_eq, c, q2, r8, q4, c2, e1, kstep, Option.isSome_some, bI_t, Nat.add_sub_cancel, show ¬ r.length + 1 ≤ 0 by omega]
      · simp only [kstep, if_pos c] at q
        cases q
        refine ⟨⟨by simp [am_ui], q1.2.up (fun i hi => by simp [am_ui, show i ≠ r.length by omega])⟩, by rw [show am_ui I 155 _ _ 147 11 = I 147 11 by simp [am_ui], q2]; rfl, q3⟩
  · match s, q1, q2, q3 with
    | [], q1, q2, q3 =>
      have q2 : I 147 11 = nI 0 := q2
      refine ⟨I, ?_, JN.rf I, fun s' q => by simp [kstep, c] at q⟩
      simp (disch := first | assumption | omega | exact ixN (by assumption) (by omega) (by omega) | exact ne_10 | exact ne_1000 | exact ne_4) only [s114_0, s114_1, s114_3, s114_6, s114_6a, s114_7, s114_10, s114_13, s114_13a, s114_14, s114_17, s114_17a, s114_18, s114_21, s114_22, s114_23, s114_23a, s114_24, s114_27, s114_27a, s114_28, s114_31, s114_32, s114_33, s114_34, s114_37, s114_38, s114_41, s114_42, s114_43, s114_43a, s114_44, s114_47, s114_50, s114_51, s114_54, s114_55, s114_55a, s114_55b, s114_55c, s114_56, s114_56a, s114_57, s114_60, s114_61, s114_64, s114_65, s114_66, s114_67, s114_70, s114_72, s114_75, s114_76, s114_76a, s114_76b, s114_76c, s114_77, s114_77a, s114_78, s114_79, s114_82, s114_83, s114_84, s114_87, s114_87a, s114_88, s114_91, s114_91a, s114_92, s114_95, s114_96, s114_97, s114_98, s114_98a, s114_99, s114_102, s114_102a, s114_103, s114_106, s114_107, s114_108, s114_109, s114_109a, s114_110, s114_113, s114_113a, s114_114, s114_117, s114_118, s114_121, s114_122, s114_123, s114_123a, s114_123b, s114_123c, ↓reduceIte, eq_self, Option.bind_some, Option.bind_none, Option.toList_some, Option.toList_none, List.cons_append, List.nil_append, am_rf_s, am_rf_n, am_c1_i, am_c1_r, am_c1_n, List.all_cons, List.all_nil, Bool.and_self, Bool.and_true, Bool.true_and, List.length_cons, List.length_nil, Nat.reduceAdd, Nat.reduceLeDiff, Nat.reduceLT, Nat.zero_le, Nat.le_refl, ne_10, ne_1000, ne_4, not_false_eq_true, or_true, true_or, Nat.one_ne_zero, Nat.reduceEqDiff, nI_add, pk_mul, pk_sub, nI_clamp, nI_ltI, nI_leI, nI_eq, c, q2, kstep, Option.isSome_none, bI_f]
    | [x], q1, q2, q3 =>
      have q2 : I 147 11 = nI 1 := q2
      refine ⟨I, ?_, JN.rf I, fun s' q => by simp [kstep, c] at q⟩
      simp (disch := first | assumption | omega | exact ixN (by assumption) (by omega) (by omega) | exact ne_10 | exact ne_1000 | exact ne_4) only [s114_0, s114_1, s114_3, s114_6, s114_6a, s114_7, s114_10, s114_13, s114_13a, s114_14, s114_17, s114_17a, s114_18, s114_21, s114_22, s114_23, s114_23a, s114_24, s114_27, s114_27a, s114_28, s114_31, s114_32, s114_33, s114_34, s114_37, s114_38, s114_41, s114_42, s114_43, s114_43a, s114_44, s114_47, s114_50, s114_51, s114_54, s114_55, s114_55a, s114_55b, s114_55c, s114_56, s114_56a, s114_57, s114_60, s114_61, s114_64, s114_65, s114_66, s114_67, s114_70, s114_72, s114_75, s114_76, s114_76a, s114_76b, s114_76c, s114_77, s114_77a, s114_78, s114_79, s114_82, s114_83, s114_84, s114_87, s114_87a, s114_88, s114_91, s114_91a, s114_92, s114_95, s114_96, s114_97, s114_98, s114_98a, s114_99, s114_102, s114_102a, s114_103, s114_106, s114_107, s114_108, s114_109, s114_109a, s114_110, s114_113, s114_113a, s114_114, s114_117, s114_118, s114_121, s114_122, s114_123, s114_123a, s114_123b, s114_123c, ↓reduceIte, eq_self, Option.bind_some, Option.bind_none, Option.toList_some, Option.toList_none, List.cons_append, List.nil_append, am_rf_s, am_rf_n, am_c1_i, am_c1_r, am_c1_n, List.all_cons, List.all_nil, Bool.and_self, Bool.and_true, Bool.true_and, List.length_cons, List.length_nil, Nat.reduceAdd, Nat.reduceLeDiff, Nat.reduceLT, Nat.zero_le, Nat.le_refl, ne_10, ne_1000, ne_4, not_false_eq_true, or_true, true_or, Nat.one_ne_zero, Nat.reduceEqDiff, nI_add, pk_mul, pk_sub, nI_clamp, nI_ltI, nI_leI, nI_eq, c, q2, kstep, Option.isSome_none, bI_f]
    | y :: x :: r, q1, q2, q3 =>
      have q2 : I 147 11 = nI (r.length + 2) := q2
      have q3 : r.length + 2 ≤ 4 := q3
      have q4 : I 155 (r.length + 1) = y := q1.1
      have q5 : I 155 r.length = x := q1.2.1
      by_cases c2 : tw sg (nI 0) (nI 0) = -4
      · refine ⟨I, ?_, JN.rf I, fun s' q => by simp [kstep, c, c2] at q⟩
        simp (disch := first | assumption | omega | exact ixN (by assumption) (by omega) (by omega) | exact ne_10 | exact ne_1000 | exact ne_4) only [s114_0, s114_1, s114_3, s114_6, s114_6a, s114_7, s114_10, s114_13, s114_13a, s114_14, s114_17, s114_17a, s114_18, s114_21, s114_22, s114_23, s114_23a, s114_24, s114_27, s114_27a, s114_28, s114_31, s114_32, s114_33, s114_34, s114_37, s114_38, s114_41, s114_42, s114_43, s114_43a, s114_44, s114_47, s114_50, s114_51, s114_54, s114_55, s114_55a, s114_55b, s114_55c, s114_56, s114_56a, s114_57, s114_60, s114_61, s114_64, s114_65, s114_66, s114_67, s114_70, s114_72, s114_75, s114_76, s114_76a, s114_76b, s114_76c, s114_77, s114_77a, s114_78, s114_79, s114_82, s114_83, s114_84, s114_87, s114_87a, s114_88, s114_91, s114_91a, s114_92, s114_95, s114_96, s114_97, s114_98, s114_98a, s114_99, s114_102, s114_102a, s114_103, s114_106, s114_107, s114_108, s114_109, s114_109a, s114_110, s114_113, s114_113a, s114_114, s114_117, s114_118, s114_121, s114_122, s114_123, s114_123a, s114_123b, s114_123c, ↓reduceIte, eq_self, Option.bind_some, Option.bind_none, Option.toList_some, Option.toList_none, List.cons_append, List.nil_append, am_rf_s, am_rf_n, am_c1_i, am_c1_r, am_c1_n, List.all_cons, List.all_nil, Bool.and_self, Bool.and_true, Bool.true_and, List.length_cons, List.length_nil, Nat.reduceAdd, Nat.reduceLeDiff, Nat.reduceLT, Nat.zero_le, Nat.le_refl, ne_10, ne_1000, ne_4, not_false_eq_true, or_true, true_or, Nat.one_ne_zero, Nat.reduceEqDiff, nI_add, pk_mul, pk_sub, nI_clamp, nI_ltI, nI_leI, nI_eq, c, q2, m_both, c2, kstep, Option.isSome_none, bI_f, show ¬ r.length + 2 < 2 by omega]
      · refine ⟨am_ui (am_ui I 147 11 (nI (r.length + 1))) 155 r.length (tw sg x y), ?_, ⟨fun a z1 z2 _ _ => by funext j; simp [am_ui, z1, z2], fun j z => by simp [am_ui, z]⟩, fun s' q => ?_⟩
        · have e1 : ∀ z, am_ui I 147 11 z 147 11 = z := fun z => by simp [am_ui]
          have e2 : ∀ z i, am_ui I 147 11 z 155 i = I 155 i := fun z i => by simp [am_ui]
          have e3 : r.length + 2 - 1 = r.length + 1 := by omega
          simp (disch := first | assumption | omega | exact ixN (by assumption) (by omega) (by omega) | exact ne_10 | exact ne_1000 | exact ne_4) only [s114_0, s114_1, s114_3, s114_6, s114_6a, s114_7, s114_10, s114_13, s114_13a, s114_14, s114_17, s114_17a, s114_18, s114_21, s114_22, s114_23, s114_23a, s114_24, s114_27, s114_27a, s114_28, s114_31, s114_32, s114_33, s114_34, s114_37, s114_38, s114_41, s114_42, s114_43, s114_43a, s114_44, s114_47, s114_50, s114_51, s114_54, s114_55, s114_55a, s114_55b, s114_55c, s114_56, s114_56a, s114_57, s114_60, s114_61, s114_64, s114_65, s114_66, s114_67, s114_70, s114_72, s114_75, s114_76, s114_76a, s114_76b, s114_76c, s114_77, s114_77a, s114_78, s114_79, s114_82, s114_83, s114_84, s114_87, s114_87a, s114_88, s114_91, s114_91a, s114_92, s114_95, s114_96, s114_97, s114_98, s114_98a, s114_99, s114_102, s114_102a, s114_103, s114_106, s114_107, s114_108, s114_109, s114_109a, s114_110, s114_113, s114_113a, s114_114, s114_117, s114_118, s114_121, s114_122, s114_123, s114_123a, s114_123b, s114_123c, ↓reduceIte, eq_self, Option.bind_some, Option.bind_none, Option.toList_some, Option.toList_none, List.cons_append, List.nil_append, am_rf_s, am_rf_n, am_c1_i, am_c1_r, am_c1_n, List.all_cons, List.all_nil, Bool.and_self, Bool.and_true, Bool.true_and, List.length_cons, List.length_nil, Nat.reduceAdd, Nat.reduceLeDiff, Nat.reduceLT, Nat.zero_le, Nat.le_refl, ne_10, ne_1000, ne_4, not_false_eq_true, or_true, true_or, Nat.one_ne_zero, Nat.reduceEqDiff, nI_add, pk_mul, pk_sub, nI_clamp, nI_ltI, nI_leI, nI_eq, c, q2, r8, m_both, c2, e1, e2, e3, q4, q5, kstep, Option.isSome_some, bI_t, Nat.add_sub_cancel, show ¬ r.length + 2 < 2 by omega]
        · simp only [kstep, if_neg c, if_neg c2] at q
          cases q
          refine ⟨⟨by simp [am_ui], q1.2.2.up (fun i hi => by simp [am_ui, show i ≠ r.length by omega])⟩, by simp [am_ui], by simp; omega⟩
end MA
