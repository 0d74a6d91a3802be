/-! the reference: asks -/
theorem rng {x : Int32} {a b : Nat} (hb : b < 2 ^ 31) (h1 : nI a ≤ x) (h2 : x ≤ nI b) (ha : a < 2 ^ 31) : ∃ q, a ≤ q ∧ q ≤ b ∧ x = nI q := by
  have h0 : ¬ x < 0 := by
    intro h
    have h3 := Int32.lt_iff_toInt_lt.mp h
    have h4 := Int32.le_iff_toInt_le.mp h1
    rw [nI_toInt ha] at h4
    have : (0 : Int32).toInt = 0 := by decide
    omega
  obtain ⟨q, hq, rfl⟩ := nI_of h0
  rw [nI_leI ha hq] at h1
  rw [nI_leI hq hb] at h2
  exact ⟨q, h1, h2, rfl⟩
def kend : List Int32 → Option Int32
  | [v] => some v
  | _ => none
def kgo (mem g : Nat → Int32) (n : Nat) (acc : Int32) : Nat → Nat → List Int32 → Option Int32
  | 0, _, _ => none
  | r + 1, k, s => if n ≤ k then kend s else
    if g k = nI 109 then (if n ≤ k + 1 then none else if (decide (nI 48 ≤ g (k + 1)) && decide (g (k + 1) ≤ nI 55)) = false then none else (kpush (mem (g (k + 1) - nI 48).toNatClampNeg) s).bind (fun s' => kgo mem g n acc r (k + 2) s'))
    else if g k = nI 97 then (kpush acc s).bind (fun s' => kgo mem g n acc r (k + 1) s')
    else if (decide (nI 48 ≤ g k) && decide (g k ≤ nI 57)) = false then (kstep (g k) s).bind (fun s' => kgo mem g n acc r (k + 1) s')
    else (kpush (g k - nI 48) s).bind (fun s' => kgo mem g n acc r (k + 1) s')
def askI : Option Int32 → Int32
  | none => -1
  | some v => v
def kask (mem g : Nat → Int32) (n : Nat) (acc : Int32) : Option Int32 := kgo mem g n acc (n + 1) 0 []
section MB
variable (R : am_R) (K : am_K)
theorem m_asks_loop (h : MK R K) (ra at' n N : Nat) (acc : Int32) (g mem : Nat → Int32) (hra : am_isK K ra 20 = true) (hN : K.1 ra = N) (hb : at' + n ≤ N) (hN2 : N ≤ 10000) (hr1 : ra ≠ 155) (hr2 : ra ≠ 152) :
    ∀ (r k : Nat) (s : List Int32) (I : am_I) (l6 l7 : Option Value), n + 1 ≤ k + r → k ≤ n → KS I s → (∀ i, I ra (at' + i) = g i) → (∀ i, i < 8 → I 151 i = mem i) →
    ∃ I', ev 115 8 [some (.ref 147), some (.ref ra), some (.int (nI at')), some (.int (nI n)), some (.int acc), some (.int (nI k)), l6, l7] [] (I, R, K) = some (some (.int (askI (kgo mem g n acc r k s))), (I', R, K)) ∧ JN I I' := by
  have hMK := h
  obtain ⟨⟨h1, h2, h3, h4, h5, h6, h7, h8, h9⟩, ⟨g2, g3, g4, g5, g6, g7, g8, g9⟩, r1, r2, r3, r4, r5, r6, r7, r8⟩ := h
  have hr0 : ra ≠ 147 := by
    intro e; subst e
    have := (am_isK_of hra).2.2
    have h10 := (am_isK_of h1).2.2
    omega
  have hr3 : ra ≠ 154 := by
    intro e; subst e
    have := (am_isK_of hra).2.2
    have h10 := (am_isK_of h8).2.2
    omega
  intro r
  induction r with
  | zero => intro k s I l6 l7 q1 q2; omega
  | succ r ih =>
    intro k s I l6 l7 q1 q2 hs hg hm
    have keep : ∀ I', JN I I' → (∀ i, I' ra (at' + i) = g i) ∧ (∀ i, i < 8 → I' 151 i = mem i) := by
      intro I' hj
      exact ⟨fun i => by rw [hj.1 ra hr1 hr0 hr2 hr3]; exact hg i, fun i hi => by rw [hj.1 151 (by omega) (by omega) (by omega) (by omega)]; exact hm i hi⟩
    by_cases ck : n ≤ k
    · have ek : k = n := by omega
      refine ⟨I, ?_, JN.rf I⟩
      obtain ⟨z1, z2, z3⟩ := hs
      match s, z1, z2, z3 with
      | [], z1, z2, z3 =>
        have z2 : I 147 11 = nI 0 := z2
        simp (disch := first | assumption | omega | exact ixN (by assumption) (by omega) (by omega) | exact ne_10 | exact ne_1000 | exact ne_4) only [s115_8, s115_10, s115_11, s115_148, s115_148a, s115_149, s115_152, s115_153, s115_156, s115_156a, s115_157, s115_160, s115_161, s115_162, s115_165, s115_166, ↓reduceIte, eq_self, Option.bind_some, Option.bind_none, Option.toList_some, Option.toList_none, List.cons_append, List.nil_append, am_rf_s, am_rf_n, am_c1_i, am_c1_r, am_c1_n, List.all_cons, List.all_nil, Bool.and_self, Bool.and_true, Bool.true_and, List.length_cons, List.length_nil, Nat.reduceAdd, Nat.reduceSub, Nat.reduceMul, Nat.reduceLeDiff, Nat.reduceLT, Nat.zero_le, Nat.le_refl, ne_10, ne_1000, ne_4, not_false_eq_true, or_true, true_or, Nat.one_ne_zero, Nat.zero_ne_one, Nat.reduceEqDiff, Bool.true_eq_false, Bool.false_eq_true, n10, nI_add, pk_mul, pk_sub, nI_clamp, nI_ltI, nI_leI, nI_eq, ck, z2, kgo, kend, askI, Nat.zero_ne_one]
      | [v], z1, z2, z3 =>
        have z2 : I 147 11 = nI 1 := z2
        have z4 : I 155 0 = v := z1.1
        simp (disch := first | assumption | omega | exact ixN (by assumption) (by omega) (by omega) | exact ne_10 | exact ne_1000 | exact ne_4) only [s115_8, s115_10, s115_11, s115_148, s115_148a, s115_149, s115_152, s115_153, s115_156, s115_156a, s115_157, s115_160, s115_161, s115_162, s115_165, s115_166, ↓reduceIte, eq_self, Option.bind_some, Option.bind_none, Option.toList_some, Option.toList_none, List.cons_append, List.nil_append, am_rf_s, am_rf_n, am_c1_i, am_c1_r, am_c1_n, List.all_cons, List.all_nil, Bool.and_self, Bool.and_true, Bool.true_and, List.length_cons, List.length_nil, Nat.reduceAdd, Nat.reduceSub, Nat.reduceMul, Nat.reduceLeDiff, Nat.reduceLT, Nat.zero_le, Nat.le_refl, ne_10, ne_1000, ne_4, not_false_eq_true, or_true, true_or, Nat.one_ne_zero, Nat.zero_ne_one, Nat.reduceEqDiff, Bool.true_eq_false, Bool.false_eq_true, n10, nI_add, pk_mul, pk_sub, nI_clamp, nI_ltI, nI_leI, nI_eq, ck, z2, z4, r8, kgo, kend, askI]
      | a :: b :: q, z1, z2, z3 =>
        have z2 : I 147 11 = nI (q.length + 2) := z2
        have z3 : q.length + 2 ≤ 4 := z3
        simp (disch := first | assumption | omega | exact ixN (by assumption) (by omega) (by omega) | exact ne_10 | exact ne_1000 | exact ne_4) only [s115_8, s115_10, s115_11, s115_148, s115_148a, s115_149, s115_152, s115_153, s115_156, s115_156a, s115_157, s115_160, s115_161, s115_162, s115_165, s115_166, ↓reduceIte, eq_self, Option.bind_some, Option.bind_none, Option.toList_some, Option.toList_none, List.cons_append, List.nil_append, am_rf_s, am_rf_n, am_c1_i, am_c1_r, am_c1_n, List.all_cons, List.all_nil, Bool.and_self, Bool.and_true, Bool.true_and, List.length_cons, List.length_nil, Nat.reduceAdd, Nat.reduceSub, Nat.reduceMul, Nat.reduceLeDiff, Nat.reduceLT, Nat.zero_le, Nat.le_refl, ne_10, ne_1000, ne_4, not_false_eq_true, or_true, true_or, Nat.one_ne_zero, Nat.zero_ne_one, Nat.reduceEqDiff, Bool.true_eq_false, Bool.false_eq_true, n10, nI_add, pk_mul, pk_sub, nI_clamp, nI_ltI, nI_leI, nI_eq, ck, z2, r8, kgo, kend, askI, show ¬ q.length + 2 = 1 by omega]
    · by_cases c1 : g k = nI 109
      · by_cases c2 : n ≤ k + 1
        · refine ⟨I, ?_, JN.rf I⟩
          simp (disch := first | assumption | omega | exact ixN (by assumption) (by omega) (by omega) | exact ne_10 | exact ne_1000 | exact ne_4) only [s115_8, s115_10, s115_11, s115_14, s115_14a, s115_15, s115_16, s115_18, s115_19, s115_20, s115_22, s115_24, s115_26, s115_29, s115_32, s115_34, s115_35, s115_38, s115_38a, s115_39, s115_40, s115_42, s115_43, s115_44, s115_46, s115_48, s115_51, s115_54, s115_54a, s115_55, s115_55a, s115_56, s115_59, s115_59a, s115_60, s115_61, s115_63, s115_64, s115_65, s115_67, s115_68, s115_69, s115_72, s115_75, s115_76, s115_79, s115_80, s115_82, s115_85, s115_87, s115_89, s115_92, s115_92a, s115_93, s115_95, s115_98, s115_100, s115_103, s115_105, s115_107, s115_109, s115_112, s115_115, s115_115a, s115_116, s115_118, s115_120, s115_121, s115_124, s115_127, s115_127a, s115_128, s115_130, s115_133, s115_135, s115_137, s115_140, s115_141, ↓reduceIte, eq_self, Option.bind_some, Option.bind_none, Option.toList_some, Option.toList_none, List.cons_append, List.nil_append, am_rf_s, am_rf_n, am_c1_i, am_c1_r, am_c1_n, List.all_cons, List.all_nil, Bool.and_self, Bool.and_true, Bool.true_and, List.length_cons, List.length_nil, Nat.reduceAdd, Nat.reduceSub, Nat.reduceMul, Nat.reduceLeDiff, Nat.reduceLT, Nat.zero_le, Nat.le_refl, ne_10, ne_1000, ne_4, not_false_eq_true, or_true, true_or, Nat.one_ne_zero, Nat.zero_ne_one, Nat.reduceEqDiff, Bool.true_eq_false, Bool.false_eq_true, n10, nI_add, pk_mul, pk_sub, nI_clamp, nI_ltI, nI_leI, nI_eq, ck, c1, c2, hg, kgo, askI]
        · by_cases c3 : (decide (nI 48 ≤ g (k + 1)) && decide (g (k + 1) ≤ nI 55)) = false
          · refine ⟨I, ?_, JN.rf I⟩
            simp (disch := first | assumption | omega | exact ixN (by assumption) (by omega) (by omega) | exact ne_10 | exact ne_1000 | exact ne_4) only [s115_8, s115_10, s115_11, s115_14, s115_14a, s115_15, s115_16, s115_18, s115_19, s115_20, s115_22, s115_24, s115_26, s115_29, s115_32, s115_34, s115_35, s115_38, s115_38a, s115_39, s115_40, s115_42, s115_43, s115_44, s115_46, s115_48, s115_51, s115_54, s115_54a, s115_55, s115_55a, s115_56, s115_59, s115_59a, s115_60, s115_61, s115_63, s115_64, s115_65, s115_67, s115_68, s115_69, s115_72, s115_75, s115_76, s115_79, s115_80, s115_82, s115_85, s115_87, s115_89, s115_92, s115_92a, s115_93, s115_95, s115_98, s115_100, s115_103, s115_105, s115_107, s115_109, s115_112, s115_115, s115_115a, s115_116, s115_118, s115_120, s115_121, s115_124, s115_127, s115_127a, s115_128, s115_130, s115_133, s115_135, s115_137, s115_140, s115_141, ↓reduceIte, eq_self, Option.bind_some, Option.bind_none, Option.toList_some, Option.toList_none, List.cons_append, List.nil_append, am_rf_s, am_rf_n, am_c1_i, am_c1_r, am_c1_n, List.all_cons, List.all_nil, Bool.and_self, Bool.and_true, Bool.true_and, List.length_cons, List.length_nil, Nat.reduceAdd, Nat.reduceSub, Nat.reduceMul, Nat.reduceLeDiff, Nat.reduceLT, Nat.zero_le, Nat.le_refl, ne_10, ne_1000, ne_4, not_false_eq_true, or_true, true_or, Nat.one_ne_zero, Nat.zero_ne_one, Nat.reduceEqDiff, Bool.true_eq_false, Bool.false_eq_true, n10, nI_add, pk_mul, pk_sub, nI_clamp, nI_ltI, nI_leI, nI_eq, ck, c1, c2, c3, hg, kgo, askI, c_isIn, bI_0]
          · have c3' : nI 48 ≤ g (k + 1) ∧ g (k + 1) ≤ nI 55 := by simpa using c3
            obtain ⟨q, hq1, hq2, hq⟩ := rng (by omega) c3'.1 c3'.2 (by omega)
            have e0 : g (k + 1) - nI 48 = nI (q - 48) := by rw [hq, pk_sub hq1]
            have e1 : I 151 (q - 48) = mem (q - 48) := hm _ (by omega)
            obtain ⟨I1, p1, p2, p3⟩ := m_push I R K hMK (mem (q - 48)) s hs
            cases hp : kpush (mem (q - 48)) s with
            | none =>
              rw [hp] at p1
              refine ⟨I1, ?_, p2⟩
              simp (disch := first | assumption | omega | exact ixN (by assumption) (by omega) (by omega) | exact ne_10 | exact ne_1000 | exact ne_4) only [s115_8, s115_10, s115_11, s115_14, s115_14a, s115_15, s115_16, s115_18, s115_19, s115_20, s115_22, s115_24, s115_26, s115_29, s115_32, s115_34, s115_35, s115_38, s115_38a, s115_39, s115_40, s115_42, s115_43, s115_44, s115_46, s115_48, s115_51, s115_54, s115_54a, s115_55, s115_55a, s115_56, s115_59, s115_59a, s115_60, s115_61, s115_63, s115_64, s115_65, s115_67, s115_68, s115_69, s115_72, s115_75, s115_76, s115_79, s115_80, s115_82, s115_85, s115_87, s115_89, s115_92, s115_92a, s115_93, s115_95, s115_98, s115_100, s115_103, s115_105, s115_107, s115_109, s115_112, s115_115, s115_115a, s115_116, s115_118, s115_120, s115_121, s115_124, s115_127, s115_127a, s115_128, s115_130, s115_133, s115_135, s115_137, s115_140, s115_141, ↓reduceIte, eq_self, Option.bind_some, Option.bind_none, Option.toList_some, Option.toList_none, List.cons_append, List.nil_append, am_rf_s, am_rf_n, am_c1_i, am_c1_r, am_c1_n, List.all_cons, List.all_nil, Bool.and_self, Bool.and_true, Bool.true_and, List.length_cons, List.length_nil, Nat.reduceAdd, Nat.reduceSub, Nat.reduceMul, Nat.reduceLeDiff, Nat.reduceLT, Nat.zero_le, Nat.le_refl, ne_10, ne_1000, ne_4, not_false_eq_true, or_true, true_or, Nat.one_ne_zero, Nat.zero_ne_one, Nat.reduceEqDiff, Bool.true_eq_false, Bool.false_eq_true, n10, nI_add, pk_mul, pk_sub, nI_clamp, nI_ltI, nI_leI, nI_eq, ck, c1, c2, c3, hg, kgo, askI, c_isIn, bI_0, e0, e1, r4, p1, hp, Option.isSome_none, bI_f]
            | some s' =>
              rw [hp] at p1
              obtain ⟨g1', m1'⟩ := keep I1 p2
              obtain ⟨I2, w1, w2⟩ := ih (k + 2) s' I1 (some (.int (nI 109))) (some (.int (nI 1))) (by omega) (by omega) (p3 s' hp) g1' m1'
              refine ⟨I2, ?_, p2.tr w2⟩
              have e2 : k + 1 + 1 = k + 2 := rfl
              simp (disch := first | assumption | omega | exact ixN (by assumption) (by omega) (by omega) | exact ne_10 | exact ne_1000 | exact ne_4) only [s115_8, s115_10, s115_11, s115_14, s115_14a, s115_15, s115_16, s115_18, s115_19, s115_20, s115_22, s115_24, s115_26, s115_29, s115_32, s115_34, s115_35, s115_38, s115_38a, s115_39, s115_40, s115_42, s115_43, s115_44, s115_46, s115_48, s115_51, s115_54, s115_54a, s115_55, s115_55a, s115_56, s115_59, s115_59a, s115_60, s115_61, s115_63, s115_64, s115_65, s115_67, s115_68, s115_69, s115_72, s115_75, s115_76, s115_79, s115_80, s115_82, s115_85, s115_87, s115_89, s115_92, s115_92a, s115_93, s115_95, s115_98, s115_100, s115_103, s115_105, s115_107, s115_109, s115_112, s115_115, s115_115a, s115_116, s115_118, s115_120, s115_121, s115_124, s115_127, s115_127a, s115_128, s115_130, s115_133, s115_135, s115_137, s115_140, s115_141, s115_142, s115_145, ↓reduceIte, eq_self, Option.bind_some, Option.bind_none, Option.toList_some, Option.toList_none, List.cons_append, List.nil_append, am_rf_s, am_rf_n, am_c1_i, am_c1_r, am_c1_n, List.all_cons, List.all_nil, Bool.and_self, Bool.and_true, Bool.true_and, List.length_cons, List.length_nil, Nat.reduceAdd, Nat.reduceSub, Nat.reduceMul, Nat.reduceLeDiff, Nat.reduceLT, Nat.zero_le, Nat.le_refl, ne_10, ne_1000, ne_4, not_false_eq_true, or_true, true_or, Nat.one_ne_zero, Nat.zero_ne_one, Nat.reduceEqDiff, Bool.true_eq_false, Bool.false_eq_true, n10, nI_add, pk_mul, pk_sub, nI_clamp, nI_ltI, nI_leI, nI_eq, ck, c1, c2, c3, hg, kgo, c_isIn, bI_0, e0, e1, r4, p1, hp, Option.isSome_some, bI_t, e2, w1]
      · by_cases c2 : g k = nI 97
        · obtain ⟨I1, p1, p2, p3⟩ := m_push I R K hMK acc s hs
          cases hp : kpush acc s with
          | none =>
            rw [hp] at p1
            refine ⟨I1, ?_, p2⟩
            simp (disch := first | assumption | omega | exact ixN (by assumption) (by omega) (by omega) | exact ne_10 | exact ne_1000 | exact ne_4) only [s115_8, s115_10, s115_11, s115_14, s115_14a, s115_15, s115_16, s115_18, s115_19, s115_20, s115_22, s115_24, s115_26, s115_29, s115_32, s115_34, s115_35, s115_38, s115_38a, s115_39, s115_40, s115_42, s115_43, s115_44, s115_46, s115_48, s115_51, s115_54, s115_54a, s115_55, s115_55a, s115_56, s115_59, s115_59a, s115_60, s115_61, s115_63, s115_64, s115_65, s115_67, s115_68, s115_69, s115_72, s115_75, s115_76, s115_79, s115_80, s115_82, s115_85, s115_87, s115_89, s115_92, s115_92a, s115_93, s115_95, s115_98, s115_100, s115_103, s115_105, s115_107, s115_109, s115_112, s115_115, s115_115a, s115_116, s115_118, s115_120, s115_121, s115_124, s115_127, s115_127a, s115_128, s115_130, s115_133, s115_135, s115_137, s115_140, s115_141, ↓reduceIte, eq_self, Option.bind_some, Option.bind_none, Option.toList_some, Option.toList_none, List.cons_append, List.nil_append, am_rf_s, am_rf_n, am_c1_i, am_c1_r, am_c1_n, List.all_cons, List.all_nil, Bool.and_self, Bool.and_true, Bool.true_and, List.length_cons, List.length_nil, Nat.reduceAdd, Nat.reduceSub, Nat.reduceMul, Nat.reduceLeDiff, Nat.reduceLT, Nat.zero_le, Nat.le_refl, ne_10, ne_1000, ne_4, not_false_eq_true, or_true, true_or, Nat.one_ne_zero, Nat.zero_ne_one, Nat.reduceEqDiff, Bool.true_eq_false, Bool.false_eq_true, n10, nI_add, pk_mul, pk_sub, nI_clamp, nI_ltI, nI_leI, nI_eq, ck, c1, c2, hg, kgo, askI, p1, hp, Option.isSome_none, bI_f, Nat.reduceEqDiff]
          | some s' =>
            rw [hp] at p1
            obtain ⟨g1', m1'⟩ := keep I1 p2
            obtain ⟨I2, w1, w2⟩ := ih (k + 1) s' I1 (some (.int (nI 97))) (some (.int (nI 1))) (by omega) (by omega) (p3 s' hp) g1' m1'
            refine ⟨I2, ?_, p2.tr w2⟩
            simp (disch := first | assumption | omega | exact ixN (by assumption) (by omega) (by omega) | exact ne_10 | exact ne_1000 | exact ne_4) only [s115_8, s115_10, s115_11, s115_14, s115_14a, s115_15, s115_16, s115_18, s115_19, s115_20, s115_22, s115_24, s115_26, s115_29, s115_32, s115_34, s115_35, s115_38, s115_38a, s115_39, s115_40, s115_42, s115_43, s115_44, s115_46, s115_48, s115_51, s115_54, s115_54a, s115_55, s115_55a, s115_56, s115_59, s115_59a, s115_60, s115_61, s115_63, s115_64, s115_65, s115_67, s115_68, s115_69, s115_72, s115_75, s115_76, s115_79, s115_80, s115_82, s115_85, s115_87, s115_89, s115_92, s115_92a, s115_93, s115_95, s115_98, s115_100, s115_103, s115_105, s115_107, s115_109, s115_112, s115_115, s115_115a, s115_116, s115_118, s115_120, s115_121, s115_124, s115_127, s115_127a, s115_128, s115_130, s115_133, s115_135, s115_137, s115_140, s115_141, s115_142, s115_145, ↓reduceIte, eq_self, Option.bind_some, Option.bind_none, Option.toList_some, Option.toList_none, List.cons_append, List.nil_append, am_rf_s, am_rf_n, am_c1_i, am_c1_r, am_c1_n, List.all_cons, List.all_nil, Bool.and_self, Bool.and_true, Bool.true_and, List.length_cons, List.length_nil, Nat.reduceAdd, Nat.reduceSub, Nat.reduceMul, Nat.reduceLeDiff, Nat.reduceLT, Nat.zero_le, Nat.le_refl, ne_10, ne_1000, ne_4, not_false_eq_true, or_true, true_or, Nat.one_ne_zero, Nat.zero_ne_one, Nat.reduceEqDiff, Bool.true_eq_false, Bool.false_eq_true, n10, nI_add, pk_mul, pk_sub, nI_clamp, nI_ltI, nI_leI, nI_eq, ck, c1, c2, hg, kgo, p1, hp, Option.isSome_some, bI_t, w1, Nat.reduceEqDiff]
        · by_cases c3 : (decide (nI 48 ≤ g k) && decide (g k ≤ nI 57)) = false
          · obtain ⟨I1, p1, p2, p3⟩ := m_takes I R K hMK (g k) s hs
            cases hp : kstep (g k) s with
            | none =>
              rw [hp] at p1
              refine ⟨I1, ?_, p2⟩
              simp (disch := first | assumption | omega | exact ixN (by assumption) (by omega) (by omega) | exact ne_10 | exact ne_1000 | exact ne_4) only [s115_8, s115_10, s115_11, s115_14, s115_14a, s115_15, s115_16, s115_18, s115_19, s115_20, s115_22, s115_24, s115_26, s115_29, s115_32, s115_34, s115_35, s115_38, s115_38a, s115_39, s115_40, s115_42, s115_43, s115_44, s115_46, s115_48, s115_51, s115_54, s115_54a, s115_55, s115_55a, s115_56, s115_59, s115_59a, s115_60, s115_61, s115_63, s115_64, s115_65, s115_67, s115_68, s115_69, s115_72, s115_75, s115_76, s115_79, s115_80, s115_82, s115_85, s115_87, s115_89, s115_92, s115_92a, s115_93, s115_95, s115_98, s115_100, s115_103, s115_105, s115_107, s115_109, s115_112, s115_115, s115_115a, s115_116, s115_118, s115_120, s115_121, s115_124, s115_127, s115_127a, s115_128, s115_130, s115_133, s115_135, s115_137, s115_140, s115_141, ↓reduceIte, eq_self, Option.bind_some, Option.bind_none, Option.toList_some, Option.toList_none, List.cons_append, List.nil_append, am_rf_s, am_rf_n, am_c1_i, am_c1_r, am_c1_n, List.all_cons, List.all_nil, Bool.and_self, Bool.and_true, Bool.true_and, List.length_cons, List.length_nil, Nat.reduceAdd, Nat.reduceSub, Nat.reduceMul, Nat.reduceLeDiff, Nat.reduceLT, Nat.zero_le, Nat.le_refl, ne_10, ne_1000, ne_4, not_false_eq_true, or_true, true_or, Nat.one_ne_zero, Nat.zero_ne_one, Nat.reduceEqDiff, Bool.true_eq_false, Bool.false_eq_true, n10, nI_add, pk_mul, pk_sub, nI_clamp, nI_ltI, nI_leI, nI_eq, ck, c1, c2, c3, hg, kgo, askI, c_isIn, bI_0, p1, hp, Option.isSome_none, bI_f]
            | some s' =>
              rw [hp] at p1
              obtain ⟨g1', m1'⟩ := keep I1 p2
              obtain ⟨I2, w1, w2⟩ := ih (k + 1) s' I1 (some (.int (g k))) (some (.int (nI 1))) (by omega) (by omega) (p3 s' hp) g1' m1'
              refine ⟨I2, ?_, p2.tr w2⟩
              simp (disch := first | assumption | omega | exact ixN (by assumption) (by omega) (by omega) | exact ne_10 | exact ne_1000 | exact ne_4) only [s115_8, s115_10, s115_11, s115_14, s115_14a, s115_15, s115_16, s115_18, s115_19, s115_20, s115_22, s115_24, s115_26, s115_29, s115_32, s115_34, s115_35, s115_38, s115_38a, s115_39, s115_40, s115_42, s115_43, s115_44, s115_46, s115_48, s115_51, s115_54, s115_54a, s115_55, s115_55a, s115_56, s115_59, s115_59a, s115_60, s115_61, s115_63, s115_64, s115_65, s115_67, s115_68, s115_69, s115_72, s115_75, s115_76, s115_79, s115_80, s115_82, s115_85, s115_87, s115_89, s115_92, s115_92a, s115_93, s115_95, s115_98, s115_100, s115_103, s115_105, s115_107, s115_109, s115_112, s115_115, s115_115a, s115_116, s115_118, s115_120, s115_121, s115_124, s115_127, s115_127a, s115_128, s115_130, s115_133, s115_135, s115_137, s115_140, s115_141, s115_142, s115_145, ↓reduceIte, eq_self, Option.bind_some, Option.bind_none, Option.toList_some, Option.toList_none, List.cons_append, List.nil_append, am_rf_s, am_rf_n, am_c1_i, am_c1_r, am_c1_n, List.all_cons, List.all_nil, Bool.and_self, Bool.and_true, Bool.true_and, List.length_cons, List.length_nil, Nat.reduceAdd, Nat.reduceSub, Nat.reduceMul, Nat.reduceLeDiff, Nat.reduceLT, Nat.zero_le, Nat.le_refl, ne_10, ne_1000, ne_4, not_false_eq_true, or_true, true_or, Nat.one_ne_zero, Nat.zero_ne_one, Nat.reduceEqDiff, Bool.true_eq_false, Bool.false_eq_true, n10, nI_add, pk_mul, pk_sub, nI_clamp, nI_ltI, nI_leI, nI_eq, ck, c1, c2, c3, hg, kgo, c_isIn, bI_0, p1, hp, Option.isSome_some, bI_t, w1]
          · obtain ⟨I1, p1, p2, p3⟩ := m_push I R K hMK (g k - nI 48) s hs
            cases hp : kpush (g k - nI 48) s with
            | none =>
              rw [hp] at p1
              refine ⟨I1, ?_, p2⟩
              simp (disch := first | assumption | omega | exact ixN (by assumption) (by omega) (by omega) | exact ne_10 | exact ne_1000 | exact ne_4) only [s115_8, s115_10, s115_11, s115_14, s115_14a, s115_15, s115_16, s115_18, s115_19, s115_20, s115_22, s115_24, s115_26, s115_29, s115_32, s115_34, s115_35, s115_38, s115_38a, s115_39, s115_40, s115_42, s115_43, s115_44, s115_46, s115_48, s115_51, s115_54, s115_54a, s115_55, s115_55a, s115_56, s115_59, s115_59a, s115_60, s115_61, s115_63, s115_64, s115_65, s115_67, s115_68, s115_69, s115_72, s115_75, s115_76, s115_79, s115_80, s115_82, s115_85, s115_87, s115_89, s115_92, s115_92a, s115_93, s115_95, s115_98, s115_100, s115_103, s115_105, s115_107, s115_109, s115_112, s115_115, s115_115a, s115_116, s115_118, s115_120, s115_121, s115_124, s115_127, s115_127a, s115_128, s115_130, s115_133, s115_135, s115_137, s115_140, s115_141, ↓reduceIte, eq_self, Option.bind_some, Option.bind_none, Option.toList_some, Option.toList_none, List.cons_append, List.nil_append, am_rf_s, am_rf_n, am_c1_i, am_c1_r, am_c1_n, List.all_cons, List.all_nil, Bool.and_self, Bool.and_true, Bool.true_and, List.length_cons, List.length_nil, Nat.reduceAdd, Nat.reduceSub, Nat.reduceMul, Nat.reduceLeDiff, Nat.reduceLT, Nat.zero_le, Nat.le_refl, ne_10, ne_1000, ne_4, not_false_eq_true, or_true, true_or, Nat.one_ne_zero, Nat.zero_ne_one, Nat.reduceEqDiff, Bool.true_eq_false, Bool.false_eq_true, n10, nI_add, pk_mul, pk_sub, nI_clamp, nI_ltI, nI_leI, nI_eq, ck, c1, c2, c3, hg, kgo, askI, c_isIn, bI_0, p1, hp, Option.isSome_none, bI_f]
            | some s' =>
              rw [hp] at p1
              obtain ⟨g1', m1'⟩ := keep I1 p2
              obtain ⟨I2, w1, w2⟩ := ih (k + 1) s' I1 (some (.int (g k))) (some (.int (nI 1))) (by omega) (by omega) (p3 s' hp) g1' m1'
              refine ⟨I2, ?_, p2.tr w2⟩
              simp (disch := first | assumption | omega | exact ixN (by assumption) (by omega) (by omega) | exact ne_10 | exact ne_1000 | exact ne_4) only [s115_8, s115_10, s115_11, s115_14, s115_14a, s115_15, s115_16, s115_18, s115_19, s115_20, s115_22, s115_24, s115_26, s115_29, s115_32, s115_34, s115_35, s115_38, s115_38a, s115_39, s115_40, s115_42, s115_43, s115_44, s115_46, s115_48, s115_51, s115_54, s115_54a, s115_55, s115_55a, s115_56, s115_59, s115_59a, s115_60, s115_61, s115_63, s115_64, s115_65, s115_67, s115_68, s115_69, s115_72, s115_75, s115_76, s115_79, s115_80, s115_82, s115_85, s115_87, s115_89, s115_92, s115_92a, s115_93, s115_95, s115_98, s115_100, s115_103, s115_105, s115_107, s115_109, s115_112, s115_115, s115_115a, s115_116, s115_118, s115_120, s115_121, s115_124, s115_127, s115_127a, s115_128, s115_130, s115_133, s115_135, s115_137, s115_140, s115_141, s115_142, s115_145, ↓reduceIte, eq_self, Option.bind_some, Option.bind_none, Option.toList_some, Option.toList_none, List.cons_append, List.nil_append, am_rf_s, am_rf_n, am_c1_i, am_c1_r, am_c1_n, List.all_cons, List.all_nil, Bool.and_self, Bool.and_true, Bool.true_and, List.length_cons, List.length_nil, Nat.reduceAdd, Nat.reduceSub, Nat.reduceMul, Nat.reduceLeDiff, Nat.reduceLT, Nat.zero_le, Nat.le_refl, ne_10, ne_1000, ne_4, not_false_eq_true, or_true, true_or, Nat.one_ne_zero, Nat.zero_ne_one, Nat.reduceEqDiff, Bool.true_eq_false, Bool.false_eq_true, n10, nI_add, pk_mul, pk_sub, nI_clamp, nI_ltI, nI_leI, nI_eq, ck, c1, c2, c3, hg, kgo, c_isIn, bI_0, p1, hp, Option.isSome_some, bI_t, w1]
theorem m_asks (h : MK R K) (I : am_I) (ra at' n N : Nat) (acc : Int32) (g mem : Nat → Int32) (hra : am_isK K ra 20 = true) (hN : K.1 ra = N) (hb : at' + n ≤ N) (hN2 : N ≤ 10000) (hr1 : ra ≠ 155) (hr2 : ra ≠ 152) (hg : ∀ i, I ra (at' + i) = g i) (hm : ∀ i, i < 8 → I 151 i = mem i) :
    ∃ I', ev 115 0 [some (.ref 147), some (.ref ra), some (.int (nI at')), some (.int (nI n)), some (.int acc), none, none, none] [] (I, R, K) = some (some (.int (askI (kask mem g n acc))), (I', R, K)) ∧ JN I I' := by
  have h1 := h.1.1
  have hr0 : ra ≠ 147 := by
    intro e; subst e
    have := (am_isK_of hra).2.2
    have h10 := (am_isK_of h1).2.2
    omega
  obtain ⟨I', w1, w2⟩ := m_asks_loop R K h ra at' n N acc g mem hra hN hb hN2 hr1 hr2 (n + 1) 0 [] (am_ui I 147 11 (nI 0)) none none (by omega) (by omega) ⟨trivial, by simp [am_ui], by simp⟩ (fun i => by rw [← hg i]; simp [am_ui, hr0]) (fun i hi => by rw [← hm i hi]; simp [am_ui])
  refine ⟨I', ?_, JN.tr ⟨fun a z1 z2 _ _ => by funext j; simp [am_ui, z2], fun j z => by simp [am_ui, z]⟩ w2⟩
  simp (disch := first | assumption | omega | exact ixN (by assumption) (by omega) (by omega) | exact ne_10 | exact ne_1000 | exact ne_4) only [s115_0, s115_0a, s115_1, s115_2, s115_5, s115_6, ↓reduceIte, eq_self, Option.bind_some, Option.bind_none, Option.toList_some, Option.toList_none, List.cons_append, List.nil_append, am_rf_s, am_rf_n, am_c1_i, am_c1_r, am_c1_n, List.all_cons, List.all_nil, Bool.and_self, Bool.and_true, Bool.true_and, List.length_cons, List.length_nil, Nat.reduceAdd, Nat.reduceSub, Nat.reduceMul, Nat.reduceLeDiff, Nat.reduceLT, Nat.zero_le, Nat.le_refl, ne_10, ne_1000, ne_4, not_false_eq_true, or_true, true_or, Nat.one_ne_zero, Nat.zero_ne_one, Nat.reduceEqDiff, Bool.true_eq_false, Bool.false_eq_true, n10, w1]
  rfl
end MB
