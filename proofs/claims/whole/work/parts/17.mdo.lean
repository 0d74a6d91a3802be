/-! the reference: a step with what lies there -/
/-- the numbers that a step looks at are within: letters of filters, rings, returns, holders -/
def WF0 (f : Nat → Int32) : Prop := (∀ p, p < 6 → ∃ m, m ≤ 200 ∧ f (70 + 208 * p + 7) = nI m) ∧ (∀ c, c < 2 → ∃ n, n ≤ 4 ∧ f (8 + 31 * c + 17) = nI n) ∧ (∀ c, c < 2 → ∃ d, d ≤ 6 ∧ f (8 + 31 * c + 2) = nI d ∧ (∀ k, k < d → (∃ q, q < 1000 ∧ f (8 + 31 * c + 3 + k) = nI q) ∧ ∃ q, q ≤ 6 ∧ f (8 + 31 * c + 9 + k) = nI q))
def nt (x : Int32) : Nat := x.toNatClampNeg
/-- the probe that it comes by, if it is on -/
def sBy (bg : Nat → Int32) (nc : Nat) (f : Nat → Int32) (c : Nat) : Option Nat :=
  if f (8 + 31 * c + 15) = nI 0 then (if isB bg nc (f (8 + 31 * c + 1)) = false then none else match pOn f (f (8 + 31 * c + 1)) with
    | none => none
    | some p => if f (70 + 208 * p) = nI 0 then some p else none) else none
def sDo1 (bg : Nat → Int32) (nc : Nat) (f : Nat → Int32) (c : Nat) : Nat → Int32 := match sBy bg nc f c with
  | none => f
  | some p =>
    let f1 := uf f (8 + 31 * c + 16) (f (8 + 31 * c + 16) + nI 1)
    let f2 := sMeet f1 p c (nt (f1 (70 + 208 * p + 7))) (nt (f1 (8 + 31 * c + 17))) (nt (f1 (8 + 31 * c + 2)))
    uf f2 (8 + 31 * c + 16) (f2 (8 + 31 * c + 16) - nI 1)
/-- behind the instruction: d returns before, g the numbers now -/
def sDo2 (g : Nat → Int32) (c d : Nat) : Nat → Int32 := if g (8 + 31 * c + 2) < nI d then
    (let h := nt (g (8 + 31 * c + 8 + d))
    let g1 := if h ≠ 0 ∧ g (70 + 208 * (h - 1)) = nI 0 then sHit g (h - 1) c (nt (g (70 + 208 * (h - 1) + 7))) (nt (g (8 + 31 * c + 17))) else g
    let g2 := sFree g1 h
    uf g2 (8 + 31 * c + 8 + d) (nI 0)) else g
def sDo (cd bg : Nat → Int32) (nc : Nat) (f : Nat → Int32) (c : Nat) : Bool × (Nat → Int32) :=
  let f1 := sDo1 bg nc f c
  let d := nt (f1 (8 + 31 * c + 2))
  let r := sGo cd bg nc f1 (8 + 31 * c) d
  (r.1, sDo2 r.2 c d)
theorem nt_nI {n : Nat} (h : n < 2 ^ 31) : nt (nI n) = n := nI_clamp h
theorem fs_lt {P : Nat → Bool} : ∀ {r p q : Nat}, fs P r p = some q → p ≤ q ∧ q < p + r ∧ P q = true
  | 0, _, _, h => by cases h
  | r + 1, p, q, h => by
    unfold fs at h
    split at h
    · cases h; rename_i hq; exact ⟨Nat.le_refl _, by omega, hq⟩
    · obtain ⟨h1, h2, h3⟩ := fs_lt h; exact ⟨by omega, by omega, h3⟩
section MD
variable (I : am_I) (R : am_R) (K : am_K)
/-- the first half of does -/
theorem m_does1 (h : MK R K) (c nc : Nat) (hc : c < 2) (hn : I 147 2 = nI nc) (h1c : 1 ≤ nc) (h2c : nc ≤ 60) (hf : WF0 (I 151)) : ∃ (I' : am_I) (l4 : Option Value), ev 137 0 [some (.ref 147), some (.int (nI c)), none, none, none, none, none] [] (I, R, K) = ev 137 94 [some (.ref 147), some (.int (nI c)), some (.int (nI (8 + 31 * c))), some (.int (I 151 (8 + 31 * c + 1))), l4, none, none] [] (I', R, K) ∧ JF I I' (sDo1 (I 150) nc (I 151) c) := by
  have hMK := h
  obtain ⟨⟨h1, h2, h3, h4, h5, h6, h7, h8, h9⟩, ⟨g2, g3, g4, g5, g6, g7, g8, g9⟩, r1, r2, r3, r4, r5, r6, r7, r8⟩ := h
  unfold sDo1
  by_cases q0 : I 151 (8 + 31 * c + 15) = nI 0
  · by_cases q1 : isB (I 150) nc (I 151 (8 + 31 * c + 1)) = false
    · refine ⟨I, none, ?_, ?_⟩
      · simp (disch := first | assumption | omega | exact ixN (by assumption) (by omega) (by omega) | exact ne_10 | exact ne_1000 | exact ne_4) only [s137_0, s137_1, s137_4, s137_5, s137_5a, s137_6, s137_9, s137_10, s137_11, s137_12, s137_13, s137_14, s137_14a, s137_15, s137_18, s137_19, s137_21, s137_22, s137_23, s137_26, s137_26a, s137_27, s137_28, s137_31, s137_34, s137_34a, s137_35, s137_36, s137_39, s137_41, s137_43, s137_45, s137_48, s137_48a, s137_49, s137_52, s137_54, s137_57, s137_58, s137_61, s137_61a, s137_62, s137_65, s137_66, s137_68, s137_69, s137_70, s137_71, s137_72, s137_73, s137_74, s137_74a, s137_75, s137_77, s137_78, s137_81, s137_81a, s137_82, s137_85, s137_86, s137_88, s137_89, s137_90, s137_91, s137_92, s137_93, ↓reduceIte, eq_self, Option.bind_some, Option.bind_none, Option.toList_some, Option.toList_none, List.cons_append, List.nil_append, am_rf_s, am_rf_n, am_c1_i, am_c1_r, am_c1_n, List.all_cons, List.all_nil, Bool.and_self, Bool.and_true, Bool.true_and, List.length_cons, List.length_nil, Nat.reduceAdd, Nat.reduceSub, Nat.reduceMul, Nat.reduceLeDiff, Nat.reduceLT, Nat.zero_le, Nat.le_refl, ne_10, ne_1000, ne_4, not_false_eq_true, or_true, true_or, Nat.one_ne_zero, Nat.zero_ne_one, Nat.reduceEqDiff, Bool.true_eq_false, Bool.false_eq_true, n10, nI_add, pk_mul, pk_sub, nI_clamp, nI_ltI, nI_leI, nI_eq, m_processorAt, r4, q0, m_isBegin I R K hMK _ nc hn h1c h2c, q1, bI_f]
      · have e : sBy (I 150) nc (I 151) c = none := by unfold sBy; rw [if_pos q0, if_pos q1]
        rw [e]; exact JF.rf I
    · have q1' : isB (I 150) nc (I 151 (8 + 31 * c + 1)) = true := by simpa using q1
      cases q2 : pOn (I 151) (I 151 (8 + 31 * c + 1)) with
      | none =>
        refine ⟨I, some (.int (-4)), ?_, ?_⟩
        · simp (disch := first | assumption | omega | exact ixN (by assumption) (by omega) (by omega) | exact ne_10 | exact ne_1000 | exact ne_4) only [s137_0, s137_1, s137_4, s137_5, s137_5a, s137_6, s137_9, s137_10, s137_11, s137_12, s137_13, s137_14, s137_14a, s137_15, s137_18, s137_19, s137_21, s137_22, s137_23, s137_26, s137_26a, s137_27, s137_28, s137_31, s137_34, s137_34a, s137_35, s137_36, s137_39, s137_41, s137_43, s137_45, s137_48, s137_48a, s137_49, s137_52, s137_54, s137_57, s137_58, s137_61, s137_61a, s137_62, s137_65, s137_66, s137_68, s137_69, s137_70, s137_71, s137_72, s137_73, s137_74, s137_74a, s137_75, s137_77, s137_78, s137_81, s137_81a, s137_82, s137_85, s137_86, s137_88, s137_89, s137_90, s137_91, s137_92, s137_93, ↓reduceIte, eq_self, Option.bind_some, Option.bind_none, Option.toList_some, Option.toList_none, List.cons_append, List.nil_append, am_rf_s, am_rf_n, am_c1_i, am_c1_r, am_c1_n, List.all_cons, List.all_nil, Bool.and_self, Bool.and_true, Bool.true_and, List.length_cons, List.length_nil, Nat.reduceAdd, Nat.reduceSub, Nat.reduceMul, Nat.reduceLeDiff, Nat.reduceLT, Nat.zero_le, Nat.le_refl, ne_10, ne_1000, ne_4, not_false_eq_true, or_true, true_or, Nat.one_ne_zero, Nat.zero_ne_one, Nat.reduceEqDiff, Bool.true_eq_false, Bool.false_eq_true, n10, nI_add, pk_mul, pk_sub, nI_clamp, nI_ltI, nI_leI, nI_eq, m_processorAt, r4, q0, m_isBegin I R K hMK _ nc hn h1c h2c, q1', bI_t, m_probeOn I R K hMK, q2, fsI]
        · have e : sBy (I 150) nc (I 151) c = none := by unfold sBy; rw [if_pos q0, if_neg q1, q2]
          rw [e]; exact JF.rf I
      | some p =>
        have hp : p < 6 := by have := (fs_lt q2).2.1; omega
        have n4 := neg4 p (by omega)
        by_cases q3 : I 151 (70 + 208 * p) = nI 0
        · obtain ⟨f1, hf1⟩ : ∃ f1, f1 = uf (I 151) (8 + 31 * c + 16) (I 151 (8 + 31 * c + 16) + nI 1) := ⟨_, rfl⟩
          obtain ⟨m, hm1, hm2⟩ := hf.1 p hp
          obtain ⟨n, hn1, hn2⟩ := hf.2.1 c hc
          obtain ⟨d, hd1, hd2, -⟩ := hf.2.2 c hc
          have a1 : f1 (70 + 208 * p + 7) = nI m := by rw [hf1, uf_ne _ _ (by omega)]; exact hm2
          have a2 : f1 (8 + 31 * c + 17) = nI n := by rw [hf1, uf_ne _ _ (by omega)]; exact hn2
          have a3 : f1 (8 + 31 * c + 2) = nI d := by rw [hf1, uf_ne _ _ (by omega)]; exact hd2
          obtain ⟨I2, w1, w2⟩ := m_meets (st I 151 f1) R K hMK p c m n d hp hc (by rw [st_eq]; exact a1) hm1 (by rw [st_eq]; exact a2) hn1 (by rw [st_eq]; exact a3) hd1
          rw [st_eq] at w2
          have w3 := w2.1
          refine ⟨st I2 151 (uf (sMeet f1 p c m n d) (8 + 31 * c + 16) (sMeet f1 p c m n d (8 + 31 * c + 16) - nI 1)), some (.int (nI p)), ?_, ?_⟩
          · simp (disch := first | assumption | omega | exact ixN (by assumption) (by omega) (by omega) | exact ne_10 | exact ne_1000 | exact ne_4) only [s137_0, s137_1, s137_4, s137_5, s137_5a, s137_6, s137_9, s137_10, s137_11, s137_12, s137_13, s137_14, s137_14a, s137_15, s137_18, s137_19, s137_21, s137_22, s137_23, s137_26, s137_26a, s137_27, s137_28, s137_31, s137_34, s137_34a, s137_35, s137_36, s137_39, s137_41, s137_43, s137_45, s137_48, s137_48a, s137_49, s137_52, s137_54, s137_57, s137_58, s137_61, s137_61a, s137_62, s137_65, s137_66, s137_68, s137_69, s137_70, s137_71, s137_72, s137_73, s137_74, s137_74a, s137_75, s137_77, s137_78, s137_81, s137_81a, s137_82, s137_85, s137_86, s137_88, s137_89, s137_90, s137_91, s137_92, s137_93, ↓reduceIte, eq_self, Option.bind_some, Option.bind_none, Option.toList_some, Option.toList_none, List.cons_append, List.nil_append, am_rf_s, am_rf_n, am_c1_i, am_c1_r, am_c1_n, List.all_cons, List.all_nil, Bool.and_self, Bool.and_true, Bool.true_and, List.length_cons, List.length_nil, Nat.reduceAdd, Nat.reduceSub, Nat.reduceMul, Nat.reduceLeDiff, Nat.reduceLT, Nat.zero_le, Nat.le_refl, ne_10, ne_1000, ne_4, not_false_eq_true, or_true, true_or, Nat.one_ne_zero, Nat.zero_ne_one, Nat.reduceEqDiff, Bool.true_eq_false, Bool.false_eq_true, n10, nI_add, pk_mul, nI_clamp, ui_st, st_st, st_eq, st_ne, uf_eq, uf_ne, m_processorAt, m_probeAt, r4, q0, m_isBegin I R K hMK _ nc hn h1c h2c, q1', bI_t, m_probeOn I R K hMK, q2, fsI, n4, q3, ← hf1, w1, w3]
          · have e : sBy (I 150) nc (I 151) c = some p := by unfold sBy; rw [if_pos q0, if_neg q1, q2]; exact if_pos q3
            rw [e]
            dsimp only
            rw [← hf1, a1, a2, a3, nt_nI (by omega), nt_nI (by omega), nt_nI (by omega)]
            exact ((JF.st I f1).tr w2).tr (JF.st I2 _)
        · refine ⟨I, some (.int (nI p)), ?_, ?_⟩
          · simp (disch := first | assumption | omega | exact ixN (by assumption) (by omega) (by omega) | exact ne_10 | exact ne_1000 | exact ne_4) only [s137_0, s137_1, s137_4, s137_5, s137_5a, s137_6, s137_9, s137_10, s137_11, s137_12, s137_13, s137_14, s137_14a, s137_15, s137_18, s137_19, s137_21, s137_22, s137_23, s137_26, s137_26a, s137_27, s137_28, s137_31, s137_34, s137_34a, s137_35, s137_36, s137_39, s137_41, s137_43, s137_45, s137_48, s137_48a, s137_49, s137_52, s137_54, s137_57, s137_58, s137_61, s137_61a, s137_62, s137_65, s137_66, s137_68, s137_69, s137_70, s137_71, s137_72, s137_73, s137_74, s137_74a, s137_75, s137_77, s137_78, s137_81, s137_81a, s137_82, s137_85, s137_86, s137_88, s137_89, s137_90, s137_91, s137_92, s137_93, ↓reduceIte, eq_self, Option.bind_some, Option.bind_none, Option.toList_some, Option.toList_none, List.cons_append, List.nil_append, am_rf_s, am_rf_n, am_c1_i, am_c1_r, am_c1_n, List.all_cons, List.all_nil, Bool.and_self, Bool.and_true, Bool.true_and, List.length_cons, List.length_nil, Nat.reduceAdd, Nat.reduceSub, Nat.reduceMul, Nat.reduceLeDiff, Nat.reduceLT, Nat.zero_le, Nat.le_refl, ne_10, ne_1000, ne_4, not_false_eq_true, or_true, true_or, Nat.one_ne_zero, Nat.zero_ne_one, Nat.reduceEqDiff, Bool.true_eq_false, Bool.false_eq_true, n10, nI_add, pk_mul, nI_clamp, m_processorAt, m_probeAt, r4, q0, m_isBegin I R K hMK _ nc hn h1c h2c, q1', bI_t, m_probeOn I R K hMK, q2, fsI, n4, q3]
          · have e : sBy (I 150) nc (I 151) c = none := by unfold sBy; rw [if_pos q0, if_neg q1, q2]; exact if_neg q3
            rw [e]; exact JF.rf I
  · refine ⟨I, none, ?_, ?_⟩
    · simp (disch := first | assumption | omega | exact ixN (by assumption) (by omega) (by omega) | exact ne_10 | exact ne_1000 | exact ne_4) only [s137_0, s137_1, s137_4, s137_5, s137_5a, s137_6, s137_9, s137_10, s137_11, s137_12, s137_13, s137_14, s137_14a, s137_15, s137_18, s137_19, s137_21, s137_22, s137_23, s137_26, s137_26a, s137_27, s137_28, s137_31, s137_34, s137_34a, s137_35, s137_36, s137_39, s137_41, s137_43, s137_45, s137_48, s137_48a, s137_49, s137_52, s137_54, s137_57, s137_58, s137_61, s137_61a, s137_62, s137_65, s137_66, s137_68, s137_69, s137_70, s137_71, s137_72, s137_73, s137_74, s137_74a, s137_75, s137_77, s137_78, s137_81, s137_81a, s137_82, s137_85, s137_86, s137_88, s137_89, s137_90, s137_91, s137_92, s137_93, ↓reduceIte, eq_self, Option.bind_some, Option.bind_none, Option.toList_some, Option.toList_none, List.cons_append, List.nil_append, am_rf_s, am_rf_n, am_c1_i, am_c1_r, am_c1_n, List.all_cons, List.all_nil, Bool.and_self, Bool.and_true, Bool.true_and, List.length_cons, List.length_nil, Nat.reduceAdd, Nat.reduceSub, Nat.reduceMul, Nat.reduceLeDiff, Nat.reduceLT, Nat.zero_le, Nat.le_refl, ne_10, ne_1000, ne_4, not_false_eq_true, or_true, true_or, Nat.one_ne_zero, Nat.zero_ne_one, Nat.reduceEqDiff, Bool.true_eq_false, Bool.false_eq_true, n10, nI_add, pk_mul, pk_sub, nI_clamp, nI_ltI, nI_leI, nI_eq, m_processorAt, r4, q0]
    · have e : sBy (I 150) nc (I 151) c = none := by unfold sBy; rw [if_neg q0]
      rw [e]; exact JF.rf I
end MD
