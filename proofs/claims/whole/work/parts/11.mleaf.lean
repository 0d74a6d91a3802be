/-! the reference: leaves. Its object is at 147: text 148, code 149, begins 150, now 151, aside 152, was 153, readBegins 154, stack 155 -/
theorem ixN {K : am_K} {a k N : Nat} (hl : K.1 a = N) (hk : k < N) (hN : N < 2 ^ 31) : am_ix (nI k) (K.1 a) = true := by
  rw [hl]
  unfold am_ix
  have h1 : ¬ nI k < 0 := nI_pos (by omega)
  rw [nI_clamp (by omega)]
  simp [h1]; omega
theorem bI_0 (b : Bool) : (bI b = nI 0) = (b = false) := by cases b <;> simp [bI]; decide
def MK (R : am_R) (K : am_K) : Prop := (am_isK K 147 10 = true ∧ am_isK K 148 20 = true ∧ am_isK K 149 20 = true ∧ am_isK K 150 21 = true ∧ am_isK K 151 20 = true ∧ am_isK K 152 20 = true ∧ am_isK K 153 20 = true ∧ am_isK K 154 21 = true ∧ am_isK K 155 20 = true) ∧
  (K.1 148 = 200 ∧ K.1 149 = 60 ∧ K.1 150 = 60 ∧ K.1 151 = 1318 ∧ K.1 152 = 1318 ∧ K.1 153 = 5272 ∧ K.1 154 = 200 ∧ K.1 155 = 5) ∧
  (R 147 1 = some 148 ∧ R 147 3 = some 149 ∧ R 147 4 = some 150 ∧ R 147 5 = some 151 ∧ R 147 6 = some 152 ∧ R 147 7 = some 153 ∧ R 147 9 = some 154 ∧ R 147 10 = some 155)
/-- the first of r places from p on -/
def fs (P : Nat → Bool) : Nat → Nat → Option Nat
  | 0, _ => none
  | r + 1, p => if P p then some p else fs P r (p + 1)
def fsI : Option Nat → Int32
  | none => -4
  | some p => nI p
/-- a sum over r places from p on -/
def cu (g : Nat → Int32) : Nat → Nat → Int32 → Int32
  | 0, _, n => n
  | r + 1, p, n => cu g r (p + 1) (n + g p)
def pOn (f : Nat → Int32) (cell : Int32) : Option Nat := fs (fun p => decide (f (70 + 208 * p) < nI 3) && decide (f (72 + 208 * p) = cell)) 6 0
def many (f : Nat → Int32) (how : Int32) : Int32 := cu (fun p => if f (70 + 208 * p) = how then nI 1 else nI 0) 6 0 (nI 0)
section ML
variable (I : am_I) (R : am_R) (K : am_K)
theorem m_processorAt (x : Int32) : ev 119 0 [some (.int x)] [] (I, R, K) = some (some (.int (nI 8 + nI 31 * x)), (I, R, K)) := by
  simp only [s119_0, s119_2, s119_4, s119_5, s119_6, s119_7, ↓reduceIte, eq_self, Option.bind_some, Option.bind_none, Option.toList_some, Option.toList_none, List.cons_append, List.nil_append, am_rf_s, am_rf_n, am_c1_i, am_c1_r, am_c1_n, List.all_cons, List.all_nil, Bool.and_self, Bool.and_true, Bool.true_and, List.length_cons, List.length_nil, Nat.reduceAdd, Nat.reduceLeDiff, Nat.reduceLT, Nat.zero_le, Nat.le_refl, ne_10, ne_1000, ne_4, not_false_eq_true, or_true, true_or]
theorem m_probeAt (x : Int32) : ev 120 0 [some (.int x)] [] (I, R, K) = some (some (.int (nI 70 + nI 208 * x)), (I, R, K)) := by
  simp only [s120_0, s120_2, s120_5, s120_6, s120_7, s120_8, ↓reduceIte, eq_self, Option.bind_some, Option.bind_none, Option.toList_some, Option.toList_none, List.cons_append, List.nil_append, am_rf_s, am_rf_n, am_c1_i, am_c1_r, am_c1_n, List.all_cons, List.all_nil, Bool.and_self, Bool.and_true, Bool.true_and, List.length_cons, List.length_nil, Nat.reduceAdd, Nat.reduceLeDiff, Nat.reduceLT, Nat.zero_le, Nat.le_refl, ne_10, ne_1000, ne_4, not_false_eq_true, or_true, true_or]
theorem m_isProcessor (x : Int32) : ev 138 0 [some (.int x)] [] (I, R, K) = some (some (.int (bI (decide (nI 0 ≤ x) && decide (x ≤ nI 1)))), (I, R, K)) := by
  simp (disch := first | assumption | omega | exact ixN (by assumption) (by omega) (by omega) | exact ne_10 | exact ne_1000 | exact ne_4) only [s138_0, s138_1, s138_2, s138_3, s138_6, s138_6a, s138_6b, s138_6c, c_isIn, ↓reduceIte, eq_self, Option.bind_some, Option.bind_none, Option.toList_some, Option.toList_none, List.cons_append, List.nil_append, am_rf_s, am_rf_n, am_c1_i, am_c1_r, am_c1_n, List.all_cons, List.all_nil, Bool.and_self, Bool.and_true, Bool.true_and, List.length_cons, List.length_nil, Nat.reduceAdd, Nat.reduceLeDiff, Nat.reduceLT, Nat.zero_le, Nat.le_refl, ne_10, ne_1000, ne_4, not_false_eq_true, or_true, true_or]
theorem m_isCell (h : MK R K) (x : Int32) : ev 121 0 [some (.ref 147), some (.int x)] [] (I, R, K) = some (some (.int (bI (decide (nI 0 ≤ x) && decide (x ≤ I 147 2 - nI 1)))), (I, R, K)) := by
  have h1 := h.1.1
  simp (disch := first | assumption | omega | exact ixN (by assumption) (by omega) (by omega) | exact ne_10 | exact ne_1000 | exact ne_4) only [s121_0, s121_1, s121_2, s121_2a, s121_3, s121_6, s121_7, s121_8, s121_11, s121_11a, s121_11b, s121_11c, c_isIn, ↓reduceIte, eq_self, Option.bind_some, Option.bind_none, Option.toList_some, Option.toList_none, List.cons_append, List.nil_append, am_rf_s, am_rf_n, am_c1_i, am_c1_r, am_c1_n, List.all_cons, List.all_nil, Bool.and_self, Bool.and_true, Bool.true_and, List.length_cons, List.length_nil, Nat.reduceAdd, Nat.reduceLeDiff, Nat.reduceLT, Nat.zero_le, Nat.le_refl, ne_10, ne_1000, ne_4, not_false_eq_true, or_true, true_or]
theorem m_probeOn (h : MK R K) (cell : Int32) : ev 124 0 [some (.ref 147), some (.int cell), none] [] (I, R, K) = some (some (.int (fsI (pOn (I 151) cell))), (I, R, K)) := by
  obtain ⟨⟨h1, h2, h3, h4, h5, h6, h7, h8, h9⟩, ⟨g2, g3, g4, g5, g6, g7, g8, g9⟩, r1, r2, r3, r4, r5, r6, r7, r8⟩ := h
  have loop : ∀ r p : Nat, p + r = 6 → ev 124 2 [some (.ref 147), some (.int cell), some (.int (nI p))] [] (I, R, K) = some (some (.int (fsI (fs (fun p => decide (I 151 (70 + 208 * p) < nI 3) && decide (I 151 (72 + 208 * p) = cell)) r p))), (I, R, K)) := by
    intro r
    induction r with
    | zero =>
      intro p hp
      have hp : p = 6 := by omega
      subst hp
      simp (disch := first | assumption | omega | exact ixN (by assumption) (by omega) (by omega) | exact ne_10 | exact ne_1000 | exact ne_4) only [s124_0, s124_1, s124_2, s124_3, s124_5, s124_8, s124_8a, s124_9, s124_12, s124_13, s124_16, s124_17, s124_18, s124_21, s124_21a, s124_22, s124_25, s124_26, s124_29, s124_30, s124_31, s124_32, s124_33, s124_36, s124_37, s124_38, s124_41, s124_44, s124_46, ↓reduceIte, eq_self, Option.bind_some, Option.bind_none, Option.toList_some, Option.toList_none, List.cons_append, List.nil_append, am_rf_s, am_rf_n, am_c1_i, am_c1_r, am_c1_n, List.all_cons, List.all_nil, Bool.and_self, Bool.and_true, Bool.true_and, List.length_cons, List.length_nil, Nat.reduceAdd, Nat.reduceLeDiff, Nat.reduceLT, Nat.zero_le, Nat.le_refl, ne_10, ne_1000, ne_4, not_false_eq_true, or_true, true_or, nI_add, pk_mul, pk_sub, nI_clamp, nI_ltI, nI_leI, nI_eq, fs, fsI]
    | succ r ih =>
      intro p hp
      have e : 70 + 208 * p + 2 = 72 + 208 * p := by omega
      by_cases c1 : I 151 (70 + 208 * p) < nI 3
      · by_cases c2 : I 151 (72 + 208 * p) = cell
        · simp (disch := first | assumption | omega | exact ixN (by assumption) (by omega) (by omega) | exact ne_10 | exact ne_1000 | exact ne_4) only [s124_0, s124_1, s124_2, s124_3, s124_5, s124_8, s124_8a, s124_9, s124_12, s124_13, s124_16, s124_17, s124_18, s124_21, s124_21a, s124_22, s124_25, s124_26, s124_29, s124_30, s124_31, s124_32, s124_33, s124_36, s124_37, s124_38, s124_41, s124_44, s124_46, ↓reduceIte, eq_self, Option.bind_some, Option.bind_none, Option.toList_some, Option.toList_none, List.cons_append, List.nil_append, am_rf_s, am_rf_n, am_c1_i, am_c1_r, am_c1_n, List.all_cons, List.all_nil, Bool.and_self, Bool.and_true, Bool.true_and, List.length_cons, List.length_nil, Nat.reduceAdd, Nat.reduceLeDiff, Nat.reduceLT, Nat.zero_le, Nat.le_refl, ne_10, ne_1000, ne_4, not_false_eq_true, or_true, true_or, nI_add, pk_mul, pk_sub, nI_clamp, nI_ltI, nI_leI, nI_eq, r4, m_probeAt, fs, e, c1, c2]
          simp [c1, c2, fsI, show ¬ 6 ≤ p by omega, Int32.not_le.mpr c1]
        · simp (disch := first | assumption | omega | exact ixN (by assumption) (by omega) (by omega) | exact ne_10 | exact ne_1000 | exact ne_4) only [s124_0, s124_1, s124_2, s124_3, s124_5, s124_8, s124_8a, s124_9, s124_12, s124_13, s124_16, s124_17, s124_18, s124_21, s124_21a, s124_22, s124_25, s124_26, s124_29, s124_30, s124_31, s124_32, s124_33, s124_36, s124_37, s124_38, s124_41, s124_44, s124_46, ↓reduceIte, eq_self, Option.bind_some, Option.bind_none, Option.toList_some, Option.toList_none, List.cons_append, List.nil_append, am_rf_s, am_rf_n, am_c1_i, am_c1_r, am_c1_n, List.all_cons, List.all_nil, Bool.and_self, Bool.and_true, Bool.true_and, List.length_cons, List.length_nil, Nat.reduceAdd, Nat.reduceLeDiff, Nat.reduceLT, Nat.zero_le, Nat.le_refl, ne_10, ne_1000, ne_4, not_false_eq_true, or_true, true_or, nI_add, pk_mul, pk_sub, nI_clamp, nI_ltI, nI_leI, nI_eq, r4, m_probeAt, fs, e, c1, c2, ih (p + 1) (by omega)]
          simp [c1, c2, show ¬ 6 ≤ p by omega, Int32.not_le.mpr c1]
      · simp (disch := first | assumption | omega | exact ixN (by assumption) (by omega) (by omega) | exact ne_10 | exact ne_1000 | exact ne_4) only [s124_0, s124_1, s124_2, s124_3, s124_5, s124_8, s124_8a, s124_9, s124_12, s124_13, s124_16, s124_17, s124_18, s124_21, s124_21a, s124_22, s124_25, s124_26, s124_29, s124_30, s124_31, s124_32, s124_33, s124_36, s124_37, s124_38, s124_41, s124_44, s124_46, ↓reduceIte, eq_self, Option.bind_some, Option.bind_none, Option.toList_some, Option.toList_none, List.cons_append, List.nil_append, am_rf_s, am_rf_n, am_c1_i, am_c1_r, am_c1_n, List.all_cons, List.all_nil, Bool.and_self, Bool.and_true, Bool.true_and, List.length_cons, List.length_nil, Nat.reduceAdd, Nat.reduceLeDiff, Nat.reduceLT, Nat.zero_le, Nat.le_refl, ne_10, ne_1000, ne_4, not_false_eq_true, or_true, true_or, nI_add, pk_mul, pk_sub, nI_clamp, nI_ltI, nI_leI, nI_eq, r4, m_probeAt, fs, e, c1, ih (p + 1) (by omega)]
        simp [c1, show ¬ 6 ≤ p by omega, Int32.not_lt.mp c1]
  simp only [s124_0, s124_1, loop 6 0 rfl]
  rfl
end ML
