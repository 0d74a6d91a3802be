/-! the reference: keeps, undo -/
def c3 (cs : Nat) : Nat := if cs = 4 then 3 else cs
def sW1 (wz : Nat → Int32) (cs : Nat) : Nat → Int32 := if cs = 4 then (fun k => if k < 3954 then wz (k + 1318) else wz k) else wz
/-- the rows of what was, with f kept as the latest -/
def sW (wz f : Nat → Int32) (cs : Nat) : Nat → Int32 := fun k => if 1318 * c3 cs ≤ k ∧ k < 1318 * c3 cs + 1318 then f (k - 1318 * c3 cs) else sW1 wz cs k
def kI (I : am_I) (cs : Nat) : am_I := st (st I 153 (sW (I 153) (I 151) cs)) 147 (uf (I 147) 8 (nI (c3 cs + 1)))
theorem st_sw (I : am_I) {a b : Nat} (f g : Nat → Int32) (h : a ≠ b) : st (st I a f) b g = st (st I b g) a f := by
  funext c; unfold st
  by_cases h1 : c = b
  · subst h1; simp [Ne.symm h]
  · by_cases h2 : c = a
    · subst h2; simp [h1]
    · simp [h1, h2]
section MK1
variable (I : am_I) (R : am_R) (K : am_K)
theorem m_keeps1 (h : MK R K) (w : Nat → Int32) : ∀ (r k : Nat), k + r = 3954 → ev 117 10 [some (.ref 147), some (.int (nI k))] [] (st I 153 (fun j => if j < k then w (j + 1318) else w j), R, K) = ev 117 39 [some (.ref 147), some (.int (nI 3954))] [] (st I 153 (fun j => if j < 3954 then w (j + 1318) else w j), R, K) := by
  obtain ⟨⟨h1, h2, h3, h4, h5, h6, h7, h8, h9⟩, ⟨g2, g3, g4, g5, g6, g7, g8, g9⟩, r1, r2, r3, r4, r5, r6, r7, r8⟩ := h
  intro r
  induction r with
  | zero =>
    intro k hk
    have hk : k = 3954 := by omega
    subst hk
    simp (disch := first | assumption | omega | exact ixN (by assumption) (by omega) (by omega) | exact ne_10 | exact ne_1000 | exact ne_4) only [s117_10, s117_11, s117_14, ↓reduceIte, eq_self, Option.bind_some, Option.bind_none, Option.toList_some, Option.toList_none, List.cons_append, List.nil_append, am_rf_s, am_rf_n, am_c1_i, am_c1_r, am_c1_n, List.all_cons, List.all_nil, Bool.and_self, Bool.and_true, Bool.true_and, List.length_cons, List.length_nil, Nat.reduceAdd, Nat.reduceSub, Nat.reduceMul, Nat.reduceLeDiff, Nat.reduceLT, Nat.zero_le, Nat.le_refl, ne_10, ne_1000, ne_4, not_false_eq_true, or_true, true_or, Nat.one_ne_zero, Nat.zero_ne_one, Nat.reduceEqDiff, Bool.true_eq_false, Bool.false_eq_true, n10, nI_add, pk_mul, pk_sub, nI_clamp, nI_ltI, nI_leI, nI_eq]
  | succ r ih =>
    intro k hk
    rw [← ih (k + 1) (by omega)]
    have e2 : uf (fun j => if j < k then w (j + 1318) else w j) k (w (k + 1318)) = fun j => if j < k + 1 then w (j + 1318) else w j := by
      funext j
      unfold uf
      by_cases q : j = k
      · subst q; rw [if_pos rfl, if_pos (by omega)]
      · rw [if_neg q]
        dsimp only
        by_cases q2 : j < k
        · rw [if_pos q2, if_pos (by omega)]
        · rw [if_neg q2, if_neg (by omega)]
    rw [s117_10]
    simp (disch := first | assumption | omega | exact ixN (by assumption) (by omega) (by omega) | exact ne_10 | exact ne_1000 | exact ne_4) only [s117_11, s117_14, s117_17, s117_17a, s117_18, s117_21, s117_22, s117_22a, s117_23, s117_26, s117_27, s117_30, s117_31, s117_32, s117_33, s117_36, ↓reduceIte, eq_self, Option.bind_some, Option.bind_none, Option.toList_some, Option.toList_none, List.cons_append, List.nil_append, am_rf_s, am_rf_n, am_c1_i, am_c1_r, am_c1_n, List.all_cons, List.all_nil, Bool.and_self, Bool.and_true, Bool.true_and, List.length_cons, List.length_nil, Nat.reduceAdd, Nat.reduceSub, Nat.reduceMul, Nat.reduceLeDiff, Nat.reduceLT, Nat.zero_le, Nat.le_refl, ne_10, ne_1000, ne_4, not_false_eq_true, or_true, true_or, Nat.one_ne_zero, Nat.zero_ne_one, Nat.reduceEqDiff, Bool.true_eq_false, Bool.false_eq_true, n10, nI_add, pk_mul, pk_sub, nI_clamp, nI_ltI, nI_leI, nI_eq, ui_st, st_st, st_eq, st_ne, uf_eq, uf_ne, r6, show ¬ 3954 ≤ k by omega]
    rw [if_neg (by omega), e2]
theorem m_keeps2 (h : MK R K) (w f : Nat → Int32) (c : Nat) (hc : c ≤ 3) (hc8 : I 147 8 = nI c) (hf : I 151 = f) : ∀ (r k : Nat), k + r = 1318 → ev 117 51 [some (.ref 147), some (.int (nI k))] [] (st I 153 (fun j => if 1318 * c ≤ j ∧ j < 1318 * c + k then f (j - 1318 * c) else w j), R, K) = ev 117 85 [some (.ref 147), some (.int (nI 1318))] [] (st I 153 (fun j => if 1318 * c ≤ j ∧ j < 1318 * c + 1318 then f (j - 1318 * c) else w j), R, K) := by
  obtain ⟨⟨h1, h2, h3, h4, h5, h6, h7, h8, h9⟩, ⟨g2, g3, g4, g5, g6, g7, g8, g9⟩, r1, r2, r3, r4, r5, r6, r7, r8⟩ := h
  intro r
  induction r with
  | zero =>
    intro k hk
    have hk : k = 1318 := by omega
    subst hk
    simp (disch := first | assumption | omega | exact ixN (by assumption) (by omega) (by omega) | exact ne_10 | exact ne_1000 | exact ne_4) only [s117_51, s117_52, s117_55, ↓reduceIte, eq_self, Option.bind_some, Option.bind_none, Option.toList_some, Option.toList_none, List.cons_append, List.nil_append, am_rf_s, am_rf_n, am_c1_i, am_c1_r, am_c1_n, List.all_cons, List.all_nil, Bool.and_self, Bool.and_true, Bool.true_and, List.length_cons, List.length_nil, Nat.reduceAdd, Nat.reduceSub, Nat.reduceMul, Nat.reduceLeDiff, Nat.reduceLT, Nat.zero_le, Nat.le_refl, ne_10, ne_1000, ne_4, not_false_eq_true, or_true, true_or, Nat.one_ne_zero, Nat.zero_ne_one, Nat.reduceEqDiff, Bool.true_eq_false, Bool.false_eq_true, n10, nI_add, pk_mul, pk_sub, nI_clamp, nI_ltI, nI_leI, nI_eq]
  | succ r ih =>
    intro k hk
    rw [← ih (k + 1) (by omega)]
    have e2 : uf (fun j => if 1318 * c ≤ j ∧ j < 1318 * c + k then f (j - 1318 * c) else w j) (1318 * c + k) (f k) = fun j => if 1318 * c ≤ j ∧ j < 1318 * c + (k + 1) then f (j - 1318 * c) else w j := by
      funext j
      unfold uf
      by_cases q : j = 1318 * c + k
      · subst q; rw [if_pos rfl, if_pos (by omega)]; congr 1; omega
      · rw [if_neg q]
        dsimp only
        by_cases q2 : 1318 * c ≤ j ∧ j < 1318 * c + k
        · rw [if_pos q2, if_pos (by omega)]
        · rw [if_neg q2, if_neg (by omega)]
    rw [s117_51]
    simp (disch := first | assumption | omega | exact ixN (by assumption) (by omega) (by omega) | exact ne_10 | exact ne_1000 | exact ne_4) only [s117_52, s117_55, s117_58, s117_58a, s117_59, s117_62, s117_65, s117_65a, s117_66, s117_69, s117_70, s117_71, s117_72, s117_72a, s117_73, s117_76, s117_77, s117_78, s117_79, s117_82, ↓reduceIte, eq_self, Option.bind_some, Option.bind_none, Option.toList_some, Option.toList_none, List.cons_append, List.nil_append, am_rf_s, am_rf_n, am_c1_i, am_c1_r, am_c1_n, List.all_cons, List.all_nil, Bool.and_self, Bool.and_true, Bool.true_and, List.length_cons, List.length_nil, Nat.reduceAdd, Nat.reduceSub, Nat.reduceMul, Nat.reduceLeDiff, Nat.reduceLT, Nat.zero_le, Nat.le_refl, ne_10, ne_1000, ne_4, not_false_eq_true, or_true, true_or, Nat.one_ne_zero, Nat.zero_ne_one, Nat.reduceEqDiff, Bool.true_eq_false, Bool.false_eq_true, n10, nI_add, pk_mul, pk_sub, nI_clamp, nI_ltI, nI_leI, nI_eq, ui_st, st_st, st_eq, st_ne, uf_eq, uf_ne, r6, r4, hc8, hf, show ¬ 1318 ≤ k by omega, e2]
theorem m_keeps (h : MK R K) (cs : Nat) (hcs : cs ≤ 4) (h8' : I 147 8 = nI cs) : ev 117 0 [some (.ref 147), none] [] (I, R, K) = some (none, (kI I cs, R, K)) := by
  have hMK := h
  obtain ⟨⟨h1, h2, h3, h4, h5, h6, h7, h8, h9⟩, ⟨g2, g3, g4, g5, g6, g7, g8, g9⟩, r1, r2, r3, r4, r5, r6, r7, r8⟩ := h
  have back : ∀ (J : am_I) (c : Nat), c ≤ 3 → J 147 8 = nI c → ∀ l : Option Value, ev 117 49 [some (.ref 147), l] [] (J, R, K) = some (none, (st (st J 153 (fun j => if 1318 * c ≤ j ∧ j < 1318 * c + 1318 then J 151 (j - 1318 * c) else J 153 j)) 147 (uf (J 147) 8 (nI (c + 1))), R, K)) := by
    intro J c hc hJ l
    have e0 : J = st J 153 (fun j => if 1318 * c ≤ j ∧ j < 1318 * c + 0 then J 151 (j - 1318 * c) else J 153 j) := by
      have : (fun j => if 1318 * c ≤ j ∧ j < 1318 * c + 0 then J 151 (j - 1318 * c) else J 153 j) = J 153 := by
        funext j; rw [if_neg (by omega)]
      rw [this, st_id]
    have e1 := m_keeps2 J R K hMK (J 153) (J 151) c hc hJ rfl 1318 0 rfl
    rw [← e0] at e1
    simp (disch := first | assumption | omega | exact ixN (by assumption) (by omega) (by omega) | exact ne_10 | exact ne_1000 | exact ne_4) only [s117_49, s117_50, e1]
    simp (disch := first | assumption | omega | exact ixN (by assumption) (by omega) (by omega) | exact ne_10 | exact ne_1000 | exact ne_4) only [s117_85, s117_85a, s117_86, s117_87, s117_90, s117_91, s117_92, s117_95, ↓reduceIte, eq_self, Option.bind_some, Option.bind_none, Option.toList_some, Option.toList_none, List.cons_append, List.nil_append, am_rf_s, am_rf_n, am_c1_i, am_c1_r, am_c1_n, List.all_cons, List.all_nil, Bool.and_self, Bool.and_true, Bool.true_and, List.length_cons, List.length_nil, Nat.reduceAdd, Nat.reduceSub, Nat.reduceMul, Nat.reduceLeDiff, Nat.reduceLT, Nat.zero_le, Nat.le_refl, ne_10, ne_1000, ne_4, not_false_eq_true, or_true, true_or, Nat.one_ne_zero, Nat.zero_ne_one, Nat.reduceEqDiff, Bool.true_eq_false, Bool.false_eq_true, n10, nI_add, pk_mul, pk_sub, nI_clamp, nI_ltI, nI_leI, nI_eq, ui_st, st_st, st_eq, st_ne, uf_eq, uf_ne, hJ]
  unfold kI sW sW1 c3
  by_cases q : cs = 4
  · subst q
    have e0 : I = st I 153 (fun j => if j < 0 then I 153 (j + 1318) else I 153 j) := by
      have : (fun j => if j < 0 then I 153 (j + 1318) else I 153 j) = I 153 := by
        funext j; rw [if_neg (by omega)]
      rw [this, st_id]
    have e1 := m_keeps1 I R K hMK (I 153) 3954 0 rfl
    rw [← e0] at e1
    obtain ⟨w1, hw1⟩ : ∃ w1, w1 = (fun j => if j < 3954 then I 153 (j + 1318) else I 153 j) := ⟨_, rfl⟩
    rw [← hw1] at e1
    have e2 := back (st (st I 153 w1) 147 (uf (I 147) 8 (nI 3))) 3 (by omega) (by rw [st_eq, uf_eq]) (some (.int (nI 3954)))
    simp (disch := first | assumption | omega | exact ixN (by assumption) (by omega) (by omega) | exact ne_10 | exact ne_1000 | exact ne_4) only [s117_0, s117_0a, s117_1, s117_4, s117_5, s117_8, s117_9, ↓reduceIte, eq_self, Option.bind_some, Option.bind_none, Option.toList_some, Option.toList_none, List.cons_append, List.nil_append, am_rf_s, am_rf_n, am_c1_i, am_c1_r, am_c1_n, List.all_cons, List.all_nil, Bool.and_self, Bool.and_true, Bool.true_and, List.length_cons, List.length_nil, Nat.reduceAdd, Nat.reduceSub, Nat.reduceMul, Nat.reduceLeDiff, Nat.reduceLT, Nat.zero_le, Nat.le_refl, ne_10, ne_1000, ne_4, not_false_eq_true, or_true, true_or, Nat.one_ne_zero, Nat.zero_ne_one, Nat.reduceEqDiff, Bool.true_eq_false, Bool.false_eq_true, n10, nI_add, pk_mul, pk_sub, nI_clamp, nI_ltI, nI_leI, nI_eq, h8', e1]
    simp (disch := first | assumption | omega | exact ixN (by assumption) (by omega) (by omega) | exact ne_10 | exact ne_1000 | exact ne_4) only [s117_39, s117_39a, s117_40, s117_41, s117_44, s117_45, s117_46, ↓reduceIte, eq_self, Option.bind_some, Option.bind_none, Option.toList_some, Option.toList_none, List.cons_append, List.nil_append, am_rf_s, am_rf_n, am_c1_i, am_c1_r, am_c1_n, List.all_cons, List.all_nil, Bool.and_self, Bool.and_true, Bool.true_and, List.length_cons, List.length_nil, Nat.reduceAdd, Nat.reduceSub, Nat.reduceMul, Nat.reduceLeDiff, Nat.reduceLT, Nat.zero_le, Nat.le_refl, ne_10, ne_1000, ne_4, not_false_eq_true, or_true, true_or, Nat.one_ne_zero, Nat.zero_ne_one, Nat.reduceEqDiff, Bool.true_eq_false, Bool.false_eq_true, n10, nI_add, pk_mul, pk_sub, nI_clamp, nI_ltI, nI_leI, nI_eq, ui_st, st_st, st_eq, st_ne, uf_eq, uf_ne, h8', e2]
    rw [st_sw (st I 153 w1) _ _ (show 147 ≠ 153 by omega), st_st, st_st]
    have e3 : uf (uf (I 147) 8 (nI 3)) 8 (nI (3 + 1)) = uf (I 147) 8 (nI 4) := by
      funext j; unfold uf; by_cases z : j = 8 <;> simp [z]
    simp [e3, hw1]
  · simp (disch := first | assumption | omega | exact ixN (by assumption) (by omega) (by omega) | exact ne_10 | exact ne_1000 | exact ne_4) only [s117_0, s117_0a, s117_1, s117_4, s117_5, ↓reduceIte, eq_self, Option.bind_some, Option.bind_none, Option.toList_some, Option.toList_none, List.cons_append, List.nil_append, am_rf_s, am_rf_n, am_c1_i, am_c1_r, am_c1_n, List.all_cons, List.all_nil, Bool.and_self, Bool.and_true, Bool.true_and, List.length_cons, List.length_nil, Nat.reduceAdd, Nat.reduceSub, Nat.reduceMul, Nat.reduceLeDiff, Nat.reduceLT, Nat.zero_le, Nat.le_refl, ne_10, ne_1000, ne_4, not_false_eq_true, or_true, true_or, Nat.one_ne_zero, Nat.zero_ne_one, Nat.reduceEqDiff, Bool.true_eq_false, Bool.false_eq_true, n10, nI_add, pk_mul, pk_sub, nI_clamp, nI_ltI, nI_leI, nI_eq, h8', q]
    rw [back I cs (by omega) h8']
theorem m_undo1 (h : MK R K) (w f : Nat → Int32) (c : Nat) (hc : c ≤ 3) (hc8 : I 147 8 = nI c) (hw : I 153 = w) : ∀ (r k : Nat), k + r = 1318 → ev 118 22 [some (.ref 147), some (.int (nI k))] [] (st I 151 (fun j => if j < k then w (1318 * c + j) else f j), R, K) = ev 118 56 [some (.ref 147), some (.int (nI 1318))] [] (st I 151 (fun j => if j < 1318 then w (1318 * c + j) else f j), R, K) := by
  obtain ⟨⟨h1, h2, h3, h4, h5, h6, h7, h8, h9⟩, ⟨g2, g3, g4, g5, g6, g7, g8, g9⟩, r1, r2, r3, r4, r5, r6, r7, r8⟩ := h
  intro r
  induction r with
  | zero =>
    intro k hk
    have hk : k = 1318 := by omega
    subst hk
    simp (disch := first | assumption | omega | exact ixN (by assumption) (by omega) (by omega) | exact ne_10 | exact ne_1000 | exact ne_4) only [s118_22, s118_23, s118_26, ↓reduceIte, eq_self, Option.bind_some, Option.bind_none, Option.toList_some, Option.toList_none, List.cons_append, List.nil_append, am_rf_s, am_rf_n, am_c1_i, am_c1_r, am_c1_n, List.all_cons, List.all_nil, Bool.and_self, Bool.and_true, Bool.true_and, List.length_cons, List.length_nil, Nat.reduceAdd, Nat.reduceSub, Nat.reduceMul, Nat.reduceLeDiff, Nat.reduceLT, Nat.zero_le, Nat.le_refl, ne_10, ne_1000, ne_4, not_false_eq_true, or_true, true_or, Nat.one_ne_zero, Nat.zero_ne_one, Nat.reduceEqDiff, Bool.true_eq_false, Bool.false_eq_true, n10, nI_add, pk_mul, pk_sub, nI_clamp, nI_ltI, nI_leI, nI_eq]
  | succ r ih =>
    intro k hk
    rw [← ih (k + 1) (by omega)]
    have e2 : uf (fun j => if j < k then w (1318 * c + j) else f j) k (w (1318 * c + k)) = fun j => if j < k + 1 then w (1318 * c + j) else f j := by
      funext j
      unfold uf
      by_cases q : j = k
      · subst q; rw [if_pos rfl, if_pos (by omega)]
      · rw [if_neg q]
        dsimp only
        by_cases q2 : j < k
        · rw [if_pos q2, if_pos (by omega)]
        · rw [if_neg q2, if_neg (by omega)]
    rw [s118_22]
    simp (disch := first | assumption | omega | exact ixN (by assumption) (by omega) (by omega) | exact ne_10 | exact ne_1000 | exact ne_4) only [s118_23, s118_26, s118_29, s118_29a, s118_30, s118_33, s118_34, s118_34a, s118_35, s118_38, s118_41, s118_41a, s118_42, s118_45, s118_46, s118_47, s118_48, s118_49, s118_50, s118_53, ↓reduceIte, eq_self, Option.bind_some, Option.bind_none, Option.toList_some, Option.toList_none, List.cons_append, List.nil_append, am_rf_s, am_rf_n, am_c1_i, am_c1_r, am_c1_n, List.all_cons, List.all_nil, Bool.and_self, Bool.and_true, Bool.true_and, List.length_cons, List.length_nil, Nat.reduceAdd, Nat.reduceSub, Nat.reduceMul, Nat.reduceLeDiff, Nat.reduceLT, Nat.zero_le, Nat.le_refl, ne_10, ne_1000, ne_4, not_false_eq_true, or_true, true_or, Nat.one_ne_zero, Nat.zero_ne_one, Nat.reduceEqDiff, Bool.true_eq_false, Bool.false_eq_true, n10, nI_add, pk_mul, pk_sub, nI_clamp, nI_ltI, nI_leI, nI_eq, ui_st, st_st, st_eq, st_ne, uf_eq, uf_ne, r6, r4, hc8, hw, show ¬ 1318 ≤ k by omega, e2]
def sU (wz f : Nat → Int32) (cs : Nat) : Nat → Int32 := fun j => if j < 1318 then wz (1318 * (cs - 1) + j) else f j
theorem m_undo (h : MK R K) (cs : Nat) (hcs : cs ≤ 4) (h8' : I 147 8 = nI cs) : ev 118 0 [some (.ref 147), none] [] (I, R, K) = if cs = 0 then some (some (.int (-2)), (I, R, K)) else some (some (.int (nI (cs - 1))), (st (st I 147 (uf (I 147) 8 (nI (cs - 1)))) 151 (sU (I 153) (I 151) cs), R, K)) := by
  have hMK := h
  obtain ⟨⟨h1, h2, h3, h4, h5, h6, h7, h8, h9⟩, ⟨g2, g3, g4, g5, g6, g7, g8, g9⟩, r1, r2, r3, r4, r5, r6, r7, r8⟩ := h
  by_cases q : cs = 0
  · subst q
    simp (disch := first | assumption | omega | exact ixN (by assumption) (by omega) (by omega) | exact ne_10 | exact ne_1000 | exact ne_4) only [s118_0, s118_0a, s118_1, s118_4, s118_7, s118_9, ↓reduceIte, eq_self, Option.bind_some, Option.bind_none, Option.toList_some, Option.toList_none, List.cons_append, List.nil_append, am_rf_s, am_rf_n, am_c1_i, am_c1_r, am_c1_n, List.all_cons, List.all_nil, Bool.and_self, Bool.and_true, Bool.true_and, List.length_cons, List.length_nil, Nat.reduceAdd, Nat.reduceSub, Nat.reduceMul, Nat.reduceLeDiff, Nat.reduceLT, Nat.zero_le, Nat.le_refl, ne_10, ne_1000, ne_4, not_false_eq_true, or_true, true_or, Nat.one_ne_zero, Nat.zero_ne_one, Nat.reduceEqDiff, Bool.true_eq_false, Bool.false_eq_true, n10, nI_add, pk_mul, pk_sub, nI_clamp, nI_ltI, nI_leI, nI_eq, h8']
  · rw [if_neg q]
    obtain ⟨J, hJ⟩ : ∃ J, J = st I 147 (uf (I 147) 8 (nI (cs - 1))) := ⟨_, rfl⟩
    have j8 : J 147 8 = nI (cs - 1) := by rw [hJ, st_eq, uf_eq]
    have j153 : J 153 = I 153 := by rw [hJ, st_ne _ _ (by omega)]
    have j151 : J 151 = I 151 := by rw [hJ, st_ne _ _ (by omega)]
    have e0 : J = st J 151 (fun j => if j < 0 then I 153 (1318 * (cs - 1) + j) else I 151 j) := by
      have : (fun j => if j < 0 then I 153 (1318 * (cs - 1) + j) else I 151 j) = J 151 := by
        funext j; rw [if_neg (by omega), j151]
      rw [this, st_id]
    have e1 := m_undo1 J R K hMK (I 153) (I 151) (cs - 1) (by omega) j8 j153 1318 0 rfl
    rw [← e0] at e1
    simp (disch := first | assumption | omega | exact ixN (by assumption) (by omega) (by omega) | exact ne_10 | exact ne_1000 | exact ne_4) only [s118_0, s118_0a, s118_1, s118_4, s118_7, s118_9, s118_10, s118_10a, s118_11, s118_12, s118_15, s118_16, s118_17, s118_20, s118_21, ↓reduceIte, eq_self, Option.bind_some, Option.bind_none, Option.toList_some, Option.toList_none, List.cons_append, List.nil_append, am_rf_s, am_rf_n, am_c1_i, am_c1_r, am_c1_n, List.all_cons, List.all_nil, Bool.and_self, Bool.and_true, Bool.true_and, List.length_cons, List.length_nil, Nat.reduceAdd, Nat.reduceSub, Nat.reduceMul, Nat.reduceLeDiff, Nat.reduceLT, Nat.zero_le, Nat.le_refl, ne_10, ne_1000, ne_4, not_false_eq_true, or_true, true_or, Nat.one_ne_zero, Nat.zero_ne_one, Nat.reduceEqDiff, Bool.true_eq_false, Bool.false_eq_true, n10, nI_add, pk_mul, pk_sub, nI_clamp, nI_ltI, nI_leI, nI_eq, ui_st, h8', q, ← hJ, e1]
    have e9 : ∀ g, st J 151 g 147 = J 147 := fun g => st_ne _ _ (by omega)
    simp (disch := first | assumption | omega | exact ixN (by assumption) (by omega) (by omega) | exact ne_10 | exact ne_1000 | exact ne_4) only [s118_56, s118_56a, s118_57, s118_60, ↓reduceIte, eq_self, Option.bind_some, Option.bind_none, Option.toList_some, Option.toList_none, List.cons_append, List.nil_append, am_rf_s, am_rf_n, am_c1_i, am_c1_r, am_c1_n, List.all_cons, List.all_nil, Bool.and_self, Bool.and_true, Bool.true_and, List.length_cons, List.length_nil, Nat.reduceAdd, Nat.reduceSub, Nat.reduceMul, Nat.reduceLeDiff, Nat.reduceLT, Nat.zero_le, Nat.le_refl, ne_10, ne_1000, ne_4, not_false_eq_true, or_true, true_or, Nat.one_ne_zero, Nat.zero_ne_one, Nat.reduceEqDiff, Bool.true_eq_false, Bool.false_eq_true, n10, e9, j8]
    rfl
end MK1
