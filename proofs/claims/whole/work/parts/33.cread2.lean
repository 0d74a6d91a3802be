/-! the class: Code.firstAstray, Code.readFrom -/
def rdn (tx : Nat → Int32) (n : Nat) : Nat → Nat → Nat
  | 0, _ => 0
  | r + 1, i => if n ≤ i then 0 else if wd tx n i = 0 ∨ 60 < i + wd tx n i then 0 else 1 + rdn tx n r (i + wd tx n i)
theorem rdn_le (tx : Nat → Int32) (n : Nat) : ∀ r i, rdn tx n r i ≤ r
  | 0, _ => Nat.le_refl _
  | r + 1, i => by
    unfold rdn
    split
    · omega
    · split
      · omega
      · have := rdn_le tx n r (i + wd tx n i); omega
theorem fg_dig {tx : Nat → Int32} {n i a : Nat} (h : tx i = nI (48 + a)) (ha : a ≤ 9) (hi : i < n) : fgI (tN tx n i) = nI a := by
  have e : tN tx n i = nI (48 + a) := by unfold tN; rw [if_pos hi]; exact h
  rw [e]
  unfold fgI
  rw [if_neg (by rw [nI_ltI (by omega) (by omega)]; omega), if_neg (by rw [nI_ltI (by omega) (by omega)]; omega), pk_sub (by omega)]
  congr 1; omega
section CS
variable (R : am_R) (K : am_K) (q ta td m n : Nat) (tx : Nat → Int32)
theorem c_firstAstray (I : am_I) (h : CL R K q) (hn : n ≤ 60) (hC : RT I R K (q + 1) (q + 2) 60 n tx) (b : Nat → Bool) (hb : RB6 (I (q + 3)) b) (hbw : ∀ k, b k = true → ¬ wd tx n k = 0 ∧ k < n) : ev 3 0 [some (.ref q), none, none] [] (I, R, K) = some (some (.int (fsI (rd2 tx n b))), (I, R, K)) := by
  have hCL := h
  obtain ⟨h1, h2, h3, h4, h5, h6, h7, h8, h9⟩ := h
  have t5 := hC.2.2.2.2.1
  have bA1 : ∀ k, k < 1000 → bA n b (nI k) = b k := by
    intro k hk
    unfold bA
    rw [hs_nI (by omega) (by omega), nI_clamp (by omega)]
    cases z : b k with
    | false => simp
    | true => have := (hbw k z).2; simp [this]
  have loop : ∀ (r k : Nat), k + r = n → ∀ l2, ev 3 2 [some (.ref q), some (.int (nI k)), l2] [] (I, R, K) = some (some (.int (fsI (fs (fun k => b k && decide (wd tx n k = 3) && !b (nt (dig2 tx k))) r k))), (I, R, K)) := by
    intro r
    induction r with
    | zero =>
      intro k hk l2
      have hk : k = n := by omega
      subst hk
      simp (disch := first | assumption | omega | exact ixN (by assumption) (by omega) (by omega) | exact ne_10 | exact ne_1000 | exact ne_4) only [s3_2, s3_3, s3_3a, s3_4, s3_7, s3_10, s3_63, s3_65, ↓reduceIte, eq_self, Option.bind_some, Option.bind_none, Option.toList_some, Option.toList_none, List.cons_append, List.nil_append, am_rf_s, am_rf_n, am_c1_i, am_c1_r, am_c1_n, List.all_cons, List.all_nil, Bool.and_self, Bool.and_true, Bool.true_and, List.length_cons, List.length_nil, Nat.reduceAdd, Nat.reduceSub, Nat.reduceMul, Nat.reduceLeDiff, Nat.reduceLT, Nat.zero_le, Nat.le_refl, ne_10, ne_1000, ne_4, not_false_eq_true, or_true, true_or, Nat.one_ne_zero, Nat.zero_ne_one, Nat.reduceEqDiff, Bool.true_eq_false, Bool.false_eq_true, n10, nI_leI, h5, t5, fs, fsI]
    | succ r ih =>
      intro k hk l2
      unfold fs
      have q0 : ¬ n ≤ k := by omega
      have be := c_beginsAt I R K q n tx b hCL hC hb (nI k)
      rw [bA1 k (by omega)] at be
      have le := c_letterAt I R K q n tx hCL hC k (by omega)
      have et : tN tx n k = tx k := by unfold tN; rw [if_pos (by omega)]
      rw [et] at le
      have ww := c_widthOf I R K (tx k)
      have w3 := wO_le (tx k)
      rw [s3_2]
      cases q1 : b k with
      | false =>
        rw [q1] at be
        simp (disch := first | assumption | omega | exact ixN (by assumption) (by omega) (by omega) | exact ne_10 | exact ne_1000 | exact ne_4) only [s3_3, s3_3a, s3_4, s3_7, s3_10, s3_13, s3_13a, s3_14, s3_15, s3_18, s3_21, s3_21a, s3_22, s3_23, s3_26, s3_29, s3_30, s3_33, s3_34, s3_37, s3_38, s3_39, s3_40, s3_43, s3_43a, s3_44, s3_44a, s3_45, s3_46, s3_49, s3_52, s3_55, s3_56, s3_57, s3_60, ↓reduceIte, eq_self, Option.bind_some, Option.bind_none, Option.toList_some, Option.toList_none, List.cons_append, List.nil_append, am_rf_s, am_rf_n, am_c1_i, am_c1_r, am_c1_n, List.all_cons, List.all_nil, Bool.and_self, Bool.and_true, Bool.true_and, List.length_cons, List.length_nil, Nat.reduceAdd, Nat.reduceSub, Nat.reduceMul, Nat.reduceLeDiff, Nat.reduceLT, Nat.zero_le, Nat.le_refl, ne_10, ne_1000, ne_4, not_false_eq_true, or_true, true_or, Nat.one_ne_zero, Nat.zero_ne_one, Nat.reduceEqDiff, Bool.true_eq_false, Bool.false_eq_true, n10, nI_leI, nI_add, h5, t5, q0, be, bI_f, ih (k + 1) (by omega), Bool.false_and]
      | true =>
        rw [q1] at be
        have hw := (hbw k q1).1
        by_cases q2 : wd tx n k = 3
        · have wo : wO (tx k) = 3 := by
            rw [wO_wd] at q2
            by_cases z : wO (tx k) = 3
            · exact z
            · rw [if_neg z] at q2
              split at q2
              · split at q2 <;> omega
              · exact q2
          obtain ⟨-, hk2, a, c, ha, hc, ha2, hc2⟩ := wd_3 q2
          have dg := dig2_eq ha2 hc2
          have e9 : nt (dig2 tx k) = 10 * a + c := by rw [dg]; exact nt_nI (by omega)
          have nu := c_numberAt I R K q n tx hCL hC k (by omega)
          have f1 : fgI (tN tx n (k + 1)) = nI a := fg_dig ha2 (by omega) (by omega)
          have f2 : fgI (tN tx n (k + 2)) = nI c := fg_dig hc2 (by omega) (by omega)
          have en : nmI tx n k = nI (10 * a + c) := by
            unfold nmI
            rw [et, wo, if_neg (by omega), if_pos rfl, f1, f2, pk_mul, nI_add]
          rw [en] at nu
          have b2 := c_beginsAt I R K q n tx b hCL hC hb (nI (10 * a + c))
          rw [bA1 _ (by omega)] at b2
          rw [e9]
          rw [wo] at ww
          cases q3 : b (10 * a + c) with
          | false =>
            rw [q3] at b2
            simp (disch := first | assumption | omega | exact ixN (by assumption) (by omega) (by omega) | exact ne_10 | exact ne_1000 | exact ne_4) only [s3_3, s3_3a, s3_4, s3_7, s3_10, s3_13, s3_13a, s3_14, s3_15, s3_18, s3_21, s3_21a, s3_22, s3_23, s3_26, s3_29, s3_30, s3_33, s3_34, s3_37, s3_38, s3_39, s3_40, s3_43, s3_43a, s3_44, s3_44a, s3_45, s3_46, s3_49, s3_52, s3_55, s3_56, s3_57, s3_60, ↓reduceIte, eq_self, Option.bind_some, Option.bind_none, Option.toList_some, Option.toList_none, List.cons_append, List.nil_append, am_rf_s, am_rf_n, am_c1_i, am_c1_r, am_c1_n, List.all_cons, List.all_nil, Bool.and_self, Bool.and_true, Bool.true_and, List.length_cons, List.length_nil, Nat.reduceAdd, Nat.reduceSub, Nat.reduceMul, Nat.reduceLeDiff, Nat.reduceLT, Nat.zero_le, Nat.le_refl, ne_10, ne_1000, ne_4, not_false_eq_true, or_true, true_or, Nat.one_ne_zero, Nat.zero_ne_one, Nat.reduceEqDiff, Bool.true_eq_false, Bool.false_eq_true, n10, nI_leI, nI_add, nI_eq, h5, t5, q0, be, bI_t, bI_f, le, ww, nu, b2, q2, decide_true, Bool.not_false, fsI]
          | true =>
            rw [q3] at b2
            simp (disch := first | assumption | omega | exact ixN (by assumption) (by omega) (by omega) | exact ne_10 | exact ne_1000 | exact ne_4) only [s3_3, s3_3a, s3_4, s3_7, s3_10, s3_13, s3_13a, s3_14, s3_15, s3_18, s3_21, s3_21a, s3_22, s3_23, s3_26, s3_29, s3_30, s3_33, s3_34, s3_37, s3_38, s3_39, s3_40, s3_43, s3_43a, s3_44, s3_44a, s3_45, s3_46, s3_49, s3_52, s3_55, s3_56, s3_57, s3_60, ↓reduceIte, eq_self, Option.bind_some, Option.bind_none, Option.toList_some, Option.toList_none, List.cons_append, List.nil_append, am_rf_s, am_rf_n, am_c1_i, am_c1_r, am_c1_n, List.all_cons, List.all_nil, Bool.and_self, Bool.and_true, Bool.true_and, List.length_cons, List.length_nil, Nat.reduceAdd, Nat.reduceSub, Nat.reduceMul, Nat.reduceLeDiff, Nat.reduceLT, Nat.zero_le, Nat.le_refl, ne_10, ne_1000, ne_4, not_false_eq_true, or_true, true_or, Nat.one_ne_zero, Nat.zero_ne_one, Nat.reduceEqDiff, Bool.true_eq_false, Bool.false_eq_true, n10, nI_leI, nI_add, nI_eq, h5, t5, q0, be, bI_t, le, ww, nu, b2, q2, decide_true, Bool.not_true, Bool.and_false, ih (k + 1) (by omega)]
        · have wo : ¬ wO (tx k) = 3 := by
            intro z
            rw [wO_wd, if_pos z] at q2 hw
            split at q2
            · exact q2 rfl
            · rename_i z2; rw [if_neg z2] at hw; exact hw rfl
          have wo' : ¬ nI (wO (tx k)) = nI 3 := by rw [nI_eq (by omega) (by omega)]; exact wo
          simp (disch := first | assumption | omega | exact ixN (by assumption) (by omega) (by omega) | exact ne_10 | exact ne_1000 | exact ne_4) only [s3_3, s3_3a, s3_4, s3_7, s3_10, s3_13, s3_13a, s3_14, s3_15, s3_18, s3_21, s3_21a, s3_22, s3_23, s3_26, s3_29, s3_30, s3_33, s3_34, s3_37, s3_38, s3_39, s3_40, s3_43, s3_43a, s3_44, s3_44a, s3_45, s3_46, s3_49, s3_52, s3_55, s3_56, s3_57, s3_60, ↓reduceIte, eq_self, Option.bind_some, Option.bind_none, Option.toList_some, Option.toList_none, List.cons_append, List.nil_append, am_rf_s, am_rf_n, am_c1_i, am_c1_r, am_c1_n, List.all_cons, List.all_nil, Bool.and_self, Bool.and_true, Bool.true_and, List.length_cons, List.length_nil, Nat.reduceAdd, Nat.reduceSub, Nat.reduceMul, Nat.reduceLeDiff, Nat.reduceLT, Nat.zero_le, Nat.le_refl, ne_10, ne_1000, ne_4, not_false_eq_true, or_true, true_or, Nat.one_ne_zero, Nat.zero_ne_one, Nat.reduceEqDiff, Bool.true_eq_false, Bool.false_eq_true, n10, nI_leI, nI_add, h5, t5, q0, be, bI_t, le, ww, wo', q2, decide_false, Bool.and_false, Bool.false_and, ih (k + 1) (by omega)]
  simp (disch := first | assumption | omega | exact ixN (by assumption) (by omega) (by omega) | exact ne_10 | exact ne_1000 | exact ne_4) only [s3_0, s3_1, loop n 0 (by omega)]
  rfl
theorem c_rclr (I : am_I) (h : CL R K q) (g : Nat → Int32) (l1 l3 : Option Value) : ∀ (r k : Nat), k + r = 60 → ev 1 9 [some (.ref q), l1, some (.int (nI k)), l3] [] (st I (q + 3) (fun j => if j < k then nI 0 else g j), R, K) = ev 1 31 [some (.ref q), l1, some (.int (nI 60)), l3] [] (st I (q + 3) (fun j => if j < 60 then nI 0 else g j), R, K) := by
  obtain ⟨h1, h2, h3, h4, h5, h6, h7, h8, h9⟩ := h
  intro r
  induction r with
  | zero =>
    intro k hk
    have hk : k = 60 := by omega
    subst hk
    simp (disch := first | assumption | omega | exact ixN (by assumption) (by omega) (by omega) | exact ne_10 | exact ne_1000 | exact ne_4) only [s1_9, s1_10, s1_10a, s1_11, s1_14, s1_14a, s1_14b, s1_14c, s1_15, ↓reduceIte, eq_self, Option.bind_some, Option.bind_none, Option.toList_some, Option.toList_none, List.cons_append, List.nil_append, am_rf_s, am_rf_n, am_c1_i, am_c1_r, am_c1_n, List.all_cons, List.all_nil, Bool.and_self, Bool.and_true, Bool.true_and, List.length_cons, List.length_nil, Nat.reduceAdd, Nat.reduceSub, Nat.reduceMul, Nat.reduceLeDiff, Nat.reduceLT, Nat.zero_le, Nat.le_refl, ne_10, ne_1000, ne_4, not_false_eq_true, or_true, true_or, Nat.one_ne_zero, Nat.zero_ne_one, Nat.reduceEqDiff, Bool.true_eq_false, Bool.false_eq_true, n10, nI_leI, h7, h9]
  | succ r ih =>
    intro k hk
    rw [← ih (k + 1) (by omega)]
    have e2 : uf (fun j => if j < k then nI 0 else g j) k (nI 0) = fun j => if j < k + 1 then nI 0 else g j := by
      funext j
      unfold uf
      by_cases z : j = k
      · subst z; rw [if_pos rfl, if_pos (by omega)]
      · rw [if_neg z]
        dsimp only
        by_cases z2 : j < k
        · rw [if_pos z2, if_pos (by omega)]
        · rw [if_neg z2, if_neg (by omega)]
    rw [s1_9]
    simp (disch := first | assumption | omega | exact ixN (by assumption) (by omega) (by omega) | exact ne_10 | exact ne_1000 | exact ne_4) only [s1_10, s1_10a, s1_11, s1_14, s1_14a, s1_14b, s1_14c, s1_15, s1_18, s1_18a, s1_19, s1_22, s1_23, s1_24, s1_25, s1_28, ↓reduceIte, eq_self, Option.bind_some, Option.bind_none, Option.toList_some, Option.toList_none, List.cons_append, List.nil_append, am_rf_s, am_rf_n, am_c1_i, am_c1_r, am_c1_n, List.all_cons, List.all_nil, Bool.and_self, Bool.and_true, Bool.true_and, List.length_cons, List.length_nil, Nat.reduceAdd, Nat.reduceSub, Nat.reduceMul, Nat.reduceLeDiff, Nat.reduceLT, Nat.zero_le, Nat.le_refl, ne_10, ne_1000, ne_4, not_false_eq_true, or_true, true_or, Nat.one_ne_zero, Nat.zero_ne_one, Nat.reduceEqDiff, Bool.true_eq_false, Bool.false_eq_true, n10, nI_add, nI_clamp, nI_leI, ui_st, st_st, st_eq, st_ne, uf_eq, uf_ne, h7, h9, show ¬ 60 ≤ k by omega, e2]
theorem c_rd1 (h : CL R K q) (hta : ta < q ∨ q + 3 < ta) (htd : td < q ∨ q + 3 < td) : ∀ (r i : Nat) (I : am_I) (b : Nat → Bool) (k : Nat), n ≤ i + r → i ≤ n → i ≤ 60 → RT I R K ta td m n tx → RT I R K (q + 1) (q + 2) 60 i tx → RB6 (I (q + 3)) b → I q 2 = nI k → ∀ l3, ∃ I' l3', FQ q I I' ∧ (match (rd1 tx n r i b).1 with
    | some p => ev 1 38 [some (.ref q), some (.ref ta), some (.int (nI i)), l3] [] (I, R, K) = some (some (.int (nI p)), (I', R, K))
    | none => ev 1 38 [some (.ref q), some (.ref ta), some (.int (nI i)), l3] [] (I, R, K) = ev 1 80 [some (.ref q), some (.ref ta), some (.int (nI n)), l3'] [] (I', R, K) ∧ RT I' R K (q + 1) (q + 2) 60 n tx ∧ RB6 (I' (q + 3)) (rd1 tx n r i b).2 ∧ I' q 2 = nI (k + rdn tx n r i)) := by
  have hCL := h
  obtain ⟨h1, h2, h3, h4, h5, h6, h7, h8, h9⟩ := h
  intro r
  induction r with
  | zero =>
    intro i I b k hi hin h60 hT hC hb hk l3
    have hi : i = n := by omega
    subst hi
    have t1 := hT.1
    have t5 := hT.2.2.2.2.1
    have t6 := hT.2.2.2.2.2.1
    have t7 := hT.2.2.2.2.2.2.1
    refine ⟨I, l3, FQ.rf q I, ?_, hC, hb, hk⟩
    simp (disch := first | assumption | omega | exact ixN (by assumption) (by omega) (by omega) | exact ne_10 | exact ne_1000 | exact ne_4) only [s1_38, s1_39, s1_39a, s1_40, s1_43, ↓reduceIte, eq_self, Option.bind_some, Option.bind_none, Option.toList_some, Option.toList_none, List.cons_append, List.nil_append, am_rf_s, am_rf_n, am_c1_i, am_c1_r, am_c1_n, List.all_cons, List.all_nil, Bool.and_self, Bool.and_true, Bool.true_and, List.length_cons, List.length_nil, Nat.reduceAdd, Nat.reduceSub, Nat.reduceMul, Nat.reduceLeDiff, Nat.reduceLT, Nat.zero_le, Nat.le_refl, ne_10, ne_1000, ne_4, not_false_eq_true, or_true, true_or, Nat.one_ne_zero, Nat.zero_ne_one, Nat.reduceEqDiff, Bool.true_eq_false, Bool.false_eq_true, n10, nI_leI, t5]
  | succ r ih =>
    intro i I b k hi hin h60 hT hC hb hk l3
    have t1 := hT.1
    have t5 := hT.2.2.2.2.1
    have t6 := hT.2.2.2.2.2.1
    have t7 := hT.2.2.2.2.2.2.1
    unfold rd1 rdn
    by_cases q0 : n ≤ i
    · have hi : i = n := by omega
      subst hi
      rw [if_pos (Nat.le_refl _), if_pos (Nat.le_refl _)]
      refine ⟨I, l3, FQ.rf q I, ?_, hC, hb, hk⟩
      simp (disch := first | assumption | omega | exact ixN (by assumption) (by omega) (by omega) | exact ne_10 | exact ne_1000 | exact ne_4) only [s1_38, s1_39, s1_39a, s1_40, s1_43, ↓reduceIte, eq_self, Option.bind_some, Option.bind_none, Option.toList_some, Option.toList_none, List.cons_append, List.nil_append, am_rf_s, am_rf_n, am_c1_i, am_c1_r, am_c1_n, List.all_cons, List.all_nil, Bool.and_self, Bool.and_true, Bool.true_and, List.length_cons, List.length_nil, Nat.reduceAdd, Nat.reduceSub, Nat.reduceMul, Nat.reduceLeDiff, Nat.reduceLT, Nat.zero_le, Nat.le_refl, ne_10, ne_1000, ne_4, not_false_eq_true, or_true, true_or, Nat.one_ne_zero, Nat.zero_ne_one, Nat.reduceEqDiff, Bool.true_eq_false, Bool.false_eq_true, n10, nI_leI, t5]
    · rw [if_neg q0, if_neg q0]
      have ww := c_widthAt I R K ta td m n tx hT i (by omega)
      have w3 := wd_le tx n i
      have wn := wd_in (tx := tx) (n := n) (i := i) (by omega)
      by_cases q1 : wd tx n i = 0
      · rw [if_pos (Or.inl q1)]
        rw [q1] at ww
        refine ⟨I, l3, FQ.rf q I, ?_⟩
        simp (disch := first | assumption | omega | exact ixN (by assumption) (by omega) (by omega) | exact ne_10 | exact ne_1000 | exact ne_4) only [s1_38, s1_39, s1_39a, s1_40, s1_43, s1_46, s1_46a, s1_47, s1_48, s1_51, s1_52, s1_53, s1_56, s1_57, s1_58, s1_59, s1_61, s1_64, s1_65, ↓reduceIte, eq_self, Option.bind_some, Option.bind_none, Option.toList_some, Option.toList_none, List.cons_append, List.nil_append, am_rf_s, am_rf_n, am_c1_i, am_c1_r, am_c1_n, List.all_cons, List.all_nil, Bool.and_self, Bool.and_true, Bool.true_and, List.length_cons, List.length_nil, Nat.reduceAdd, Nat.reduceSub, Nat.reduceMul, Nat.reduceLeDiff, Nat.reduceLT, Nat.zero_le, Nat.le_refl, ne_10, ne_1000, ne_4, not_false_eq_true, or_true, true_or, Nat.one_ne_zero, Nat.zero_ne_one, Nat.reduceEqDiff, Bool.true_eq_false, Bool.false_eq_true, n10, nI_leI, t5, q0, ww]
      · have w0 : ¬ wd tx n i ≤ 0 := by omega
        by_cases q2 : 60 < i + wd tx n i
        · rw [if_pos (Or.inr q2)]
          have q2' : ¬ i + wd tx n i ≤ 60 := by omega
          refine ⟨I, l3, FQ.rf q I, ?_⟩
          simp (disch := first | assumption | omega | exact ixN (by assumption) (by omega) (by omega) | exact ne_10 | exact ne_1000 | exact ne_4) only [s1_38, s1_39, s1_39a, s1_40, s1_43, s1_46, s1_46a, s1_47, s1_48, s1_51, s1_52, s1_53, s1_56, s1_57, s1_58, s1_59, s1_61, s1_64, s1_65, ↓reduceIte, eq_self, Option.bind_some, Option.bind_none, Option.toList_some, Option.toList_none, List.cons_append, List.nil_append, am_rf_s, am_rf_n, am_c1_i, am_c1_r, am_c1_n, List.all_cons, List.all_nil, Bool.and_self, Bool.and_true, Bool.true_and, List.length_cons, List.length_nil, Nat.reduceAdd, Nat.reduceSub, Nat.reduceMul, Nat.reduceLeDiff, Nat.reduceLT, Nat.zero_le, Nat.le_refl, ne_10, ne_1000, ne_4, not_false_eq_true, or_true, true_or, Nat.one_ne_zero, Nat.zero_ne_one, Nat.reduceEqDiff, Bool.true_eq_false, Bool.false_eq_true, n10, nI_leI, nI_add, t5, q0, ww, w0, q2']
        · have qq : ¬ (wd tx n i = 0 ∨ 60 < i + wd tx n i) := by rintro (z | z); exact q1 z; exact q2 z
          rw [if_neg qq, if_neg qq]
          obtain ⟨I1, v1, v2, v3, v4, v5⟩ := c_take R K q ta td m n tx I hCL hta htd i (wd tx n i) k b w3 (by omega) (by omega) wn hT hC hb hk
          obtain ⟨I2, l3', u1, u2⟩ := ih (i + wd tx n i) I1 (ub b i) (k + 1) (by omega) wn (by omega) (hT.fr (v3 ta hta) (v3 td htd)) v2 v4 v5 (some (.int (nI (wd tx n i))))
          have q2' : i + wd tx n i ≤ 60 := by omega
          have go : ev 1 38 [some (.ref q), some (.ref ta), some (.int (nI i)), l3] [] (I, R, K) = ev 1 38 [some (.ref q), some (.ref ta), some (.int (nI (i + wd tx n i))), some (.int (nI (wd tx n i)))] [] (I1, R, K) := by
            rw [s1_38]
            simp (disch := first | assumption | omega | exact ixN (by assumption) (by omega) (by omega) | exact ne_10 | exact ne_1000 | exact ne_4) only [s1_39, s1_39a, s1_40, s1_43, s1_46, s1_46a, s1_47, s1_48, s1_51, s1_52, s1_53, s1_56, s1_57, s1_58, s1_59, s1_61, s1_64, s1_65, s1_66, s1_66a, s1_67, s1_67a, s1_68, s1_69, s1_70, s1_73, s1_74, s1_75, s1_76, s1_77, ↓reduceIte, eq_self, Option.bind_some, Option.bind_none, Option.toList_some, Option.toList_none, List.cons_append, List.nil_append, am_rf_s, am_rf_n, am_c1_i, am_c1_r, am_c1_n, List.all_cons, List.all_nil, Bool.and_self, Bool.and_true, Bool.true_and, List.length_cons, List.length_nil, Nat.reduceAdd, Nat.reduceSub, Nat.reduceMul, Nat.reduceLeDiff, Nat.reduceLT, Nat.zero_le, Nat.le_refl, ne_10, ne_1000, ne_4, not_false_eq_true, or_true, true_or, Nat.one_ne_zero, Nat.zero_ne_one, Nat.reduceEqDiff, Bool.true_eq_false, Bool.false_eq_true, n10, nI_leI, nI_add, t5, q0, ww, w0, q2', v1]
          refine ⟨I2, l3', v3.tr u1, ?_⟩
          rw [go]
          have ek : k + 1 + rdn tx n r (i + wd tx n i) = k + (1 + rdn tx n r (i + wd tx n i)) := by omega
          rw [← ek]
          exact u2
theorem c_readFrom (I : am_I) (h : CL R K q) (hta : ta < q ∨ q + 3 < ta) (htd : td < q ∨ q + 3 < td) (hT : RT I R K ta td m n tx) : ∃ I', FQ q I I' ∧ ev 1 0 [some (.ref q), some (.ref ta), none, none] [] (I, R, K) = some (some (.int (fsI (rd tx n))), (I', R, K)) ∧ (rd tx n = none → RT I' R K (q + 1) (q + 2) 60 n tx ∧ RB6 (I' (q + 3)) (rdB tx n) ∧ I' q 2 = nI (rdn tx n n 0)) := by
  have hCL := h
  obtain ⟨h1, h2, h3, h4, h5, h6, h7, h8, h9⟩ := h
  obtain ⟨I1, hI1⟩ : ∃ I1, I1 = st I (q + 1) (uf (I (q + 1)) 1 (nI 0)) := ⟨_, rfl⟩
  have cl := c_Text_clear I R K (q + 1) h2
  rw [ui_st, ← hI1] at cl
  have c1 := c_rclr R K q I1 hCL (I1 (q + 3)) (some (.ref ta)) none 60 0 rfl
  have e0 : I1 = st I1 (q + 3) (fun j => if j < 0 then nI 0 else I1 (q + 3) j) := by
    have : (fun j => if j < 0 then nI 0 else I1 (q + 3) j) = I1 (q + 3) := by
      funext j; rw [if_neg (by omega)]
    rw [this, st_id]
  rw [← e0] at c1
  obtain ⟨B0, hB0⟩ : ∃ B0 : Nat → Int32, B0 = fun j => if j < 60 then nI 0 else I1 (q + 3) j := ⟨_, rfl⟩
  rw [← hB0] at c1
  obtain ⟨I2, hI2⟩ : ∃ I2, I2 = st (st I1 (q + 3) B0) q (uf (I1 q) 2 (nI 0)) := ⟨_, rfl⟩
  have fr : FQ q I I2 := by
    rw [hI2, hI1]
    exact ((FQ.st I _ (by omega) (by omega)).tr (FQ.st _ _ (by omega) (by omega))).tr (FQ.st _ _ (by omega) (by omega))
  have C2 : RT I2 R K (q + 1) (q + 2) 60 0 tx := by
    refine ⟨h2, h3, h6, h8, ?_, by omega, by omega, fun i hi => by omega⟩
    rw [hI2, st_ne _ _ (by omega), st_ne _ _ (by omega), hI1, st_eq, uf_eq]
  obtain ⟨I3, l3, u1, u2⟩ := c_rd1 R K q ta td m n tx hCL hta htd n 0 I2 (fun _ => false) 0 (by omega) (by omega) (by omega) (hT.fr (fr ta hta) (fr td htd)) C2 (by
    rw [hI2, st_ne _ _ (by omega), st_eq, hB0]
    intro j hj
    dsimp only
    rw [if_pos hj]; exact am_b_0) (by rw [hI2, st_eq, uf_eq]) none
  have st1 : st I1 (q + 3) B0 q = I1 q := st_ne _ _ (by omega)
  have go : ev 1 0 [some (.ref q), some (.ref ta), none, none] [] (I, R, K) = ev 1 38 [some (.ref q), some (.ref ta), some (.int (nI 0)), none] [] (I2, R, K) := by
    simp (disch := first | assumption | omega | exact ixN (by assumption) (by omega) (by omega) | exact ne_10 | exact ne_1000 | exact ne_4) only [s1_0, s1_0a, s1_1, s1_4, s1_7, s1_8, ↓reduceIte, eq_self, Option.bind_some, Option.bind_none, Option.toList_some, Option.toList_none, List.cons_append, List.nil_append, am_rf_s, am_rf_n, am_c1_i, am_c1_r, am_c1_n, List.all_cons, List.all_nil, Bool.and_self, Bool.and_true, Bool.true_and, List.length_cons, List.length_nil, Nat.reduceAdd, Nat.reduceSub, Nat.reduceMul, Nat.reduceLeDiff, Nat.reduceLT, Nat.zero_le, Nat.le_refl, ne_10, ne_1000, ne_4, not_false_eq_true, or_true, true_or, Nat.one_ne_zero, Nat.zero_ne_one, Nat.reduceEqDiff, Bool.true_eq_false, Bool.false_eq_true, n10, h5, cl, c1]
    simp (disch := first | assumption | omega | exact ixN (by assumption) (by omega) (by omega) | exact ne_10 | exact ne_1000 | exact ne_4) only [s1_31, s1_31a, s1_32, s1_33, s1_36, s1_37, ↓reduceIte, eq_self, Option.bind_some, Option.bind_none, Option.toList_some, Option.toList_none, List.cons_append, List.nil_append, am_rf_s, am_rf_n, am_c1_i, am_c1_r, am_c1_n, List.all_cons, List.all_nil, Bool.and_self, Bool.and_true, Bool.true_and, List.length_cons, List.length_nil, Nat.reduceAdd, Nat.reduceSub, Nat.reduceMul, Nat.reduceLeDiff, Nat.reduceLT, Nat.zero_le, Nat.le_refl, ne_10, ne_1000, ne_4, not_false_eq_true, or_true, true_or, Nat.one_ne_zero, Nat.zero_ne_one, Nat.reduceEqDiff, Bool.true_eq_false, Bool.false_eq_true, n10, ui_st, st1, ← hI2]
  refine ⟨I3, fr.tr u1, ?_⟩
  rw [go]
  unfold rd
  cases z : (rd1 tx n n 0 (fun _ => false)).1 with
  | some p =>
    rw [z] at u2
    exact ⟨u2, fun y => by cases y⟩
  | none =>
    rw [z] at u2
    obtain ⟨a1, a2, a3, a4⟩ := u2
    have n60 := rd1_60 (tx := tx) (n := n) (r := n) (i := 0) (b := fun _ => false) (by omega) (by omega) (by omega) z
    have fa := c_firstAstray R K q n tx I3 hCL n60 a2 (rdB tx n) a3 (rd1_b (fun k hk => by cases hk))
    rw [Nat.zero_add] at a4
    refine ⟨?_, fun _ => ⟨a2, a3, a4⟩⟩
    rw [a1]
    simp (disch := first | assumption | omega | exact ixN (by assumption) (by omega) (by omega) | exact ne_10 | exact ne_1000 | exact ne_4) only [s1_80, s1_80a, s1_81, s1_84, ↓reduceIte, eq_self, Option.bind_some, Option.bind_none, Option.toList_some, Option.toList_none, List.cons_append, List.nil_append, am_rf_s, am_rf_n, am_c1_i, am_c1_r, am_c1_n, List.all_cons, List.all_nil, Bool.and_self, Bool.and_true, Bool.true_and, List.length_cons, List.length_nil, Nat.reduceAdd, Nat.reduceSub, Nat.reduceMul, Nat.reduceLeDiff, Nat.reduceLT, Nat.zero_le, Nat.le_refl, ne_10, ne_1000, ne_4, not_false_eq_true, or_true, true_or, Nat.one_ne_zero, Nat.zero_ne_one, Nat.reduceEqDiff, Bool.true_eq_false, Bool.false_eq_true, n10, fa]
end CS
