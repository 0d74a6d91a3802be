/-! the class: Code.readFrom -/
/-- only the code at q is touched -/
def FQ (q : Nat) (I I' : am_I) : Prop := ∀ a, (a < q ∨ q + 3 < a) → I' a = I a
theorem FQ.rf (q : Nat) (I : am_I) : FQ q I I := fun _ _ => rfl
theorem FQ.tr {q : Nat} {I I' I'' : am_I} (h : FQ q I I') (h' : FQ q I' I'') : FQ q I I'' := fun a z => (h' a z).trans (h a z)
theorem FQ.st {q a : Nat} (I : am_I) (f : Nat → Int32) (h1 : q ≤ a) (h2 : a ≤ q + 3) : FQ q I (st I a f) := fun b z => st_ne I f (by omega)
theorem RT.fr {I I' : am_I} {R : am_R} {K : am_K} {a d m n : Nat} {tx : Nat → Int32} (h : RT I R K a d m n tx) (h1 : I' a = I a) (h2 : I' d = I d) : RT I' R K a d m n tx := by
  obtain ⟨g1, g2, g3, g4, g5, g6, g7, g8⟩ := h
  exact ⟨g1, g2, g3, g4, by rw [h1]; exact g5, g6, g7, fun i hi => by rw [h2]; exact g8 i hi⟩
theorem RT.cg {I : am_I} {R : am_R} {K : am_K} {a d m n : Nat} {tx tx' : Nat → Int32} (h : RT I R K a d m n tx) (he : ∀ i, i < n → tx i = tx' i) : RT I R K a d m n tx' := by
  obtain ⟨g1, g2, g3, g4, g5, g6, g7, g8⟩ := h
  exact ⟨g1, g2, g3, g4, g5, g6, g7, fun i hi => by rw [← he i hi]; exact g8 i hi⟩
section CR
variable (R : am_R) (K : am_K) (q ta td m n : Nat) (tx : Nat → Int32)
theorem c_take1 (h : CL R K q) (hta : ta < q ∨ q + 3 < ta) (htd : td < q ∨ q + 3 < td) (i w : Nat) (hw : w ≤ 3) (h60 : i + w ≤ 60) (hn : i + w ≤ n) : ∀ (r j : Nat) (I : am_I), j + r = w → RT I R K ta td m n tx → RT I R K (q + 1) (q + 2) 60 (i + j) tx → ∃ I', ev 2 23 [some (.ref q), some (.ref ta), some (.int (nI i)), some (.int (nI w)), some (.int (nI j))] [] (I, R, K) = ev 2 51 [some (.ref q), some (.ref ta), some (.int (nI i)), some (.int (nI w)), some (.int (nI w))] [] (I', R, K) ∧ RT I' R K (q + 1) (q + 2) 60 (i + w) tx ∧ FQ q I I' ∧ I' q = I q ∧ I' (q + 3) = I (q + 3) := by
  have hCL := h
  obtain ⟨h1, h2, h3, h4, h5, h6, h7, h8, h9⟩ := h
  intro r
  induction r with
  | zero =>
    intro j I hj hT hC
    have hj : j = w := by omega
    subst hj
    refine ⟨I, ?_, hC, FQ.rf q I, rfl, rfl⟩
    simp (disch := first | assumption | omega | exact ixN (by assumption) (by omega) (by omega) | exact ne_10 | exact ne_1000 | exact ne_4) only [s2_23, s2_25, s2_26, ↓reduceIte, eq_self, Option.bind_some, Option.bind_none, Option.toList_some, Option.toList_none, List.cons_append, List.nil_append, am_rf_s, am_rf_n, am_c1_i, am_c1_r, am_c1_n, List.all_cons, List.all_nil, Bool.and_self, Bool.and_true, Bool.true_and, List.length_cons, List.length_nil, Nat.reduceAdd, Nat.reduceSub, Nat.reduceMul, Nat.reduceLeDiff, Nat.reduceLT, Nat.zero_le, Nat.le_refl, ne_10, ne_1000, ne_4, not_false_eq_true, or_true, true_or, Nat.one_ne_zero, Nat.zero_ne_one, Nat.reduceEqDiff, Bool.true_eq_false, Bool.false_eq_true, n10, nI_leI]
  | succ r ih =>
    intro j I hj hT hC
    have k1 := hT.1
    have e := c_at I R K ta td m n tx hT (i + j) (by omega)
    have et : tN tx n (i + j) = tx (i + j) := by unfold tN; rw [if_pos (by omega)]
    rw [et] at e
    have ad := c_add I R K (q + 1) (q + 2) 60 (i + j) tx hC (tx (i + j))
    rw [if_neg (by omega)] at ad
    have ch : am_h (tx (i + j)) = tx (i + j) := by rw [← hT.2.2.2.2.2.2.2 (i + j) (by omega)]; exact am_hh _
    have C2 := RT.add I R K (q + 1) (q + 2) 60 (i + j) tx hC (by omega) _ ch
    obtain ⟨I1, hI1⟩ : ∃ I1, I1 = st (st I (q + 2) (uf (I (q + 2)) (i + j) (tx (i + j)))) (q + 1) (uf (I (q + 1)) 1 (nI (i + j + 1))) := ⟨_, rfl⟩
    rw [← hI1] at ad C2
    have fr : FQ q I I1 := by rw [hI1]; exact (FQ.st I _ (by omega) (by omega)).tr (FQ.st _ _ (by omega) (by omega))
    obtain ⟨I2, v1, v2, v3, v4, v5⟩ := ih (j + 1) I1 (by omega) (hT.fr (fr ta hta) (fr td htd)) (C2.cg (fun k hk => by
      unfold uf; by_cases z : k = i + j
      · rw [if_pos z, z]
      · rw [if_neg z]))
    refine ⟨I2, ?_, v2, fr.tr v3, ?_, ?_⟩
    · rw [← v1, s2_23]
      have q0 : ¬ w ≤ j := by omega
      simp (disch := first | assumption | omega | exact ixN (by assumption) (by omega) (by omega) | exact ne_10 | exact ne_1000 | exact ne_4) only [s2_25, s2_26, s2_29, s2_29a, s2_30, s2_33, s2_33a, s2_34, s2_35, s2_37, s2_38, s2_41, s2_44, s2_45, s2_48, ↓reduceIte, eq_self, Option.bind_some, Option.bind_none, Option.toList_some, Option.toList_none, List.cons_append, List.nil_append, am_rf_s, am_rf_n, am_c1_i, am_c1_r, am_c1_n, List.all_cons, List.all_nil, Bool.and_self, Bool.and_true, Bool.true_and, List.length_cons, List.length_nil, Nat.reduceAdd, Nat.reduceSub, Nat.reduceMul, Nat.reduceLeDiff, Nat.reduceLT, Nat.zero_le, Nat.le_refl, ne_10, ne_1000, ne_4, not_false_eq_true, or_true, true_or, Nat.one_ne_zero, Nat.zero_ne_one, Nat.reduceEqDiff, Bool.true_eq_false, Bool.false_eq_true, n10, nI_leI, nI_add, h5, e, ad, q0]
    · rw [v4, hI1, st_ne _ _ (by omega), st_ne _ _ (by omega)]
    · rw [v5, hI1, st_ne _ _ (by omega), st_ne _ _ (by omega)]
theorem c_take (I : am_I) (h : CL R K q) (hta : ta < q ∨ q + 3 < ta) (htd : td < q ∨ q + 3 < td) (i w k : Nat) (b : Nat → Bool) (hw : w ≤ 3) (hw1 : 1 ≤ w) (h60 : i + w ≤ 60) (hn : i + w ≤ n) (hT : RT I R K ta td m n tx) (hC : RT I R K (q + 1) (q + 2) 60 i tx) (hb : RB6 (I (q + 3)) b) (hk : I q 2 = nI k) : ∃ I', ev 2 0 [some (.ref q), some (.ref ta), some (.int (nI i)), some (.int (nI w)), none] [] (I, R, K) = some (none, (I', R, K)) ∧ RT I' R K (q + 1) (q + 2) 60 (i + w) tx ∧ FQ q I I' ∧ RB6 (I' (q + 3)) (ub b i) ∧ I' q 2 = nI (k + 1) := by
  have hCL := h
  obtain ⟨h1, h2, h3, h4, h5, h6, h7, h8, h9⟩ := h
  obtain ⟨I1, hI1⟩ : ∃ I1, I1 = st I (q + 3) (uf (I (q + 3)) i (nI 1)) := ⟨_, rfl⟩
  have fr : FQ q I I1 := by rw [hI1]; exact FQ.st I _ (by omega) (by omega)
  obtain ⟨I2, v1, v2, v3, v4, v5⟩ := c_take1 R K q ta td m n tx hCL hta htd i w hw h60 hn w 0 I1 (by omega) (hT.fr (fr ta hta) (fr td htd)) (by
    rw [Nat.add_zero]
    exact hC.fr (by rw [hI1, st_ne _ _ (by omega)]) (by rw [hI1, st_ne _ _ (by omega)]))
  have i0 : ¬ nI i < nI 0 := nI_pos (by omega)
  have i1 : ¬ 60 ≤ i := by omega
  have k2 : I2 q 2 = nI k := by rw [v4, hI1, st_ne _ _ (by omega)]; exact hk
  refine ⟨st I2 q (uf (I2 q) 2 (nI (k + 1))), ?_, v2.fr (st_ne _ _ (by omega)) (st_ne _ _ (by omega)), (fr.tr v3).tr (FQ.st _ _ (by omega) (by omega)), ?_, by rw [st_eq, uf_eq]⟩
  · simp (disch := first | assumption | omega | exact ixN (by assumption) (by omega) (by omega) | exact ne_10 | exact ne_1000 | exact ne_4) only [s2_0, s2_1, s2_4, s2_5, s2_5a, s2_6, s2_9, s2_9a, s2_9b, s2_9c, s2_10, s2_13, s2_13a, s2_14, s2_17, s2_18, s2_19, s2_20, s2_21, ↓reduceIte, eq_self, Option.bind_some, Option.bind_none, Option.toList_some, Option.toList_none, List.cons_append, List.nil_append, am_rf_s, am_rf_n, am_c1_i, am_c1_r, am_c1_n, List.all_cons, List.all_nil, Bool.and_self, Bool.and_true, Bool.true_and, List.length_cons, List.length_nil, Nat.reduceAdd, Nat.reduceSub, Nat.reduceMul, Nat.reduceLeDiff, Nat.reduceLT, Nat.zero_le, Nat.le_refl, ne_10, ne_1000, ne_4, not_false_eq_true, or_true, true_or, Nat.one_ne_zero, Nat.zero_ne_one, Nat.reduceEqDiff, Bool.true_eq_false, Bool.false_eq_true, n10, nI_leI, nI_clamp, ui_st, i0, i1, h7, h9, ← hI1, v1]
    simp (disch := first | assumption | omega | exact ixN (by assumption) (by omega) (by omega) | exact ne_10 | exact ne_1000 | exact ne_4) only [s2_51, s2_51a, s2_52, s2_53, s2_56, s2_57, s2_58, s2_61, ↓reduceIte, eq_self, Option.bind_some, Option.bind_none, Option.toList_some, Option.toList_none, List.cons_append, List.nil_append, am_rf_s, am_rf_n, am_c1_i, am_c1_r, am_c1_n, List.all_cons, List.all_nil, Bool.and_self, Bool.and_true, Bool.true_and, List.length_cons, List.length_nil, Nat.reduceAdd, Nat.reduceSub, Nat.reduceMul, Nat.reduceLeDiff, Nat.reduceLT, Nat.zero_le, Nat.le_refl, ne_10, ne_1000, ne_4, not_false_eq_true, or_true, true_or, Nat.one_ne_zero, Nat.zero_ne_one, Nat.reduceEqDiff, Bool.true_eq_false, Bool.false_eq_true, n10, nI_add, ui_st, k2]
  · rw [st_ne _ _ (by omega), v5, hI1, st_eq]
    exact hb.up i
end CR
