/-! the class: Probe.tell, History.clear, State.letGoReturns -/
def btl (I : am_I) (pa : Nat) (n : Nat) (w : Nat) : Int32 := if w < 7 then I pa (w + 1) else nI n
/-- start lets the holders go on the class's side: r of them from k on -/
def sLet (t : Nat) : Nat → Nat → Int32 → (Nat → Int32) → Int32 × (Nat → Int32)
  | 0, _, s, f => (s, f)
  | r + 1, k, s, f => sLet t r (k + 1) (s + (if f (t + 9 + k) ≤ nI 0 then nI 0 else nI 1)) (sFree f (nt (f (t + 9 + k))))
section DF
variable (R : am_R) (K : am_K)
theorem c_btell (I : am_I) (pa n w : Nat) (h : am_isK K pa 3 = true) (hw : w ≤ 7) (hf : (R pa 8 = none ∧ n = 0) ∨ ∃ x, R pa 8 = some x ∧ am_isK K x 8 = true ∧ I x 1 = nI n) : ev 23 0 [some (.ref pa), some (.int (nI w))] [] (I, R, K) = some (some (.int (btl I pa n w)), (I, R, K)) := by
  have : w = 0 ∨ w = 1 ∨ w = 2 ∨ w = 3 ∨ w = 4 ∨ w = 5 ∨ w = 6 ∨ w = 7 := by omega
  unfold btl
  rcases this with rfl | rfl | rfl | rfl | rfl | rfl | rfl | rfl
  · simp (disch := first | assumption | omega | exact ixN (by assumption) (by omega) (by omega) | exact ne_10 | exact ne_1000 | exact ne_4) only [s23_0, s23_1, s23_48, s23_48a, s23_49, s23_52, s23_53, s23_53a, s23_54, s23_57, s23_58, s23_58a, s23_59, s23_62, s23_63, s23_63a, s23_64, s23_67, s23_68, s23_68a, s23_69, s23_72, s23_73, s23_73a, s23_74, s23_77, s23_78, s23_78a, s23_79, s23_82, s23_83, s23_83a, s23_84, s23_87, s23_87a, s23_90, s23_91, s23_94, s23_94a, s23_95, s23_98, s23_101, s23_102, s23_103, ↓reduceIte, eq_self, Option.bind_some, Option.bind_none, Option.toList_some, Option.toList_none, List.cons_append, List.nil_append, am_rf_s, am_rf_n, am_c1_i, am_c1_r, am_c1_n, List.all_cons, List.all_nil, Bool.and_self, Bool.and_true, Bool.true_and, List.length_cons, List.length_nil, Nat.reduceAdd, Nat.reduceSub, Nat.reduceMul, Nat.reduceLeDiff, Nat.reduceLT, Nat.zero_le, Nat.le_refl, ne_10, ne_1000, ne_4, not_false_eq_true, or_true, true_or, Nat.one_ne_zero, Nat.zero_ne_one, Nat.reduceEqDiff, Bool.true_eq_false, Bool.false_eq_true, n10, nI_eq]
  · simp (disch := first | assumption | omega | exact ixN (by assumption) (by omega) (by omega) | exact ne_10 | exact ne_1000 | exact ne_4) only [s23_0, s23_1, s23_48, s23_48a, s23_49, s23_52, s23_53, s23_53a, s23_54, s23_57, s23_58, s23_58a, s23_59, s23_62, s23_63, s23_63a, s23_64, s23_67, s23_68, s23_68a, s23_69, s23_72, s23_73, s23_73a, s23_74, s23_77, s23_78, s23_78a, s23_79, s23_82, s23_83, s23_83a, s23_84, s23_87, s23_87a, s23_90, s23_91, s23_94, s23_94a, s23_95, s23_98, s23_101, s23_102, s23_103, ↓reduceIte, eq_self, Option.bind_some, Option.bind_none, Option.toList_some, Option.toList_none, List.cons_append, List.nil_append, am_rf_s, am_rf_n, am_c1_i, am_c1_r, am_c1_n, List.all_cons, List.all_nil, Bool.and_self, Bool.and_true, Bool.true_and, List.length_cons, List.length_nil, Nat.reduceAdd, Nat.reduceSub, Nat.reduceMul, Nat.reduceLeDiff, Nat.reduceLT, Nat.zero_le, Nat.le_refl, ne_10, ne_1000, ne_4, not_false_eq_true, or_true, true_or, Nat.one_ne_zero, Nat.zero_ne_one, Nat.reduceEqDiff, Bool.true_eq_false, Bool.false_eq_true, n10, nI_eq]
  · simp (disch := first | assumption | omega | exact ixN (by assumption) (by omega) (by omega) | exact ne_10 | exact ne_1000 | exact ne_4) only [s23_0, s23_1, s23_48, s23_48a, s23_49, s23_52, s23_53, s23_53a, s23_54, s23_57, s23_58, s23_58a, s23_59, s23_62, s23_63, s23_63a, s23_64, s23_67, s23_68, s23_68a, s23_69, s23_72, s23_73, s23_73a, s23_74, s23_77, s23_78, s23_78a, s23_79, s23_82, s23_83, s23_83a, s23_84, s23_87, s23_87a, s23_90, s23_91, s23_94, s23_94a, s23_95, s23_98, s23_101, s23_102, s23_103, ↓reduceIte, eq_self, Option.bind_some, Option.bind_none, Option.toList_some, Option.toList_none, List.cons_append, List.nil_append, am_rf_s, am_rf_n, am_c1_i, am_c1_r, am_c1_n, List.all_cons, List.all_nil, Bool.and_self, Bool.and_true, Bool.true_and, List.length_cons, List.length_nil, Nat.reduceAdd, Nat.reduceSub, Nat.reduceMul, Nat.reduceLeDiff, Nat.reduceLT, Nat.zero_le, Nat.le_refl, ne_10, ne_1000, ne_4, not_false_eq_true, or_true, true_or, Nat.one_ne_zero, Nat.zero_ne_one, Nat.reduceEqDiff, Bool.true_eq_false, Bool.false_eq_true, n10, nI_eq]
  · simp (disch := first | assumption | omega | exact ixN (by assumption) (by omega) (by omega) | exact ne_10 | exact ne_1000 | exact ne_4) only [s23_0, s23_1, s23_48, s23_48a, s23_49, s23_52, s23_53, s23_53a, s23_54, s23_57, s23_58, s23_58a, s23_59, s23_62, s23_63, s23_63a, s23_64, s23_67, s23_68, s23_68a, s23_69, s23_72, s23_73, s23_73a, s23_74, s23_77, s23_78, s23_78a, s23_79, s23_82, s23_83, s23_83a, s23_84, s23_87, s23_87a, s23_90, s23_91, s23_94, s23_94a, s23_95, s23_98, s23_101, s23_102, s23_103, ↓reduceIte, eq_self, Option.bind_some, Option.bind_none, Option.toList_some, Option.toList_none, List.cons_append, List.nil_append, am_rf_s, am_rf_n, am_c1_i, am_c1_r, am_c1_n, List.all_cons, List.all_nil, Bool.and_self, Bool.and_true, Bool.true_and, List.length_cons, List.length_nil, Nat.reduceAdd, Nat.reduceSub, Nat.reduceMul, Nat.reduceLeDiff, Nat.reduceLT, Nat.zero_le, Nat.le_refl, ne_10, ne_1000, ne_4, not_false_eq_true, or_true, true_or, Nat.one_ne_zero, Nat.zero_ne_one, Nat.reduceEqDiff, Bool.true_eq_false, Bool.false_eq_true, n10, nI_eq]
  · simp (disch := first | assumption | omega | exact ixN (by assumption) (by omega) (by omega) | exact ne_10 | exact ne_1000 | exact ne_4) only [s23_0, s23_1, s23_48, s23_48a, s23_49, s23_52, s23_53, s23_53a, s23_54, s23_57, s23_58, s23_58a, s23_59, s23_62, s23_63, s23_63a, s23_64, s23_67, s23_68, s23_68a, s23_69, s23_72, s23_73, s23_73a, s23_74, s23_77, s23_78, s23_78a, s23_79, s23_82, s23_83, s23_83a, s23_84, s23_87, s23_87a, s23_90, s23_91, s23_94, s23_94a, s23_95, s23_98, s23_101, s23_102, s23_103, ↓reduceIte, eq_self, Option.bind_some, Option.bind_none, Option.toList_some, Option.toList_none, List.cons_append, List.nil_append, am_rf_s, am_rf_n, am_c1_i, am_c1_r, am_c1_n, List.all_cons, List.all_nil, Bool.and_self, Bool.and_true, Bool.true_and, List.length_cons, List.length_nil, Nat.reduceAdd, Nat.reduceSub, Nat.reduceMul, Nat.reduceLeDiff, Nat.reduceLT, Nat.zero_le, Nat.le_refl, ne_10, ne_1000, ne_4, not_false_eq_true, or_true, true_or, Nat.one_ne_zero, Nat.zero_ne_one, Nat.reduceEqDiff, Bool.true_eq_false, Bool.false_eq_true, n10, nI_eq]
  · simp (disch := first | assumption | omega | exact ixN (by assumption) (by omega) (by omega) | exact ne_10 | exact ne_1000 | exact ne_4) only [s23_0, s23_1, s23_48, s23_48a, s23_49, s23_52, s23_53, s23_53a, s23_54, s23_57, s23_58, s23_58a, s23_59, s23_62, s23_63, s23_63a, s23_64, s23_67, s23_68, s23_68a, s23_69, s23_72, s23_73, s23_73a, s23_74, s23_77, s23_78, s23_78a, s23_79, s23_82, s23_83, s23_83a, s23_84, s23_87, s23_87a, s23_90, s23_91, s23_94, s23_94a, s23_95, s23_98, s23_101, s23_102, s23_103, ↓reduceIte, eq_self, Option.bind_some, Option.bind_none, Option.toList_some, Option.toList_none, List.cons_append, List.nil_append, am_rf_s, am_rf_n, am_c1_i, am_c1_r, am_c1_n, List.all_cons, List.all_nil, Bool.and_self, Bool.and_true, Bool.true_and, List.length_cons, List.length_nil, Nat.reduceAdd, Nat.reduceSub, Nat.reduceMul, Nat.reduceLeDiff, Nat.reduceLT, Nat.zero_le, Nat.le_refl, ne_10, ne_1000, ne_4, not_false_eq_true, or_true, true_or, Nat.one_ne_zero, Nat.zero_ne_one, Nat.reduceEqDiff, Bool.true_eq_false, Bool.false_eq_true, n10, nI_eq]
  · simp (disch := first | assumption | omega | exact ixN (by assumption) (by omega) (by omega) | exact ne_10 | exact ne_1000 | exact ne_4) only [s23_0, s23_1, s23_48, s23_48a, s23_49, s23_52, s23_53, s23_53a, s23_54, s23_57, s23_58, s23_58a, s23_59, s23_62, s23_63, s23_63a, s23_64, s23_67, s23_68, s23_68a, s23_69, s23_72, s23_73, s23_73a, s23_74, s23_77, s23_78, s23_78a, s23_79, s23_82, s23_83, s23_83a, s23_84, s23_87, s23_87a, s23_90, s23_91, s23_94, s23_94a, s23_95, s23_98, s23_101, s23_102, s23_103, ↓reduceIte, eq_self, Option.bind_some, Option.bind_none, Option.toList_some, Option.toList_none, List.cons_append, List.nil_append, am_rf_s, am_rf_n, am_c1_i, am_c1_r, am_c1_n, List.all_cons, List.all_nil, Bool.and_self, Bool.and_true, Bool.true_and, List.length_cons, List.length_nil, Nat.reduceAdd, Nat.reduceSub, Nat.reduceMul, Nat.reduceLeDiff, Nat.reduceLT, Nat.zero_le, Nat.le_refl, ne_10, ne_1000, ne_4, not_false_eq_true, or_true, true_or, Nat.one_ne_zero, Nat.zero_ne_one, Nat.reduceEqDiff, Bool.true_eq_false, Bool.false_eq_true, n10, nI_eq]
  · rcases hf with ⟨h1, rfl⟩ | ⟨x, h1, h2, h3⟩
    · simp (disch := first | assumption | omega | exact ixN (by assumption) (by omega) (by omega) | exact ne_10 | exact ne_1000 | exact ne_4) only [s23_0, s23_1, s23_48, s23_48a, s23_49, s23_52, s23_53, s23_53a, s23_54, s23_57, s23_58, s23_58a, s23_59, s23_62, s23_63, s23_63a, s23_64, s23_67, s23_68, s23_68a, s23_69, s23_72, s23_73, s23_73a, s23_74, s23_77, s23_78, s23_78a, s23_79, s23_82, s23_83, s23_83a, s23_84, s23_87, s23_87a, s23_90, s23_91, s23_94, s23_94a, s23_95, s23_98, s23_101, s23_102, s23_103, ↓reduceIte, eq_self, Option.bind_some, Option.bind_none, Option.toList_some, Option.toList_none, List.cons_append, List.nil_append, am_rf_s, am_rf_n, am_c1_i, am_c1_r, am_c1_n, List.all_cons, List.all_nil, Bool.and_self, Bool.and_true, Bool.true_and, List.length_cons, List.length_nil, Nat.reduceAdd, Nat.reduceSub, Nat.reduceMul, Nat.reduceLeDiff, Nat.reduceLT, Nat.zero_le, Nat.le_refl, ne_10, ne_1000, ne_4, not_false_eq_true, or_true, true_or, Nat.one_ne_zero, Nat.zero_ne_one, Nat.reduceEqDiff, Bool.true_eq_false, Bool.false_eq_true, n10, nI_eq, h1]
    · simp (disch := first | assumption | omega | exact ixN (by assumption) (by omega) (by omega) | exact ne_10 | exact ne_1000 | exact ne_4) only [s23_0, s23_1, s23_48, s23_48a, s23_49, s23_52, s23_53, s23_53a, s23_54, s23_57, s23_58, s23_58a, s23_59, s23_62, s23_63, s23_63a, s23_64, s23_67, s23_68, s23_68a, s23_69, s23_72, s23_73, s23_73a, s23_74, s23_77, s23_78, s23_78a, s23_79, s23_82, s23_83, s23_83a, s23_84, s23_87, s23_87a, s23_90, s23_91, s23_94, s23_94a, s23_95, s23_98, s23_101, s23_102, s23_103, ↓reduceIte, eq_self, Option.bind_some, Option.bind_none, Option.toList_some, Option.toList_none, List.cons_append, List.nil_append, am_rf_s, am_rf_n, am_c1_i, am_c1_r, am_c1_n, List.all_cons, List.all_nil, Bool.and_self, Bool.and_true, Bool.true_and, List.length_cons, List.length_nil, Nat.reduceAdd, Nat.reduceSub, Nat.reduceMul, Nat.reduceLeDiff, Nat.reduceLT, Nat.zero_le, Nat.le_refl, ne_10, ne_1000, ne_4, not_false_eq_true, or_true, true_or, Nat.one_ne_zero, Nat.zero_ne_one, Nat.reduceEqDiff, Bool.true_eq_false, Bool.false_eq_true, n10, nI_eq, h1, h3]
theorem c_hclear (I : am_I) (h : HL R K) : ev 12 0 [some (.ref 38)] [] (I, R, K) = some (none, (st I 38 (uf (I 38) 2 (nI 0)), R, K)) := by
  have k := h.1
  simp (disch := first | assumption | omega | exact ixN (by assumption) (by omega) (by omega) | exact ne_10 | exact ne_1000 | exact ne_4) only [s12_0, s12_0a, s12_1, s12_2, s12_5, ↓reduceIte, eq_self, Option.bind_some, Option.bind_none, Option.toList_some, Option.toList_none, List.cons_append, List.nil_append, am_rf_s, am_rf_n, am_c1_i, am_c1_r, am_c1_n, List.all_cons, List.all_nil, Bool.and_self, Bool.and_true, Bool.true_and, List.length_cons, List.length_nil, Nat.reduceAdd, Nat.reduceSub, Nat.reduceMul, Nat.reduceLeDiff, Nat.reduceLT, Nat.zero_le, Nat.le_refl, ne_10, ne_1000, ne_4, not_false_eq_true, or_true, true_or, Nat.one_ne_zero, Nat.zero_ne_one, Nat.reduceEqDiff, Bool.true_eq_false, Bool.false_eq_true, n10, ui_st]
/-- a holder goes: one fewer, and gone if it was dying -/
theorem c_free (I : am_I) (hb : SB R K 14) (f : Nat → Int32) (hs : RS I R K 14 f) (p h : Nat) (hp : p < 6) (h3 : ¬ f (70 + 208 * p) = nI 3) (hh : f (70 + 208 * p + 6) = nI (h + 1)) (hh2 : h ≤ 3) : I (32 + p) 7 = nI (h + 1) ∧ ∃ I', ev 22 0 [some (.ref (32 + p))] [] (st I (32 + p) (uf (I (32 + p)) 7 (nI h)), R, K) = some (none, (I', R, K)) ∧ RS I' R K 14 (sFree f (p + 1)) ∧ FN I I' := by
  have kp : am_isK K (32 + p) 3 = true := by
    have := (hb.2.2.2.2.2 p hp).2
    rwa [show 14 + 18 + p = 32 + p by omega] at this
  obtain ⟨q1, q2, q3, q4⟩ := hs.2.2.2 p hp
  obtain ⟨⟨a1, a2, a3, a4, a5, a6⟩, a7⟩ := q4 h3
  rw [show 14 + 18 + p = 32 + p by omega] at *
  have a6' : I (32 + p) 7 = nI (h + 1) := a6.trans hh
  refine ⟨a6', ?_⟩
  obtain ⟨f1, hf1⟩ : ∃ f1, f1 = uf f (70 + 208 * p + 6) (nI h) := ⟨_, rfl⟩
  obtain ⟨I1, hI1⟩ : ∃ I1, I1 = st I (32 + p) (uf (I (32 + p)) 7 (nI h)) := ⟨_, rfl⟩
  rw [← hI1]
  have s1 : RS I1 R K 14 f1 := by rw [hI1, hf1]; exact hs.prb hp h3 (i := 7) (by omega) (by omega) _
  have fn1 : FN I I1 := by rw [hI1]; exact FN.st I _ (by omega) (by omega)
  have g : ∀ j, j ≠ 70 + 208 * p + 6 → f1 j = f j := fun j hj => by rw [hf1]; exact uf_ne _ _ hj
  have i1 : I1 (32 + p) 1 = f (70 + 208 * p) := by rw [hI1, st_eq, uf_ne _ _ (by omega)]; exact q2
  have i7 : I1 (32 + p) 7 = nI h := by rw [hI1, st_eq, uf_eq]
  have eh : nI (h + 1) - nI 1 = nI h := pk_sub (by omega)
  unfold sFree
  rw [if_neg (by omega), show p + 1 - 1 = p by omega]
  dsimp only
  rw [hh, eh, ← hf1]
  have g0 : f1 (70 + 208 * p) = f (70 + 208 * p) := g _ (by omega)
  have g6 : f1 (70 + 208 * p + 6) = nI h := by rw [hf1, uf_eq]
  have go := c_goIf I1 R K (32 + p) kp
  rw [i1, i7] at go
  by_cases c2 : f (70 + 208 * p) = nI 2
  · by_cases c3 : h = 0
    · subst c3
      rw [if_pos ⟨c2, Int32.le_refl _⟩] at go
      rw [g0, if_pos c2, g6, if_pos rfl]
      exact ⟨_, go, s1.is hp (by rw [g0]; exact h3) (s := 3) (by omega), fn1.tr (FN.st I1 _ (by omega) (by omega))⟩
    · rw [if_neg (fun z => by have := z.2; rw [nI_leI (by omega) (by omega)] at this; omega)] at go
      rw [g0, if_pos c2, g6, if_neg (by rw [nI_eq (by omega) (by omega)]; exact c3)]
      exact ⟨I1, go, by rw [← g0, uf_id]; exact s1, fn1⟩
  · rw [if_neg (fun z => c2 z.1)] at go
    rw [g0, if_neg c2]
    exact ⟨I1, go, by rw [← g0, uf_id]; exact s1, fn1⟩
/-- P holds as the holders go one by one, and gives what each going asks -/
def LGo (P : Nat → (Nat → Int32) → Prop) (t d : Nat) : Prop := ∀ k f, P k f → f (t + 2) = nI d ∧ (k < d → ∃ q, q ≤ 6 ∧ f (t + 9 + k) = nI q ∧ (q ≠ 0 → ¬ f (70 + 208 * (q - 1)) = nI 3 ∧ ∃ h, h ≤ 3 ∧ f (70 + 208 * (q - 1) + 6) = nI (h + 1)) ∧ P (k + 1) (sFree f q))
theorem c_let (hb : SB R K 14) (c d : Nat) (hc : c < 2) (hd : d ≤ 6) (P : Nat → (Nat → Int32) → Prop) (hP : LGo P (8 + 31 * c) d) : ∀ (r k : Nat) (s : Int32) (I : am_I) (f : Nat → Int32), k + r = d → RS I R K 14 f → P k f → ∀ l4, ∃ I', ev 61 4 [some (.ref 14), some (.ref (17 + 7 * c)), some (.int s), some (.int (nI k)), l4] [] (I, R, K) = some (some (.int (sLet (8 + 31 * c) r k s f).1), (I', R, K)) ∧ RS I' R K 14 (sLet (8 + 31 * c) r k s f).2 ∧ FN I I' := by
  have k1 := hb.1.1
  have pl := hb.q hc
  have kq := pl.1.1
  intro r
  induction r with
  | zero =>
    intro k s I f hk hs hp l4
    have ek : k = d := by omega
    subst ek
    have ad : I (17 + 7 * c) 3 = nI k := by rw [(hs.q hc).1.1]; exact (hP k f hp).1
    refine ⟨I, ?_, hs, FN.rf I⟩
    simp (disch := first | assumption | omega | exact ixN (by assumption) (by omega) (by omega) | exact ne_10 | exact ne_1000 | exact ne_4) only [s61_4, s61_5, s61_5a, s61_6, s61_9, s61_12, s61_12a, s61_13, s61_13a, s61_14, s61_15, s61_18, s61_21, s61_21a, s61_23, s61_23a, s61_25, s61_25a, s61_28, s61_31, s61_31a, s61_33, s61_34, s61_37, s61_38, s61_39, s61_42, s61_42a, s61_44, s61_47, s61_50, s61_53, s61_54, ↓reduceIte, eq_self, Option.bind_some, Option.bind_none, Option.toList_some, Option.toList_none, List.cons_append, List.nil_append, am_rf_s, am_rf_n, am_c1_i, am_c1_r, am_c1_n, List.all_cons, List.all_nil, Bool.and_self, Bool.and_true, Bool.true_and, List.length_cons, List.length_nil, Nat.reduceAdd, Nat.reduceSub, Nat.reduceMul, Nat.reduceLeDiff, Nat.reduceLT, Nat.zero_le, Nat.le_refl, ne_10, ne_1000, ne_4, not_false_eq_true, or_true, true_or, Nat.one_ne_zero, Nat.zero_ne_one, Nat.reduceEqDiff, Bool.true_eq_false, Bool.false_eq_true, n10, nI_leI, ad, sLet]
  | succ r ih =>
    intro k s I f hk hs hp l4
    obtain ⟨hd2, hk2⟩ := hP k f hp
    obtain ⟨q, q6, q1, q2, q3⟩ := hk2 (by omega)
    have sq := hs.q hc
    have ad : I (17 + 7 * c) 3 = nI d := by rw [sq.1.1]; exact hd2
    obtain ⟨d', d1, d2, d3⟩ := sq.2.1
    have ed : d' = d := by rw [hd2, nI_eq (by omega) (by omega)] at d2; exact d2.symm
    subst ed
    have hl := (d3 k (by omega)).2
    rw [q1] at hl
    have ho := c_holderAt I R K (17 + 7 * c) d' k pl ad hd (by omega)
    rw [if_pos (by omega), hl] at ho
    have z0 : ¬ d' ≤ k := by omega
    have pn := c_probeOrNull I R K 14 hb (nI q - nI 1)
    unfold sLet
    rw [q1, nt_nI (by omega)]
    by_cases c0 : q = 0
    · subst c0
      have e : inR (nI 0 - nI 1) 0 5 = false := by decide
      rw [e] at pn
      have e0 : sFree f 0 = f := by unfold sFree; rw [if_pos rfl]
      rw [if_pos (Int32.le_refl _), e0, show s + nI 0 = s from Int32.add_zero s]
      rw [e0] at q3
      obtain ⟨I2, v1, v2, v3⟩ := ih (k + 1) s I f (by omega) hs q3 (some .null)
      refine ⟨I2, ?_, v2, v3⟩
      rw [s61_4]
      simp (disch := first | assumption | omega | exact ixN (by assumption) (by omega) (by omega) | exact ne_10 | exact ne_1000 | exact ne_4) only [s61_5, s61_5a, s61_6, s61_9, s61_12, s61_12a, s61_13, s61_13a, s61_14, s61_15, s61_18, s61_21, s61_21a, s61_23, s61_23a, s61_25, s61_25a, s61_28, s61_31, s61_31a, s61_33, s61_34, s61_37, s61_38, s61_39, s61_42, s61_42a, s61_44, s61_47, s61_50, ↓reduceIte, eq_self, Option.bind_some, Option.bind_none, Option.toList_some, Option.toList_none, List.cons_append, List.nil_append, am_rf_s, am_rf_n, am_c1_i, am_c1_r, am_c1_n, List.all_cons, List.all_nil, Bool.and_self, Bool.and_true, Bool.true_and, List.length_cons, List.length_nil, Nat.reduceAdd, Nat.reduceSub, Nat.reduceMul, Nat.reduceLeDiff, Nat.reduceLT, Nat.zero_le, Nat.le_refl, ne_10, ne_1000, ne_4, not_false_eq_true, or_true, true_or, Nat.one_ne_zero, Nat.zero_ne_one, Nat.reduceEqDiff, Bool.true_eq_false, Bool.false_eq_true, n10, nI_leI, nI_add, ad, z0, ho, pn, pRef, Bool.false_eq_true, v1]
    · obtain ⟨h3, h, hh1, hh2⟩ := q2 c0
      have eq1 : nI q - nI 1 = nI (q - 1) := pk_sub (by omega)
      have e : inR (nI (q - 1)) 0 5 = true := by
        have e0 : nI 0 ≤ nI (q - 1) := nI_le (by omega) (by omega)
        have e1 : nI (q - 1) ≤ nI 5 := nI_le (by omega) (by omega)
        unfold inR; simp [e0, e1]
      rw [eq1] at ho pn
      simp only [e, if_true, pRef, nI_clamp (show q - 1 < 2 ^ 31 by omega), show 14 + 18 + (q - 1) = 32 + (q - 1) by omega] at pn
      have kp : am_isK K (32 + (q - 1)) 3 = true := by
        have := (hb.2.2.2.2.2 (q - 1) (by omega)).2
        rwa [show 14 + 18 + (q - 1) = 32 + (q - 1) by omega] at this
      obtain ⟨a7, I1, w1, w2, w3⟩ := c_free R K I hb f hs (q - 1) h (by omega) h3 hh2 hh1
      rw [show q - 1 + 1 = q by omega] at w2
      have eh : nI (h + 1) - nI 1 = nI h := pk_sub (by omega)
      rw [if_neg (by rw [nI_leI (by omega) (by omega)]; omega)]
      obtain ⟨I2, v1, v2, v3⟩ := ih (k + 1) (s + nI 1) I1 (sFree f q) (by omega) w2 q3 (some (.ref (32 + (q - 1))))
      refine ⟨I2, ?_, v2, w3.tr v3⟩
      rw [s61_4]
      simp (disch := first | assumption | omega | exact ixN (by assumption) (by omega) (by omega) | exact ne_10 | exact ne_1000 | exact ne_4) only [s61_5, s61_5a, s61_6, s61_9, s61_12, s61_12a, s61_13, s61_13a, s61_14, s61_15, s61_18, s61_21, s61_21a, s61_23, s61_23a, s61_25, s61_25a, s61_28, s61_31, s61_31a, s61_33, s61_34, s61_37, s61_38, s61_39, s61_42, s61_42a, s61_44, s61_47, s61_50, ↓reduceIte, eq_self, Option.bind_some, Option.bind_none, Option.toList_some, Option.toList_none, List.cons_append, List.nil_append, am_rf_s, am_rf_n, am_c1_i, am_c1_r, am_c1_n, List.all_cons, List.all_nil, Bool.and_self, Bool.and_true, Bool.true_and, List.length_cons, List.length_nil, Nat.reduceAdd, Nat.reduceSub, Nat.reduceMul, Nat.reduceLeDiff, Nat.reduceLT, Nat.zero_le, Nat.le_refl, ne_10, ne_1000, ne_4, not_false_eq_true, or_true, true_or, Nat.one_ne_zero, Nat.zero_ne_one, Nat.reduceEqDiff, Bool.true_eq_false, Bool.false_eq_true, n10, nI_leI, nI_add, ui_st, ad, z0, ho, pn, a7, eh, w1, v1]
theorem c_letGo (hb : SB R K 14) (c d : Nat) (hc : c < 2) (hd : d ≤ 6) (P : Nat → (Nat → Int32) → Prop) (hP : LGo P (8 + 31 * c) d) (I : am_I) (f : Nat → Int32) (hs : RS I R K 14 f) (hp : P 0 f) : ∃ I', ev 61 0 [some (.ref 14), some (.ref (17 + 7 * c)), none, none, none] [] (I, R, K) = some (some (.int (sLet (8 + 31 * c) d 0 (nI 0) f).1), (I', R, K)) ∧ RS I' R K 14 (sLet (8 + 31 * c) d 0 (nI 0) f).2 ∧ FN I I' := by
  obtain ⟨I', v1, v2, v3⟩ := c_let R K hb c d hc hd P hP d 0 (nI 0) I f (by omega) hs hp none
  refine ⟨I', ?_, v2, v3⟩
  simp (disch := first | assumption | omega | exact ixN (by assumption) (by omega) (by omega) | exact ne_10 | exact ne_1000 | exact ne_4) only [s61_0, s61_1, s61_2, s61_3, v1]
end DF
