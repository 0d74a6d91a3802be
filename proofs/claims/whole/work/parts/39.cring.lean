/-! the class: the ring -/
def rn1 (n : Nat) : Nat := if n = 4 then 3 else n
def rsh (n : Nat) : Nat := if n = 4 then 1 else 0
theorem sRing_eqs (f : Nat → Int32) (t n : Nat) (p : Int32) (hn : n ≤ 4) : (∀ j, (j < t + 17 ∨ t + 30 < j) → sRing f t n p j = f j) ∧ sRing f t n p (t + 17) = nI (rn1 n + 1) ∧ sRing f t n p (t + 30) = (if n = 4 then f (t + 30) + nI 1 else f (t + 30)) ∧ (∀ k i, k < rn1 n → i < 3 → sRing f t n p (t + 18 + 3 * k + i) = f (t + 18 + 3 * (k + rsh n) + i)) ∧ sRing f t n p (t + 18 + 3 * rn1 n) = p ∧ sRing f t n p (t + 19 + 3 * rn1 n) = f t ∧ sRing f t n p (t + 20 + 3 * rn1 n) = f (t + 16) := by
  have sh0 : ∀ j, (j < t + 18 ∨ t + 27 ≤ j) → sShift f t j = f j := fun j hj => by unfold sShift; rw [if_neg (by omega)]
  have sh1 : ∀ j, t + 18 ≤ j → j < t + 27 → sShift f t j = f (j + 3) := fun j h1 h2 => by unfold sShift; rw [if_pos ⟨h1, h2⟩]
  unfold sRing rn1 rsh
  by_cases q : n = 4
  · subst q
    simp only [if_true]
    unfold sPut
    refine ⟨fun j hj => ?_, ?_, ?_, fun k i hk hi => ?_, ?_, ?_, ?_⟩
    · simp (disch := omega) only [uf_ne, sh0]
    · simp (disch := omega) only [uf_eq]
    · simp (disch := omega) only [uf_ne, uf_eq, sh0]
    · simp (disch := omega) only [uf_ne, sh1]
      congr 1; omega
    · simp (disch := omega) only [uf_ne, uf_eq]
    · simp (disch := omega) only [uf_ne, uf_eq, sh0]
    · simp (disch := omega) only [uf_ne, uf_eq, sh0]
  · simp only [if_neg q]
    unfold sPut
    refine ⟨fun j hj => ?_, ?_, ?_, fun k i hk hi => ?_, ?_, ?_, ?_⟩
    · simp (disch := omega) only [uf_ne]
    · simp (disch := omega) only [uf_eq]
    · simp (disch := omega) only [uf_ne]
    · simp (disch := omega) only [uf_ne]; congr 1
    · simp (disch := omega) only [uf_ne, uf_eq]
    · simp (disch := omega) only [uf_ne, uf_eq]
    · simp (disch := omega) only [uf_ne, uf_eq]
section CG
variable (I : am_I) (R : am_R) (K : am_K)
theorem c_lose (a : Nat) (h : PL R K a) : ∃ I', ev 42 0 [some (.ref (a + 3)), none] [] (I, R, K) = some (none, (I', R, K)) ∧ I' (a + 3) 3 = nI 3 ∧ I' (a + 3) 4 = I (a + 3) 4 + nI 1 ∧ (∀ k, k < 3 → I' (a + 4) k = I (a + 4) (k + 1) ∧ I' (a + 5) k = I (a + 5) (k + 1) ∧ I' (a + 6) k = I (a + 6) (k + 1)) ∧ (∀ c, c ≠ a + 3 → c ≠ a + 4 → c ≠ a + 5 → c ≠ a + 6 → I' c = I c) := by
  obtain ⟨⟨h1, h2, h3, h4, h5, h6, h7⟩, ⟨r1, r2, r3, r4, r5, r6⟩, l1, l2, l3, l4, l5⟩ := h
  refine ⟨_, by
    simp (disch := first | assumption | omega | exact ixN (by assumption) (by omega) (by omega) | exact ne_10 | exact ne_1000 | exact ne_4) only [s42_0, s42_1, s42_2, s42_3, s42_4, s42_7, s42_7a, s42_8, s42_11, s42_12, s42_13, s42_14, s42_14a, s42_15, s42_18, s42_19, s42_20, s42_21, s42_21a, s42_22, s42_25, s42_26, s42_27, s42_28, s42_28a, s42_29, s42_32, s42_33, s42_34, s42_35, s42_35a, s42_36, s42_39, s42_40, s42_41, s42_42, s42_42a, s42_43, s42_46, s42_47, s42_48, s42_49, s42_52, s42_55, s42_55a, s42_56, s42_57, s42_60, s42_60a, s42_61, s42_62, s42_65, s42_66, s42_67, s42_70, ↓reduceIte, eq_self, Option.bind_some, Option.bind_none, Option.toList_some, Option.toList_none, List.cons_append, List.nil_append, am_rf_s, am_rf_n, am_c1_i, am_c1_r, am_c1_n, List.all_cons, List.all_nil, Bool.and_self, Bool.and_true, Bool.true_and, List.length_cons, List.length_nil, Nat.reduceAdd, Nat.reduceSub, Nat.reduceMul, Nat.reduceLeDiff, Nat.reduceLT, Nat.zero_le, Nat.le_refl, ne_10, ne_1000, ne_4, not_false_eq_true, or_true, true_or, Nat.one_ne_zero, Nat.zero_ne_one, Nat.reduceEqDiff, Bool.true_eq_false, Bool.false_eq_true, n10, nI_leI, nI_add, pk_sub, nI_clamp, ui_st, st_st, st_eq, st_ne, uf_eq, uf_ne, r4, r5, r6]
    rfl, ?_, ?_, ?_, ?_⟩
  · first | assumption | (simp (disch := omega) only [st_eq, st_ne, uf_eq, uf_ne]; done) | (simp (disch := omega) only [st_eq, st_ne, uf_eq, uf_ne]; assumption)
  · first | assumption | (simp (disch := omega) only [st_eq, st_ne, uf_eq, uf_ne]; done) | (simp (disch := omega) only [st_eq, st_ne, uf_eq, uf_ne]; assumption)
  · intro k hk
    have : k = 0 ∨ k = 1 ∨ k = 2 := by omega
    rcases this with rfl | rfl | rfl
    all_goals exact ⟨by first | assumption | (simp (disch := omega) only [st_eq, st_ne, uf_eq, uf_ne]; done) | (simp (disch := omega) only [st_eq, st_ne, uf_eq, uf_ne]; assumption), by first | assumption | (simp (disch := omega) only [st_eq, st_ne, uf_eq, uf_ne]; done) | (simp (disch := omega) only [st_eq, st_ne, uf_eq, uf_ne]; assumption), by first | assumption | (simp (disch := omega) only [st_eq, st_ne, uf_eq, uf_ne]; done) | (simp (disch := omega) only [st_eq, st_ne, uf_eq, uf_ne]; assumption)⟩
  · intro c z1 z2 z3 z4
    first | assumption | (simp (disch := omega) only [st_eq, st_ne, uf_eq, uf_ne]; done) | (simp (disch := omega) only [st_eq, st_ne, uf_eq, uf_ne]; assumption)
theorem c_enter (a n : Nat) (h : PL R K a) (hn : n ≤ 4) (hs : I (a + 3) 3 = nI n) (p A S : Int32) : ∃ I', ev 41 0 [some (.ref (a + 3)), some (.int p), some (.int A), some (.int S)] [] (I, R, K) = some (none, (I', R, K)) ∧ I' (a + 3) 3 = nI (rn1 n + 1) ∧ I' (a + 3) 4 = (if n = 4 then I (a + 3) 4 + nI 1 else I (a + 3) 4) ∧ (∀ k, k < rn1 n → I' (a + 4) k = I (a + 4) (k + rsh n) ∧ I' (a + 5) k = I (a + 5) (k + rsh n) ∧ I' (a + 6) k = I (a + 6) (k + rsh n)) ∧ I' (a + 4) (rn1 n) = p ∧ I' (a + 5) (rn1 n) = A ∧ I' (a + 6) (rn1 n) = S ∧ (∀ c, c ≠ a + 3 → c ≠ a + 4 → c ≠ a + 5 → c ≠ a + 6 → I' c = I c) := by
  have hPL := h
  obtain ⟨⟨h1, h2, h3, h4, h5, h6, h7⟩, ⟨r1, r2, r3, r4, r5, r6⟩, l1, l2, l3, l4, l5⟩ := h
  have back : ∀ (J : am_I) (m : Nat), m ≤ 3 → J (a + 3) 3 = nI m → ev 41 12 [some (.ref (a + 3)), some (.int p), some (.int A), some (.int S)] [] (J, R, K) = some (none, (st (st (st (st J (a + 4) (uf (J (a + 4)) m p)) (a + 5) (uf (J (a + 5)) m A)) (a + 6) (uf (J (a + 6)) m S)) (a + 3) (uf (J (a + 3)) 3 (nI (m + 1))), R, K)) := by
    intro J m hm hJ
    have m0 : ¬ nI m < nI 0 := nI_pos (by omega)
    have m4 : ¬ 4 ≤ m := by omega
    simp (disch := first | assumption | omega | exact ixN (by assumption) (by omega) (by omega) | exact ne_10 | exact ne_1000 | exact ne_4) only [s41_12, s41_12a, s41_13, s41_16, s41_19, s41_19a, s41_20, s41_23, s41_24, s41_27, s41_27a, s41_28, s41_31, s41_31a, s41_32, s41_35, s41_36, s41_37, s41_37a, s41_38, s41_41, s41_41a, s41_42, s41_45, s41_46, s41_47, s41_47a, s41_48, s41_51, s41_51a, s41_52, s41_55, s41_56, s41_57, s41_57a, s41_58, s41_59, s41_62, s41_63, s41_64, s41_67, ↓reduceIte, eq_self, Option.bind_some, Option.bind_none, Option.toList_some, Option.toList_none, List.cons_append, List.nil_append, am_rf_s, am_rf_n, am_c1_i, am_c1_r, am_c1_n, List.all_cons, List.all_nil, Bool.and_self, Bool.and_true, Bool.true_and, List.length_cons, List.length_nil, Nat.reduceAdd, Nat.reduceSub, Nat.reduceMul, Nat.reduceLeDiff, Nat.reduceLT, Nat.zero_le, Nat.le_refl, ne_10, ne_1000, ne_4, not_false_eq_true, or_true, true_or, Nat.one_ne_zero, Nat.zero_ne_one, Nat.reduceEqDiff, Bool.true_eq_false, Bool.false_eq_true, n10, nI_leI, nI_add, nI_clamp, ui_st, st_st, st_eq, st_ne, uf_eq, uf_ne, r4, r5, r6, hJ, m0, m4]
  unfold rn1 rsh
  by_cases q : n = 4
  · subst q
    simp only [if_true]
    obtain ⟨J, v1, v2, v3, v4, v5⟩ := c_lose I R K a hPL
    have bk := back J 3 (by omega) v2
    refine ⟨_, by
      simp (disch := first | assumption | omega | exact ixN (by assumption) (by omega) (by omega) | exact ne_10 | exact ne_1000 | exact ne_4) only [s41_0, s41_0a, s41_1, s41_4, s41_5, s41_8, s41_8a, s41_9, ↓reduceIte, eq_self, Option.bind_some, Option.bind_none, Option.toList_some, Option.toList_none, List.cons_append, List.nil_append, am_rf_s, am_rf_n, am_c1_i, am_c1_r, am_c1_n, List.all_cons, List.all_nil, Bool.and_self, Bool.and_true, Bool.true_and, List.length_cons, List.length_nil, Nat.reduceAdd, Nat.reduceSub, Nat.reduceMul, Nat.reduceLeDiff, Nat.reduceLT, Nat.zero_le, Nat.le_refl, ne_10, ne_1000, ne_4, not_false_eq_true, or_true, true_or, Nat.one_ne_zero, Nat.zero_ne_one, Nat.reduceEqDiff, Bool.true_eq_false, Bool.false_eq_true, n10, nI_ltI, hs, v1, bk]
      rfl, ?_, ?_, ?_, ?_, ?_, ?_, ?_⟩
    · first | assumption | (simp (disch := omega) only [st_eq, st_ne, uf_eq, uf_ne]; done) | (simp (disch := omega) only [st_eq, st_ne, uf_eq, uf_ne]; assumption)
    · first | assumption | (simp (disch := omega) only [st_eq, st_ne, uf_eq, uf_ne]; done) | (simp (disch := omega) only [st_eq, st_ne, uf_eq, uf_ne]; assumption)
    · intro k hk
      obtain ⟨y1, y2, y3⟩ := v4 k hk
      exact ⟨by first | assumption | (simp (disch := omega) only [st_eq, st_ne, uf_eq, uf_ne]; done) | (simp (disch := omega) only [st_eq, st_ne, uf_eq, uf_ne]; assumption), by first | assumption | (simp (disch := omega) only [st_eq, st_ne, uf_eq, uf_ne]; done) | (simp (disch := omega) only [st_eq, st_ne, uf_eq, uf_ne]; assumption), by first | assumption | (simp (disch := omega) only [st_eq, st_ne, uf_eq, uf_ne]; done) | (simp (disch := omega) only [st_eq, st_ne, uf_eq, uf_ne]; assumption)⟩
    · first | assumption | (simp (disch := omega) only [st_eq, st_ne, uf_eq, uf_ne]; done) | (simp (disch := omega) only [st_eq, st_ne, uf_eq, uf_ne]; assumption)
    · first | assumption | (simp (disch := omega) only [st_eq, st_ne, uf_eq, uf_ne]; done) | (simp (disch := omega) only [st_eq, st_ne, uf_eq, uf_ne]; assumption)
    · first | assumption | (simp (disch := omega) only [st_eq, st_ne, uf_eq, uf_ne]; done) | (simp (disch := omega) only [st_eq, st_ne, uf_eq, uf_ne]; assumption)
    · intro c z1 z2 z3 z4
      have y := v5 c z1 z2 z3 z4
      first | assumption | (simp (disch := omega) only [st_eq, st_ne, uf_eq, uf_ne]; done) | (simp (disch := omega) only [st_eq, st_ne, uf_eq, uf_ne]; assumption)
  · simp only [if_neg q]
    have q' : n < 4 := by omega
    have bk := back I n (by omega) hs
    refine ⟨_, by
      simp (disch := first | assumption | omega | exact ixN (by assumption) (by omega) (by omega) | exact ne_10 | exact ne_1000 | exact ne_4) only [s41_0, s41_0a, s41_1, s41_4, s41_5, s41_8, s41_8a, s41_9, ↓reduceIte, eq_self, Option.bind_some, Option.bind_none, Option.toList_some, Option.toList_none, List.cons_append, List.nil_append, am_rf_s, am_rf_n, am_c1_i, am_c1_r, am_c1_n, List.all_cons, List.all_nil, Bool.and_self, Bool.and_true, Bool.true_and, List.length_cons, List.length_nil, Nat.reduceAdd, Nat.reduceSub, Nat.reduceMul, Nat.reduceLeDiff, Nat.reduceLT, Nat.zero_le, Nat.le_refl, ne_10, ne_1000, ne_4, not_false_eq_true, or_true, true_or, Nat.one_ne_zero, Nat.zero_ne_one, Nat.reduceEqDiff, Bool.true_eq_false, Bool.false_eq_true, n10, nI_ltI, hs, q', bk]
      rfl, ?_, ?_, ?_, ?_, ?_, ?_, ?_⟩
    · first | assumption | (simp (disch := omega) only [st_eq, st_ne, uf_eq, uf_ne]; done) | (simp (disch := omega) only [st_eq, st_ne, uf_eq, uf_ne]; assumption)
    · first | assumption | (simp (disch := omega) only [st_eq, st_ne, uf_eq, uf_ne]; done) | (simp (disch := omega) only [st_eq, st_ne, uf_eq, uf_ne]; assumption)
    · intro k hk
      simp only [Nat.add_zero]
      exact ⟨by first | assumption | (simp (disch := omega) only [st_eq, st_ne, uf_eq, uf_ne]; done) | (simp (disch := omega) only [st_eq, st_ne, uf_eq, uf_ne]; assumption), by first | assumption | (simp (disch := omega) only [st_eq, st_ne, uf_eq, uf_ne]; done) | (simp (disch := omega) only [st_eq, st_ne, uf_eq, uf_ne]; assumption), by first | assumption | (simp (disch := omega) only [st_eq, st_ne, uf_eq, uf_ne]; done) | (simp (disch := omega) only [st_eq, st_ne, uf_eq, uf_ne]; assumption)⟩
    · first | assumption | (simp (disch := omega) only [st_eq, st_ne, uf_eq, uf_ne]; done) | (simp (disch := omega) only [st_eq, st_ne, uf_eq, uf_ne]; assumption)
    · first | assumption | (simp (disch := omega) only [st_eq, st_ne, uf_eq, uf_ne]; done) | (simp (disch := omega) only [st_eq, st_ne, uf_eq, uf_ne]; assumption)
    · first | assumption | (simp (disch := omega) only [st_eq, st_ne, uf_eq, uf_ne]; done) | (simp (disch := omega) only [st_eq, st_ne, uf_eq, uf_ne]; assumption)
    · intro c z1 z2 z3 z4
      first | assumption | (simp (disch := omega) only [st_eq, st_ne, uf_eq, uf_ne]; done) | (simp (disch := omega) only [st_eq, st_ne, uf_eq, uf_ne]; assumption)
/-- what entering makes of the relation -/
theorem RQ.ring {I I' : am_I} {a t n : Nat} {f : Nat → Int32} {p : Int32} (h : RQ I a f t) (hn : n ≤ 4) (hf : f (t + 17) = nI n) (e1 : I' (a + 3) 3 = nI (rn1 n + 1)) (e2 : I' (a + 3) 4 = (if n = 4 then I (a + 3) 4 + nI 1 else I (a + 3) 4)) (e3 : ∀ k, k < rn1 n → I' (a + 4) k = I (a + 4) (k + rsh n) ∧ I' (a + 5) k = I (a + 5) (k + rsh n) ∧ I' (a + 6) k = I (a + 6) (k + rsh n)) (e4 : I' (a + 4) (rn1 n) = p) (e5 : I' (a + 5) (rn1 n) = I a 5) (e6 : I' (a + 6) (rn1 n) = I a 7) (e7 : ∀ c, c ≠ a + 3 → c ≠ a + 4 → c ≠ a + 5 → c ≠ a + 6 → I' c = I c) : RQ I' a (sRing f t n p) t := by
  obtain ⟨⟨h1, h2, h3, h4, h5, h6, h7⟩, ⟨d, d1, d2, d3⟩, n', n1, n2, n3⟩ := h
  have en : n' = n := by rw [hf, nI_eq (by omega) (by omega)] at n2; exact n2.symm
  subst en
  obtain ⟨s1, s2, s3, s4, s5, s6, s7⟩ := sRing_eqs f t n' p hn
  have i0 := e7 a (by omega) (by omega) (by omega) (by omega)
  have i1 := e7 (a + 1) (by omega) (by omega) (by omega) (by omega)
  have i2 := e7 (a + 2) (by omega) (by omega) (by omega) (by omega)
  have r3 : rn1 n' ≤ 3 := by unfold rn1; split <;> omega
  refine ⟨⟨?_, ?_, ?_, ?_, ?_, ?_, ?_⟩, ⟨d, d1, ?_, fun k hk => ⟨?_, ?_⟩⟩, rn1 n' + 1, by omega, s2, fun k hk => ?_⟩
  · rw [i0, s1 _ (by omega)]; exact h1
  · rw [i0, s1 _ (by omega)]; exact h2
  · rw [i0, s1 _ (by omega)]; exact h3
  · rw [i0, s1 _ (by omega)]; exact h4
  · rw [i0, s1 _ (by omega)]; exact h5
  · rw [s2]; exact e1
  · rw [s3, e2, h7]
  · rw [s1 _ (by omega)]; exact d2
  · rw [i1, s1 _ (by omega)]; exact (d3 k hk).1
  · rw [i2, s1 _ (by omega)]; exact (d3 k hk).2
  · by_cases z : k = rn1 n'
    · subst z
      exact ⟨by rw [s5]; exact e4, by rw [s6, ← h3]; exact e5, by rw [s7, ← h5]; exact e6⟩
    · have hk' : k < rn1 n' := by omega
      have hk2 : k + rsh n' < n' := by unfold rn1 at hk'; unfold rsh; split at hk' <;> simp_all; omega
      obtain ⟨y1, y2, y3⟩ := e3 k hk'
      obtain ⟨x1, x2, x3⟩ := n3 (k + rsh n') hk2
      have w0 := s4 k 0 hk' (by omega)
      have w1 := s4 k 1 hk' (by omega)
      have w2 := s4 k 2 hk' (by omega)
      refine ⟨by rw [y1, x1]; exact w0.symm, ?_, ?_⟩
      · rw [y2, x2, show t + 19 + 3 * k = t + 18 + 3 * k + 1 by omega, w1]; congr 1; omega
      · rw [y3, x3, show t + 20 + 3 * k = t + 18 + 3 * k + 2 by omega, w2]; congr 1; omega
theorem c_rtell (a n : Nat) (h : PL R K a) (hn : n ≤ 4) (hs : I (a + 3) 3 = nI n) (k w : Nat) (hk : k < 2 ^ 31) (hw : w ≤ 2) : ev 43 0 [some (.ref (a + 3)), some (.int (nI k)), some (.int (nI w))] [] (I, R, K) = some (some (.int (if n ≤ k then -4 else I (a + 4 + w) k)), (I, R, K)) := by
  obtain ⟨⟨h1, h2, h3, h4, h5, h6, h7⟩, ⟨r1, r2, r3, r4, r5, r6⟩, l1, l2, l3, l4, l5⟩ := h
  have m0 : ¬ nI k < nI 0 := nI_pos hk
  by_cases q : n ≤ k
  · simp (disch := first | assumption | omega | exact ixN (by assumption) (by omega) (by omega) | exact ne_10 | exact ne_1000 | exact ne_4) only [s43_0, s43_1, s43_4, s43_5, s43_5a, s43_6, s43_9, s43_12, s43_13, s43_14, s43_17, s43_19, s43_20, s43_21, s43_48, s43_48a, s43_49, s43_52, s43_53, s43_54, s43_55, s43_55a, s43_56, s43_59, s43_60, s43_61, s43_62, s43_62a, s43_63, s43_66, s43_67, s43_68, s43_69, s43_70, ↓reduceIte, eq_self, Option.bind_some, Option.bind_none, Option.toList_some, Option.toList_none, List.cons_append, List.nil_append, am_rf_s, am_rf_n, am_c1_i, am_c1_r, am_c1_n, List.all_cons, List.all_nil, Bool.and_self, Bool.and_true, Bool.true_and, List.length_cons, List.length_nil, Nat.reduceAdd, Nat.reduceSub, Nat.reduceMul, Nat.reduceLeDiff, Nat.reduceLT, Nat.zero_le, Nat.le_refl, ne_10, ne_1000, ne_4, not_false_eq_true, or_true, true_or, Nat.one_ne_zero, Nat.zero_ne_one, Nat.reduceEqDiff, Bool.true_eq_false, Bool.false_eq_true, n10, nI_leI, m0, hs, q]
  · have q4 : k < 4 := by omega
    have : w = 0 ∨ w = 1 ∨ w = 2 := by omega
    rcases this with rfl | rfl | rfl
    all_goals simp (disch := first | assumption | omega | exact ixN (by assumption) (by omega) (by omega) | exact ne_10 | exact ne_1000 | exact ne_4) only [s43_0, s43_1, s43_4, s43_5, s43_5a, s43_6, s43_9, s43_12, s43_13, s43_14, s43_17, s43_19, s43_20, s43_21, s43_48, s43_48a, s43_49, s43_52, s43_53, s43_54, s43_55, s43_55a, s43_56, s43_59, s43_60, s43_61, s43_62, s43_62a, s43_63, s43_66, s43_67, s43_68, s43_69, s43_70, ↓reduceIte, eq_self, Option.bind_some, Option.bind_none, Option.toList_some, Option.toList_none, List.cons_append, List.nil_append, am_rf_s, am_rf_n, am_c1_i, am_c1_r, am_c1_n, List.all_cons, List.all_nil, Bool.and_self, Bool.and_true, Bool.true_and, List.length_cons, List.length_nil, Nat.reduceAdd, Nat.reduceSub, Nat.reduceMul, Nat.reduceLeDiff, Nat.reduceLT, Nat.zero_le, Nat.le_refl, ne_10, ne_1000, ne_4, not_false_eq_true, or_true, true_or, Nat.one_ne_zero, Nat.zero_ne_one, Nat.reduceEqDiff, Bool.true_eq_false, Bool.false_eq_true, n10, nI_leI, nI_ltI, nI_eq, nI_clamp, m0, hs, q, q4, r4, r5, r6]
end CG
