/-! the class: a state, its probes -/
def SB (R : am_R) (K : am_K) (b : Nat) : Prop := (am_isK K b 7 = true ∧ am_isK K (b + 17) 23 = true ∧ K.1 (b + 17) = 6) ∧ (R b 0 = some (b + 1) ∧ R b 1 = some (b + 3) ∧ R b 2 = some (b + 10) ∧ R b 3 = some (b + 17)) ∧ ML R K (b + 1) ∧ PL R K (b + 3) ∧ PL R K (b + 10) ∧ ∀ p, p < 6 → R (b + 17) p = some (b + 18 + p) ∧ am_isK K (b + 18 + p) 3 = true
/-- the filter of a probe: none, or letters that never change -/
def FL (I : am_I) (R : am_R) (K : am_K) (pa u : Nat) (f : Nat → Int32) : Prop := (R pa 8 = none ∧ f (u + 7) = nI 0) ∨ ∃ x n, R pa 8 = some x ∧ 156 ≤ x ∧ 1 ≤ n ∧ f (u + 7) = nI n ∧ RT I R K x (x + 1) n n (fun i => f (u + 8 + i))
def RPb (I : am_I) (R : am_R) (K : am_K) (pa p : Nat) (f : Nat → Int32) : Prop := I pa 0 = nI p ∧ I pa 1 = f (70 + 208 * p) ∧ (∃ s, s ≤ 3 ∧ f (70 + 208 * p) = nI s) ∧ (¬ f (70 + 208 * p) = nI 3 → (I pa 2 = f (70 + 208 * p + 1) ∧ I pa 3 = f (70 + 208 * p + 2) ∧ I pa 4 = f (70 + 208 * p + 3) ∧ I pa 5 = f (70 + 208 * p + 4) ∧ I pa 6 = f (70 + 208 * p + 5) ∧ I pa 7 = f (70 + 208 * p + 6)) ∧ FL I R K pa (70 + 208 * p) f)
def RS (I : am_I) (R : am_R) (K : am_K) (b : Nat) (f : Nat → Int32) : Prop := (∀ k, k < 8 → I (b + 2) k = f k) ∧ RQ I (b + 3) f 8 ∧ RQ I (b + 10) f 39 ∧ ∀ p, p < 6 → RPb I R K (b + 18 + p) p f
def pRef (b : Nat) : Option Nat → Value
  | none => .null
  | some p => .ref (b + 18 + p)
def ngP (f : Nat → Int32) (x : Int32) : Option Nat := if isPr f x then some x.toNatClampNeg else none
theorem is_lt3 {f : Nat → Int32} {u : Nat} (h : ∃ s, s ≤ 3 ∧ f u = nI s) : (f u < nI 3) = ¬ f u = nI 3 := by
  obtain ⟨s, hs, e⟩ := h
  rw [e]
  apply propext
  rw [nI_ltI (by omega) (by omega), nI_eq (by omega) (by omega)]
  omega
section CX
variable (I : am_I) (R : am_R) (K : am_K) (b : Nat) (f : Nat → Int32)
theorem c_processorOrNull (h : SB R K b) (x : Int32) : ev 53 0 [some (.ref b), some (.int x)] [] (I, R, K) = some (some (if x = nI 0 then .ref (b + 3) else if x = nI 1 then .ref (b + 10) else .null), (I, R, K)) := by
  obtain ⟨⟨h1, h2, h3⟩, ⟨r0, r1, r2, r3⟩, -⟩ := h
  by_cases q : x = nI 0
  · simp (disch := first | assumption | omega | exact ixN (by assumption) (by omega) (by omega) | exact ne_10 | exact ne_1000 | exact ne_4) only [s53_0, s53_1, s53_4, s53_4a, s53_5, s53_8, s53_8a, s53_9, s53_10, s53_11, s53_14, s53_14a, s53_15, s53_18, s53_21, s53_22, s53_22a, ↓reduceIte, eq_self, Option.bind_some, Option.bind_none, Option.toList_some, Option.toList_none, List.cons_append, List.nil_append, am_rf_s, am_rf_n, am_c1_i, am_c1_r, am_c1_n, List.all_cons, List.all_nil, Bool.and_self, Bool.and_true, Bool.true_and, List.length_cons, List.length_nil, Nat.reduceAdd, Nat.reduceSub, Nat.reduceMul, Nat.reduceLeDiff, Nat.reduceLT, Nat.zero_le, Nat.le_refl, ne_10, ne_1000, ne_4, not_false_eq_true, or_true, true_or, Nat.one_ne_zero, Nat.zero_ne_one, Nat.reduceEqDiff, Bool.true_eq_false, Bool.false_eq_true, n10, q, r1]
  · by_cases q2 : x = nI 1
    · simp (disch := first | assumption | omega | exact ixN (by assumption) (by omega) (by omega) | exact ne_10 | exact ne_1000 | exact ne_4) only [s53_0, s53_1, s53_4, s53_4a, s53_5, s53_8, s53_8a, s53_9, s53_10, s53_11, s53_14, s53_14a, s53_15, s53_18, s53_21, s53_22, s53_22a, ↓reduceIte, eq_self, Option.bind_some, Option.bind_none, Option.toList_some, Option.toList_none, List.cons_append, List.nil_append, am_rf_s, am_rf_n, am_c1_i, am_c1_r, am_c1_n, List.all_cons, List.all_nil, Bool.and_self, Bool.and_true, Bool.true_and, List.length_cons, List.length_nil, Nat.reduceAdd, Nat.reduceSub, Nat.reduceMul, Nat.reduceLeDiff, Nat.reduceLT, Nat.zero_le, Nat.le_refl, ne_10, ne_1000, ne_4, not_false_eq_true, or_true, true_or, Nat.one_ne_zero, Nat.zero_ne_one, Nat.reduceEqDiff, Bool.true_eq_false, Bool.false_eq_true, n10, q, q2, r2, nI_eq]
    · simp (disch := first | assumption | omega | exact ixN (by assumption) (by omega) (by omega) | exact ne_10 | exact ne_1000 | exact ne_4) only [s53_0, s53_1, s53_4, s53_4a, s53_5, s53_8, s53_8a, s53_9, s53_10, s53_11, s53_14, s53_14a, s53_15, s53_18, s53_21, s53_22, s53_22a, ↓reduceIte, eq_self, Option.bind_some, Option.bind_none, Option.toList_some, Option.toList_none, List.cons_append, List.nil_append, am_rf_s, am_rf_n, am_c1_i, am_c1_r, am_c1_n, List.all_cons, List.all_nil, Bool.and_self, Bool.and_true, Bool.true_and, List.length_cons, List.length_nil, Nat.reduceAdd, Nat.reduceSub, Nat.reduceMul, Nat.reduceLeDiff, Nat.reduceLT, Nat.zero_le, Nat.le_refl, ne_10, ne_1000, ne_4, not_false_eq_true, or_true, true_or, Nat.one_ne_zero, Nat.zero_ne_one, Nat.reduceEqDiff, Bool.true_eq_false, Bool.false_eq_true, n10, q, q2]
theorem c_probeOrNull (h : SB R K b) (x : Int32) : ev 54 0 [some (.ref b), some (.int x)] [] (I, R, K) = some (some (pRef b (if inR x 0 5 then some x.toNatClampNeg else none)), (I, R, K)) := by
  obtain ⟨⟨h1, h2, h3⟩, ⟨r0, r1, r2, r3⟩, hm, hp1, hp2, hp⟩ := h
  have h2' : (am_isK K (b + 17) 23 || am_isK K (b + 17) 24) = true := by rw [h2]; rfl
  by_cases q : x < nI 0
  · have e : inR x 0 5 = false := by unfold inR; simp [Int32.not_le.mpr q]
    rw [e]
    simp (disch := first | assumption | omega | exact ixN (by assumption) (by omega) (by omega) | exact ne_10 | exact ne_1000 | exact ne_4) only [s54_0, s54_1, s54_4, s54_5, s54_5a, s54_6, s54_9, s54_9a, s54_9b, s54_9c, s54_10, s54_13, s54_13a, s54_14, s54_17, s54_18, s54_18a, s54_19, s54_22, s54_23, s54_23a, ↓reduceIte, eq_self, Option.bind_some, Option.bind_none, Option.toList_some, Option.toList_none, List.cons_append, List.nil_append, am_rf_s, am_rf_n, am_c1_i, am_c1_r, am_c1_n, List.all_cons, List.all_nil, Bool.and_self, Bool.and_true, Bool.true_and, List.length_cons, List.length_nil, Nat.reduceAdd, Nat.reduceSub, Nat.reduceMul, Nat.reduceLeDiff, Nat.reduceLT, Nat.zero_le, Nat.le_refl, ne_10, ne_1000, ne_4, not_false_eq_true, or_true, true_or, Nat.one_ne_zero, Nat.zero_ne_one, Nat.reduceEqDiff, Bool.true_eq_false, Bool.false_eq_true, n10, q, pRef]
  · obtain ⟨k, hk, rfl⟩ : ∃ k, k < 2 ^ 31 ∧ x = nI k := nI_of q
    have e0 : nI 0 ≤ nI k := Int32.not_lt.mp q
    by_cases q1 : 6 ≤ k
    · have e1 : ¬ nI k ≤ nI 5 := by rw [nI_leI (by omega) (by omega)]; omega
      have e : inR (nI k) 0 5 = false := by unfold inR; simp [e1]
      rw [e]
      simp (disch := first | assumption | omega | exact ixN (by assumption) (by omega) (by omega) | exact ne_10 | exact ne_1000 | exact ne_4) only [s54_0, s54_1, s54_4, s54_5, s54_5a, s54_6, s54_9, s54_9a, s54_9b, s54_9c, s54_10, s54_13, s54_13a, s54_14, s54_17, s54_18, s54_18a, s54_19, s54_22, s54_23, s54_23a, ↓reduceIte, eq_self, Option.bind_some, Option.bind_none, Option.toList_some, Option.toList_none, List.cons_append, List.nil_append, am_rf_s, am_rf_n, am_c1_i, am_c1_r, am_c1_n, List.all_cons, List.all_nil, Bool.and_self, Bool.and_true, Bool.true_and, List.length_cons, List.length_nil, Nat.reduceAdd, Nat.reduceSub, Nat.reduceMul, Nat.reduceLeDiff, Nat.reduceLT, Nat.zero_le, Nat.le_refl, ne_10, ne_1000, ne_4, not_false_eq_true, or_true, true_or, Nat.one_ne_zero, Nat.zero_ne_one, Nat.reduceEqDiff, Bool.true_eq_false, Bool.false_eq_true, n10, nI_leI, q, r3, h3, q1, pRef]
    · have e1 : nI k ≤ nI 5 := nI_le (by omega) (by omega)
      have e : inR (nI k) 0 5 = true := by unfold inR; simp [e0, e1]
      rw [e]
      have hpk := (hp k (by omega)).1
      simp (disch := first | assumption | omega | exact ixN (by assumption) (by omega) (by omega) | exact ne_10 | exact ne_1000 | exact ne_4) only [s54_0, s54_1, s54_4, s54_5, s54_5a, s54_6, s54_9, s54_9a, s54_9b, s54_9c, s54_10, s54_13, s54_13a, s54_14, s54_17, s54_18, s54_18a, s54_19, s54_22, s54_23, s54_23a, ↓reduceIte, eq_self, Option.bind_some, Option.bind_none, Option.toList_some, Option.toList_none, List.cons_append, List.nil_append, am_rf_s, am_rf_n, am_c1_i, am_c1_r, am_c1_n, List.all_cons, List.all_nil, Bool.and_self, Bool.and_true, Bool.true_and, List.length_cons, List.length_nil, Nat.reduceAdd, Nat.reduceSub, Nat.reduceMul, Nat.reduceLeDiff, Nat.reduceLT, Nat.zero_le, Nat.le_refl, ne_10, ne_1000, ne_4, not_false_eq_true, or_true, true_or, Nat.one_ne_zero, Nat.zero_ne_one, Nat.reduceEqDiff, Bool.true_eq_false, Bool.false_eq_true, n10, nI_leI, nI_clamp, q, r3, h3, q1, pRef, hpk]
theorem c_probeNotGone (h : SB R K b) (hs : RS I R K b f) (x : Int32) : ev 55 0 [some (.ref b), some (.int x), none] [] (I, R, K) = some (some (pRef b (ngP f x)), (I, R, K)) := by
  have e := c_probeOrNull I R K b h x
  have h1 := h.1.1
  have hp := h.2.2.2.2.2
  unfold ngP
  by_cases q : inR x 0 5 = false
  · have e2 : isPr f x = false := by unfold isPr; rw [q]; rfl
    rw [q] at e
    rw [e2]
    simp only [Bool.false_eq_true, if_false, pRef] at e ⊢
    simp (disch := first | assumption | omega | exact ixN (by assumption) (by omega) (by omega) | exact ne_10 | exact ne_1000 | exact ne_4) only [s55_0, s55_0a, s55_1, s55_2, s55_5, s55_5a, s55_6, s55_6a, s55_7, s55_7a, s55_10, s55_10a, s55_11, s55_14, s55_15, s55_18, s55_19, s55_22, s55_22a, s55_23, s55_23a, ↓reduceIte, eq_self, Option.bind_some, Option.bind_none, Option.toList_some, Option.toList_none, List.cons_append, List.nil_append, am_rf_s, am_rf_n, am_c1_i, am_c1_r, am_c1_n, List.all_cons, List.all_nil, Bool.and_self, Bool.and_true, Bool.true_and, List.length_cons, List.length_nil, Nat.reduceAdd, Nat.reduceSub, Nat.reduceMul, Nat.reduceLeDiff, Nat.reduceLT, Nat.zero_le, Nat.le_refl, ne_10, ne_1000, ne_4, not_false_eq_true, or_true, true_or, Nat.one_ne_zero, Nat.zero_ne_one, Nat.reduceEqDiff, Bool.true_eq_false, Bool.false_eq_true, n10, e]
  · obtain ⟨k, -, hk, rfl⟩ := inR_of (nf q) (by omega) (by omega)
    rw [nf q] at e
    have ek : (nI k).toNatClampNeg = k := nI_clamp (by omega)
    simp only [if_true, pRef, ek] at e ⊢
    obtain ⟨p1, p2, p3, p4⟩ := hs.2.2.2 k (by omega)
    have kk := (hp k (by omega)).2
    have lt := is_lt3 p3
    by_cases q3 : f (70 + 208 * k) = nI 3
    · have e2 : isPr f (nI k) = false := by unfold isPr; rw [ek]; simp only [lt]; simp [q3]
      rw [e2]
      simp (disch := first | assumption | omega | exact ixN (by assumption) (by omega) (by omega) | exact ne_10 | exact ne_1000 | exact ne_4) only [s55_0, s55_0a, s55_1, s55_2, s55_5, s55_5a, s55_6, s55_6a, s55_7, s55_7a, s55_10, s55_10a, s55_11, s55_14, s55_15, s55_18, s55_19, s55_22, s55_22a, s55_23, s55_23a, ↓reduceIte, eq_self, Option.bind_some, Option.bind_none, Option.toList_some, Option.toList_none, List.cons_append, List.nil_append, am_rf_s, am_rf_n, am_c1_i, am_c1_r, am_c1_n, List.all_cons, List.all_nil, Bool.and_self, Bool.and_true, Bool.true_and, List.length_cons, List.length_nil, Nat.reduceAdd, Nat.reduceSub, Nat.reduceMul, Nat.reduceLeDiff, Nat.reduceLT, Nat.zero_le, Nat.le_refl, ne_10, ne_1000, ne_4, not_false_eq_true, or_true, true_or, Nat.one_ne_zero, Nat.zero_ne_one, Nat.reduceEqDiff, Bool.true_eq_false, Bool.false_eq_true, n10, e, p2, q3]
    · have e2 : isPr f (nI k) = true := by unfold isPr; rw [ek, nf q]; simp only [lt]; simp [q3]
      rw [e2]
      simp (disch := first | assumption | omega | exact ixN (by assumption) (by omega) (by omega) | exact ne_10 | exact ne_1000 | exact ne_4) only [s55_0, s55_0a, s55_1, s55_2, s55_5, s55_5a, s55_6, s55_6a, s55_7, s55_7a, s55_10, s55_10a, s55_11, s55_14, s55_15, s55_18, s55_19, s55_22, s55_22a, s55_23, s55_23a, ↓reduceIte, eq_self, Option.bind_some, Option.bind_none, Option.toList_some, Option.toList_none, List.cons_append, List.nil_append, am_rf_s, am_rf_n, am_c1_i, am_c1_r, am_c1_n, List.all_cons, List.all_nil, Bool.and_self, Bool.and_true, Bool.true_and, List.length_cons, List.length_nil, Nat.reduceAdd, Nat.reduceSub, Nat.reduceMul, Nat.reduceLeDiff, Nat.reduceLT, Nat.zero_le, Nat.le_refl, ne_10, ne_1000, ne_4, not_false_eq_true, or_true, true_or, Nat.one_ne_zero, Nat.zero_ne_one, Nat.reduceEqDiff, Bool.true_eq_false, Bool.false_eq_true, n10, e, p2, q3]
theorem isPr_nI {f : Nat → Int32} {p : Nat} (hp : p < 6) : isPr f (nI p) = decide (f (70 + 208 * p) < nI 3) := by
  unfold isPr
  have e0 : nI 0 ≤ nI p := nI_le (by omega) (by omega)
  have e1 : nI p ≤ nI 5 := nI_le (by omega) (by omega)
  have e : inR (nI p) 0 5 = true := by unfold inR; simp [e0, e1]
  rw [e, nI_clamp (by omega), Bool.true_and]
theorem c_probeOn (h : SB R K b) (hs : RS I R K b f) (cell : Int32) : ev 56 0 [some (.ref b), some (.int cell), none, none] [] (I, R, K) = some (some (pRef b (pOn f cell)), (I, R, K)) := by
  have hSB := h
  have h1 := h.1.1
  have hp := h.2.2.2.2.2
  have loop : ∀ (r p : Nat), p + r = 6 → ∀ l3, ev 56 2 [some (.ref b), some (.int cell), some (.int (nI p)), l3] [] (I, R, K) = some (some (pRef b (fs (fun p => decide (f (70 + 208 * p) < nI 3) && decide (f (72 + 208 * p) = cell)) r p)), (I, R, K)) := by
    intro r
    induction r with
    | zero =>
      intro p hp' l3
      have hp' : p = 6 := by omega
      subst hp'
      simp (disch := first | assumption | omega | exact ixN (by assumption) (by omega) (by omega) | exact ne_10 | exact ne_1000 | exact ne_4) only [s56_0, s56_1, s56_2, s56_3, s56_5, s56_8, s56_8a, s56_9, s56_10, s56_13, s56_13a, s56_14, s56_14a, s56_15, s56_15a, s56_18, s56_18a, s56_19, s56_22, s56_23, s56_26, s56_26a, s56_27, s56_27a, s56_28, s56_31, s56_34, s56_35, s56_35a, ↓reduceIte, eq_self, Option.bind_some, Option.bind_none, Option.toList_some, Option.toList_none, List.cons_append, List.nil_append, am_rf_s, am_rf_n, am_c1_i, am_c1_r, am_c1_n, List.all_cons, List.all_nil, Bool.and_self, Bool.and_true, Bool.true_and, List.length_cons, List.length_nil, Nat.reduceAdd, Nat.reduceSub, Nat.reduceMul, Nat.reduceLeDiff, Nat.reduceLT, Nat.zero_le, Nat.le_refl, ne_10, ne_1000, ne_4, not_false_eq_true, or_true, true_or, Nat.one_ne_zero, Nat.zero_ne_one, Nat.reduceEqDiff, Bool.true_eq_false, Bool.false_eq_true, n10, nI_leI, fs, pRef]
    | succ r ih =>
      intro p hp' l3
      have q0 : ¬ 6 ≤ p := by omega
      have ng := c_probeNotGone I R K b f hSB hs (nI p)
      have kk := (hp p (by omega)).2
      obtain ⟨p1, p2, p3, p4⟩ := hs.2.2.2 p (by omega)
      unfold ngP at ng
      rw [isPr_nI (by omega), nI_clamp (by omega)] at ng
      unfold fs
      rw [s56_2]
      by_cases c1 : f (70 + 208 * p) < nI 3
      · have c1' := c1
        rw [is_lt3 p3] at c1'
        have e3 := (p4 c1').1.2.1
        have e72 : 70 + 208 * p + 2 = 72 + 208 * p := by omega
        rw [e72] at e3
        simp only [c1, decide_true, if_true, pRef] at ng
        by_cases c2 : f (72 + 208 * p) = cell
        · simp (disch := first | assumption | omega | exact ixN (by assumption) (by omega) (by omega) | exact ne_10 | exact ne_1000 | exact ne_4) only [s56_3, s56_5, s56_8, s56_8a, s56_9, s56_10, s56_13, s56_13a, s56_14, s56_14a, s56_15, s56_15a, s56_18, s56_18a, s56_19, s56_22, s56_23, s56_26, s56_26a, s56_27, s56_27a, s56_28, s56_31, ↓reduceIte, eq_self, Option.bind_some, Option.bind_none, Option.toList_some, Option.toList_none, List.cons_append, List.nil_append, am_rf_s, am_rf_n, am_c1_i, am_c1_r, am_c1_n, List.all_cons, List.all_nil, Bool.and_self, Bool.and_true, Bool.true_and, List.length_cons, List.length_nil, Nat.reduceAdd, Nat.reduceSub, Nat.reduceMul, Nat.reduceLeDiff, Nat.reduceLT, Nat.zero_le, Nat.le_refl, ne_10, ne_1000, ne_4, not_false_eq_true, or_true, true_or, Nat.one_ne_zero, Nat.zero_ne_one, Nat.reduceEqDiff, Bool.true_eq_false, Bool.false_eq_true, n10, nI_leI, q0, ng, e3, c1, c2, decide_true, pRef]
        · simp (disch := first | assumption | omega | exact ixN (by assumption) (by omega) (by omega) | exact ne_10 | exact ne_1000 | exact ne_4) only [s56_3, s56_5, s56_8, s56_8a, s56_9, s56_10, s56_13, s56_13a, s56_14, s56_14a, s56_15, s56_15a, s56_18, s56_18a, s56_19, s56_22, s56_23, s56_26, s56_26a, s56_27, s56_27a, s56_28, s56_31, ↓reduceIte, eq_self, Option.bind_some, Option.bind_none, Option.toList_some, Option.toList_none, List.cons_append, List.nil_append, am_rf_s, am_rf_n, am_c1_i, am_c1_r, am_c1_n, List.all_cons, List.all_nil, Bool.and_self, Bool.and_true, Bool.true_and, List.length_cons, List.length_nil, Nat.reduceAdd, Nat.reduceSub, Nat.reduceMul, Nat.reduceLeDiff, Nat.reduceLT, Nat.zero_le, Nat.le_refl, ne_10, ne_1000, ne_4, not_false_eq_true, or_true, true_or, Nat.one_ne_zero, Nat.zero_ne_one, Nat.reduceEqDiff, Bool.true_eq_false, Bool.false_eq_true, n10, nI_leI, nI_add, q0, ng, e3, c1, c2, decide_true, decide_false, Bool.and_false, ih (p + 1) (by omega)]
      · simp only [c1, decide_false, Bool.false_eq_true, if_false, pRef] at ng
        simp (disch := first | assumption | omega | exact ixN (by assumption) (by omega) (by omega) | exact ne_10 | exact ne_1000 | exact ne_4) only [s56_3, s56_5, s56_8, s56_8a, s56_9, s56_10, s56_13, s56_13a, s56_14, s56_14a, s56_15, s56_15a, s56_18, s56_18a, s56_19, s56_22, s56_23, s56_26, s56_26a, s56_27, s56_27a, s56_28, s56_31, ↓reduceIte, eq_self, Option.bind_some, Option.bind_none, Option.toList_some, Option.toList_none, List.cons_append, List.nil_append, am_rf_s, am_rf_n, am_c1_i, am_c1_r, am_c1_n, List.all_cons, List.all_nil, Bool.and_self, Bool.and_true, Bool.true_and, List.length_cons, List.length_nil, Nat.reduceAdd, Nat.reduceSub, Nat.reduceMul, Nat.reduceLeDiff, Nat.reduceLT, Nat.zero_le, Nat.le_refl, ne_10, ne_1000, ne_4, not_false_eq_true, or_true, true_or, Nat.one_ne_zero, Nat.zero_ne_one, Nat.reduceEqDiff, Bool.true_eq_false, Bool.false_eq_true, n10, nI_leI, nI_add, q0, ng, c1, decide_false, Bool.false_and, ih (p + 1) (by omega)]
  simp (disch := first | assumption | omega | exact ixN (by assumption) (by omega) (by omega) | exact ne_10 | exact ne_1000 | exact ne_4) only [s56_0, s56_1, loop 6 0 rfl]
  rfl
theorem c_lowestGone (h : SB R K b) (hs : RS I R K b f) : ev 58 0 [some (.ref b), none] [] (I, R, K) = some (some (pRef b (gone f)), (I, R, K)) := by
  have hSB := h
  have h1 := h.1.1
  have hp := h.2.2.2.2.2
  have loop : ∀ (r p : Nat), p + r = 6 → ev 58 2 [some (.ref b), some (.int (nI p))] [] (I, R, K) = some (some (pRef b (fs (fun p => decide (f (70 + 208 * p) = nI 3)) r p)), (I, R, K)) := by
    intro r
    induction r with
    | zero =>
      intro p hp'
      have hp' : p = 6 := by omega
      subst hp'
      simp (disch := first | assumption | omega | exact ixN (by assumption) (by omega) (by omega) | exact ne_10 | exact ne_1000 | exact ne_4) only [s58_0, s58_1, s58_2, s58_3, s58_5, s58_8, s58_8a, s58_9, s58_10, s58_13, s58_13a, s58_16, s58_16a, s58_17, s58_18, s58_21, s58_21a, s58_22, s58_25, s58_28, s58_29, s58_29a, ↓reduceIte, eq_self, Option.bind_some, Option.bind_none, Option.toList_some, Option.toList_none, List.cons_append, List.nil_append, am_rf_s, am_rf_n, am_c1_i, am_c1_r, am_c1_n, List.all_cons, List.all_nil, Bool.and_self, Bool.and_true, Bool.true_and, List.length_cons, List.length_nil, Nat.reduceAdd, Nat.reduceSub, Nat.reduceMul, Nat.reduceLeDiff, Nat.reduceLT, Nat.zero_le, Nat.le_refl, ne_10, ne_1000, ne_4, not_false_eq_true, or_true, true_or, Nat.one_ne_zero, Nat.zero_ne_one, Nat.reduceEqDiff, Bool.true_eq_false, Bool.false_eq_true, n10, nI_leI, fs, pRef]
    | succ r ih =>
      intro p hp'
      have q0 : ¬ 6 ≤ p := by omega
      have ng := c_probeNotGone I R K b f hSB hs (nI p)
      have po := c_probeOrNull I R K b hSB (nI p)
      obtain ⟨p1, p2, p3, p4⟩ := hs.2.2.2 p (by omega)
      have e0 : nI 0 ≤ nI p := nI_le (by omega) (by omega)
      have e1 : nI p ≤ nI 5 := nI_le (by omega) (by omega)
      have e : inR (nI p) 0 5 = true := by unfold inR; simp [e0, e1]
      simp only [e, if_true, pRef, nI_clamp (show p < 2 ^ 31 by omega)] at po
      unfold ngP at ng
      rw [isPr_nI (by omega), nI_clamp (by omega)] at ng
      unfold fs
      rw [s58_2]
      by_cases c1 : f (70 + 208 * p) = nI 3
      · have c2 : ¬ f (70 + 208 * p) < nI 3 := by rw [is_lt3 p3]; exact fun z => z c1
        simp only [c2, decide_false, Bool.false_eq_true, if_false, pRef] at ng
        simp (disch := first | assumption | omega | exact ixN (by assumption) (by omega) (by omega) | exact ne_10 | exact ne_1000 | exact ne_4) only [s58_3, s58_5, s58_8, s58_8a, s58_9, s58_10, s58_13, s58_13a, s58_16, s58_16a, s58_17, s58_18, s58_21, s58_21a, s58_22, s58_25, ↓reduceIte, eq_self, Option.bind_some, Option.bind_none, Option.toList_some, Option.toList_none, List.cons_append, List.nil_append, am_rf_s, am_rf_n, am_c1_i, am_c1_r, am_c1_n, List.all_cons, List.all_nil, Bool.and_self, Bool.and_true, Bool.true_and, List.length_cons, List.length_nil, Nat.reduceAdd, Nat.reduceSub, Nat.reduceMul, Nat.reduceLeDiff, Nat.reduceLT, Nat.zero_le, Nat.le_refl, ne_10, ne_1000, ne_4, not_false_eq_true, or_true, true_or, Nat.one_ne_zero, Nat.zero_ne_one, Nat.reduceEqDiff, Bool.true_eq_false, Bool.false_eq_true, n10, nI_leI, q0, ng, po, c1, decide_true, pRef]
      · have c2 : f (70 + 208 * p) < nI 3 := by rw [is_lt3 p3]; exact c1
        simp only [c2, decide_true, if_true, pRef] at ng
        simp (disch := first | assumption | omega | exact ixN (by assumption) (by omega) (by omega) | exact ne_10 | exact ne_1000 | exact ne_4) only [s58_3, s58_5, s58_8, s58_8a, s58_9, s58_10, s58_13, s58_13a, s58_16, s58_16a, s58_17, s58_18, s58_21, s58_21a, s58_22, s58_25, ↓reduceIte, eq_self, Option.bind_some, Option.bind_none, Option.toList_some, Option.toList_none, List.cons_append, List.nil_append, am_rf_s, am_rf_n, am_c1_i, am_c1_r, am_c1_n, List.all_cons, List.all_nil, Bool.and_self, Bool.and_true, Bool.true_and, List.length_cons, List.length_nil, Nat.reduceAdd, Nat.reduceSub, Nat.reduceMul, Nat.reduceLeDiff, Nat.reduceLT, Nat.zero_le, Nat.le_refl, ne_10, ne_1000, ne_4, not_false_eq_true, or_true, true_or, Nat.one_ne_zero, Nat.zero_ne_one, Nat.reduceEqDiff, Bool.true_eq_false, Bool.false_eq_true, n10, nI_leI, nI_add, q0, ng, c1, decide_false, ih (p + 1) (by omega)]
  simp (disch := first | assumption | omega | exact ixN (by assumption) (by omega) (by omega) | exact ne_10 | exact ne_1000 | exact ne_4) only [s58_0, s58_1, loop 6 0 rfl]
  rfl
theorem c_howManyAre (h : SB R K b) (hs : RS I R K b f) (how : Int32) : ev 59 0 [some (.ref b), some (.int how), none, none, none] [] (I, R, K) = some (some (.int (many f how)), (I, R, K)) := by
  have hSB := h
  have h1 := h.1.1
  have hp := h.2.2.2.2.2
  have loop : ∀ (r p : Nat) (n : Int32), p + r = 6 → ∀ l4, ev 59 4 [some (.ref b), some (.int how), some (.int n), some (.int (nI p)), l4] [] (I, R, K) = some (some (.int (cu (fun p => if f (70 + 208 * p) = how then nI 1 else nI 0) r p n)), (I, R, K)) := by
    intro r
    induction r with
    | zero =>
      intro p n hp' l4
      have hp' : p = 6 := by omega
      subst hp'
      simp (disch := first | assumption | omega | exact ixN (by assumption) (by omega) (by omega) | exact ne_10 | exact ne_1000 | exact ne_4) only [s59_0, s59_1, s59_2, s59_3, s59_4, s59_5, s59_7, s59_10, s59_10a, s59_11, s59_12, s59_15, s59_15a, s59_17, s59_17a, s59_19, s59_19a, s59_22, s59_22a, s59_24, s59_27, s59_28, s59_31, s59_34, s59_37, s59_40, s59_41, ↓reduceIte, eq_self, Option.bind_some, Option.bind_none, Option.toList_some, Option.toList_none, List.cons_append, List.nil_append, am_rf_s, am_rf_n, am_c1_i, am_c1_r, am_c1_n, List.all_cons, List.all_nil, Bool.and_self, Bool.and_true, Bool.true_and, List.length_cons, List.length_nil, Nat.reduceAdd, Nat.reduceSub, Nat.reduceMul, Nat.reduceLeDiff, Nat.reduceLT, Nat.zero_le, Nat.le_refl, ne_10, ne_1000, ne_4, not_false_eq_true, or_true, true_or, Nat.one_ne_zero, Nat.zero_ne_one, Nat.reduceEqDiff, Bool.true_eq_false, Bool.false_eq_true, n10, nI_leI, cu]
    | succ r ih =>
      intro p n hp' l4
      have q0 : ¬ 6 ≤ p := by omega
      have po := c_probeOrNull I R K b hSB (nI p)
      obtain ⟨p1, p2, p3, p4⟩ := hs.2.2.2 p (by omega)
      have kk := (hp p (by omega)).2
      have e0 : nI 0 ≤ nI p := nI_le (by omega) (by omega)
      have e1 : nI p ≤ nI 5 := nI_le (by omega) (by omega)
      have e : inR (nI p) 0 5 = true := by unfold inR; simp [e0, e1]
      simp only [e, if_true, pRef, nI_clamp (show p < 2 ^ 31 by omega)] at po
      unfold cu
      rw [s59_4]
      by_cases c1 : f (70 + 208 * p) = how
      · simp (disch := first | assumption | omega | exact ixN (by assumption) (by omega) (by omega) | exact ne_10 | exact ne_1000 | exact ne_4) only [s59_5, s59_7, s59_10, s59_10a, s59_11, s59_12, s59_15, s59_15a, s59_17, s59_17a, s59_19, s59_19a, s59_22, s59_22a, s59_24, s59_27, s59_28, s59_31, s59_34, s59_37, ↓reduceIte, eq_self, Option.bind_some, Option.bind_none, Option.toList_some, Option.toList_none, List.cons_append, List.nil_append, am_rf_s, am_rf_n, am_c1_i, am_c1_r, am_c1_n, List.all_cons, List.all_nil, Bool.and_self, Bool.and_true, Bool.true_and, List.length_cons, List.length_nil, Nat.reduceAdd, Nat.reduceSub, Nat.reduceMul, Nat.reduceLeDiff, Nat.reduceLT, Nat.zero_le, Nat.le_refl, ne_10, ne_1000, ne_4, not_false_eq_true, or_true, true_or, Nat.one_ne_zero, Nat.zero_ne_one, Nat.reduceEqDiff, Bool.true_eq_false, Bool.false_eq_true, n10, nI_leI, nI_add, q0, po, p2, c1, ih (p + 1) _ (by omega)]
      · have en : n + nI 0 = n := Int32.add_zero n
        simp (disch := first | assumption | omega | exact ixN (by assumption) (by omega) (by omega) | exact ne_10 | exact ne_1000 | exact ne_4) only [s59_5, s59_7, s59_10, s59_10a, s59_11, s59_12, s59_15, s59_15a, s59_17, s59_17a, s59_19, s59_19a, s59_22, s59_22a, s59_24, s59_27, s59_28, s59_31, s59_34, s59_37, ↓reduceIte, eq_self, Option.bind_some, Option.bind_none, Option.toList_some, Option.toList_none, List.cons_append, List.nil_append, am_rf_s, am_rf_n, am_c1_i, am_c1_r, am_c1_n, List.all_cons, List.all_nil, Bool.and_self, Bool.and_true, Bool.true_and, List.length_cons, List.length_nil, Nat.reduceAdd, Nat.reduceSub, Nat.reduceMul, Nat.reduceLeDiff, Nat.reduceLT, Nat.zero_le, Nat.le_refl, ne_10, ne_1000, ne_4, not_false_eq_true, or_true, true_or, Nat.one_ne_zero, Nat.zero_ne_one, Nat.reduceEqDiff, Bool.true_eq_false, Bool.false_eq_true, n10, nI_leI, nI_add, q0, po, p2, c1, ih (p + 1) _ (by omega), en]
  simp (disch := first | assumption | omega | exact ixN (by assumption) (by omega) (by omega) | exact ne_10 | exact ne_1000 | exact ne_4) only [s59_0, s59_1, s59_2, s59_3, loop 6 0 (nI 0) rfl]
  rfl
theorem c_howManyHeld (h : SB R K b) (hs : RS I R K b f) : ev 60 0 [some (.ref b), none, none, none] [] (I, R, K) = some (some (.int (held f)), (I, R, K)) := by
  have hSB := h
  have h1 := h.1.1
  have hp := h.2.2.2.2.2
  have loop : ∀ (r p : Nat) (n : Int32), p + r = 6 → ∀ l3, ev 60 4 [some (.ref b), some (.int n), some (.int (nI p)), l3] [] (I, R, K) = some (some (.int (cu (fun p => if f (70 + 208 * p) < nI 3 then f (76 + 208 * p) else nI 0) r p n)), (I, R, K)) := by
    intro r
    induction r with
    | zero =>
      intro p n hp' l3
      have hp' : p = 6 := by omega
      subst hp'
      simp (disch := first | assumption | omega | exact ixN (by assumption) (by omega) (by omega) | exact ne_10 | exact ne_1000 | exact ne_4) only [s60_0, s60_1, s60_2, s60_3, s60_4, s60_5, s60_7, s60_10, s60_10a, s60_11, s60_12, s60_15, s60_15a, s60_16, s60_16a, s60_17, s60_17a, s60_20, s60_21, s60_21a, s60_22, s60_25, s60_26, s60_27, s60_30, s60_33, s60_34, ↓reduceIte, eq_self, Option.bind_some, Option.bind_none, Option.toList_some, Option.toList_none, List.cons_append, List.nil_append, am_rf_s, am_rf_n, am_c1_i, am_c1_r, am_c1_n, List.all_cons, List.all_nil, Bool.and_self, Bool.and_true, Bool.true_and, List.length_cons, List.length_nil, Nat.reduceAdd, Nat.reduceSub, Nat.reduceMul, Nat.reduceLeDiff, Nat.reduceLT, Nat.zero_le, Nat.le_refl, ne_10, ne_1000, ne_4, not_false_eq_true, or_true, true_or, Nat.one_ne_zero, Nat.zero_ne_one, Nat.reduceEqDiff, Bool.true_eq_false, Bool.false_eq_true, n10, nI_leI, cu]
    | succ r ih =>
      intro p n hp' l3
      have q0 : ¬ 6 ≤ p := by omega
      have ng := c_probeNotGone I R K b f hSB hs (nI p)
      obtain ⟨p1, p2, p3, p4⟩ := hs.2.2.2 p (by omega)
      have kk := (hp p (by omega)).2
      unfold ngP at ng
      rw [isPr_nI (by omega), nI_clamp (by omega)] at ng
      unfold cu
      rw [s60_4]
      by_cases c1 : f (70 + 208 * p) < nI 3
      · have c1' := c1
        rw [is_lt3 p3] at c1'
        have e7 := (p4 c1').1.2.2.2.2.2
        have e76 : 70 + 208 * p + 6 = 76 + 208 * p := by omega
        rw [e76] at e7
        simp only [c1, decide_true, if_true, pRef] at ng
        simp (disch := first | assumption | omega | exact ixN (by assumption) (by omega) (by omega) | exact ne_10 | exact ne_1000 | exact ne_4) only [s60_5, s60_7, s60_10, s60_10a, s60_11, s60_12, s60_15, s60_15a, s60_16, s60_16a, s60_17, s60_17a, s60_20, s60_21, s60_21a, s60_22, s60_25, s60_26, s60_27, s60_30, ↓reduceIte, eq_self, Option.bind_some, Option.bind_none, Option.toList_some, Option.toList_none, List.cons_append, List.nil_append, am_rf_s, am_rf_n, am_c1_i, am_c1_r, am_c1_n, List.all_cons, List.all_nil, Bool.and_self, Bool.and_true, Bool.true_and, List.length_cons, List.length_nil, Nat.reduceAdd, Nat.reduceSub, Nat.reduceMul, Nat.reduceLeDiff, Nat.reduceLT, Nat.zero_le, Nat.le_refl, ne_10, ne_1000, ne_4, not_false_eq_true, or_true, true_or, Nat.one_ne_zero, Nat.zero_ne_one, Nat.reduceEqDiff, Bool.true_eq_false, Bool.false_eq_true, n10, nI_leI, nI_add, q0, ng, e7, c1, ih (p + 1) _ (by omega)]
      · have en : n + nI 0 = n := Int32.add_zero n
        simp only [c1, decide_false, Bool.false_eq_true, if_false, pRef] at ng
        simp (disch := first | assumption | omega | exact ixN (by assumption) (by omega) (by omega) | exact ne_10 | exact ne_1000 | exact ne_4) only [s60_5, s60_7, s60_10, s60_10a, s60_11, s60_12, s60_15, s60_15a, s60_16, s60_16a, s60_17, s60_17a, s60_20, s60_21, s60_21a, s60_22, s60_25, s60_26, s60_27, s60_30, ↓reduceIte, eq_self, Option.bind_some, Option.bind_none, Option.toList_some, Option.toList_none, List.cons_append, List.nil_append, am_rf_s, am_rf_n, am_c1_i, am_c1_r, am_c1_n, List.all_cons, List.all_nil, Bool.and_self, Bool.and_true, Bool.true_and, List.length_cons, List.length_nil, Nat.reduceAdd, Nat.reduceSub, Nat.reduceMul, Nat.reduceLeDiff, Nat.reduceLT, Nat.zero_le, Nat.le_refl, ne_10, ne_1000, ne_4, not_false_eq_true, or_true, true_or, Nat.one_ne_zero, Nat.zero_ne_one, Nat.reduceEqDiff, Bool.true_eq_false, Bool.false_eq_true, n10, nI_leI, nI_add, q0, ng, c1, ih (p + 1) _ (by omega), en]
  simp (disch := first | assumption | omega | exact ixN (by assumption) (by omega) (by omega) | exact ne_10 | exact ne_1000 | exact ne_4) only [s60_0, s60_1, s60_2, s60_3, loop 6 0 (nI 0) rfl]
  rfl
end CX
