/-! the reference: reads, fault, lay -/
def fig (tx : Nat → Int32) (n i m : Nat) : Bool := decide (i < n) && inR (tx i) 48 (48 + m)
/-- how wide what is told at i is; 0: nothing that can be -/
def wd (tx : Nat → Int32) (n i : Nat) : Nat :=
  if tx i = nI 99 ∨ tx i = nI 106 ∨ tx i = nI 122 then (if fig tx n (i + 1) 9 = true ∧ fig tx n (i + 2) 9 = true then 3 else 0)
  else if tx i = nI 100 ∨ tx i = nI 104 ∨ tx i = nI 105 ∨ tx i = nI 114 then 1
  else if tx i = nI 108 ∨ tx i = nI 112 ∨ tx i = nI 115 then (if fig tx n (i + 1) 7 = true then 2 else 0) else 0
def wdI (w : Nat) : Int32 := if w = 0 then -1 else nI w
def ub (b : Nat → Bool) (i : Nat) : Nat → Bool := fun k => if k = i then true else b k
def rd1 (tx : Nat → Int32) (n : Nat) : Nat → Nat → (Nat → Bool) → Option Nat × (Nat → Bool)
  | 0, _, b => (none, b)
  | r + 1, i, b => if n ≤ i then (none, b) else if wd tx n i = 0 ∨ 60 < i + wd tx n i then (some i, b) else rd1 tx n r (i + wd tx n i) (ub b i)
def rd2 (tx : Nat → Int32) (n : Nat) (b : Nat → Bool) : Option Nat := fs (fun k => b k && decide (wd tx n k = 3) && !b (nt (dig2 tx k))) n 0
def rdB (tx : Nat → Int32) (n : Nat) : Nat → Bool := (rd1 tx n n 0 (fun _ => false)).2
def rd (tx : Nat → Int32) (n : Nat) : Option Nat := match (rd1 tx n n 0 (fun _ => false)).1 with
  | some i => some i
  | none => rd2 tx n (rdB tx n)
def sEmp (f : Nat → Int32) : Nat → Int32 := fun j => if j < 1318 then (if j = 70 ∨ j = 278 ∨ j = 486 ∨ j = 694 ∨ j = 902 ∨ j = 1110 then nI 3 else nI 0) else f j
theorem wd_le (tx : Nat → Int32) (n i : Nat) : wd tx n i ≤ 3 := by
  unfold wd; repeat' split
  all_goals omega
theorem fig_of {tx : Nat → Int32} {n i m : Nat} (h : fig tx n i m = true) (hm : m ≤ 9) : i < n ∧ ∃ a, a ≤ m ∧ tx i = nI (48 + a) := by
  unfold fig at h
  simp only [Bool.and_eq_true, decide_eq_true_eq] at h
  obtain ⟨q, h1, h2, h3⟩ := inR_of h.2 (by omega) (by omega)
  exact ⟨h.1, q - 48, by omega, by rw [h3]; congr 1; omega⟩
theorem wd_3 {tx : Nat → Int32} {n i : Nat} (h : wd tx n i = 3) : (tx i = nI 99 ∨ tx i = nI 106 ∨ tx i = nI 122) ∧ i + 2 < n ∧ ∃ a b, a ≤ 9 ∧ b ≤ 9 ∧ tx (i + 1) = nI (48 + a) ∧ tx (i + 2) = nI (48 + b) := by
  unfold wd at h
  split at h
  · rename_i q
    split at h
    · rename_i q2
      obtain ⟨-, a, ha, ha2⟩ := fig_of q2.1 (by omega)
      obtain ⟨h3, b, hb, hb2⟩ := fig_of q2.2 (by omega)
      exact ⟨q, h3, a, b, ha, hb, ha2, hb2⟩
    · omega
  · split at h
    · omega
    · split at h
      · split at h <;> omega
      · omega
theorem wd_WL {tx : Nat → Int32} {n i : Nat} (h : ¬ wd tx n i = 0) : WL tx n i := by
  unfold wd at h
  split at h
  · rename_i q
    split at h
    · rename_i q2
      obtain ⟨-, a, ha, ha2⟩ := fig_of q2.1 (by omega)
      obtain ⟨h3, b, hb, hb2⟩ := fig_of q2.2 (by omega)
      exact Or.inr (Or.inr ⟨by rcases q with q | q | q; exact Or.inr (Or.inr q); exact Or.inl q; exact Or.inr (Or.inl q), h3, a, b, ha, hb, ha2, hb2⟩)
    · omega
  · split at h
    · rename_i q
      exact Or.inl (by rcases q with q | q | q | q; exact Or.inr (Or.inl q); exact Or.inr (Or.inr (Or.inr q)); exact Or.inl q; exact Or.inr (Or.inr (Or.inl q)))
    · split at h
      · rename_i q
        split at h
        · rename_i q2
          obtain ⟨h3, a, ha, ha2⟩ := fig_of q2 (by omega)
          exact Or.inr (Or.inl ⟨by rcases q with q | q | q; exact Or.inl q; exact Or.inr (Or.inr q); exact Or.inr (Or.inl q), h3, a, ha, ha2⟩)
        · omega
      · omega
theorem wd_in {tx : Nat → Int32} {n i : Nat} (hi : i < n) : i + wd tx n i ≤ n := by
  unfold wd
  split
  · split
    · rename_i q; have := (fig_of q.2 (by omega)).1; omega
    · omega
  · split
    · omega
    · split
      · split
        · rename_i q; have := (fig_of q (by omega)).1; omega
        · omega
      · omega
/-- where reading begins is told wide enough; and all is within 60 if none is at fault -/
theorem rd1_b {tx : Nat → Int32} {n : Nat} : ∀ {r i : Nat} {b : Nat → Bool}, (∀ k, b k = true → ¬ wd tx n k = 0 ∧ k < n) → ∀ k, (rd1 tx n r i b).2 k = true → ¬ wd tx n k = 0 ∧ k < n
  | 0, _, _, h, k, hk => h k hk
  | r + 1, i, b, h, k, hk => by
    unfold rd1 at hk
    split at hk
    · exact h k hk
    · split at hk
      · exact h k hk
      · rename_i q0 q
        refine rd1_b (fun j hj => ?_) k hk
        unfold ub at hj
        split at hj
        · rename_i z; subst z; exact ⟨fun z => q (Or.inl z), by omega⟩
        · exact h j hj
theorem rd1_60 {tx : Nat → Int32} {n : Nat} : ∀ {r i : Nat} {b : Nat → Bool}, n ≤ i + r → i ≤ 60 → i ≤ n → (rd1 tx n r i b).1 = none → n ≤ 60
  | 0, i, _, h, h6, _, _ => by omega
  | r + 1, i, b, h, h6, hin, hk => by
    unfold rd1 at hk
    split at hk
    · omega
    · split at hk
      · cases hk
      · rename_i q0 q
        have := wd_in (tx := tx) (n := n) (i := i) (by omega)
        exact rd1_60 (by omega) (by omega) this hk
section MY
variable (I : am_I) (R : am_R) (K : am_K) (n nc cs : Nat) (tx cd bg f wz : Nat → Int32)
theorem m_isFigure (h : MK R K) (h0 : I 147 0 = nI n) (ht : I 148 = tx) (hn : n ≤ 200) (i m : Nat) (hi : i < 300) (hm : m ≤ 9) : ev 105 0 [some (.ref 147), some (.int (nI i)), some (.int (nI m))] [] (I, R, K) = some (some (.int (bI (fig tx n i m))), (I, R, K)) := by
  obtain ⟨⟨h1, h2, h3, h4, h5, h6, h7, h8, h9⟩, ⟨g2, g3, g4, g5, g6, g7, g8, g9⟩, r1, r2, r3, r4, r5, r6, r7, r8⟩ := h
  unfold fig
  by_cases q : n ≤ i
  · have q' : ¬ i < n := by omega
    simp (disch := first | assumption | omega | exact ixN (by assumption) (by omega) (by omega) | exact ne_10 | exact ne_1000 | exact ne_4) only [s105_0, s105_1, s105_1a, s105_2, s105_5, s105_8, s105_8a, s105_9, s105_12, s105_13, s105_14, s105_16, s105_18, s105_19, s105_20, s105_23, s105_26, s105_27, s105_30, s105_31, s105_31a, s105_31b, s105_31c, ↓reduceIte, eq_self, Option.bind_some, Option.bind_none, Option.toList_some, Option.toList_none, List.cons_append, List.nil_append, am_rf_s, am_rf_n, am_c1_i, am_c1_r, am_c1_n, List.all_cons, List.all_nil, Bool.and_self, Bool.and_true, Bool.true_and, List.length_cons, List.length_nil, Nat.reduceAdd, Nat.reduceSub, Nat.reduceMul, Nat.reduceLeDiff, Nat.reduceLT, Nat.zero_le, Nat.le_refl, ne_10, ne_1000, ne_4, not_false_eq_true, or_true, true_or, Nat.one_ne_zero, Nat.zero_ne_one, Nat.reduceEqDiff, Bool.true_eq_false, Bool.false_eq_true, n10, nI_leI, h0, q, q', decide_false, Bool.false_and, bI_f]
  · have q' : i < n := by omega
    by_cases q2 : inR (tx i) 48 (48 + m) = false
    · simp (disch := first | assumption | omega | exact ixN (by assumption) (by omega) (by omega) | exact ne_10 | exact ne_1000 | exact ne_4) only [s105_0, s105_1, s105_1a, s105_2, s105_5, s105_8, s105_8a, s105_9, s105_12, s105_13, s105_14, s105_16, s105_18, s105_19, s105_20, s105_23, s105_26, s105_27, s105_30, s105_31, s105_31a, s105_31b, s105_31c, ↓reduceIte, eq_self, Option.bind_some, Option.bind_none, Option.toList_some, Option.toList_none, List.cons_append, List.nil_append, am_rf_s, am_rf_n, am_c1_i, am_c1_r, am_c1_n, List.all_cons, List.all_nil, Bool.and_self, Bool.and_true, Bool.true_and, List.length_cons, List.length_nil, Nat.reduceAdd, Nat.reduceSub, Nat.reduceMul, Nat.reduceLeDiff, Nat.reduceLT, Nat.zero_le, Nat.le_refl, ne_10, ne_1000, ne_4, not_false_eq_true, or_true, true_or, Nat.one_ne_zero, Nat.zero_ne_one, Nat.reduceEqDiff, Bool.true_eq_false, Bool.false_eq_true, n10, nI_leI, nI_add, nI_clamp, h0, q, q', decide_true, c_isIn, r1, ht, inR_e, bI_0, q2, bI_f]
    · have q2' := nf q2
      simp (disch := first | assumption | omega | exact ixN (by assumption) (by omega) (by omega) | exact ne_10 | exact ne_1000 | exact ne_4) only [s105_0, s105_1, s105_1a, s105_2, s105_5, s105_8, s105_8a, s105_9, s105_12, s105_13, s105_14, s105_16, s105_18, s105_19, s105_20, s105_23, s105_26, s105_27, s105_30, s105_31, s105_31a, s105_31b, s105_31c, ↓reduceIte, eq_self, Option.bind_some, Option.bind_none, Option.toList_some, Option.toList_none, List.cons_append, List.nil_append, am_rf_s, am_rf_n, am_c1_i, am_c1_r, am_c1_n, List.all_cons, List.all_nil, Bool.and_self, Bool.and_true, Bool.true_and, List.length_cons, List.length_nil, Nat.reduceAdd, Nat.reduceSub, Nat.reduceMul, Nat.reduceLeDiff, Nat.reduceLT, Nat.zero_le, Nat.le_refl, ne_10, ne_1000, ne_4, not_false_eq_true, or_true, true_or, Nat.one_ne_zero, Nat.zero_ne_one, Nat.reduceEqDiff, Bool.true_eq_false, Bool.false_eq_true, n10, nI_leI, nI_add, nI_clamp, h0, q, q', decide_true, c_isIn, r1, ht, inR_e, bI_0, q2, q2', bI_t]
theorem m_wideAt (h : MK R K) (h0 : I 147 0 = nI n) (ht : I 148 = tx) (hn : n ≤ 200) (i : Nat) (hi : i < 200) : ev 106 0 [some (.ref 147), some (.int (nI i))] [] (I, R, K) = some (some (.int (wdI (wd tx n i))), (I, R, K)) := by
  have f1 := m_isFigure I R K n tx h h0 ht hn (i + 1) 9 (by omega) (by omega)
  have f2 := m_isFigure I R K n tx h h0 ht hn (i + 2) 9 (by omega) (by omega)
  have f3 := m_isFigure I R K n tx h h0 ht hn (i + 1) 7 (by omega) (by omega)
  obtain ⟨⟨h1, h2, h3, h4, h5, h6, h7, h8, h9⟩, ⟨g2, g3, g4, g5, g6, g7, g8, g9⟩, r1, r2, r3, r4, r5, r6, r7, r8⟩ := h
  unfold wd
  by_cases q1 : tx i = nI 99 ∨ tx i = nI 106 ∨ tx i = nI 122
  · rw [if_pos q1]
    cases c1 : fig tx n (i + 1) 9 with
    | false =>
      rw [c1] at f1
      rcases q1 with q | q | q
      all_goals simp (disch := first | assumption | omega | exact ixN (by assumption) (by omega) (by omega) | exact ne_10 | exact ne_1000 | exact ne_4) only [s106_0, s106_0a, s106_1, s106_4, s106_5, s106_6, s106_116, s106_117, s106_118, s106_118a, s106_119, s106_120, s106_121, s106_122, s106_124, s106_127, s106_130, s106_131, s106_134, s106_135, s106_136, s106_136a, s106_137, s106_138, s106_139, s106_140, s106_142, s106_145, s106_148, s106_148a, s106_149, s106_150, s106_151, s106_152, s106_154, s106_157, s106_160, s106_161, s106_164, s106_165, s106_166, s106_167, ↓reduceIte, eq_self, Option.bind_some, Option.bind_none, Option.toList_some, Option.toList_none, List.cons_append, List.nil_append, am_rf_s, am_rf_n, am_c1_i, am_c1_r, am_c1_n, List.all_cons, List.all_nil, Bool.and_self, Bool.and_true, Bool.true_and, List.length_cons, List.length_nil, Nat.reduceAdd, Nat.reduceSub, Nat.reduceMul, Nat.reduceLeDiff, Nat.reduceLT, Nat.zero_le, Nat.le_refl, ne_10, ne_1000, ne_4, not_false_eq_true, or_true, true_or, Nat.one_ne_zero, Nat.zero_ne_one, Nat.reduceEqDiff, Bool.true_eq_false, Bool.false_eq_true, n10, nI_eq, nI_add, nI_clamp, r1, ht, q, f1, bI_f, wdI, false_and]
    | true =>
      rw [c1] at f1
      cases c2 : fig tx n (i + 2) 9 with
      | false =>
        rw [c2] at f2
        rcases q1 with q | q | q
        all_goals simp (disch := first | assumption | omega | exact ixN (by assumption) (by omega) (by omega) | exact ne_10 | exact ne_1000 | exact ne_4) only [s106_0, s106_0a, s106_1, s106_4, s106_5, s106_6, s106_116, s106_117, s106_118, s106_118a, s106_119, s106_120, s106_121, s106_122, s106_124, s106_127, s106_130, s106_131, s106_134, s106_135, s106_136, s106_136a, s106_137, s106_138, s106_139, s106_140, s106_142, s106_145, s106_148, s106_148a, s106_149, s106_150, s106_151, s106_152, s106_154, s106_157, s106_160, s106_161, s106_164, s106_165, s106_166, s106_167, ↓reduceIte, eq_self, Option.bind_some, Option.bind_none, Option.toList_some, Option.toList_none, List.cons_append, List.nil_append, am_rf_s, am_rf_n, am_c1_i, am_c1_r, am_c1_n, List.all_cons, List.all_nil, Bool.and_self, Bool.and_true, Bool.true_and, List.length_cons, List.length_nil, Nat.reduceAdd, Nat.reduceSub, Nat.reduceMul, Nat.reduceLeDiff, Nat.reduceLT, Nat.zero_le, Nat.le_refl, ne_10, ne_1000, ne_4, not_false_eq_true, or_true, true_or, Nat.one_ne_zero, Nat.zero_ne_one, Nat.reduceEqDiff, Bool.true_eq_false, Bool.false_eq_true, n10, nI_eq, nI_add, nI_clamp, r1, ht, q, f1, f2, bI_f, bI_t, wdI, and_false]
      | true =>
        rw [c2] at f2
        rcases q1 with q | q | q
        all_goals simp (disch := first | assumption | omega | exact ixN (by assumption) (by omega) (by omega) | exact ne_10 | exact ne_1000 | exact ne_4) only [s106_0, s106_0a, s106_1, s106_4, s106_5, s106_6, s106_116, s106_117, s106_118, s106_118a, s106_119, s106_120, s106_121, s106_122, s106_124, s106_127, s106_130, s106_131, s106_134, s106_135, s106_136, s106_136a, s106_137, s106_138, s106_139, s106_140, s106_142, s106_145, s106_148, s106_148a, s106_149, s106_150, s106_151, s106_152, s106_154, s106_157, s106_160, s106_161, s106_164, s106_165, s106_166, s106_167, ↓reduceIte, eq_self, Option.bind_some, Option.bind_none, Option.toList_some, Option.toList_none, List.cons_append, List.nil_append, am_rf_s, am_rf_n, am_c1_i, am_c1_r, am_c1_n, List.all_cons, List.all_nil, Bool.and_self, Bool.and_true, Bool.true_and, List.length_cons, List.length_nil, Nat.reduceAdd, Nat.reduceSub, Nat.reduceMul, Nat.reduceLeDiff, Nat.reduceLT, Nat.zero_le, Nat.le_refl, ne_10, ne_1000, ne_4, not_false_eq_true, or_true, true_or, Nat.one_ne_zero, Nat.zero_ne_one, Nat.reduceEqDiff, Bool.true_eq_false, Bool.false_eq_true, n10, nI_eq, nI_add, nI_clamp, r1, ht, q, f1, f2, bI_f, bI_t, wdI, and_self]
  · rw [if_neg q1]
    by_cases q2 : tx i = nI 100 ∨ tx i = nI 104 ∨ tx i = nI 105 ∨ tx i = nI 114
    · rw [if_pos q2]
      rcases q2 with q | q | q | q
      all_goals simp (disch := first | assumption | omega | exact ixN (by assumption) (by omega) (by omega) | exact ne_10 | exact ne_1000 | exact ne_4) only [s106_0, s106_0a, s106_1, s106_4, s106_5, s106_6, s106_116, s106_117, s106_118, s106_118a, s106_119, s106_120, s106_121, s106_122, s106_124, s106_127, s106_130, s106_131, s106_134, s106_135, s106_136, s106_136a, s106_137, s106_138, s106_139, s106_140, s106_142, s106_145, s106_148, s106_148a, s106_149, s106_150, s106_151, s106_152, s106_154, s106_157, s106_160, s106_161, s106_164, s106_165, s106_166, s106_167, ↓reduceIte, eq_self, Option.bind_some, Option.bind_none, Option.toList_some, Option.toList_none, List.cons_append, List.nil_append, am_rf_s, am_rf_n, am_c1_i, am_c1_r, am_c1_n, List.all_cons, List.all_nil, Bool.and_self, Bool.and_true, Bool.true_and, List.length_cons, List.length_nil, Nat.reduceAdd, Nat.reduceSub, Nat.reduceMul, Nat.reduceLeDiff, Nat.reduceLT, Nat.zero_le, Nat.le_refl, ne_10, ne_1000, ne_4, not_false_eq_true, or_true, true_or, Nat.one_ne_zero, Nat.zero_ne_one, Nat.reduceEqDiff, Bool.true_eq_false, Bool.false_eq_true, n10, nI_eq, nI_add, nI_clamp, r1, ht, q, wdI]
    · rw [if_neg q2]
      by_cases q3 : tx i = nI 108 ∨ tx i = nI 112 ∨ tx i = nI 115
      · rw [if_pos q3]
        cases c1 : fig tx n (i + 1) 7 with
        | false =>
          rw [c1] at f3
          rcases q3 with q | q | q
          all_goals simp (disch := first | assumption | omega | exact ixN (by assumption) (by omega) (by omega) | exact ne_10 | exact ne_1000 | exact ne_4) only [s106_0, s106_0a, s106_1, s106_4, s106_5, s106_6, s106_116, s106_117, s106_118, s106_118a, s106_119, s106_120, s106_121, s106_122, s106_124, s106_127, s106_130, s106_131, s106_134, s106_135, s106_136, s106_136a, s106_137, s106_138, s106_139, s106_140, s106_142, s106_145, s106_148, s106_148a, s106_149, s106_150, s106_151, s106_152, s106_154, s106_157, s106_160, s106_161, s106_164, s106_165, s106_166, s106_167, ↓reduceIte, eq_self, Option.bind_some, Option.bind_none, Option.toList_some, Option.toList_none, List.cons_append, List.nil_append, am_rf_s, am_rf_n, am_c1_i, am_c1_r, am_c1_n, List.all_cons, List.all_nil, Bool.and_self, Bool.and_true, Bool.true_and, List.length_cons, List.length_nil, Nat.reduceAdd, Nat.reduceSub, Nat.reduceMul, Nat.reduceLeDiff, Nat.reduceLT, Nat.zero_le, Nat.le_refl, ne_10, ne_1000, ne_4, not_false_eq_true, or_true, true_or, Nat.one_ne_zero, Nat.zero_ne_one, Nat.reduceEqDiff, Bool.true_eq_false, Bool.false_eq_true, n10, nI_eq, nI_add, nI_clamp, r1, ht, q, f3, bI_f, wdI]
        | true =>
          rw [c1] at f3
          rcases q3 with q | q | q
          all_goals simp (disch := first | assumption | omega | exact ixN (by assumption) (by omega) (by omega) | exact ne_10 | exact ne_1000 | exact ne_4) only [s106_0, s106_0a, s106_1, s106_4, s106_5, s106_6, s106_116, s106_117, s106_118, s106_118a, s106_119, s106_120, s106_121, s106_122, s106_124, s106_127, s106_130, s106_131, s106_134, s106_135, s106_136, s106_136a, s106_137, s106_138, s106_139, s106_140, s106_142, s106_145, s106_148, s106_148a, s106_149, s106_150, s106_151, s106_152, s106_154, s106_157, s106_160, s106_161, s106_164, s106_165, s106_166, s106_167, ↓reduceIte, eq_self, Option.bind_some, Option.bind_none, Option.toList_some, Option.toList_none, List.cons_append, List.nil_append, am_rf_s, am_rf_n, am_c1_i, am_c1_r, am_c1_n, List.all_cons, List.all_nil, Bool.and_self, Bool.and_true, Bool.true_and, List.length_cons, List.length_nil, Nat.reduceAdd, Nat.reduceSub, Nat.reduceMul, Nat.reduceLeDiff, Nat.reduceLT, Nat.zero_le, Nat.le_refl, ne_10, ne_1000, ne_4, not_false_eq_true, or_true, true_or, Nat.one_ne_zero, Nat.zero_ne_one, Nat.reduceEqDiff, Bool.true_eq_false, Bool.false_eq_true, n10, nI_eq, nI_add, nI_clamp, r1, ht, q, f3, bI_t, wdI]
      · rw [if_neg q3]
        simp only [not_or] at q1 q2 q3
        obtain ⟨a1, a2, a3⟩ := q1
        obtain ⟨b1, b2, b3, b4⟩ := q2
        obtain ⟨c1, c2, c3⟩ := q3
        simp (disch := first | assumption | omega | exact ixN (by assumption) (by omega) (by omega) | exact ne_10 | exact ne_1000 | exact ne_4) only [s106_0, s106_0a, s106_1, s106_4, s106_5, s106_6, s106_116, s106_117, s106_118, s106_118a, s106_119, s106_120, s106_121, s106_122, s106_124, s106_127, s106_130, s106_131, s106_134, s106_135, s106_136, s106_136a, s106_137, s106_138, s106_139, s106_140, s106_142, s106_145, s106_148, s106_148a, s106_149, s106_150, s106_151, s106_152, s106_154, s106_157, s106_160, s106_161, s106_164, s106_165, s106_166, s106_167, ↓reduceIte, eq_self, Option.bind_some, Option.bind_none, Option.toList_some, Option.toList_none, List.cons_append, List.nil_append, am_rf_s, am_rf_n, am_c1_i, am_c1_r, am_c1_n, List.all_cons, List.all_nil, Bool.and_self, Bool.and_true, Bool.true_and, List.length_cons, List.length_nil, Nat.reduceAdd, Nat.reduceSub, Nat.reduceMul, Nat.reduceLeDiff, Nat.reduceLT, Nat.zero_le, Nat.le_refl, ne_10, ne_1000, ne_4, not_false_eq_true, or_true, true_or, Nat.one_ne_zero, Nat.zero_ne_one, Nat.reduceEqDiff, Bool.true_eq_false, Bool.false_eq_true, n10, nI_clamp, r1, ht, a1, a2, a3, b1, b2, b3, b4, c1, c2, c3, ite_self, wdI]
theorem m_rclr (h : MK R K) (g : Nat → Int32) : ∀ (r k : Nat), k + r = 200 → ∀ l2 l3, ev 107 2 [some (.ref 147), some (.int (nI k)), l2, l3] [] (st I 154 (fun j => if j < k then nI 0 else g j), R, K) = ev 107 22 [some (.ref 147), some (.int (nI 200)), l2, l3] [] (st I 154 (fun j => if j < 200 then nI 0 else g j), R, K) := by
  obtain ⟨⟨h1, h2, h3, h4, h5, h6, h7, h8, h9⟩, ⟨g2, g3, g4, g5, g6, g7, g8, g9⟩, r1, r2, r3, r4, r5, r6, r7, r8⟩ := h
  intro r
  induction r with
  | zero =>
    intro k hk l2 l3
    have hk : k = 200 := by omega
    subst hk
    simp (disch := first | assumption | omega | exact ixN (by assumption) (by omega) (by omega) | exact ne_10 | exact ne_1000 | exact ne_4) only [s107_2, s107_3, s107_6, ↓reduceIte, eq_self, Option.bind_some, Option.bind_none, Option.toList_some, Option.toList_none, List.cons_append, List.nil_append, am_rf_s, am_rf_n, am_c1_i, am_c1_r, am_c1_n, List.all_cons, List.all_nil, Bool.and_self, Bool.and_true, Bool.true_and, List.length_cons, List.length_nil, Nat.reduceAdd, Nat.reduceSub, Nat.reduceMul, Nat.reduceLeDiff, Nat.reduceLT, Nat.zero_le, Nat.le_refl, ne_10, ne_1000, ne_4, not_false_eq_true, or_true, true_or, Nat.one_ne_zero, Nat.zero_ne_one, Nat.reduceEqDiff, Bool.true_eq_false, Bool.false_eq_true, n10, nI_add, pk_mul, pk_sub, nI_clamp, nI_ltI, nI_leI, nI_eq]
  | succ r ih =>
    intro k hk l2 l3
    rw [← ih (k + 1) (by omega)]
    have e2 : uf (fun j => if j < k then nI 0 else g j) k (nI 0) = fun j => if j < k + 1 then nI 0 else g j := by
      funext j
      unfold uf
      by_cases q : j = k
      · subst q; rw [if_pos rfl, if_pos (by omega)]
      · rw [if_neg q]
        dsimp only
        by_cases q2 : j < k
        · rw [if_pos q2, if_pos (by omega)]
        · rw [if_neg q2, if_neg (by omega)]
    rw [s107_2]
    simp (disch := first | assumption | omega | exact ixN (by assumption) (by omega) (by omega) | exact ne_10 | exact ne_1000 | exact ne_4) only [s107_3, s107_6, s107_9, s107_9a, s107_10, s107_13, s107_14, s107_15, s107_16, s107_19, ↓reduceIte, eq_self, Option.bind_some, Option.bind_none, Option.toList_some, Option.toList_none, List.cons_append, List.nil_append, am_rf_s, am_rf_n, am_c1_i, am_c1_r, am_c1_n, List.all_cons, List.all_nil, Bool.and_self, Bool.and_true, Bool.true_and, List.length_cons, List.length_nil, Nat.reduceAdd, Nat.reduceSub, Nat.reduceMul, Nat.reduceLeDiff, Nat.reduceLT, Nat.zero_le, Nat.le_refl, ne_10, ne_1000, ne_4, not_false_eq_true, or_true, true_or, Nat.one_ne_zero, Nat.zero_ne_one, Nat.reduceEqDiff, Bool.true_eq_false, Bool.false_eq_true, n10, nI_add, nI_clamp, nI_leI, ui_st, st_st, st_eq, st_ne, uf_eq, uf_ne, r7, show ¬ 200 ≤ k by omega, e2]
/-- the working row of begins is b -/
def RB (B : Nat → Int32) (b : Nat → Bool) : Prop := ∀ j, j < 200 → am_b (B j) = bI (b j)
theorem am_b_1 : am_b (nI 1) = nI 1 := by decide
theorem am_b_0 : am_b (nI 0) = nI 0 := by decide
theorem RB.up {B : Nat → Int32} {b : Nat → Bool} (h : RB B b) (i : Nat) : RB (uf B i (nI 1)) (ub b i) := fun j hj => by
  unfold uf ub
  by_cases q : j = i
  · rw [if_pos q, if_pos q]; exact am_b_1
  · rw [if_neg q, if_neg q]; exact h j hj
theorem m_rd1 (h : MK R K) (h0 : I 147 0 = nI n) (ht : I 148 = tx) (hn : n ≤ 200) : ∀ (r i : Nat) (B : Nat → Int32) (b : Nat → Bool), n ≤ i + r → i ≤ n → RB B b → ∀ l2 l3, ∃ B' l2', RB B' (rd1 tx n r i b).2 ∧ ev 107 24 [some (.ref 147), some (.int (nI i)), l2, l3] [] (st I 154 B, R, K) = match (rd1 tx n r i b).1 with
    | some k => some (some (.int (nI k)), (st I 154 B', R, K))
    | none => ev 107 66 [some (.ref 147), some (.int (nI n)), l2', l3] [] (st I 154 B', R, K) := by
  have hMK := h
  obtain ⟨⟨h1, h2, h3, h4, h5, h6, h7, h8, h9⟩, ⟨g2, g3, g4, g5, g6, g7, g8, g9⟩, r1, r2, r3, r4, r5, r6, r7, r8⟩ := h
  intro r
  induction r with
  | zero =>
    intro i B b hi hin hb l2 l3
    have hi : i = n := by omega
    subst hi
    refine ⟨B, l2, hb, ?_⟩
    simp (disch := first | assumption | omega | exact ixN (by assumption) (by omega) (by omega) | exact ne_10 | exact ne_1000 | exact ne_4) only [s107_24, s107_25, s107_25a, s107_26, s107_29, ↓reduceIte, eq_self, Option.bind_some, Option.bind_none, Option.toList_some, Option.toList_none, List.cons_append, List.nil_append, am_rf_s, am_rf_n, am_c1_i, am_c1_r, am_c1_n, List.all_cons, List.all_nil, Bool.and_self, Bool.and_true, Bool.true_and, List.length_cons, List.length_nil, Nat.reduceAdd, Nat.reduceSub, Nat.reduceMul, Nat.reduceLeDiff, Nat.reduceLT, Nat.zero_le, Nat.le_refl, ne_10, ne_1000, ne_4, not_false_eq_true, or_true, true_or, Nat.one_ne_zero, Nat.zero_ne_one, Nat.reduceEqDiff, Bool.true_eq_false, Bool.false_eq_true, n10, nI_leI, st_ne, h0, rd1]
  | succ r ih =>
    intro i B b hi hin hb l2 l3
    unfold rd1
    by_cases q0 : n ≤ i
    · have hi : i = n := by omega
      subst hi
      refine ⟨B, l2, by rw [if_pos (Nat.le_refl _)]; exact hb, ?_⟩
      simp (disch := first | assumption | omega | exact ixN (by assumption) (by omega) (by omega) | exact ne_10 | exact ne_1000 | exact ne_4) only [s107_24, s107_25, s107_25a, s107_26, s107_29, ↓reduceIte, eq_self, Option.bind_some, Option.bind_none, Option.toList_some, Option.toList_none, List.cons_append, List.nil_append, am_rf_s, am_rf_n, am_c1_i, am_c1_r, am_c1_n, List.all_cons, List.all_nil, Bool.and_self, Bool.and_true, Bool.true_and, List.length_cons, List.length_nil, Nat.reduceAdd, Nat.reduceSub, Nat.reduceMul, Nat.reduceLeDiff, Nat.reduceLT, Nat.zero_le, Nat.le_refl, ne_10, ne_1000, ne_4, not_false_eq_true, or_true, true_or, Nat.one_ne_zero, Nat.zero_ne_one, Nat.reduceEqDiff, Bool.true_eq_false, Bool.false_eq_true, n10, nI_leI, st_ne, h0, rd1]
    · rw [if_neg q0]
      have ww := m_wideAt (st I 154 B) R K n tx hMK (by rw [st_ne _ _ (by omega)]; exact h0) (by rw [st_ne _ _ (by omega)]; exact ht) hn i (by omega)
      have w3 := wd_le tx n i
      have wn := wd_in (tx := tx) (n := n) (i := i) (by omega)
      by_cases q1 : wd tx n i = 0
      · rw [if_pos (Or.inl q1)]
        refine ⟨B, l2, hb, ?_⟩
        rw [q1] at ww
        have nn : (-1 : Int32) < nI 0 := by decide
        simp (disch := first | assumption | omega | exact ixN (by assumption) (by omega) (by omega) | exact ne_10 | exact ne_1000 | exact ne_4) only [s107_24, s107_25, s107_25a, s107_26, s107_29, s107_32, s107_32a, s107_33, s107_34, s107_37, s107_38, s107_39, s107_42, s107_43, s107_44, s107_45, s107_47, s107_50, s107_51, ↓reduceIte, eq_self, Option.bind_some, Option.bind_none, Option.toList_some, Option.toList_none, List.cons_append, List.nil_append, am_rf_s, am_rf_n, am_c1_i, am_c1_r, am_c1_n, List.all_cons, List.all_nil, Bool.and_self, Bool.and_true, Bool.true_and, List.length_cons, List.length_nil, Nat.reduceAdd, Nat.reduceSub, Nat.reduceMul, Nat.reduceLeDiff, Nat.reduceLT, Nat.zero_le, Nat.le_refl, ne_10, ne_1000, ne_4, not_false_eq_true, or_true, true_or, Nat.one_ne_zero, Nat.zero_ne_one, Nat.reduceEqDiff, Bool.true_eq_false, Bool.false_eq_true, n10, nI_leI, st_ne, h0, q0, ww, wdI, nn]
      · have w0 : ¬ nI (wd tx n i) < nI 0 := nI_pos (by omega)
        have wI : wdI (wd tx n i) = nI (wd tx n i) := by unfold wdI; rw [if_neg q1]
        rw [wI] at ww
        by_cases q2 : 60 < i + wd tx n i
        · rw [if_pos (Or.inr q2)]
          refine ⟨B, l2, hb, ?_⟩
          have q2' : ¬ i + wd tx n i ≤ 60 := by omega
          simp (disch := first | assumption | omega | exact ixN (by assumption) (by omega) (by omega) | exact ne_10 | exact ne_1000 | exact ne_4) only [s107_24, s107_25, s107_25a, s107_26, s107_29, s107_32, s107_32a, s107_33, s107_34, s107_37, s107_38, s107_39, s107_42, s107_43, s107_44, s107_45, s107_47, s107_50, s107_51, ↓reduceIte, eq_self, Option.bind_some, Option.bind_none, Option.toList_some, Option.toList_none, List.cons_append, List.nil_append, am_rf_s, am_rf_n, am_c1_i, am_c1_r, am_c1_n, List.all_cons, List.all_nil, Bool.and_self, Bool.and_true, Bool.true_and, List.length_cons, List.length_nil, Nat.reduceAdd, Nat.reduceSub, Nat.reduceMul, Nat.reduceLeDiff, Nat.reduceLT, Nat.zero_le, Nat.le_refl, ne_10, ne_1000, ne_4, not_false_eq_true, or_true, true_or, Nat.one_ne_zero, Nat.zero_ne_one, Nat.reduceEqDiff, Bool.true_eq_false, Bool.false_eq_true, n10, nI_leI, nI_add, st_ne, h0, q0, ww, w0, q2']
        · rw [if_neg (by rintro (z | z); exact q1 z; exact q2 z)]
          obtain ⟨B', l2', v1, v2⟩ := ih (i + wd tx n i) (uf B i (nI 1)) (ub b i) (by omega) wn (hb.up i) (some (.int (nI (wd tx n i)))) l3
          refine ⟨B', l2', v1, ?_⟩
          rw [← v2, s107_24]
          have q2' : i + wd tx n i ≤ 60 := by omega
          simp (disch := first | assumption | omega | exact ixN (by assumption) (by omega) (by omega) | exact ne_10 | exact ne_1000 | exact ne_4) only [s107_25, s107_25a, s107_26, s107_29, s107_32, s107_32a, s107_33, s107_34, s107_37, s107_38, s107_39, s107_42, s107_43, s107_44, s107_45, s107_47, s107_50, s107_51, s107_52, s107_52a, s107_53, s107_56, s107_57, s107_58, s107_59, s107_60, s107_61, s107_62, s107_63, ↓reduceIte, eq_self, Option.bind_some, Option.bind_none, Option.toList_some, Option.toList_none, List.cons_append, List.nil_append, am_rf_s, am_rf_n, am_c1_i, am_c1_r, am_c1_n, List.all_cons, List.all_nil, Bool.and_self, Bool.and_true, Bool.true_and, List.length_cons, List.length_nil, Nat.reduceAdd, Nat.reduceSub, Nat.reduceMul, Nat.reduceLeDiff, Nat.reduceLT, Nat.zero_le, Nat.le_refl, ne_10, ne_1000, ne_4, not_false_eq_true, or_true, true_or, Nat.one_ne_zero, Nat.zero_ne_one, Nat.reduceEqDiff, Bool.true_eq_false, Bool.false_eq_true, n10, nI_leI, nI_add, nI_clamp, ui_st, st_st, st_eq, st_ne, uf_eq, uf_ne, r7, h0, q0, ww, w0, q2']
theorem m_rd2 (h : MK R K) (h0 : I 147 0 = nI n) (ht : I 148 = tx) (hn : n ≤ 200) (b : Nat → Bool) (hb : RB (I 154) b) : ∀ (r k : Nat), k + r = n → ∀ l1 l3, ev 107 68 [some (.ref 147), l1, some (.int (nI k)), l3] [] (I, R, K) = some (some (.int (fsI (fs (fun k => b k && decide (wd tx n k = 3) && !b (nt (dig2 tx k))) r k))), (I, R, K)) := by
  have hMK := h
  obtain ⟨⟨h1, h2, h3, h4, h5, h6, h7, h8, h9⟩, ⟨g2, g3, g4, g5, g6, g7, g8, g9⟩, r1, r2, r3, r4, r5, r6, r7, r8⟩ := h
  intro r
  induction r with
  | zero =>
    intro k hk l1 l3
    have hk : k = n := by omega
    subst hk
    simp (disch := first | assumption | omega | exact ixN (by assumption) (by omega) (by omega) | exact ne_10 | exact ne_1000 | exact ne_4) only [s107_68, s107_69, s107_69a, s107_70, s107_73, s107_76, s107_76a, s107_77, s107_80, s107_81, s107_82, s107_85, s107_85a, s107_86, s107_87, s107_90, s107_91, s107_94, s107_96, s107_96a, s107_97, s107_100, s107_101, s107_102, s107_103, s107_104, s107_106, s107_107, s107_108, s107_108a, s107_109, s107_112, s107_113, s107_114, s107_115, s107_116, s107_117, s107_119, s107_120, s107_121, s107_121a, s107_122, s107_125, s107_126, s107_127, s107_130, s107_131, s107_132, s107_135, s107_138, s107_140, ↓reduceIte, eq_self, Option.bind_some, Option.bind_none, Option.toList_some, Option.toList_none, List.cons_append, List.nil_append, am_rf_s, am_rf_n, am_c1_i, am_c1_r, am_c1_n, List.all_cons, List.all_nil, Bool.and_self, Bool.and_true, Bool.true_and, List.length_cons, List.length_nil, Nat.reduceAdd, Nat.reduceSub, Nat.reduceMul, Nat.reduceLeDiff, Nat.reduceLT, Nat.zero_le, Nat.le_refl, ne_10, ne_1000, ne_4, not_false_eq_true, or_true, true_or, Nat.one_ne_zero, Nat.zero_ne_one, Nat.reduceEqDiff, Bool.true_eq_false, Bool.false_eq_true, n10, nI_leI, h0, fs, fsI]
  | succ r ih =>
    intro k hk l1 l3
    unfold fs
    have q0 : ¬ n ≤ k := by omega
    have ww := m_wideAt I R K n tx hMK h0 ht hn k (by omega)
    have bk := hb k (by omega)
    rw [s107_68]
    cases q1 : b k with
    | false =>
      rw [q1] at bk
      simp (disch := first | assumption | omega | exact ixN (by assumption) (by omega) (by omega) | exact ne_10 | exact ne_1000 | exact ne_4) only [s107_69, s107_69a, s107_70, s107_73, s107_76, s107_76a, s107_77, s107_80, s107_81, s107_82, s107_85, s107_85a, s107_86, s107_87, s107_90, s107_91, s107_94, s107_96, s107_96a, s107_97, s107_100, s107_101, s107_102, s107_103, s107_104, s107_106, s107_107, s107_108, s107_108a, s107_109, s107_112, s107_113, s107_114, s107_115, s107_116, s107_117, s107_119, s107_120, s107_121, s107_121a, s107_122, s107_125, s107_126, s107_127, s107_130, s107_131, s107_132, s107_135, ↓reduceIte, eq_self, Option.bind_some, Option.bind_none, Option.toList_some, Option.toList_none, List.cons_append, List.nil_append, am_rf_s, am_rf_n, am_c1_i, am_c1_r, am_c1_n, List.all_cons, List.all_nil, Bool.and_self, Bool.and_true, Bool.true_and, List.length_cons, List.length_nil, Nat.reduceAdd, Nat.reduceSub, Nat.reduceMul, Nat.reduceLeDiff, Nat.reduceLT, Nat.zero_le, Nat.le_refl, ne_10, ne_1000, ne_4, not_false_eq_true, or_true, true_or, Nat.one_ne_zero, Nat.zero_ne_one, Nat.reduceEqDiff, Bool.true_eq_false, Bool.false_eq_true, n10, nI_leI, nI_add, nI_clamp, h0, q0, r7, bk, bI_f, ih (k + 1) (by omega), Bool.false_and]
    | true =>
      rw [q1] at bk
      by_cases q2 : wd tx n k = 3
      · obtain ⟨-, hk2, a, c, ha, hc, ha2, hc2⟩ := wd_3 q2
        have dg := dig2_eq ha2 hc2
        have dg' : nI 10 * (tx (k + 1) - nI 48) + tx (k + 2) - nI 48 = nI (10 * a + c) := dg
        have tb := hb (10 * a + c) (by omega)
        rw [q2] at ww
        have wI : wdI 3 = nI 3 := rfl
        rw [wI] at ww
        have e9 : nt (dig2 tx k) = 10 * a + c := by rw [dg]; exact nt_nI (by omega)
        rw [e9]
        cases q3 : b (10 * a + c) with
        | false =>
          rw [q3] at tb
          simp (disch := first | assumption | omega | exact ixN (by assumption) (by omega) (by omega) | exact ne_10 | exact ne_1000 | exact ne_4) only [s107_69, s107_69a, s107_70, s107_73, s107_76, s107_76a, s107_77, s107_80, s107_81, s107_82, s107_85, s107_85a, s107_86, s107_87, s107_90, s107_91, s107_94, s107_96, s107_96a, s107_97, s107_100, s107_101, s107_102, s107_103, s107_104, s107_106, s107_107, s107_108, s107_108a, s107_109, s107_112, s107_113, s107_114, s107_115, s107_116, s107_117, s107_119, s107_120, s107_121, s107_121a, s107_122, s107_125, s107_126, s107_127, s107_130, s107_131, ↓reduceIte, eq_self, Option.bind_some, Option.bind_none, Option.toList_some, Option.toList_none, List.cons_append, List.nil_append, am_rf_s, am_rf_n, am_c1_i, am_c1_r, am_c1_n, List.all_cons, List.all_nil, Bool.and_self, Bool.and_true, Bool.true_and, List.length_cons, List.length_nil, Nat.reduceAdd, Nat.reduceSub, Nat.reduceMul, Nat.reduceLeDiff, Nat.reduceLT, Nat.zero_le, Nat.le_refl, ne_10, ne_1000, ne_4, not_false_eq_true, or_true, true_or, Nat.one_ne_zero, Nat.zero_ne_one, Nat.reduceEqDiff, Bool.true_eq_false, Bool.false_eq_true, n10, nI_leI, nI_add, nI_clamp, nI_eq, h0, ht, q0, r1, r7, bk, bI_t, ww, dg', tb, bI_f, q2, decide_true, Bool.not_false, fsI]
        | true =>
          rw [q3] at tb
          simp (disch := first | assumption | omega | exact ixN (by assumption) (by omega) (by omega) | exact ne_10 | exact ne_1000 | exact ne_4) only [s107_69, s107_69a, s107_70, s107_73, s107_76, s107_76a, s107_77, s107_80, s107_81, s107_82, s107_85, s107_85a, s107_86, s107_87, s107_90, s107_91, s107_94, s107_96, s107_96a, s107_97, s107_100, s107_101, s107_102, s107_103, s107_104, s107_106, s107_107, s107_108, s107_108a, s107_109, s107_112, s107_113, s107_114, s107_115, s107_116, s107_117, s107_119, s107_120, s107_121, s107_121a, s107_122, s107_125, s107_126, s107_127, s107_130, s107_131, s107_132, s107_135, ↓reduceIte, eq_self, Option.bind_some, Option.bind_none, Option.toList_some, Option.toList_none, List.cons_append, List.nil_append, am_rf_s, am_rf_n, am_c1_i, am_c1_r, am_c1_n, List.all_cons, List.all_nil, Bool.and_self, Bool.and_true, Bool.true_and, List.length_cons, List.length_nil, Nat.reduceAdd, Nat.reduceSub, Nat.reduceMul, Nat.reduceLeDiff, Nat.reduceLT, Nat.zero_le, Nat.le_refl, ne_10, ne_1000, ne_4, not_false_eq_true, or_true, true_or, Nat.one_ne_zero, Nat.zero_ne_one, Nat.reduceEqDiff, Bool.true_eq_false, Bool.false_eq_true, n10, nI_leI, nI_add, nI_clamp, nI_eq, h0, ht, q0, r1, r7, bk, bI_t, ww, dg', tb, q2, decide_true, Bool.not_true, Bool.and_false, ih (k + 1) (by omega)]
      · have w3 := wd_le tx n k
        have wI : ¬ wdI (wd tx n k) = nI 3 := by
          unfold wdI
          split
          · decide
          · rw [nI_eq (by omega) (by omega)]; exact q2
        simp (disch := first | assumption | omega | exact ixN (by assumption) (by omega) (by omega) | exact ne_10 | exact ne_1000 | exact ne_4) only [s107_69, s107_69a, s107_70, s107_73, s107_76, s107_76a, s107_77, s107_80, s107_81, s107_82, s107_85, s107_85a, s107_86, s107_87, s107_90, s107_91, s107_94, s107_96, s107_96a, s107_97, s107_100, s107_101, s107_102, s107_103, s107_104, s107_106, s107_107, s107_108, s107_108a, s107_109, s107_112, s107_113, s107_114, s107_115, s107_116, s107_117, s107_119, s107_120, s107_121, s107_121a, s107_122, s107_125, s107_126, s107_127, s107_130, s107_131, s107_132, s107_135, ↓reduceIte, eq_self, Option.bind_some, Option.bind_none, Option.toList_some, Option.toList_none, List.cons_append, List.nil_append, am_rf_s, am_rf_n, am_c1_i, am_c1_r, am_c1_n, List.all_cons, List.all_nil, Bool.and_self, Bool.and_true, Bool.true_and, List.length_cons, List.length_nil, Nat.reduceAdd, Nat.reduceSub, Nat.reduceMul, Nat.reduceLeDiff, Nat.reduceLT, Nat.zero_le, Nat.le_refl, ne_10, ne_1000, ne_4, not_false_eq_true, or_true, true_or, Nat.one_ne_zero, Nat.zero_ne_one, Nat.reduceEqDiff, Bool.true_eq_false, Bool.false_eq_true, n10, nI_leI, nI_add, nI_clamp, h0, q0, r7, bk, bI_t, ww, wI, q2, decide_false, Bool.and_false, Bool.false_and, ih (k + 1) (by omega)]
theorem m_reads (h : MK R K) (h0 : I 147 0 = nI n) (ht : I 148 = tx) (hn : n ≤ 200) : ∃ B, RB B (rdB tx n) ∧ ev 107 0 [some (.ref 147), none, none, none] [] (I, R, K) = some (some (.int (fsI (rd tx n))), (st I 154 B, R, K)) := by
  have hMK := h
  have cl := m_rclr I R K hMK (I 154) 200 0 rfl none none
  have e0 : I = st I 154 (fun j => if j < 0 then nI 0 else I 154 j) := by
    have : (fun j => if j < 0 then nI 0 else I 154 j) = I 154 := by
      funext j; rw [if_neg (by omega)]
    rw [this, st_id]
  rw [← e0] at cl
  obtain ⟨B0, hB0⟩ : ∃ B0 : Nat → Int32, B0 = fun j => if j < 200 then nI 0 else I 154 j := ⟨_, rfl⟩
  rw [← hB0] at cl
  have rb : RB B0 (fun _ => false) := fun j hj => by rw [hB0]; dsimp only; rw [if_pos hj]; exact am_b_0
  obtain ⟨B1, l2, v1, v2⟩ := m_rd1 I R K n tx hMK h0 ht hn n 0 B0 (fun _ => false) (by omega) (by omega) rb none none
  refine ⟨B1, v1, ?_⟩
  simp (disch := first | assumption | omega | exact ixN (by assumption) (by omega) (by omega) | exact ne_10 | exact ne_1000 | exact ne_4) only [s107_0, s107_1, cl]
  simp (disch := first | assumption | omega | exact ixN (by assumption) (by omega) (by omega) | exact ne_10 | exact ne_1000 | exact ne_4) only [s107_22, s107_23, v2]
  unfold rd
  cases q : (rd1 tx n n 0 (fun _ => false)).1 with
  | some i => rfl
  | none =>
    have d2 := m_rd2 (st I 154 B1) R K n tx hMK (by rw [st_ne _ _ (by omega)]; exact h0) (by rw [st_ne _ _ (by omega)]; exact ht) hn (rdB tx n) (by rw [st_eq]; exact v1) n 0 (by omega) (some (.int (nI n))) none
    simp (disch := first | assumption | omega | exact ixN (by assumption) (by omega) (by omega) | exact ne_10 | exact ne_1000 | exact ne_4) only [s107_66, s107_67, d2]
    rfl
end MY
