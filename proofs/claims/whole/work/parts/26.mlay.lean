/-! the reference: fault, empties, lay -/
theorem MR.rb {I : am_I} {n nc cs : Nat} {tx cd bg f wz : Nat → Int32} (hr : MR I n tx nc cd bg f cs wz) (g : Nat → Int32) : MR (st I 154 g) n tx nc cd bg f cs wz := by
  obtain ⟨h1, h2, h3, h4, h5, h6, h7, h8⟩ := hr
  refine ⟨?_, ?_, ?_, ?_, ?_, ?_, ?_, ?_⟩
  all_goals rw [st_ne _ _ (by omega)]; assumption
def okLay (tx : Nat → Int32) (n : Nat) : Bool := !decide (n = 0) && (rd tx n).isNone
def lyC (tx : Nat → Int32) (n : Nat) (cd : Nat → Int32) : Nat → Int32 := fun j => if j < 60 then (if j < n then tx j else nI 0) else cd j
def lyB (tx : Nat → Int32) (n : Nat) (bg : Nat → Int32) : Nat → Int32 := fun j => if j < 60 then (if j < n ∧ rdB tx n j = true then nI 1 else nI 0) else bg j
theorem rd_60 {tx : Nat → Int32} {n : Nat} (h : okLay tx n = true) : 1 ≤ n ∧ n ≤ 60 := by
  unfold okLay rd at h
  simp only [Bool.and_eq_true, Bool.not_eq_true', decide_eq_false_iff_not] at h
  refine ⟨by omega, ?_⟩
  cases q : (rd1 tx n n 0 (fun _ => false)).1 with
  | some i => rw [q] at h; simp at h
  | none => exact rd1_60 (by omega) (by omega) (by omega) q
theorem lay_WC {tx cd bg : Nat → Int32} {n : Nat} (h : okLay tx n = true) : WC (lyC tx n cd) (lyB tx n bg) n := by
  obtain ⟨h1, h2⟩ := rd_60 h
  refine ⟨h1, h2, fun x hx hb => ?_⟩
  have hr : rdB tx n x = true := by
    unfold lyB at hb
    rw [if_pos (by omega)] at hb
    by_cases q : x < n ∧ rdB tx n x = true
    · exact q.2
    · rw [if_neg q] at hb; exact absurd am_b_0 hb
  have hw := (rd1_b (tx := tx) (n := n) (r := n) (i := 0) (b := fun _ => false) (fun k hk => by cases hk) x hr).1
  have e : ∀ j, j < n → lyC tx n cd j = tx j := fun j hj => by unfold lyC; rw [if_pos (by omega), if_pos hj]
  have := wd_WL hw
  unfold WL at this ⊢
  rw [e x hx]
  rcases this with q | ⟨q, q2, k, q3, q4⟩ | ⟨q, q2, a, b, q3, q4, q5, q6⟩
  · exact Or.inl q
  · exact Or.inr (Or.inl ⟨q, q2, k, q3, by rw [e _ q2]; exact q4⟩)
  · exact Or.inr (Or.inr ⟨q, q2, a, b, q3, q4, by rw [e _ (by omega)]; exact q5, by rw [e _ q2]; exact q6⟩)
section MZ
variable (I : am_I) (R : am_R) (K : am_K) (n nc cs : Nat) (tx cd bg f wz : Nat → Int32)
theorem m_fault (h : MK R K) (hr : MR I n tx nc cd bg f cs wz) (hn : n ≤ 200) : ∃ I', ev 110 0 [some (.ref 147)] [] (I, R, K) = some (some (.int (fsI (rd tx n))), (I', R, K)) ∧ MR I' n tx nc cd bg f cs wz ∧ FM I I' := by
  have h1 := h.1.1
  obtain ⟨B, -, w⟩ := m_reads I R K n tx h hr.1 hr.2.1 hn
  refine ⟨st I 154 B, ?_, hr.rb B, FM.st I B (by omega) (by omega)⟩
  simp (disch := first | assumption | omega | exact ixN (by assumption) (by omega) (by omega) | exact ne_10 | exact ne_1000 | exact ne_4) only [s110_0, s110_0a, s110_1, s110_4, ↓reduceIte, eq_self, Option.bind_some, Option.bind_none, Option.toList_some, Option.toList_none, List.cons_append, List.nil_append, am_rf_s, am_rf_n, am_c1_i, am_c1_r, am_c1_n, List.all_cons, List.all_nil, Bool.and_self, Bool.and_true, Bool.true_and, List.length_cons, List.length_nil, Nat.reduceAdd, Nat.reduceSub, Nat.reduceMul, Nat.reduceLeDiff, Nat.reduceLT, Nat.zero_le, Nat.le_refl, ne_10, ne_1000, ne_4, not_false_eq_true, or_true, true_or, Nat.one_ne_zero, Nat.zero_ne_one, Nat.reduceEqDiff, Bool.true_eq_false, Bool.false_eq_true, n10, w]
theorem m_emp1 (h : MK R K) (g : Nat → Int32) : ∀ (r k : Nat), k + r = 1318 → ev 103 2 [some (.ref 147), some (.int (nI k))] [] (st I 151 (fun j => if j < k then nI 0 else g j), R, K) = ev 103 22 [some (.ref 147), some (.int (nI 1318))] [] (st I 151 (fun j => if j < 1318 then nI 0 else g j), R, K) := by
  obtain ⟨⟨h1, h2, h3, h4, h5, h6, h7, h8, h9⟩, ⟨g2, g3, g4, g5, g6, g7, g8, g9⟩, r1, r2, r3, r4, r5, r6, r7, r8⟩ := h
  intro r
  induction r with
  | zero =>
    intro k hk
    have hk : k = 1318 := by omega
    subst hk
    simp (disch := first | assumption | omega | exact ixN (by assumption) (by omega) (by omega) | exact ne_10 | exact ne_1000 | exact ne_4) only [s103_2, s103_3, s103_6, ↓reduceIte, eq_self, Option.bind_some, Option.bind_none, Option.toList_some, Option.toList_none, List.cons_append, List.nil_append, am_rf_s, am_rf_n, am_c1_i, am_c1_r, am_c1_n, List.all_cons, List.all_nil, Bool.and_self, Bool.and_true, Bool.true_and, List.length_cons, List.length_nil, Nat.reduceAdd, Nat.reduceSub, Nat.reduceMul, Nat.reduceLeDiff, Nat.reduceLT, Nat.zero_le, Nat.le_refl, ne_10, ne_1000, ne_4, not_false_eq_true, or_true, true_or, Nat.one_ne_zero, Nat.zero_ne_one, Nat.reduceEqDiff, Bool.true_eq_false, Bool.false_eq_true, n10, nI_add, pk_mul, pk_sub, nI_clamp, nI_ltI, nI_leI, nI_eq]
  | succ r ih =>
    intro k hk
    rw [← ih (k + 1) (by omega)]
    have e2 : uf (fun j => if j < k then nI 0 else g j) k (nI 0) = fun j => if j < k + 1 then nI 0 else g j := by
      funext j
      unfold uf
      by_cases q : j = k
      · subst q; rw [if_pos rfl, if_pos (by omega)]
      · rw [if_neg q]
        dsimp only
        by_cases q2 : j < k
        · rw [if_pos q2, if_pos (by omega)]
        · rw [if_neg q2, if_neg (by omega)]
    rw [s103_2]
    simp (disch := first | assumption | omega | exact ixN (by assumption) (by omega) (by omega) | exact ne_10 | exact ne_1000 | exact ne_4) only [s103_3, s103_6, s103_9, s103_9a, s103_10, s103_13, s103_14, s103_15, s103_16, s103_19, ↓reduceIte, eq_self, Option.bind_some, Option.bind_none, Option.toList_some, Option.toList_none, List.cons_append, List.nil_append, am_rf_s, am_rf_n, am_c1_i, am_c1_r, am_c1_n, List.all_cons, List.all_nil, Bool.and_self, Bool.and_true, Bool.true_and, List.length_cons, List.length_nil, Nat.reduceAdd, Nat.reduceSub, Nat.reduceMul, Nat.reduceLeDiff, Nat.reduceLT, Nat.zero_le, Nat.le_refl, ne_10, ne_1000, ne_4, not_false_eq_true, or_true, true_or, Nat.one_ne_zero, Nat.zero_ne_one, Nat.reduceEqDiff, Bool.true_eq_false, Bool.false_eq_true, n10, nI_add, nI_clamp, nI_leI, ui_st, st_st, st_eq, st_ne, uf_eq, uf_ne, r4, show ¬ 1318 ≤ k by omega, e2]
theorem m_emp2 (h : MK R K) : ∀ (r k : Nat) (g : Nat → Int32), k + r = 6 → ∃ g', (∀ p, k ≤ p → p < 6 → g' (70 + 208 * p) = nI 3) ∧ (∀ j, (∀ p, k ≤ p → p < 6 → j ≠ 70 + 208 * p) → g' j = g j) ∧ ev 103 24 [some (.ref 147), some (.int (nI k))] [] (st I 151 g, R, K) = some (none, (st (st I 151 g') 147 (uf (I 147) 8 (nI 0)), R, K)) := by
  obtain ⟨⟨h1, h2, h3, h4, h5, h6, h7, h8, h9⟩, ⟨g2, g3, g4, g5, g6, g7, g8, g9⟩, r1, r2, r3, r4, r5, r6, r7, r8⟩ := h
  intro r
  induction r with
  | zero =>
    intro k g hk
    have hk : k = 6 := by omega
    subst hk
    refine ⟨g, fun p h1 h2 => by omega, fun j _ => rfl, ?_⟩
    simp (disch := first | assumption | omega | exact ixN (by assumption) (by omega) (by omega) | exact ne_10 | exact ne_1000 | exact ne_4) only [s103_24, s103_25, s103_27, s103_30, s103_30a, s103_31, s103_34, s103_36, s103_39, s103_40, s103_41, s103_42, s103_43, s103_44, s103_47, s103_50, s103_50a, s103_51, s103_52, s103_55, ↓reduceIte, eq_self, Option.bind_some, Option.bind_none, Option.toList_some, Option.toList_none, List.cons_append, List.nil_append, am_rf_s, am_rf_n, am_c1_i, am_c1_r, am_c1_n, List.all_cons, List.all_nil, Bool.and_self, Bool.and_true, Bool.true_and, List.length_cons, List.length_nil, Nat.reduceAdd, Nat.reduceSub, Nat.reduceMul, Nat.reduceLeDiff, Nat.reduceLT, Nat.zero_le, Nat.le_refl, ne_10, ne_1000, ne_4, not_false_eq_true, or_true, true_or, Nat.one_ne_zero, Nat.zero_ne_one, Nat.reduceEqDiff, Bool.true_eq_false, Bool.false_eq_true, n10, nI_leI, ui_st, st_st, st_eq, st_ne, uf_eq, uf_ne]
  | succ r ih =>
    intro k g hk
    obtain ⟨g', v0, v1, v2⟩ := ih (k + 1) (uf g (70 + 208 * k) (nI 3)) (by omega)
    refine ⟨g', fun p hp hp2 => ?_, fun j hj => ?_, ?_⟩
    · by_cases q : p = k
      · subst q; rw [v1 _ (fun q hq hq2 => by omega), uf_eq]
      · exact v0 p (by omega) hp2
    · rw [v1 j (fun q hq hq2 => hj q (by omega) hq2), uf_ne _ _ (hj k (by omega) (by omega))]
    · rw [← v2, s103_24]
      simp (disch := first | assumption | omega | exact ixN (by assumption) (by omega) (by omega) | exact ne_10 | exact ne_1000 | exact ne_4) only [s103_25, s103_27, s103_30, s103_30a, s103_31, s103_34, s103_36, s103_39, s103_40, s103_41, s103_42, s103_43, s103_44, s103_47, ↓reduceIte, eq_self, Option.bind_some, Option.bind_none, Option.toList_some, Option.toList_none, List.cons_append, List.nil_append, am_rf_s, am_rf_n, am_c1_i, am_c1_r, am_c1_n, List.all_cons, List.all_nil, Bool.and_self, Bool.and_true, Bool.true_and, List.length_cons, List.length_nil, Nat.reduceAdd, Nat.reduceSub, Nat.reduceMul, Nat.reduceLeDiff, Nat.reduceLT, Nat.zero_le, Nat.le_refl, ne_10, ne_1000, ne_4, not_false_eq_true, or_true, true_or, Nat.one_ne_zero, Nat.zero_ne_one, Nat.reduceEqDiff, Bool.true_eq_false, Bool.false_eq_true, n10, nI_add, pk_mul, nI_clamp, nI_leI, ui_st, st_st, st_eq, st_ne, uf_eq, uf_ne, r4, show ¬ 6 ≤ k by omega]
theorem m_empties (h : MK R K) (hr : MR I n tx nc cd bg f cs wz) : ∃ I', ev 103 0 [some (.ref 147), none] [] (I, R, K) = some (none, (I', R, K)) ∧ MR I' n tx nc cd bg (sEmp f) 0 wz ∧ FM I I' := by
  have hMK := h
  have e6 := hr.2.2.2.2.2.1
  have c1 := m_emp1 I R K hMK f 1318 0 rfl
  have e0 : I = st I 151 (fun j => if j < 0 then nI 0 else f j) := by
    have : (fun j => if j < 0 then nI 0 else f j) = I 151 := by
      funext j; rw [if_neg (by omega), e6]
    rw [this, st_id]
  rw [← e0] at c1
  obtain ⟨g', v0, v1, v2⟩ := m_emp2 I R K hMK 6 0 (fun j => if j < 1318 then nI 0 else f j) rfl
  have eg : g' = sEmp f := by
    funext j
    unfold sEmp
    by_cases q : j = 70 ∨ j = 278 ∨ j = 486 ∨ j = 694 ∨ j = 902 ∨ j = 1110
    · rw [if_pos (by omega), if_pos q]
      rcases q with rfl | rfl | rfl | rfl | rfl | rfl
      · exact v0 0 (by omega) (by omega)
      · exact v0 1 (by omega) (by omega)
      · exact v0 2 (by omega) (by omega)
      · exact v0 3 (by omega) (by omega)
      · exact v0 4 (by omega) (by omega)
      · exact v0 5 (by omega) (by omega)
    · rw [if_neg q, v1 j (fun p _ hp => by omega)]
  rw [eg] at v2
  refine ⟨_, ?_, ?_, (FM.st I (a := 151) (sEmp f) (by omega) (by omega)).tr (FM.st _ (uf (I 147) 8 (nI 0)) (a := 147) (by omega) (by omega))⟩
  · simp (disch := first | assumption | omega | exact ixN (by assumption) (by omega) (by omega) | exact ne_10 | exact ne_1000 | exact ne_4) only [s103_0, s103_1, c1]
    simp (disch := first | assumption | omega | exact ixN (by assumption) (by omega) (by omega) | exact ne_10 | exact ne_1000 | exact ne_4) only [s103_22, s103_23, v2]
  · obtain ⟨e1, e2, e3, e4, e5, e6, e7, e8⟩ := hr
    exact ⟨by rw [st_eq, uf_ne _ _ (by omega)]; exact e1, by rw [st_ne _ _ (by omega), st_ne _ _ (by omega)]; exact e2, by rw [st_eq, uf_ne _ _ (by omega)]; exact e3, by rw [st_ne _ _ (by omega), st_ne _ _ (by omega)]; exact e4, by rw [st_ne _ _ (by omega), st_ne _ _ (by omega)]; exact e5, by rw [st_ne _ _ (by omega), st_eq], by rw [st_eq, uf_eq], by rw [st_ne _ _ (by omega), st_ne _ _ (by omega)]; exact e8⟩
theorem m_lcopy (h : MK R K) (h0 : I 147 0 = nI n) (ht : I 148 = tx) (hn : n ≤ 60) (b : Nat → Bool) (hb : RB (I 154) b) (C B vc vb : Nat → Int32) (hvc : ∀ j, vc j = if j < n then tx j else nI 0) (hvb : ∀ j, vb j = if j < n ∧ b j = true then nI 1 else nI 0) : ∀ (r k : Nat), k + r = 60 → ev 111 29 [some (.ref 147), some (.int (nI k))] [] (st (st I 149 (fun j => if j < k then vc j else C j)) 150 (fun j => if j < k then vb j else B j), R, K) = ev 111 93 [some (.ref 147), some (.int (nI 60))] [] (st (st I 149 (fun j => if j < 60 then vc j else C j)) 150 (fun j => if j < 60 then vb j else B j), R, K) := by
  obtain ⟨⟨h1, h2, h3, h4, h5, h6, h7, h8, h9⟩, ⟨g2, g3, g4, g5, g6, g7, g8, g9⟩, r1, r2, r3, r4, r5, r6, r7, r8⟩ := h
  have up : ∀ (v g : Nat → Int32) (k : Nat), uf (fun j => if j < k then v j else g j) k (v k) = fun j => if j < k + 1 then v j else g j := by
    intro v g k
    funext j
    unfold uf
    by_cases q : j = k
    · subst q; rw [if_pos rfl, if_pos (by omega)]
    · rw [if_neg q]
      dsimp only
      by_cases q2 : j < k
      · rw [if_pos q2, if_pos (by omega)]
      · rw [if_neg q2, if_neg (by omega)]
  intro r
  induction r with
  | zero =>
    intro k hk
    have hk : k = 60 := by omega
    subst hk
    simp (disch := first | assumption | omega | exact ixN (by assumption) (by omega) (by omega) | exact ne_10 | exact ne_1000 | exact ne_4) only [s111_29, s111_30, s111_32, ↓reduceIte, eq_self, Option.bind_some, Option.bind_none, Option.toList_some, Option.toList_none, List.cons_append, List.nil_append, am_rf_s, am_rf_n, am_c1_i, am_c1_r, am_c1_n, List.all_cons, List.all_nil, Bool.and_self, Bool.and_true, Bool.true_and, List.length_cons, List.length_nil, Nat.reduceAdd, Nat.reduceSub, Nat.reduceMul, Nat.reduceLeDiff, Nat.reduceLT, Nat.zero_le, Nat.le_refl, ne_10, ne_1000, ne_4, not_false_eq_true, or_true, true_or, Nat.one_ne_zero, Nat.zero_ne_one, Nat.reduceEqDiff, Bool.true_eq_false, Bool.false_eq_true, n10, nI_add, pk_mul, pk_sub, nI_clamp, nI_ltI, nI_leI, nI_eq]
  | succ r ih =>
    intro k hk
    rw [← ih (k + 1) (by omega), ← up vc C k, ← up vb B k, hvc k, hvb k, s111_29]
    have bk := hb k (by omega)
    obtain ⟨c0, hc0⟩ : ∃ c0, c0 = (fun j => if j < k then vc j else C j) := ⟨_, rfl⟩
    obtain ⟨b0, hb0⟩ : ∃ b0, b0 = (fun j => if j < k then vb j else B j) := ⟨_, rfl⟩
    rw [← hc0, ← hb0]
    have sw : ∀ g, st (st (st I 149 c0) 150 b0) 149 g = st (st I 149 g) 150 b0 := fun g => by
      rw [st_sw _ _ _ (show 150 ≠ 149 by omega), st_st]
    by_cases q : k < n
    · have q' : ¬ n ≤ k := by omega
      cases q2 : b k with
      | false =>
        rw [q2] at bk
        simp (disch := first | assumption | omega | exact ixN (by assumption) (by omega) (by omega) | exact ne_10 | exact ne_1000 | exact ne_4) only [s111_30, s111_32, s111_35, s111_35a, s111_36, s111_39, s111_40, s111_41, s111_41a, s111_42, s111_45, s111_48, s111_48a, s111_49, s111_52, s111_53, s111_54, s111_57, s111_58, s111_59, s111_59a, s111_60, s111_63, s111_64, s111_65, s111_65a, s111_66, s111_69, s111_72, s111_72a, s111_73, s111_76, s111_77, s111_78, s111_81, s111_82, s111_85, s111_86, s111_87, s111_90, ↓reduceIte, eq_self, Option.bind_some, Option.bind_none, Option.toList_some, Option.toList_none, List.cons_append, List.nil_append, am_rf_s, am_rf_n, am_c1_i, am_c1_r, am_c1_n, List.all_cons, List.all_nil, Bool.and_self, Bool.and_true, Bool.true_and, List.length_cons, List.length_nil, Nat.reduceAdd, Nat.reduceSub, Nat.reduceMul, Nat.reduceLeDiff, Nat.reduceLT, Nat.zero_le, Nat.le_refl, ne_10, ne_1000, ne_4, not_false_eq_true, or_true, true_or, Nat.one_ne_zero, Nat.zero_ne_one, Nat.reduceEqDiff, Bool.true_eq_false, Bool.false_eq_true, n10, nI_add, nI_clamp, nI_leI, ui_st, st_st, st_eq, st_ne, uf_eq, uf_ne, r1, r2, r3, r7, h0, ht, q, q', bk, bI_f, sw, show ¬ 60 ≤ k by omega, and_false, Bool.false_eq_true]
      | true =>
        rw [q2] at bk
        simp (disch := first | assumption | omega | exact ixN (by assumption) (by omega) (by omega) | exact ne_10 | exact ne_1000 | exact ne_4) only [s111_30, s111_32, s111_35, s111_35a, s111_36, s111_39, s111_40, s111_41, s111_41a, s111_42, s111_45, s111_48, s111_48a, s111_49, s111_52, s111_53, s111_54, s111_57, s111_58, s111_59, s111_59a, s111_60, s111_63, s111_64, s111_65, s111_65a, s111_66, s111_69, s111_72, s111_72a, s111_73, s111_76, s111_77, s111_78, s111_81, s111_82, s111_85, s111_86, s111_87, s111_90, ↓reduceIte, eq_self, Option.bind_some, Option.bind_none, Option.toList_some, Option.toList_none, List.cons_append, List.nil_append, am_rf_s, am_rf_n, am_c1_i, am_c1_r, am_c1_n, List.all_cons, List.all_nil, Bool.and_self, Bool.and_true, Bool.true_and, List.length_cons, List.length_nil, Nat.reduceAdd, Nat.reduceSub, Nat.reduceMul, Nat.reduceLeDiff, Nat.reduceLT, Nat.zero_le, Nat.le_refl, ne_10, ne_1000, ne_4, not_false_eq_true, or_true, true_or, Nat.one_ne_zero, Nat.zero_ne_one, Nat.reduceEqDiff, Bool.true_eq_false, Bool.false_eq_true, n10, nI_add, nI_clamp, nI_leI, ui_st, st_st, st_eq, st_ne, uf_eq, uf_ne, r1, r2, r3, r7, h0, ht, q, q', bk, bI_t, sw, show ¬ 60 ≤ k by omega, and_self]
    · have q' : n ≤ k := by omega
      simp (disch := first | assumption | omega | exact ixN (by assumption) (by omega) (by omega) | exact ne_10 | exact ne_1000 | exact ne_4) only [s111_30, s111_32, s111_35, s111_35a, s111_36, s111_39, s111_40, s111_41, s111_41a, s111_42, s111_45, s111_48, s111_48a, s111_49, s111_52, s111_53, s111_54, s111_57, s111_58, s111_59, s111_59a, s111_60, s111_63, s111_64, s111_65, s111_65a, s111_66, s111_69, s111_72, s111_72a, s111_73, s111_76, s111_77, s111_78, s111_81, s111_82, s111_85, s111_86, s111_87, s111_90, ↓reduceIte, eq_self, Option.bind_some, Option.bind_none, Option.toList_some, Option.toList_none, List.cons_append, List.nil_append, am_rf_s, am_rf_n, am_c1_i, am_c1_r, am_c1_n, List.all_cons, List.all_nil, Bool.and_self, Bool.and_true, Bool.true_and, List.length_cons, List.length_nil, Nat.reduceAdd, Nat.reduceSub, Nat.reduceMul, Nat.reduceLeDiff, Nat.reduceLT, Nat.zero_le, Nat.le_refl, ne_10, ne_1000, ne_4, not_false_eq_true, or_true, true_or, Nat.one_ne_zero, Nat.zero_ne_one, Nat.reduceEqDiff, Bool.true_eq_false, Bool.false_eq_true, n10, nI_add, nI_clamp, nI_leI, ui_st, st_st, st_eq, st_ne, uf_eq, uf_ne, r1, r2, r3, r7, h0, ht, q, q', sw, show ¬ 60 ≤ k by omega, false_and]
def sp_lay (tx : Nat → Int32) (n : Nat) : Int32 := if okLay tx n then nI n else -2
theorem m_lay (h : MK R K) (hr : MR I n tx nc cd bg f cs wz) (hn : n ≤ 200) : ∃ I', ev 111 0 [some (.ref 147), none] [] (I, R, K) = some (some (.int (sp_lay tx n)), (I', R, K)) ∧ (if okLay tx n then MR I' n tx n (lyC tx n cd) (lyB tx n bg) (sEmp f) 0 wz else MR I' n tx nc cd bg f cs wz) ∧ FM I I' := by
  have hMK := h
  have hr0 := hr
  obtain ⟨e1, e2, e3, e4, e5, e6, e7, e8⟩ := hr
  obtain ⟨⟨h1, h2, h3, h4, h5, h6, h7, h8, h9⟩, ⟨g2, g3, g4, g5, g6, g7, g8, g9⟩, r1, r2, r3, r4, r5, r6, r7, r8⟩ := h
  unfold sp_lay
  by_cases q0 : n = 0
  · subst q0
    have b : okLay tx 0 = false := rfl
    rw [b]
    refine ⟨I, ?_, hr0, FM.rf I⟩
    simp (disch := first | assumption | omega | exact ixN (by assumption) (by omega) (by omega) | exact ne_10 | exact ne_1000 | exact ne_4) only [s111_0, s111_0a, s111_1, s111_4, s111_7, s111_7a, s111_8, s111_11, s111_13, s111_16, s111_18, ↓reduceIte, eq_self, Option.bind_some, Option.bind_none, Option.toList_some, Option.toList_none, List.cons_append, List.nil_append, am_rf_s, am_rf_n, am_c1_i, am_c1_r, am_c1_n, List.all_cons, List.all_nil, Bool.and_self, Bool.and_true, Bool.true_and, List.length_cons, List.length_nil, Nat.reduceAdd, Nat.reduceSub, Nat.reduceMul, Nat.reduceLeDiff, Nat.reduceLT, Nat.zero_le, Nat.le_refl, ne_10, ne_1000, ne_4, not_false_eq_true, or_true, true_or, Nat.one_ne_zero, Nat.zero_ne_one, Nat.reduceEqDiff, Bool.true_eq_false, Bool.false_eq_true, n10, e1]
  obtain ⟨B, w1, w2⟩ := m_reads I R K n tx hMK e1 e2 hn
  have n0 : ¬ nI n = nI 0 := by rw [nI_eq (by omega) (by omega)]; exact q0
  cases q1 : rd tx n with
  | some p =>
    have b : okLay tx n = false := by unfold okLay; rw [q1]; simp
    rw [b]
    rw [q1] at w2
    refine ⟨st I 154 B, ?_, hr0.rb B, FM.st I B (by omega) (by omega)⟩
    have hp : p < 2 ^ 30 := by
      unfold rd at q1
      cases q2 : (rd1 tx n n 0 (fun _ => false)).1 with
      | none => rw [q2] at q1; have := (fs_lt q1).2.1; omega
      | some i =>
        rw [q2] at q1; cases q1
        have : ∀ (r i : Nat) (b : Nat → Bool) (k : Nat), (rd1 tx n r i b).1 = some k → k < n := by
          intro r
          induction r with
          | zero => intro i b k z; cases z
          | succ r ih =>
            intro i b k z
            unfold rd1 at z
            split at z
            · cases z
            · split at z
              · cases z; omega
              · exact ih _ _ _ z
        have := this _ _ _ _ q2
        omega
    have n4 : ¬ nI p = -4 := by
      intro z
      have z2 := nI_pos (n := p) (by omega)
      rw [z] at z2
      exact z2 (by decide)
    simp (disch := first | assumption | omega | exact ixN (by assumption) (by omega) (by omega) | exact ne_10 | exact ne_1000 | exact ne_4) only [s111_0, s111_0a, s111_1, s111_4, s111_7, s111_7a, s111_8, s111_11, s111_13, s111_16, s111_18, ↓reduceIte, eq_self, Option.bind_some, Option.bind_none, Option.toList_some, Option.toList_none, List.cons_append, List.nil_append, am_rf_s, am_rf_n, am_c1_i, am_c1_r, am_c1_n, List.all_cons, List.all_nil, Bool.and_self, Bool.and_true, Bool.true_and, List.length_cons, List.length_nil, Nat.reduceAdd, Nat.reduceSub, Nat.reduceMul, Nat.reduceLeDiff, Nat.reduceLT, Nat.zero_le, Nat.le_refl, ne_10, ne_1000, ne_4, not_false_eq_true, or_true, true_or, Nat.one_ne_zero, Nat.zero_ne_one, Nat.reduceEqDiff, Bool.true_eq_false, Bool.false_eq_true, n10, e1, n0, w2, fsI, n4]
  | none =>
    have b : okLay tx n = true := by unfold okLay; rw [q1]; simp [q0]
    obtain ⟨b1, b2⟩ := rd_60 b
    simp only [b, if_true]
    rw [q1] at w2
    obtain ⟨J, hJ⟩ : ∃ J, J = st (st I 154 B) 147 (uf (I 147) 2 (nI n)) := ⟨_, rfl⟩
    have j0 : J 147 0 = nI n := by rw [hJ, st_eq, uf_ne _ _ (by omega)]; exact e1
    have j148 : J 148 = tx := by rw [hJ, st_ne _ _ (by omega), st_ne _ _ (by omega)]; exact e2
    have j149 : J 149 = cd := by rw [hJ, st_ne _ _ (by omega), st_ne _ _ (by omega)]; exact e4
    have j150 : J 150 = bg := by rw [hJ, st_ne _ _ (by omega), st_ne _ _ (by omega)]; exact e5
    have j154 : J 154 = B := by rw [hJ, st_ne _ _ (by omega), st_eq]
    have cp := m_lcopy J R K n tx hMK j0 j148 b2 (rdB tx n) (by rw [j154]; exact w1) cd bg (fun j => if j < n then tx j else nI 0) (fun j => if j < n ∧ rdB tx n j = true then nI 1 else nI 0) (fun _ => rfl) (fun _ => rfl) 60 0 rfl
    have ez : ∀ v g : Nat → Int32, (fun j => if j < 0 then v j else g j) = g := fun v g => by
      funext j; rw [if_neg (by omega)]
    rw [ez, ez, ← j149, st_id, ← j150, st_id, j149, j150] at cp
    have mJ : MR (st (st J 149 (lyC tx n cd)) 150 (lyB tx n bg)) n tx n (lyC tx n cd) (lyB tx n bg) f cs wz := by
      refine ⟨?_, ?_, ?_, ?_, ?_, ?_, ?_, ?_⟩
      · rw [st_ne _ _ (by omega), st_ne _ _ (by omega)]; exact j0
      · rw [st_ne _ _ (by omega), st_ne _ _ (by omega)]; exact j148
      · rw [st_ne _ _ (by omega), st_ne _ _ (by omega), hJ, st_eq, uf_eq]
      · rw [st_ne _ _ (by omega), st_eq]
      · rw [st_eq]
      · rw [st_ne _ _ (by omega), st_ne _ _ (by omega), hJ, st_ne _ _ (by omega), st_ne _ _ (by omega)]; exact e6
      · rw [st_ne _ _ (by omega), st_ne _ _ (by omega), hJ, st_eq, uf_ne _ _ (by omega)]; exact e7
      · rw [st_ne _ _ (by omega), st_ne _ _ (by omega), hJ, st_ne _ _ (by omega), st_ne _ _ (by omega)]; exact e8
    obtain ⟨I2, v1, v2, v3⟩ := m_empties _ R K n n cs tx _ _ f wz hMK mJ
    have v3' := v2.2.2.1
    refine ⟨I2, ?_, v2, ?_⟩
    · have n44 : ((-4 : Int32) = -4) := rfl
      simp (disch := first | assumption | omega | exact ixN (by assumption) (by omega) (by omega) | exact ne_10 | exact ne_1000 | exact ne_4) only [s111_0, s111_0a, s111_1, s111_4, s111_7, s111_7a, s111_8, s111_11, s111_13, s111_16, s111_18, s111_19, s111_19a, s111_20, s111_20a, s111_21, s111_24, s111_27, s111_28, ↓reduceIte, eq_self, Option.bind_some, Option.bind_none, Option.toList_some, Option.toList_none, List.cons_append, List.nil_append, am_rf_s, am_rf_n, am_c1_i, am_c1_r, am_c1_n, List.all_cons, List.all_nil, Bool.and_self, Bool.and_true, Bool.true_and, List.length_cons, List.length_nil, Nat.reduceAdd, Nat.reduceSub, Nat.reduceMul, Nat.reduceLeDiff, Nat.reduceLT, Nat.zero_le, Nat.le_refl, ne_10, ne_1000, ne_4, not_false_eq_true, or_true, true_or, Nat.one_ne_zero, Nat.zero_ne_one, Nat.reduceEqDiff, Bool.true_eq_false, Bool.false_eq_true, n10, ui_st, st_st, st_eq, st_ne, uf_eq, uf_ne, e1, n0, w2, fsI, ← hJ]
      rw [cp]
      change ev 111 93 _ _ (st (st J 149 (lyC tx n cd)) 150 (lyB tx n bg), R, K) = _
      simp (disch := first | assumption | omega | exact ixN (by assumption) (by omega) (by omega) | exact ne_10 | exact ne_1000 | exact ne_4) only [s111_93, s111_93a, s111_94, s111_97, s111_97a, s111_98, s111_101, ↓reduceIte, eq_self, Option.bind_some, Option.bind_none, Option.toList_some, Option.toList_none, List.cons_append, List.nil_append, am_rf_s, am_rf_n, am_c1_i, am_c1_r, am_c1_n, List.all_cons, List.all_nil, Bool.and_self, Bool.and_true, Bool.true_and, List.length_cons, List.length_nil, Nat.reduceAdd, Nat.reduceSub, Nat.reduceMul, Nat.reduceLeDiff, Nat.reduceLT, Nat.zero_le, Nat.le_refl, ne_10, ne_1000, ne_4, not_false_eq_true, or_true, true_or, Nat.one_ne_zero, Nat.zero_ne_one, Nat.reduceEqDiff, Bool.true_eq_false, Bool.false_eq_true, n10, v1, v3']
    · refine FM.tr ?_ v3
      intro a q
      rw [st_ne _ _ (by omega), st_ne _ _ (by omega), hJ, st_ne _ _ (by omega), st_ne _ _ (by omega)]
end MZ
