/-! the reference: probe, filter, count -/
theorem cu_0 {P : Nat → Bool} {g : Nat → Int32} (hg : ∀ p, P p = false → g p = nI 0) : ∀ {r p : Nat} {n : Int32}, fs P r p = none → cu g r p n = n
  | 0, _, _, _ => rfl
  | r + 1, p, n, h => by
    unfold fs at h
    split at h
    · cases h
    · rename_i q
      unfold cu
      rw [cu_0 hg h, hg p (by simpa using q)]
      exact Int32.add_zero n
def gone (f : Nat → Int32) : Option Nat := fs (fun p => decide (f (70 + 208 * p) = nI 3)) 6 0
theorem gone_of {f : Nat → Int32} (h : ¬ many f (nI 3) = nI 0) : ∃ p, p < 6 ∧ gone f = some p := by
  cases q : gone f with
  | none =>
    exfalso; apply h
    unfold many
    exact cu_0 (P := fun p => decide (f (70 + 208 * p) = nI 3)) (fun p hp => by
      rw [if_neg (by simpa using hp)]) q
  | some p => exact ⟨p, by have := (fs_lt q).2.1; omega, rfl⟩
def sProbe (f : Nat → Int32) (p : Nat) (kd x : Int32) : Nat → Int32 := uf (uf (fun j => if 70 + 208 * p ≤ j ∧ j < 70 + 208 * p + 208 then nI 0 else f j) (70 + 208 * p + 1) kd) (70 + 208 * p + 2) x
def okProbe (bg : Nat → Int32) (nc : Nat) (f : Nat → Int32) (kd x : Int32) : Bool := inR kd 0 1 && isC nc x && !decide (am_b (bg x.toNatClampNeg) = nI 0) && (pOn f x).isNone && !decide (many f (nI 3) = nI 0)
def sp_probe (bg : Nat → Int32) (nc : Nat) (f : Nat → Int32) (kd x : Int32) : Int32 := if inR kd 0 1 = false then -1 else if isC nc x = false then -1 else if am_b (bg x.toNatClampNeg) = nI 0 then -2 else if (pOn f x).isNone = false then -2 else if many f (nI 3) = nI 0 then -3 else nI ((gone f).getD 0)
def sf_probe (bg : Nat → Int32) (nc : Nat) (f : Nat → Int32) (kd x : Int32) : Nat → Int32 := if okProbe bg nc f kd x then sProbe f ((gone f).getD 0) kd x else f
def okFil (f tx : Nat → Int32) (n : Nat) (p : Int32) : Bool := isPr f p && (decide (n = 0) || decide (nI 0 ≤ askI (kask f tx n (nI 0))))
def sFil (f tx : Nat → Int32) (n p : Nat) : Nat → Int32 := fun j => if 70 + 208 * p + 7 + 1 ≤ j ∧ j < 70 + 208 * p + 7 + 1 + 200 then (if j - (70 + 208 * p + 7 + 1) < n then tx (j - (70 + 208 * p + 7 + 1)) else nI 0) else uf f (70 + 208 * p + 7) (nI n) j
def sp_filter (f tx : Nat → Int32) (n : Nat) (p : Int32) : Int32 := if isPr f p = false then -1 else if okFil f tx n p = false then -2 else nI n
def sf_filter (f tx : Nat → Int32) (n : Nat) (p : Int32) : Nat → Int32 := if okFil f tx n p then sFil f tx n p.toNatClampNeg else f
def sp_count (bg : Nat → Int32) (nc : Nat) (f : Nat → Int32) (cs n : Nat) (w : Int32) : Int32 := if w = nI 0 then nI nc else if w = nI 1 then cu (fun k => if am_b (bg k) = nI 0 then nI 0 else nI 1) nc 0 (nI 0) else if w = nI 2 then many f (nI 0) else if w = nI 3 then many f (nI 2) else if w = nI 4 then held f else if w = nI 5 then nI cs else if w = nI 6 then nI n else -1
section MV
variable (I : am_I) (R : am_R) (K : am_K) (n nc cs : Nat) (tx cd bg f wz : Nat → Int32)
theorem m_pfind (h : MK R K) (kd x : Int32) (he : I 151 = f) : ∀ (r p q : Nat), p + r = 6 → fs (fun p => decide (f (70 + 208 * p) = nI 3)) r p = some q → ∀ l4, ev 126 58 [some (.ref 147), some (.int kd), some (.int x), some (.int (nI p)), l4] [] (I, R, K) = ev 126 77 [some (.ref 147), some (.int kd), some (.int x), some (.int (nI q)), l4] [] (I, R, K) := by
  obtain ⟨⟨h1, h2, h3, h4, h5, h6, h7, h8, h9⟩, ⟨g2, g3, g4, g5, g6, g7, g8, g9⟩, r1, r2, r3, r4, r5, r6, r7, r8⟩ := h
  intro r
  induction r with
  | zero => intro p q _ z; cases z
  | succ r ih =>
    intro p q hp z l4
    unfold fs at z
    by_cases c1 : f (70 + 208 * p) = nI 3
    · rw [if_pos (by simpa using c1)] at z
      cases z
      simp (disch := first | assumption | omega | exact ixN (by assumption) (by omega) (by omega) | exact ne_10 | exact ne_1000 | exact ne_4) only [s126_58, s126_58a, s126_59, s126_62, s126_63, s126_66, s126_67, s126_68, ↓reduceIte, eq_self, Option.bind_some, Option.bind_none, Option.toList_some, Option.toList_none, List.cons_append, List.nil_append, am_rf_s, am_rf_n, am_c1_i, am_c1_r, am_c1_n, List.all_cons, List.all_nil, Bool.and_self, Bool.and_true, Bool.true_and, List.length_cons, List.length_nil, Nat.reduceAdd, Nat.reduceSub, Nat.reduceMul, Nat.reduceLeDiff, Nat.reduceLT, Nat.zero_le, Nat.le_refl, ne_10, ne_1000, ne_4, not_false_eq_true, or_true, true_or, Nat.one_ne_zero, Nat.zero_ne_one, Nat.reduceEqDiff, Bool.true_eq_false, Bool.false_eq_true, n10, nI_add, pk_mul, nI_clamp, r4, m_probeAt, he, c1]
    · rw [if_neg (by simpa using c1)] at z
      rw [← ih (p + 1) q (by omega) z l4, s126_58]
      simp (disch := first | assumption | omega | exact ixN (by assumption) (by omega) (by omega) | exact ne_10 | exact ne_1000 | exact ne_4) only [s126_59, s126_62, s126_63, s126_66, s126_67, s126_68, s126_71, s126_74, ↓reduceIte, eq_self, Option.bind_some, Option.bind_none, Option.toList_some, Option.toList_none, List.cons_append, List.nil_append, am_rf_s, am_rf_n, am_c1_i, am_c1_r, am_c1_n, List.all_cons, List.all_nil, Bool.and_self, Bool.and_true, Bool.true_and, List.length_cons, List.length_nil, Nat.reduceAdd, Nat.reduceSub, Nat.reduceMul, Nat.reduceLeDiff, Nat.reduceLT, Nat.zero_le, Nat.le_refl, ne_10, ne_1000, ne_4, not_false_eq_true, or_true, true_or, Nat.one_ne_zero, Nat.zero_ne_one, Nat.reduceEqDiff, Bool.true_eq_false, Bool.false_eq_true, n10, nI_add, pk_mul, nI_clamp, r4, m_probeAt, he, c1]
theorem m_pclr (h : MK R K) (kd x : Int32) (p : Nat) (hp : p < 6) : ∀ (r k : Nat), k + r = 208 → ev 126 80 [some (.ref 147), some (.int kd), some (.int x), some (.int (nI p)), some (.int (nI k))] [] (st I 151 (fun j => if 70 + 208 * p ≤ j ∧ j < 70 + 208 * p + k then nI 0 else f j), R, K) = ev 126 107 [some (.ref 147), some (.int kd), some (.int x), some (.int (nI p)), some (.int (nI 208))] [] (st I 151 (fun j => if 70 + 208 * p ≤ j ∧ j < 70 + 208 * p + 208 then nI 0 else f j), R, K) := by
  obtain ⟨⟨h1, h2, h3, h4, h5, h6, h7, h8, h9⟩, ⟨g2, g3, g4, g5, g6, g7, g8, g9⟩, r1, r2, r3, r4, r5, r6, r7, r8⟩ := h
  intro r
  induction r with
  | zero =>
    intro k hk
    have hk : k = 208 := by omega
    subst hk
    simp (disch := first | assumption | omega | exact ixN (by assumption) (by omega) (by omega) | exact ne_10 | exact ne_1000 | exact ne_4) only [s126_80, s126_82, s126_85, ↓reduceIte, eq_self, Option.bind_some, Option.bind_none, Option.toList_some, Option.toList_none, List.cons_append, List.nil_append, am_rf_s, am_rf_n, am_c1_i, am_c1_r, am_c1_n, List.all_cons, List.all_nil, Bool.and_self, Bool.and_true, Bool.true_and, List.length_cons, List.length_nil, Nat.reduceAdd, Nat.reduceSub, Nat.reduceMul, Nat.reduceLeDiff, Nat.reduceLT, Nat.zero_le, Nat.le_refl, ne_10, ne_1000, ne_4, not_false_eq_true, or_true, true_or, Nat.one_ne_zero, Nat.zero_ne_one, Nat.reduceEqDiff, Bool.true_eq_false, Bool.false_eq_true, n10, nI_add, pk_mul, pk_sub, nI_clamp, nI_ltI, nI_leI, nI_eq]
  | succ r ih =>
    intro k hk
    rw [← ih (k + 1) (by omega)]
    have e2 : uf (fun j => if 70 + 208 * p ≤ j ∧ j < 70 + 208 * p + k then nI 0 else f j) (70 + 208 * p + k) (nI 0) = fun j => if 70 + 208 * p ≤ j ∧ j < 70 + 208 * p + (k + 1) then nI 0 else f j := by
      funext j
      unfold uf
      by_cases q : j = 70 + 208 * p + k
      · subst q; rw [if_pos rfl, if_pos (by omega)]
      · rw [if_neg q]
        dsimp only
        by_cases q2 : 70 + 208 * p ≤ j ∧ j < 70 + 208 * p + k
        · rw [if_pos q2, if_pos (by omega)]
        · rw [if_neg q2, if_neg (by omega)]
    rw [s126_80]
    simp (disch := first | assumption | omega | exact ixN (by assumption) (by omega) (by omega) | exact ne_10 | exact ne_1000 | exact ne_4) only [s126_82, s126_85, s126_88, s126_88a, s126_89, s126_92, s126_93, s126_96, s126_98, s126_99, s126_100, s126_101, s126_104, ↓reduceIte, eq_self, Option.bind_some, Option.bind_none, Option.toList_some, Option.toList_none, List.cons_append, List.nil_append, am_rf_s, am_rf_n, am_c1_i, am_c1_r, am_c1_n, List.all_cons, List.all_nil, Bool.and_self, Bool.and_true, Bool.true_and, List.length_cons, List.length_nil, Nat.reduceAdd, Nat.reduceSub, Nat.reduceMul, Nat.reduceLeDiff, Nat.reduceLT, Nat.zero_le, Nat.le_refl, ne_10, ne_1000, ne_4, not_false_eq_true, or_true, true_or, Nat.one_ne_zero, Nat.zero_ne_one, Nat.reduceEqDiff, Bool.true_eq_false, Bool.false_eq_true, n10, nI_add, pk_mul, nI_clamp, nI_leI, ui_st, st_st, st_eq, st_ne, uf_eq, uf_ne, m_probeAt, r4, show ¬ 208 ≤ k by omega, e2]
theorem m_probe (h : MK R K) (hr : MR I n tx nc cd bg f cs wz) (hcs : cs ≤ 4) (h1c : 1 ≤ nc) (h2c : nc ≤ 60) (kd x : Int32) : ∃ I', ev 126 0 [some (.ref 147), some (.int kd), some (.int x), none, none] [] (I, R, K) = some (some (.int (sp_probe bg nc f kd x)), (I', R, K)) ∧ MR I' n tx nc cd bg (sf_probe bg nc f kd x) (kpC (okProbe bg nc f kd x) cs) (kpW (okProbe bg nc f kd x) wz f cs) ∧ FM I I' := by
  have hMK := h
  have hr0 := hr
  obtain ⟨e1, e2, e3, e4, e5, e6, e7, e8⟩ := hr
  obtain ⟨⟨h1, h2, h3, h4, h5, h6, h7, h8, h9⟩, ⟨g2, g3, g4, g5, g6, g7, g8, g9⟩, r1, r2, r3, r4, r5, r6, r7, r8⟩ := h
  have n44 : ((-4 : Int32) = -4) = True := eq_true rfl
  unfold sp_probe sf_probe kpC kpW
  by_cases q0 : inR kd 0 1 = false
  · have b : okProbe bg nc f kd x = false := by unfold okProbe; rw [q0]; rfl
    rw [b]
    refine ⟨I, ?_, hr0, FM.rf I⟩
    simp (disch := first | assumption | omega | exact ixN (by assumption) (by omega) (by omega) | exact ne_10 | exact ne_1000 | exact ne_4) only [s126_0, s126_1, s126_2, s126_3, s126_6, s126_9, s126_9a, s126_10, s126_11, s126_14, s126_17, s126_18, ↓reduceIte, eq_self, Option.bind_some, Option.bind_none, Option.toList_some, Option.toList_none, List.cons_append, List.nil_append, am_rf_s, am_rf_n, am_c1_i, am_c1_r, am_c1_n, List.all_cons, List.all_nil, Bool.and_self, Bool.and_true, Bool.true_and, List.length_cons, List.length_nil, Nat.reduceAdd, Nat.reduceSub, Nat.reduceMul, Nat.reduceLeDiff, Nat.reduceLT, Nat.zero_le, Nat.le_refl, ne_10, ne_1000, ne_4, not_false_eq_true, or_true, true_or, Nat.one_ne_zero, Nat.zero_ne_one, Nat.reduceEqDiff, Bool.true_eq_false, Bool.false_eq_true, n10, inR_e, c_isIn, bI_0, q0]
  by_cases q1 : isC nc x = false
  · have b : okProbe bg nc f kd x = false := by unfold okProbe; rw [q1]; simp
    rw [b]
    refine ⟨I, ?_, hr0, FM.rf I⟩
    simp (disch := first | assumption | omega | exact ixN (by assumption) (by omega) (by omega) | exact ne_10 | exact ne_1000 | exact ne_4) only [s126_0, s126_1, s126_2, s126_3, s126_6, s126_9, s126_9a, s126_10, s126_11, s126_14, s126_17, s126_18, ↓reduceIte, eq_self, Option.bind_some, Option.bind_none, Option.toList_some, Option.toList_none, List.cons_append, List.nil_append, am_rf_s, am_rf_n, am_c1_i, am_c1_r, am_c1_n, List.all_cons, List.all_nil, Bool.and_self, Bool.and_true, Bool.true_and, List.length_cons, List.length_nil, Nat.reduceAdd, Nat.reduceSub, Nat.reduceMul, Nat.reduceLeDiff, Nat.reduceLT, Nat.zero_le, Nat.le_refl, ne_10, ne_1000, ne_4, not_false_eq_true, or_true, true_or, Nat.one_ne_zero, Nat.zero_ne_one, Nat.reduceEqDiff, Bool.true_eq_false, Bool.false_eq_true, n10, inR_e, isC_e, m_isCell I R K hMK, e3, c_isIn, bI_0, q0, q1]
  have q0' := nf q0
  have q1' := nf q1
  obtain ⟨x', hx, rfl⟩ := isC_of (nf q1) h1c h2c
  have ek : (nI x').toNatClampNeg = x' := nI_clamp (by omega)
  by_cases q2 : am_b (bg x') = nI 0
  · have b : okProbe bg nc f kd (nI x') = false := by unfold okProbe; rw [ek]; simp [q2]
    rw [b]
    refine ⟨I, ?_, hr0, FM.rf I⟩
    simp (disch := first | assumption | omega | exact ixN (by assumption) (by omega) (by omega) | exact ne_10 | exact ne_1000 | exact ne_4) only [s126_0, s126_1, s126_2, s126_3, s126_6, s126_9, s126_9a, s126_10, s126_11, s126_14, s126_17, s126_18, s126_19, s126_19a, s126_20, s126_23, s126_24, s126_25, s126_28, s126_28a, s126_29, s126_30, s126_33, s126_35, s126_38, s126_40, ↓reduceIte, eq_self, Option.bind_some, Option.bind_none, Option.toList_some, Option.toList_none, List.cons_append, List.nil_append, am_rf_s, am_rf_n, am_c1_i, am_c1_r, am_c1_n, List.all_cons, List.all_nil, Bool.and_self, Bool.and_true, Bool.true_and, List.length_cons, List.length_nil, Nat.reduceAdd, Nat.reduceSub, Nat.reduceMul, Nat.reduceLeDiff, Nat.reduceLT, Nat.zero_le, Nat.le_refl, ne_10, ne_1000, ne_4, not_false_eq_true, or_true, true_or, Nat.one_ne_zero, Nat.zero_ne_one, Nat.reduceEqDiff, Bool.true_eq_false, Bool.false_eq_true, n10, inR_e, isC_e, m_isCell I R K hMK, e3, e5, r3, ek, c_isIn, bI_0, q0, q1, q2]
  cases q3 : pOn f (nI x') with
  | some p =>
    have hp : p < 6 := by have := (fs_lt q3).2.1; omega
    have n4 := neg4 p (by omega)
    have b : okProbe bg nc f kd (nI x') = false := by unfold okProbe; rw [q3]; simp
    rw [b]
    refine ⟨I, ?_, hr0, FM.rf I⟩
    simp (disch := first | assumption | omega | exact ixN (by assumption) (by omega) (by omega) | exact ne_10 | exact ne_1000 | exact ne_4) only [s126_0, s126_1, s126_2, s126_3, s126_6, s126_9, s126_9a, s126_10, s126_11, s126_14, s126_17, s126_18, s126_19, s126_19a, s126_20, s126_23, s126_24, s126_25, s126_28, s126_28a, s126_29, s126_30, s126_33, s126_35, s126_38, s126_40, ↓reduceIte, eq_self, Option.bind_some, Option.bind_none, Option.toList_some, Option.toList_none, List.cons_append, List.nil_append, am_rf_s, am_rf_n, am_c1_i, am_c1_r, am_c1_n, List.all_cons, List.all_nil, Bool.and_self, Bool.and_true, Bool.true_and, List.length_cons, List.length_nil, Nat.reduceAdd, Nat.reduceSub, Nat.reduceMul, Nat.reduceLeDiff, Nat.reduceLT, Nat.zero_le, Nat.le_refl, ne_10, ne_1000, ne_4, not_false_eq_true, or_true, true_or, Nat.one_ne_zero, Nat.zero_ne_one, Nat.reduceEqDiff, Bool.true_eq_false, Bool.false_eq_true, n10, inR_e, isC_e, m_isCell I R K hMK, m_probeOn I R K hMK, e3, e5, e6, r3, ek, c_isIn, bI_0, q0, q1, q2, q3, fsI, n4, Option.isNone_some]
  | none =>
    by_cases q4 : many f (nI 3) = nI 0
    · have b : okProbe bg nc f kd (nI x') = false := by unfold okProbe; simp [q4]
      rw [b]
      refine ⟨I, ?_, hr0, FM.rf I⟩
      simp (disch := first | assumption | omega | exact ixN (by assumption) (by omega) (by omega) | exact ne_10 | exact ne_1000 | exact ne_4) only [s126_0, s126_1, s126_2, s126_3, s126_6, s126_9, s126_9a, s126_10, s126_11, s126_14, s126_17, s126_18, s126_19, s126_19a, s126_20, s126_23, s126_24, s126_25, s126_28, s126_28a, s126_29, s126_30, s126_33, s126_35, s126_38, s126_40, s126_41, s126_41a, s126_42, s126_43, s126_46, s126_49, s126_51, ↓reduceIte, eq_self, Option.bind_some, Option.bind_none, Option.toList_some, Option.toList_none, List.cons_append, List.nil_append, am_rf_s, am_rf_n, am_c1_i, am_c1_r, am_c1_n, List.all_cons, List.all_nil, Bool.and_self, Bool.and_true, Bool.true_and, List.length_cons, List.length_nil, Nat.reduceAdd, Nat.reduceSub, Nat.reduceMul, Nat.reduceLeDiff, Nat.reduceLT, Nat.zero_le, Nat.le_refl, ne_10, ne_1000, ne_4, not_false_eq_true, or_true, true_or, Nat.one_ne_zero, Nat.zero_ne_one, Nat.reduceEqDiff, Bool.true_eq_false, Bool.false_eq_true, n10, inR_e, isC_e, m_isCell I R K hMK, m_probeOn I R K hMK, m_manyThat I R K hMK, e3, e5, e6, r3, ek, c_isIn, bI_0, q0, q1, q2, q3, fsI, q4, Option.isNone_none]
    · have b : okProbe bg nc f kd (nI x') = true := by unfold okProbe; rw [ek, q0', q1', q3]; simp [q2, q4]
      rw [b]
      obtain ⟨p, hp, hg⟩ := gone_of q4
      have kp := m_keeps I R K hMK cs hcs e7
      have k1 := hr0.keep
      have k6 := k1.2.2.2.2.2.1
      have fi := m_pfind (kI I cs) R K f hMK kd (nI x') k6 6 0 p rfl hg none
      have cl := m_pclr (kI I cs) R K f hMK kd (nI x') p hp 208 0 rfl
      have e0 : kI I cs = st (kI I cs) 151 (fun j => if 70 + 208 * p ≤ j ∧ j < 70 + 208 * p + 0 then nI 0 else f j) := by
        have : (fun j => if 70 + 208 * p ≤ j ∧ j < 70 + 208 * p + 0 then nI 0 else f j) = kI I cs 151 := by
          funext j; rw [if_neg (by omega), k6]
        rw [this, st_id]
      rw [← e0] at cl
      rw [hg]
      refine ⟨st (kI I cs) 151 (sProbe f p kd (nI x')), ?_, ?_, (FM.keep I cs).tr (FM.st _ _ (by omega) (by omega))⟩
      · simp (disch := first | assumption | omega | exact ixN (by assumption) (by omega) (by omega) | exact ne_10 | exact ne_1000 | exact ne_4) only [s126_0, s126_1, s126_2, s126_3, s126_6, s126_9, s126_9a, s126_10, s126_11, s126_14, s126_17, s126_18, s126_19, s126_19a, s126_20, s126_23, s126_24, s126_25, s126_28, s126_28a, s126_29, s126_30, s126_33, s126_35, s126_38, s126_40, s126_41, s126_41a, s126_42, s126_43, s126_46, s126_49, s126_51, s126_52, s126_52a, s126_53, s126_56, s126_57, ↓reduceIte, eq_self, Option.bind_some, Option.bind_none, Option.toList_some, Option.toList_none, List.cons_append, List.nil_append, am_rf_s, am_rf_n, am_c1_i, am_c1_r, am_c1_n, List.all_cons, List.all_nil, Bool.and_self, Bool.and_true, Bool.true_and, List.length_cons, List.length_nil, Nat.reduceAdd, Nat.reduceSub, Nat.reduceMul, Nat.reduceLeDiff, Nat.reduceLT, Nat.zero_le, Nat.le_refl, ne_10, ne_1000, ne_4, not_false_eq_true, or_true, true_or, Nat.one_ne_zero, Nat.zero_ne_one, Nat.reduceEqDiff, Bool.true_eq_false, Bool.false_eq_true, n10, inR_e, isC_e, m_isCell I R K hMK, m_probeOn I R K hMK, m_manyThat I R K hMK, e3, e5, e6, r3, ek, c_isIn, bI_0, q0, q1, q2, q3, fsI, q4, Option.isNone_none, kp, fi]
        simp (disch := first | assumption | omega | exact ixN (by assumption) (by omega) (by omega) | exact ne_10 | exact ne_1000 | exact ne_4) only [s126_77, s126_78, cl]
        simp (disch := first | assumption | omega | exact ixN (by assumption) (by omega) (by omega) | exact ne_10 | exact ne_1000 | exact ne_4) only [s126_107, s126_107a, s126_108, s126_111, s126_112, s126_115, s126_116, s126_117, s126_118, s126_119, s126_119a, s126_120, s126_123, s126_124, s126_127, s126_128, s126_129, s126_130, s126_131, s126_132, ↓reduceIte, eq_self, Option.bind_some, Option.bind_none, Option.toList_some, Option.toList_none, List.cons_append, List.nil_append, am_rf_s, am_rf_n, am_c1_i, am_c1_r, am_c1_n, List.all_cons, List.all_nil, Bool.and_self, Bool.and_true, Bool.true_and, List.length_cons, List.length_nil, Nat.reduceAdd, Nat.reduceSub, Nat.reduceMul, Nat.reduceLeDiff, Nat.reduceLT, Nat.zero_le, Nat.le_refl, ne_10, ne_1000, ne_4, not_false_eq_true, or_true, true_or, Nat.one_ne_zero, Nat.zero_ne_one, Nat.reduceEqDiff, Bool.true_eq_false, Bool.false_eq_true, n10, ui_st, st_st, st_eq, st_ne, uf_eq, uf_ne, nI_add, pk_mul, nI_clamp, m_probeAt, r4, Option.getD_some]
        rfl
      · simp only [if_true, Option.getD_some]
        exact k1.now _
theorem m_fcopy (h : MK R K) (p : Nat) (hp : p < 6) (hn : I 147 0 = nI n) (hn2 : n ≤ 200) (ht : I 148 = tx) (l1 : Option Value) (g v : Nat → Int32) (hv : ∀ i, v i = if i < n then tx i else nI 0) : ∀ (r k : Nat), k + r = 200 → ev 129 61 [some (.ref 147), l1, some (.int (nI (70 + 208 * p + 7))), some (.int (nI k))] [] (st I 151 (fun j => if 70 + 208 * p + 7 + 1 ≤ j ∧ j < 70 + 208 * p + 7 + 1 + k then v (j - (70 + 208 * p + 7 + 1)) else g j), R, K) = some (some (.int (nI n)), (st I 151 (fun j => if 70 + 208 * p + 7 + 1 ≤ j ∧ j < 70 + 208 * p + 7 + 1 + 200 then v (j - (70 + 208 * p + 7 + 1)) else g j), R, K)) := by
  obtain ⟨⟨h1, h2, h3, h4, h5, h6, h7, h8, h9⟩, ⟨g2, g3, g4, g5, g6, g7, g8, g9⟩, r1, r2, r3, r4, r5, r6, r7, r8⟩ := h
  intro r
  induction r with
  | zero =>
    intro k hk
    have hk : k = 200 := by omega
    subst hk
    simp (disch := first | assumption | omega | exact ixN (by assumption) (by omega) (by omega) | exact ne_10 | exact ne_1000 | exact ne_4) only [s129_61, s129_62, s129_65, s129_68, s129_68a, s129_69, s129_72, s129_73, s129_74, s129_75, s129_76, s129_77, s129_78, s129_78a, s129_79, s129_82, s129_85, s129_85a, s129_86, s129_89, s129_90, s129_91, s129_94, s129_95, s129_96, s129_99, s129_102, s129_102a, s129_103, s129_106, ↓reduceIte, eq_self, Option.bind_some, Option.bind_none, Option.toList_some, Option.toList_none, List.cons_append, List.nil_append, am_rf_s, am_rf_n, am_c1_i, am_c1_r, am_c1_n, List.all_cons, List.all_nil, Bool.and_self, Bool.and_true, Bool.true_and, List.length_cons, List.length_nil, Nat.reduceAdd, Nat.reduceSub, Nat.reduceMul, Nat.reduceLeDiff, Nat.reduceLT, Nat.zero_le, Nat.le_refl, ne_10, ne_1000, ne_4, not_false_eq_true, or_true, true_or, Nat.one_ne_zero, Nat.zero_ne_one, Nat.reduceEqDiff, Bool.true_eq_false, Bool.false_eq_true, n10, nI_add, pk_mul, pk_sub, nI_clamp, nI_ltI, nI_leI, nI_eq, st_ne, hn]
  | succ r ih =>
    intro k hk
    rw [← ih (k + 1) (by omega)]
    have e2 : uf (fun j => if 70 + 208 * p + 7 + 1 ≤ j ∧ j < 70 + 208 * p + 7 + 1 + k then v (j - (70 + 208 * p + 7 + 1)) else g j) (70 + 208 * p + 7 + 1 + k) (v k) = fun j => if 70 + 208 * p + 7 + 1 ≤ j ∧ j < 70 + 208 * p + 7 + 1 + (k + 1) then v (j - (70 + 208 * p + 7 + 1)) else g j := by
      funext j
      unfold uf
      by_cases q : j = 70 + 208 * p + 7 + 1 + k
      · subst q
        rw [if_pos rfl, if_pos (by omega), show 70 + 208 * p + 7 + 1 + k - (70 + 208 * p + 7 + 1) = k by omega]
      · rw [if_neg q]
        dsimp only
        by_cases q2 : 70 + 208 * p + 7 + 1 ≤ j ∧ j < 70 + 208 * p + 7 + 1 + k
        · rw [if_pos q2, if_pos (by omega)]
        · rw [if_neg q2, if_neg (by omega)]
    rw [s129_61, ← e2, hv k]
    by_cases q : k < n
    · have q' : ¬ n ≤ k := by omega
      simp (disch := first | assumption | omega | exact ixN (by assumption) (by omega) (by omega) | exact ne_10 | exact ne_1000 | exact ne_4) only [s129_62, s129_65, s129_68, s129_68a, s129_69, s129_72, s129_73, s129_74, s129_75, s129_76, s129_77, s129_78, s129_78a, s129_79, s129_82, s129_85, s129_85a, s129_86, s129_89, s129_90, s129_91, s129_94, s129_95, s129_96, s129_99, ↓reduceIte, eq_self, Option.bind_some, Option.bind_none, Option.toList_some, Option.toList_none, List.cons_append, List.nil_append, am_rf_s, am_rf_n, am_c1_i, am_c1_r, am_c1_n, List.all_cons, List.all_nil, Bool.and_self, Bool.and_true, Bool.true_and, List.length_cons, List.length_nil, Nat.reduceAdd, Nat.reduceSub, Nat.reduceMul, Nat.reduceLeDiff, Nat.reduceLT, Nat.zero_le, Nat.le_refl, ne_10, ne_1000, ne_4, not_false_eq_true, or_true, true_or, Nat.one_ne_zero, Nat.zero_ne_one, Nat.reduceEqDiff, Bool.true_eq_false, Bool.false_eq_true, n10, nI_add, nI_clamp, nI_leI, ui_st, st_st, st_eq, st_ne, uf_eq, uf_ne, r1, r4, hn, ht, show ¬ 200 ≤ k by omega, q', if_pos q]
    · have q' : n ≤ k := by omega
      simp (disch := first | assumption | omega | exact ixN (by assumption) (by omega) (by omega) | exact ne_10 | exact ne_1000 | exact ne_4) only [s129_62, s129_65, s129_68, s129_68a, s129_69, s129_72, s129_73, s129_74, s129_75, s129_76, s129_77, s129_78, s129_78a, s129_79, s129_82, s129_85, s129_85a, s129_86, s129_89, s129_90, s129_91, s129_94, s129_95, s129_96, s129_99, ↓reduceIte, eq_self, Option.bind_some, Option.bind_none, Option.toList_some, Option.toList_none, List.cons_append, List.nil_append, am_rf_s, am_rf_n, am_c1_i, am_c1_r, am_c1_n, List.all_cons, List.all_nil, Bool.and_self, Bool.and_true, Bool.true_and, List.length_cons, List.length_nil, Nat.reduceAdd, Nat.reduceSub, Nat.reduceMul, Nat.reduceLeDiff, Nat.reduceLT, Nat.zero_le, Nat.le_refl, ne_10, ne_1000, ne_4, not_false_eq_true, or_true, true_or, Nat.one_ne_zero, Nat.zero_ne_one, Nat.reduceEqDiff, Bool.true_eq_false, Bool.false_eq_true, n10, nI_add, nI_clamp, nI_leI, ui_st, st_st, st_eq, st_ne, uf_eq, uf_ne, r1, r4, hn, ht, show ¬ 200 ≤ k by omega, q', if_neg q]
theorem m_filter (h : MK R K) (hr : MR I n tx nc cd bg f cs wz) (hcs : cs ≤ 4) (hn : n ≤ 200) (p : Int32) : ∃ I', ev 129 0 [some (.ref 147), some (.int p), none, none] [] (I, R, K) = some (some (.int (sp_filter f tx n p)), (I', R, K)) ∧ MR I' n tx nc cd bg (sf_filter f tx n p) (kpC (okFil f tx n p) cs) (kpW (okFil f tx n p) wz f cs) ∧ FM I I' := by
  have hMK := h
  have hr0 := hr
  obtain ⟨e1, e2, e3, e4, e5, e6, e7, e8⟩ := hr
  have ip := m_isProbe I R K hMK
  obtain ⟨⟨h1, h2, h3, h4, h5, h6, h7, h8, h9⟩, ⟨g2, g3, g4, g5, g6, g7, g8, g9⟩, r1, r2, r3, r4, r5, r6, r7, r8⟩ := h
  unfold sp_filter
  by_cases q0 : isPr f p = false
  · have bb : okFil f tx n p = false := by unfold okFil; rw [q0]; rfl
    unfold sf_filter kpC kpW
    rw [bb]
    refine ⟨I, ?_, hr0, FM.rf I⟩
    simp (disch := first | assumption | omega | exact ixN (by assumption) (by omega) (by omega) | exact ne_10 | exact ne_1000 | exact ne_4) only [s129_0, s129_0a, s129_1, s129_2, s129_5, s129_8, s129_9, ↓reduceIte, eq_self, Option.bind_some, Option.bind_none, Option.toList_some, Option.toList_none, List.cons_append, List.nil_append, am_rf_s, am_rf_n, am_c1_i, am_c1_r, am_c1_n, List.all_cons, List.all_nil, Bool.and_self, Bool.and_true, Bool.true_and, List.length_cons, List.length_nil, Nat.reduceAdd, Nat.reduceSub, Nat.reduceMul, Nat.reduceLeDiff, Nat.reduceLT, Nat.zero_le, Nat.le_refl, ne_10, ne_1000, ne_4, not_false_eq_true, or_true, true_or, Nat.one_ne_zero, Nat.zero_ne_one, Nat.reduceEqDiff, Bool.true_eq_false, Bool.false_eq_true, n10, inR_e, ip, e6, isPr_e, bI_0, q0]
  · have q0' := nf q0
    have q00 : inR p 0 5 = true := by unfold isPr at q0'; rw [Bool.and_eq_true] at q0'; exact q0'.1
    obtain ⟨p', -, hp, rfl⟩ := inR_of q00 (by omega) (by omega)
    have ek : (nI p').toNatClampNeg = p' := nI_clamp (by omega)
    have ip' := ip (nI p')
    rw [e6, inR_e, isPr_e, q0'] at ip'
    -- what follows the asking
    have back : ∀ J : am_I, MR J n tx nc cd bg f cs wz → okFil f tx n (nI p') = true → ∃ I', ev 129 37 [some (.ref 147), some (.int (nI p')), none, none] [] (J, R, K) = some (some (.int (nI n)), (I', R, K)) ∧ MR I' n tx nc cd bg (sf_filter f tx n (nI p')) (kpC (okFil f tx n (nI p')) cs) (kpW (okFil f tx n (nI p')) wz f cs) ∧ FM J I' := by
      intro J hJ bb
      unfold sf_filter kpC kpW
      rw [bb]
      have kp := m_keeps J R K hMK cs hcs hJ.2.2.2.2.2.2.1
      have k1 := hJ.keep
      have k0 := k1.1
      have k2 := k1.2.1
      have k6 := k1.2.2.2.2.2.1
      have cp := m_fcopy (kI J cs) R K n tx hMK p' (by omega) k0 hn k2 (some (.int (nI p'))) (uf f (70 + 208 * p' + 7) (nI n)) (fun i => if i < n then tx i else nI 0) (fun _ => rfl) 200 0 rfl
      have e0 : (fun j => if 70 + 208 * p' + 7 + 1 ≤ j ∧ j < 70 + 208 * p' + 7 + 1 + 0 then (if j - (70 + 208 * p' + 7 + 1) < n then tx (j - (70 + 208 * p' + 7 + 1)) else nI 0) else uf f (70 + 208 * p' + 7) (nI n) j) = uf f (70 + 208 * p' + 7) (nI n) := by
        funext j; rw [if_neg (by omega)]
      rw [e0] at cp
      refine ⟨st (kI J cs) 151 (sFil f tx n p'), ?_, ?_, (FM.keep J cs).tr (FM.st _ _ (by omega) (by omega))⟩
      · simp (disch := first | assumption | omega | exact ixN (by assumption) (by omega) (by omega) | exact ne_10 | exact ne_1000 | exact ne_4) only [s129_37, s129_37a, s129_38, s129_41, s129_42, s129_45, s129_47, s129_48, s129_49, s129_49a, s129_50, s129_53, s129_54, s129_54a, s129_55, s129_58, s129_59, s129_60, ↓reduceIte, eq_self, Option.bind_some, Option.bind_none, Option.toList_some, Option.toList_none, List.cons_append, List.nil_append, am_rf_s, am_rf_n, am_c1_i, am_c1_r, am_c1_n, List.all_cons, List.all_nil, Bool.and_self, Bool.and_true, Bool.true_and, List.length_cons, List.length_nil, Nat.reduceAdd, Nat.reduceSub, Nat.reduceMul, Nat.reduceLeDiff, Nat.reduceLT, Nat.zero_le, Nat.le_refl, ne_10, ne_1000, ne_4, not_false_eq_true, or_true, true_or, Nat.one_ne_zero, Nat.zero_ne_one, Nat.reduceEqDiff, Bool.true_eq_false, Bool.false_eq_true, n10, ui_st, nI_add, pk_mul, nI_clamp, kp, m_probeAt, r4, k0, k6, cp]
        rfl
      · simp only [if_true, ek]
        exact k1.now _
    by_cases q1 : n = 0
    · have bb : okFil f tx n (nI p') = true := by unfold okFil; rw [q0']; simp [q1]
      obtain ⟨I', w1, w2, w3⟩ := back I hr0 bb
      refine ⟨I', ?_, w2, w3⟩
      have e1' : I 147 0 ≤ nI 0 := by rw [e1, q1]; exact nI_le (by omega) (by omega)
      have bb' : ¬ okFil f tx n (nI p') = false := by rw [bb]; simp
      simp (disch := first | assumption | omega | exact ixN (by assumption) (by omega) (by omega) | exact ne_10 | exact ne_1000 | exact ne_4) only [s129_0, s129_0a, s129_1, s129_2, s129_5, s129_8, s129_9, s129_10, s129_10a, s129_11, s129_14, ↓reduceIte, eq_self, Option.bind_some, Option.bind_none, Option.toList_some, Option.toList_none, List.cons_append, List.nil_append, am_rf_s, am_rf_n, am_c1_i, am_c1_r, am_c1_n, List.all_cons, List.all_nil, Bool.and_self, Bool.and_true, Bool.true_and, List.length_cons, List.length_nil, Nat.reduceAdd, Nat.reduceSub, Nat.reduceMul, Nat.reduceLeDiff, Nat.reduceLT, Nat.zero_le, Nat.le_refl, ne_10, ne_1000, ne_4, not_false_eq_true, or_true, true_or, Nat.one_ne_zero, Nat.zero_ne_one, Nat.reduceEqDiff, Bool.true_eq_false, Bool.false_eq_true, n10, inR_e, ip', bI_t, e1', w1, if_neg q0, if_neg bb']
    · obtain ⟨I1, w1, w2⟩ := m_asks R K hMK I 148 0 n 200 (nI 0) tx f h2 g2 (by omega) (by omega) (by omega) (by omega) (fun i => by rw [e2, Nat.zero_add]) (fun i _ => by rw [e6])
      have w3 := JF.of w2
      rw [e6] at w3
      have e1' : ¬ I 147 0 ≤ nI 0 := by rw [e1, nI_leI (by omega) (by omega)]; omega
      by_cases q2 : nI 0 ≤ askI (kask f tx n (nI 0))
      · have bb : okFil f tx n (nI p') = true := by unfold okFil; rw [q0']; simp [q2]
        obtain ⟨I', v1, v2, v3⟩ := back I1 (hr0.ofJ w3) bb
        refine ⟨I', ?_, v2, (FM.ofJ w3).tr v3⟩
        have bb' : ¬ okFil f tx n (nI p') = false := by rw [bb]; simp
        rw [if_neg q0, if_neg bb']
        have q1' : ¬ n ≤ 0 := by omega
        simp (disch := first | assumption | omega | exact ixN (by assumption) (by omega) (by omega) | exact ne_10 | exact ne_1000 | exact ne_4) only [s129_0, s129_0a, s129_1, s129_2, s129_5, s129_8, s129_9, s129_10, s129_10a, s129_11, s129_14, s129_17, s129_17a, s129_18, s129_18a, s129_19, s129_22, s129_23, s129_23a, s129_24, s129_27, s129_28, s129_31, ↓reduceIte, eq_self, Option.bind_some, Option.bind_none, Option.toList_some, Option.toList_none, List.cons_append, List.nil_append, am_rf_s, am_rf_n, am_c1_i, am_c1_r, am_c1_n, List.all_cons, List.all_nil, Bool.and_self, Bool.and_true, Bool.true_and, List.length_cons, List.length_nil, Nat.reduceAdd, Nat.reduceSub, Nat.reduceMul, Nat.reduceLeDiff, Nat.reduceLT, Nat.zero_le, Nat.le_refl, ne_10, ne_1000, ne_4, not_false_eq_true, or_true, true_or, Nat.one_ne_zero, Nat.zero_ne_one, Nat.reduceEqDiff, Bool.true_eq_false, Bool.false_eq_true, n10, nI_leI, inR_e, ip', bI_t, q1', e1, r1, w1, v1, q2]
      · have bb : okFil f tx n (nI p') = false := by unfold okFil; simp [q1, q2]
        unfold sf_filter kpC kpW
        rw [bb]
        refine ⟨I1, ?_, hr0.ofJ w3, FM.ofJ w3⟩
        have q1' : ¬ n ≤ 0 := by omega
        rw [if_neg q0, if_pos rfl]
        simp (disch := first | assumption | omega | exact ixN (by assumption) (by omega) (by omega) | exact ne_10 | exact ne_1000 | exact ne_4) only [s129_0, s129_0a, s129_1, s129_2, s129_5, s129_8, s129_9, s129_10, s129_10a, s129_11, s129_14, s129_17, s129_17a, s129_18, s129_18a, s129_19, s129_22, s129_23, s129_23a, s129_24, s129_27, s129_28, s129_31, s129_34, s129_36, ↓reduceIte, eq_self, Option.bind_some, Option.bind_none, Option.toList_some, Option.toList_none, List.cons_append, List.nil_append, am_rf_s, am_rf_n, am_c1_i, am_c1_r, am_c1_n, List.all_cons, List.all_nil, Bool.and_self, Bool.and_true, Bool.true_and, List.length_cons, List.length_nil, Nat.reduceAdd, Nat.reduceSub, Nat.reduceMul, Nat.reduceLeDiff, Nat.reduceLT, Nat.zero_le, Nat.le_refl, ne_10, ne_1000, ne_4, not_false_eq_true, or_true, true_or, Nat.one_ne_zero, Nat.zero_ne_one, Nat.reduceEqDiff, Bool.true_eq_false, Bool.false_eq_true, n10, nI_leI, inR_e, ip', bI_t, q1', e1, r1, w1, q2]
theorem m_count (h : MK R K) (hr : MR I n tx nc cd bg f cs wz) (h2c : nc ≤ 60) (w : Int32) : ev 150 0 [some (.ref 147), some (.int w), none, none] [] (I, R, K) = some (some (.int (sp_count bg nc f cs n w)), (I, R, K)) := by
  have hMK := h
  obtain ⟨e1, e2, e3, e4, e5, e6, e7, e8⟩ := hr
  obtain ⟨⟨h1, h2, h3, h4, h5, h6, h7, h8, h9⟩, ⟨g2, g3, g4, g5, g6, g7, g8, g9⟩, r1, r2, r3, r4, r5, r6, r7, r8⟩ := h
  have loop : ∀ (r k : Nat) (s : Int32), k + r = nc → ∀ l1, ev 150 53 [some (.ref 147), l1, some (.int s), some (.int (nI k))] [] (I, R, K) = some (some (.int (cu (fun k => if am_b (bg k) = nI 0 then nI 0 else nI 1) r k s)), (I, R, K)) := by
    intro r
    induction r with
    | zero =>
      intro k s hk l1
      have hk : k = nc := by omega
      subst hk
      simp (disch := first | assumption | omega | exact ixN (by assumption) (by omega) (by omega) | exact ne_10 | exact ne_1000 | exact ne_4) only [s150_53, s150_54, s150_54a, s150_55, s150_58, s150_61, s150_62, s150_62a, s150_63, s150_66, s150_67, s150_68, s150_71, s150_72, s150_75, s150_76, s150_77, s150_78, s150_81, s150_84, s150_85, ↓reduceIte, eq_self, Option.bind_some, Option.bind_none, Option.toList_some, Option.toList_none, List.cons_append, List.nil_append, am_rf_s, am_rf_n, am_c1_i, am_c1_r, am_c1_n, List.all_cons, List.all_nil, Bool.and_self, Bool.and_true, Bool.true_and, List.length_cons, List.length_nil, Nat.reduceAdd, Nat.reduceSub, Nat.reduceMul, Nat.reduceLeDiff, Nat.reduceLT, Nat.zero_le, Nat.le_refl, ne_10, ne_1000, ne_4, not_false_eq_true, or_true, true_or, Nat.one_ne_zero, Nat.zero_ne_one, Nat.reduceEqDiff, Bool.true_eq_false, Bool.false_eq_true, n10, nI_add, pk_mul, pk_sub, nI_clamp, nI_ltI, nI_leI, nI_eq, e3, cu]
    | succ r ih =>
      intro k s hk l1
      have kd : ¬ nc ≤ k := by omega
      unfold cu
      rw [← ih (k + 1) _ (by omega) l1, s150_53]
      by_cases c1 : am_b (bg k) = nI 0
      · simp (disch := first | assumption | omega | exact ixN (by assumption) (by omega) (by omega) | exact ne_10 | exact ne_1000 | exact ne_4) only [s150_54, s150_54a, s150_55, s150_58, s150_61, s150_62, s150_62a, s150_63, s150_66, s150_67, s150_68, s150_71, s150_72, s150_75, s150_76, s150_77, s150_78, s150_81, ↓reduceIte, eq_self, Option.bind_some, Option.bind_none, Option.toList_some, Option.toList_none, List.cons_append, List.nil_append, am_rf_s, am_rf_n, am_c1_i, am_c1_r, am_c1_n, List.all_cons, List.all_nil, Bool.and_self, Bool.and_true, Bool.true_and, List.length_cons, List.length_nil, Nat.reduceAdd, Nat.reduceSub, Nat.reduceMul, Nat.reduceLeDiff, Nat.reduceLT, Nat.zero_le, Nat.le_refl, ne_10, ne_1000, ne_4, not_false_eq_true, or_true, true_or, Nat.one_ne_zero, Nat.zero_ne_one, Nat.reduceEqDiff, Bool.true_eq_false, Bool.false_eq_true, n10, nI_add, nI_clamp, nI_leI, e3, e5, r3, kd, c1]
      · simp (disch := first | assumption | omega | exact ixN (by assumption) (by omega) (by omega) | exact ne_10 | exact ne_1000 | exact ne_4) only [s150_54, s150_54a, s150_55, s150_58, s150_61, s150_62, s150_62a, s150_63, s150_66, s150_67, s150_68, s150_71, s150_72, s150_75, s150_76, s150_77, s150_78, s150_81, ↓reduceIte, eq_self, Option.bind_some, Option.bind_none, Option.toList_some, Option.toList_none, List.cons_append, List.nil_append, am_rf_s, am_rf_n, am_c1_i, am_c1_r, am_c1_n, List.all_cons, List.all_nil, Bool.and_self, Bool.and_true, Bool.true_and, List.length_cons, List.length_nil, Nat.reduceAdd, Nat.reduceSub, Nat.reduceMul, Nat.reduceLeDiff, Nat.reduceLT, Nat.zero_le, Nat.le_refl, ne_10, ne_1000, ne_4, not_false_eq_true, or_true, true_or, Nat.one_ne_zero, Nat.zero_ne_one, Nat.reduceEqDiff, Bool.true_eq_false, Bool.false_eq_true, n10, nI_add, nI_clamp, nI_leI, e3, e5, r3, kd, c1]
  simp (disch := first | assumption | omega | exact ixN (by assumption) (by omega) (by omega) | exact ne_10 | exact ne_1000 | exact ne_4) only [s150_0, s150_1, s150_44, s150_44a, s150_45, s150_48, s150_49, s150_50, s150_51, s150_52, s150_86, s150_86a, s150_87, s150_88, s150_91, s150_92, s150_92a, s150_93, s150_94, s150_97, s150_98, s150_98a, s150_99, s150_102, s150_103, s150_103a, s150_104, s150_107, s150_108, s150_108a, s150_109, s150_112, s150_113, s150_114, ↓reduceIte, eq_self, Option.bind_some, Option.bind_none, Option.toList_some, Option.toList_none, List.cons_append, List.nil_append, am_rf_s, am_rf_n, am_c1_i, am_c1_r, am_c1_n, List.all_cons, List.all_nil, Bool.and_self, Bool.and_true, Bool.true_and, List.length_cons, List.length_nil, Nat.reduceAdd, Nat.reduceSub, Nat.reduceMul, Nat.reduceLeDiff, Nat.reduceLT, Nat.zero_le, Nat.le_refl, ne_10, ne_1000, ne_4, not_false_eq_true, or_true, true_or, Nat.one_ne_zero, Nat.zero_ne_one, Nat.reduceEqDiff, Bool.true_eq_false, Bool.false_eq_true, n10, loop nc 0 (nI 0) (by omega), m_manyThat I R K hMK, m_heldInAll I R K hMK, e1, e3, e6, e7]
  unfold sp_count
  repeat' split
  all_goals rfl
end MV
