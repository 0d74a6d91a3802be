/-! the reference: step, start -/
def sSteps (cd bg : Nat → Int32) (nc c : Nat) : Nat → Int32 → (Nat → Int32) → Int32 × (Nat → Int32)
  | 0, s, f => (s, f)
  | r + 1, s, f => sSteps cd bg nc c r (s + (if (sDo cd bg nc f c).1 = true then nI 1 else nI 0)) (sDo cd bg nc f c).2
def okStep (f : Nat → Int32) (c k : Int32) : Bool := inR c 0 1 && inR k 1 60 && !decide (f (8 + 31 * c.toNatClampNeg + 15) = nI 1)
def sp_step (cd bg : Nat → Int32) (nc : Nat) (f : Nat → Int32) (c k : Int32) : Int32 := if inR c 0 1 = false then -1 else if inR k 1 60 = false then -1 else if f (8 + 31 * c.toNatClampNeg + 15) = nI 1 then -2 else (sSteps cd bg nc c.toNatClampNeg k.toNatClampNeg (nI 0) f).1
def sf_step (cd bg : Nat → Int32) (nc : Nat) (f : Nat → Int32) (c k : Int32) : Nat → Int32 := if okStep f c k then (sSteps cd bg nc c.toNatClampNeg k.toNatClampNeg (nI 0) f).2 else f
/-- P holds behind every step, and gives what a step asks -/
def PS (P : (Nat → Int32) → Prop) (cd bg : Nat → Int32) (nc : Nat) : Prop := ∀ f c, c < 2 → P f → WF0 f ∧ WF0 (sDo1 bg nc f c) ∧ P (sDo cd bg nc f c).2
section MQ
variable (I : am_I) (R : am_R) (K : am_K) (n nc cs : Nat) (tx cd bg f wz : Nat → Int32)
theorem m_steps (h : MK R K) (hW : WC cd bg nc) (P : (Nat → Int32) → Prop) (hP : PS P cd bg nc) (c k : Nat) (hc : c < 2) (hk : k ≤ 60) : ∀ (r i : Nat) (s : Int32) (I : am_I) (f : Nat → Int32), i + r = k → MR I n tx nc cd bg f cs wz → P f → ∃ I', ev 139 47 [some (.ref 147), some (.int (nI c)), some (.int (nI k)), some (.int s), some (.int (nI i))] [] (I, R, K) = some (some (.int (sSteps cd bg nc c r s f).1), (I', R, K)) ∧ MR I' n tx nc cd bg (sSteps cd bg nc c r s f).2 cs wz ∧ FM I I' := by
  have hMK := h
  have h1 := h.1.1
  intro r
  induction r with
  | zero =>
    intro i s I f hi hr hf
    have hi : i = k := by omega
    subst hi
    refine ⟨I, ?_, hr, FM.rf I⟩
    simp (disch := first | assumption | omega | exact ixN (by assumption) (by omega) (by omega) | exact ne_10 | exact ne_1000 | exact ne_4) only [s139_47, s139_49, s139_50, s139_53, s139_54, s139_54a, s139_55, s139_56, s139_59, s139_62, s139_63, s139_66, s139_67, s139_68, s139_69, s139_72, s139_75, s139_76, ↓reduceIte, eq_self, Option.bind_some, Option.bind_none, Option.toList_some, Option.toList_none, List.cons_append, List.nil_append, am_rf_s, am_rf_n, am_c1_i, am_c1_r, am_c1_n, List.all_cons, List.all_nil, Bool.and_self, Bool.and_true, Bool.true_and, List.length_cons, List.length_nil, Nat.reduceAdd, Nat.reduceSub, Nat.reduceMul, Nat.reduceLeDiff, Nat.reduceLT, Nat.zero_le, Nat.le_refl, ne_10, ne_1000, ne_4, not_false_eq_true, or_true, true_or, Nat.one_ne_zero, Nat.zero_ne_one, Nat.reduceEqDiff, Bool.true_eq_false, Bool.false_eq_true, n10, nI_add, pk_mul, pk_sub, nI_clamp, nI_ltI, nI_leI, nI_eq, sSteps]
  | succ r ih =>
    intro i s I f hi hr hf
    have hr0 := hr
    obtain ⟨e1, e2, e3, e4, e5, e6, e7, e8⟩ := hr
    obtain ⟨p1, p2, p3⟩ := hP f c hc hf
    obtain ⟨I1, w1, w2⟩ := m_does I R K hMK c nc hc e3 (by rw [e4, e5]; exact hW) (by rw [e6]; exact p1) (by rw [e5, e6]; exact p2)
    rw [e4, e5, e6] at w1 w2
    unfold sSteps
    obtain ⟨I2, v1, v2, v3⟩ := ih (i + 1) (s + (if (sDo cd bg nc f c).1 = true then nI 1 else nI 0)) I1 (sDo cd bg nc f c).2 (by omega) (hr0.ofJ w2) p3
    refine ⟨I2, ?_, v2, (FM.ofJ w2).tr v3⟩
    cases q : (sDo cd bg nc f c).1 with
    | true =>
      rw [q] at v1 w1
      rw [s139_47]
      simp (disch := first | assumption | omega | exact ixN (by assumption) (by omega) (by omega) | exact ne_10 | exact ne_1000 | exact ne_4) only [s139_49, s139_50, s139_53, s139_54, s139_54a, s139_55, s139_56, s139_59, s139_62, s139_63, s139_66, s139_67, s139_68, s139_69, s139_72, ↓reduceIte, eq_self, Option.bind_some, Option.bind_none, Option.toList_some, Option.toList_none, List.cons_append, List.nil_append, am_rf_s, am_rf_n, am_c1_i, am_c1_r, am_c1_n, List.all_cons, List.all_nil, Bool.and_self, Bool.and_true, Bool.true_and, List.length_cons, List.length_nil, Nat.reduceAdd, Nat.reduceSub, Nat.reduceMul, Nat.reduceLeDiff, Nat.reduceLT, Nat.zero_le, Nat.le_refl, ne_10, ne_1000, ne_4, not_false_eq_true, or_true, true_or, Nat.one_ne_zero, Nat.zero_ne_one, Nat.reduceEqDiff, Bool.true_eq_false, Bool.false_eq_true, n10, nI_add, pk_mul, pk_sub, nI_clamp, nI_ltI, nI_leI, nI_eq, w1, bI_t, show ¬ k ≤ i by omega]
      simpa using v1
    | false =>
      rw [q] at v1 w1
      rw [s139_47]
      simp (disch := first | assumption | omega | exact ixN (by assumption) (by omega) (by omega) | exact ne_10 | exact ne_1000 | exact ne_4) only [s139_49, s139_50, s139_53, s139_54, s139_54a, s139_55, s139_56, s139_59, s139_62, s139_63, s139_66, s139_67, s139_68, s139_69, s139_72, ↓reduceIte, eq_self, Option.bind_some, Option.bind_none, Option.toList_some, Option.toList_none, List.cons_append, List.nil_append, am_rf_s, am_rf_n, am_c1_i, am_c1_r, am_c1_n, List.all_cons, List.all_nil, Bool.and_self, Bool.and_true, Bool.true_and, List.length_cons, List.length_nil, Nat.reduceAdd, Nat.reduceSub, Nat.reduceMul, Nat.reduceLeDiff, Nat.reduceLT, Nat.zero_le, Nat.le_refl, ne_10, ne_1000, ne_4, not_false_eq_true, or_true, true_or, Nat.one_ne_zero, Nat.zero_ne_one, Nat.reduceEqDiff, Bool.true_eq_false, Bool.false_eq_true, n10, nI_add, pk_mul, pk_sub, nI_clamp, nI_ltI, nI_leI, nI_eq, w1, bI_f, show ¬ k ≤ i by omega]
      simpa using v1
theorem m_step (h : MK R K) (hr : MR I n tx nc cd bg f cs wz) (hcs : cs ≤ 4) (hW : WC cd bg nc) (P : (Nat → Int32) → Prop) (hP : PS P cd bg nc) (hf : P f) (c k : Int32) : ∃ I', ev 139 0 [some (.ref 147), some (.int c), some (.int k), none, none] [] (I, R, K) = some (some (.int (sp_step cd bg nc f c k)), (I', R, K)) ∧ MR I' n tx nc cd bg (sf_step cd bg nc f c k) (kpC (okStep f c k) cs) (kpW (okStep f c k) wz f cs) ∧ FM I I' := by
  have hMK := h
  have hr0 := hr
  obtain ⟨e1, e2, e3, e4, e5, e6, e7, e8⟩ := hr
  obtain ⟨⟨h1, h2, h3, h4, h5, h6, h7, h8, h9⟩, ⟨g2, g3, g4, g5, g6, g7, g8, g9⟩, r1, r2, r3, r4, r5, r6, r7, r8⟩ := h
  unfold sp_step sf_step kpC kpW
  by_cases q0 : inR c 0 1 = false
  · have b : okStep f c k = false := by unfold okStep; rw [q0]; rfl
    rw [b]
    refine ⟨I, ?_, hr0, FM.rf I⟩
    simp (disch := first | assumption | omega | exact ixN (by assumption) (by omega) (by omega) | exact ne_10 | exact ne_1000 | exact ne_4) only [s139_0, s139_1, s139_4, s139_7, s139_8, s139_9, s139_11, s139_14, s139_17, s139_18, ↓reduceIte, eq_self, Option.bind_some, Option.bind_none, Option.toList_some, Option.toList_none, List.cons_append, List.nil_append, am_rf_s, am_rf_n, am_c1_i, am_c1_r, am_c1_n, List.all_cons, List.all_nil, Bool.and_self, Bool.and_true, Bool.true_and, List.length_cons, List.length_nil, Nat.reduceAdd, Nat.reduceSub, Nat.reduceMul, Nat.reduceLeDiff, Nat.reduceLT, Nat.zero_le, Nat.le_refl, ne_10, ne_1000, ne_4, not_false_eq_true, or_true, true_or, Nat.one_ne_zero, Nat.zero_ne_one, Nat.reduceEqDiff, Bool.true_eq_false, Bool.false_eq_true, n10, inR_e, m_isProcessor, bI_0, q0]
  · by_cases q1 : inR k 1 60 = false
    · have b : okStep f c k = false := by unfold okStep; rw [q1]; simp
      rw [b]
      refine ⟨I, ?_, hr0, FM.rf I⟩
      simp (disch := first | assumption | omega | exact ixN (by assumption) (by omega) (by omega) | exact ne_10 | exact ne_1000 | exact ne_4) only [s139_0, s139_1, s139_4, s139_7, s139_8, s139_9, s139_11, s139_14, s139_17, s139_18, ↓reduceIte, eq_self, Option.bind_some, Option.bind_none, Option.toList_some, Option.toList_none, List.cons_append, List.nil_append, am_rf_s, am_rf_n, am_c1_i, am_c1_r, am_c1_n, List.all_cons, List.all_nil, Bool.and_self, Bool.and_true, Bool.true_and, List.length_cons, List.length_nil, Nat.reduceAdd, Nat.reduceSub, Nat.reduceMul, Nat.reduceLeDiff, Nat.reduceLT, Nat.zero_le, Nat.le_refl, ne_10, ne_1000, ne_4, not_false_eq_true, or_true, true_or, Nat.one_ne_zero, Nat.zero_ne_one, Nat.reduceEqDiff, Bool.true_eq_false, Bool.false_eq_true, n10, inR_e, c_isIn, m_isProcessor, bI_0, q0, q1]
    · have q0' := nf q0
      have q1' := nf q1
      obtain ⟨c', -, hc, rfl⟩ := inR_of (nf q0) (by omega) (by omega)
      obtain ⟨k', hk1, hk, rfl⟩ := inR_of (nf q1) (by omega) (by omega)
      have ek : (nI c').toNatClampNeg = c' := nI_clamp (by omega)
      have ek2 : (nI k').toNatClampNeg = k' := nI_clamp (by omega)
      by_cases q2 : f (8 + 31 * c' + 15) = nI 1
      · have b : okStep f (nI c') (nI k') = false := by unfold okStep; rw [ek]; simp [q2]
        rw [b]
        refine ⟨I, ?_, hr0, FM.rf I⟩
        simp (disch := first | assumption | omega | exact ixN (by assumption) (by omega) (by omega) | exact ne_10 | exact ne_1000 | exact ne_4) only [s139_0, s139_1, s139_4, s139_7, s139_8, s139_9, s139_11, s139_14, s139_17, s139_18, s139_19, s139_19a, s139_20, s139_23, s139_24, s139_27, s139_29, s139_30, s139_31, s139_32, s139_35, s139_37, ↓reduceIte, eq_self, Option.bind_some, Option.bind_none, Option.toList_some, Option.toList_none, List.cons_append, List.nil_append, am_rf_s, am_rf_n, am_c1_i, am_c1_r, am_c1_n, List.all_cons, List.all_nil, Bool.and_self, Bool.and_true, Bool.true_and, List.length_cons, List.length_nil, Nat.reduceAdd, Nat.reduceSub, Nat.reduceMul, Nat.reduceLeDiff, Nat.reduceLT, Nat.zero_le, Nat.le_refl, ne_10, ne_1000, ne_4, not_false_eq_true, or_true, true_or, Nat.one_ne_zero, Nat.zero_ne_one, Nat.reduceEqDiff, Bool.true_eq_false, Bool.false_eq_true, n10, inR_e, c_isIn, m_isProcessor, m_processorAt, bI_0, q0, q1, q2, r4, e6, ek, nI_add, pk_mul, nI_clamp]
      · have b : okStep f (nI c') (nI k') = true := by unfold okStep; rw [ek, q0', q1']; simp [q2]
        rw [b]
        have kp := m_keeps I R K hMK cs hcs e7
        have k1 := hr0.keep
        obtain ⟨I2, v1, v2, v3⟩ := m_steps R K n nc (c3 cs + 1) tx cd bg (sW wz f cs) hMK hW P hP c' k' (by omega) hk k' 0 (nI 0) (kI I cs) f (by omega) k1 hf
        refine ⟨I2, ?_, ?_, (FM.keep I cs).tr v3⟩
        · simp (disch := first | assumption | omega | exact ixN (by assumption) (by omega) (by omega) | exact ne_10 | exact ne_1000 | exact ne_4) only [s139_0, s139_1, s139_4, s139_7, s139_8, s139_9, s139_11, s139_14, s139_17, s139_18, s139_19, s139_19a, s139_20, s139_23, s139_24, s139_27, s139_29, s139_30, s139_31, s139_32, s139_35, s139_37, s139_38, s139_38a, s139_39, s139_42, s139_43, s139_44, s139_45, ↓reduceIte, eq_self, Option.bind_some, Option.bind_none, Option.toList_some, Option.toList_none, List.cons_append, List.nil_append, am_rf_s, am_rf_n, am_c1_i, am_c1_r, am_c1_n, List.all_cons, List.all_nil, Bool.and_self, Bool.and_true, Bool.true_and, List.length_cons, List.length_nil, Nat.reduceAdd, Nat.reduceSub, Nat.reduceMul, Nat.reduceLeDiff, Nat.reduceLT, Nat.zero_le, Nat.le_refl, ne_10, ne_1000, ne_4, not_false_eq_true, or_true, true_or, Nat.one_ne_zero, Nat.zero_ne_one, Nat.reduceEqDiff, Bool.true_eq_false, Bool.false_eq_true, n10, inR_e, c_isIn, m_isProcessor, m_processorAt, bI_0, q0, q1, q2, r4, e6, ek, ek2, nI_add, pk_mul, nI_clamp, kp, v1]
        · simp only [if_true, ek, ek2]
          exact v2
/-- start lets the holders go, r of them from k on -/
def sClr (t : Nat) : Nat → Nat → Int32 → (Nat → Int32) → Int32 × (Nat → Int32)
  | 0, _, s, f => (s, f)
  | r + 1, k, s, f => sClr t r (k + 1) (s + (if f (t + 9 + k) ≤ nI 0 then nI 0 else nI 1)) (uf (sFree f (nt (f (t + 9 + k)))) (t + 9 + k) (nI 0))
def okStart (bg : Nat → Int32) (nc : Nat) (c x a : Int32) : Bool := inR c 0 1 && isC nc x && inR a 0 999 && !decide (am_b (bg x.toNatClampNeg) = nI 0)
def sStart (f : Nat → Int32) (t d : Nat) (x a : Int32) : Nat → Int32 := uf (uf (uf (uf (sClr t d 0 (nI 0) f).2 t a) (t + 1) x) (t + 2) (nI 0)) (t + 15) (nI 0)
def sp_start (bg : Nat → Int32) (nc : Nat) (f : Nat → Int32) (c x a : Int32) : Int32 := if inR c 0 1 = false then -1 else if isC nc x = false then -1 else if inR a 0 999 = false then -1 else if am_b (bg x.toNatClampNeg) = nI 0 then -2 else (sClr (8 + 31 * c.toNatClampNeg) (nt (f (8 + 31 * c.toNatClampNeg + 2))) 0 (nI 0) f).1
def sf_start (bg : Nat → Int32) (nc : Nat) (f : Nat → Int32) (c x a : Int32) : Nat → Int32 := if okStart bg nc c x a then sStart f (8 + 31 * c.toNatClampNeg) (nt (f (8 + 31 * c.toNatClampNeg + 2))) x a else f
theorem sFree_lo (f : Nat → Int32) (h : Nat) {j : Nat} (hj : j < 70) : sFree f h j = f j := by
  unfold sFree
  by_cases q : h = 0
  · rw [if_pos q]
  · rw [if_neg q, uf_ne _ _ (by omega), uf_ne _ _ (by omega)]
theorem m_clr (h : MK R K) (c d : Nat) (hc : c < 2) (hd : d ≤ 6) (x a : Int32) : ∀ (r k : Nat) (s : Int32) (I : am_I) (f : Nat → Int32), k + r = d → MR I n tx nc cd bg f cs wz → f (8 + 31 * c + 2) = nI d → (∀ j, k ≤ j → j < d → ∃ q, q ≤ 6 ∧ f (8 + 31 * c + 9 + j) = nI q) → ∃ I', ev 140 56 [some (.ref 147), some (.int (nI c)), some (.int x), some (.int a), some (.int (nI (8 + 31 * c))), some (.int s), some (.int (nI k))] [] (I, R, K) = ev 140 133 [some (.ref 147), some (.int (nI c)), some (.int x), some (.int a), some (.int (nI (8 + 31 * c))), some (.int (sClr (8 + 31 * c) r k s f).1), some (.int (nI d))] [] (I', R, K) ∧ MR I' n tx nc cd bg (sClr (8 + 31 * c) r k s f).2 cs wz ∧ FM I I' := by
  have hMK := h
  obtain ⟨⟨h1, h2, h3, h4, h5, h6, h7, h8, h9⟩, ⟨g2, g3, g4, g5, g6, g7, g8, g9⟩, r1, r2, r3, r4, r5, r6, r7, r8⟩ := h
  intro r
  induction r with
  | zero =>
    intro k s I f hk hr hf hq
    have hk : k = d := by omega
    subst hk
    have e6 := hr.2.2.2.2.2.1
    refine ⟨I, ?_, hr, FM.rf I⟩
    simp (disch := first | assumption | omega | exact ixN (by assumption) (by omega) (by omega) | exact ne_10 | exact ne_1000 | exact ne_4) only [s140_56, s140_58, s140_58a, s140_59, s140_62, s140_64, s140_65, s140_66, s140_67, ↓reduceIte, eq_self, Option.bind_some, Option.bind_none, Option.toList_some, Option.toList_none, List.cons_append, List.nil_append, am_rf_s, am_rf_n, am_c1_i, am_c1_r, am_c1_n, List.all_cons, List.all_nil, Bool.and_self, Bool.and_true, Bool.true_and, List.length_cons, List.length_nil, Nat.reduceAdd, Nat.reduceSub, Nat.reduceMul, Nat.reduceLeDiff, Nat.reduceLT, Nat.zero_le, Nat.le_refl, ne_10, ne_1000, ne_4, not_false_eq_true, or_true, true_or, Nat.one_ne_zero, Nat.zero_ne_one, Nat.reduceEqDiff, Bool.true_eq_false, Bool.false_eq_true, n10, nI_add, pk_mul, pk_sub, nI_clamp, nI_ltI, nI_leI, nI_eq, r4, e6, hf, sClr]
  | succ r ih =>
    intro k s I f hk hr hf hq
    have hr0 := hr
    have e6 := hr.2.2.2.2.2.1
    obtain ⟨q, hq1, hq2⟩ := hq k (Nat.le_refl k) (by omega)
    have fr := m_frees I R K hMK q hq1 none
    rw [e6] at fr
    unfold sClr
    rw [hq2, nt_nI (by omega)]
    obtain ⟨I2, v1, v2, v3⟩ := ih (k + 1) (s + (if nI q ≤ nI 0 then nI 0 else nI 1)) (st I 151 (uf (sFree f q) (8 + 31 * c + 9 + k) (nI 0))) (uf (sFree f q) (8 + 31 * c + 9 + k) (nI 0)) (by omega) (hr0.now _) (by rw [uf_ne _ _ (by omega), sFree_lo _ _ (by omega)]; exact hf) (fun j hj1 hj2 => by rw [uf_ne _ _ (by omega), sFree_lo _ _ (by omega)]; exact hq j (by omega) hj2)
    refine ⟨I2, ?_, v2, (FM.st I _ (by omega) (by omega)).tr v3⟩
    rw [← v1, s140_56]
    have kd : ¬ d ≤ k := by omega
    by_cases q3 : q ≤ 0
    · simp (disch := first | assumption | omega | exact ixN (by assumption) (by omega) (by omega) | exact ne_10 | exact ne_1000 | exact ne_4) only [s140_58, s140_58a, s140_59, s140_62, s140_64, s140_65, s140_66, s140_67, s140_70, s140_72, s140_72a, s140_73, s140_76, s140_78, s140_80, s140_81, s140_83, s140_84, s140_85, s140_88, s140_89, s140_92, s140_93, s140_94, s140_96, s140_96a, s140_97, s140_97a, s140_98, s140_101, s140_103, s140_105, s140_106, s140_108, s140_109, s140_110, s140_113, s140_113a, s140_114, s140_117, s140_119, s140_121, s140_122, s140_124, s140_125, s140_126, s140_127, s140_130, ↓reduceIte, eq_self, Option.bind_some, Option.bind_none, Option.toList_some, Option.toList_none, List.cons_append, List.nil_append, am_rf_s, am_rf_n, am_c1_i, am_c1_r, am_c1_n, List.all_cons, List.all_nil, Bool.and_self, Bool.and_true, Bool.true_and, List.length_cons, List.length_nil, Nat.reduceAdd, Nat.reduceSub, Nat.reduceMul, Nat.reduceLeDiff, Nat.reduceLT, Nat.zero_le, Nat.le_refl, ne_10, ne_1000, ne_4, not_false_eq_true, or_true, true_or, Nat.one_ne_zero, Nat.zero_ne_one, Nat.reduceEqDiff, Bool.true_eq_false, Bool.false_eq_true, n10, nI_add, pk_mul, pk_sub, nI_clamp, nI_ltI, nI_leI, nI_eq, ui_st, st_st, st_eq, st_ne, uf_eq, uf_ne, r4, e6, hf, hq2, kd, q3, fr]
    · simp (disch := first | assumption | omega | exact ixN (by assumption) (by omega) (by omega) | exact ne_10 | exact ne_1000 | exact ne_4) only [s140_58, s140_58a, s140_59, s140_62, s140_64, s140_65, s140_66, s140_67, s140_70, s140_72, s140_72a, s140_73, s140_76, s140_78, s140_80, s140_81, s140_83, s140_84, s140_85, s140_88, s140_89, s140_92, s140_93, s140_94, s140_96, s140_96a, s140_97, s140_97a, s140_98, s140_101, s140_103, s140_105, s140_106, s140_108, s140_109, s140_110, s140_113, s140_113a, s140_114, s140_117, s140_119, s140_121, s140_122, s140_124, s140_125, s140_126, s140_127, s140_130, ↓reduceIte, eq_self, Option.bind_some, Option.bind_none, Option.toList_some, Option.toList_none, List.cons_append, List.nil_append, am_rf_s, am_rf_n, am_c1_i, am_c1_r, am_c1_n, List.all_cons, List.all_nil, Bool.and_self, Bool.and_true, Bool.true_and, List.length_cons, List.length_nil, Nat.reduceAdd, Nat.reduceSub, Nat.reduceMul, Nat.reduceLeDiff, Nat.reduceLT, Nat.zero_le, Nat.le_refl, ne_10, ne_1000, ne_4, not_false_eq_true, or_true, true_or, Nat.one_ne_zero, Nat.zero_ne_one, Nat.reduceEqDiff, Bool.true_eq_false, Bool.false_eq_true, n10, nI_add, pk_mul, pk_sub, nI_clamp, nI_ltI, nI_leI, nI_eq, ui_st, st_st, st_eq, st_ne, uf_eq, uf_ne, r4, e6, hf, hq2, kd, q3, fr]
theorem m_start (h : MK R K) (hr : MR I n tx nc cd bg f cs wz) (hcs : cs ≤ 4) (hW : WC cd bg nc) (hf : WF0 f) (c x a : Int32) : ∃ I', ev 140 0 [some (.ref 147), some (.int c), some (.int x), some (.int a), none, none, none] [] (I, R, K) = some (some (.int (sp_start bg nc f c x a)), (I', R, K)) ∧ MR I' n tx nc cd bg (sf_start bg nc f c x a) (kpC (okStart bg nc c x a) cs) (kpW (okStart bg nc c x a) wz f cs) ∧ FM I I' := by
  have hMK := h
  have hr0 := hr
  obtain ⟨e1, e2, e3, e4, e5, e6, e7, e8⟩ := hr
  obtain ⟨⟨h1, h2, h3, h4, h5, h6, h7, h8, h9⟩, ⟨g2, g3, g4, g5, g6, g7, g8, g9⟩, r1, r2, r3, r4, r5, r6, r7, r8⟩ := h
  unfold sp_start sf_start kpC kpW
  by_cases q0 : inR c 0 1 = false
  · have b : okStart bg nc c x a = false := by unfold okStart; rw [q0]; rfl
    rw [b]
    refine ⟨I, ?_, hr0, FM.rf I⟩
    simp (disch := first | assumption | omega | exact ixN (by assumption) (by omega) (by omega) | exact ne_10 | exact ne_1000 | exact ne_4) only [s140_0, s140_1, s140_4, s140_7, s140_7a, s140_8, s140_9, s140_12, s140_15, s140_16, s140_17, s140_20, s140_23, s140_26, s140_27, ↓reduceIte, eq_self, Option.bind_some, Option.bind_none, Option.toList_some, Option.toList_none, List.cons_append, List.nil_append, am_rf_s, am_rf_n, am_c1_i, am_c1_r, am_c1_n, List.all_cons, List.all_nil, Bool.and_self, Bool.and_true, Bool.true_and, List.length_cons, List.length_nil, Nat.reduceAdd, Nat.reduceSub, Nat.reduceMul, Nat.reduceLeDiff, Nat.reduceLT, Nat.zero_le, Nat.le_refl, ne_10, ne_1000, ne_4, not_false_eq_true, or_true, true_or, Nat.one_ne_zero, Nat.zero_ne_one, Nat.reduceEqDiff, Bool.true_eq_false, Bool.false_eq_true, n10, inR_e, m_isProcessor, bI_0, q0]
  · by_cases q1 : isC nc x = false
    · have b : okStart bg nc c x a = false := by unfold okStart; rw [q1]; simp
      rw [b]
      refine ⟨I, ?_, hr0, FM.rf I⟩
      simp (disch := first | assumption | omega | exact ixN (by assumption) (by omega) (by omega) | exact ne_10 | exact ne_1000 | exact ne_4) only [s140_0, s140_1, s140_4, s140_7, s140_7a, s140_8, s140_9, s140_12, s140_15, s140_16, s140_17, s140_20, s140_23, s140_26, s140_27, ↓reduceIte, eq_self, Option.bind_some, Option.bind_none, Option.toList_some, Option.toList_none, List.cons_append, List.nil_append, am_rf_s, am_rf_n, am_c1_i, am_c1_r, am_c1_n, List.all_cons, List.all_nil, Bool.and_self, Bool.and_true, Bool.true_and, List.length_cons, List.length_nil, Nat.reduceAdd, Nat.reduceSub, Nat.reduceMul, Nat.reduceLeDiff, Nat.reduceLT, Nat.zero_le, Nat.le_refl, ne_10, ne_1000, ne_4, not_false_eq_true, or_true, true_or, Nat.one_ne_zero, Nat.zero_ne_one, Nat.reduceEqDiff, Bool.true_eq_false, Bool.false_eq_true, n10, inR_e, isC_e, m_isCell I R K hMK, e3, m_isProcessor, bI_0, q0, q1]
    · by_cases q2 : inR a 0 999 = false
      · have b : okStart bg nc c x a = false := by unfold okStart; rw [q2]; simp
        rw [b]
        refine ⟨I, ?_, hr0, FM.rf I⟩
        simp (disch := first | assumption | omega | exact ixN (by assumption) (by omega) (by omega) | exact ne_10 | exact ne_1000 | exact ne_4) only [s140_0, s140_1, s140_4, s140_7, s140_7a, s140_8, s140_9, s140_12, s140_15, s140_16, s140_17, s140_20, s140_23, s140_26, s140_27, ↓reduceIte, eq_self, Option.bind_some, Option.bind_none, Option.toList_some, Option.toList_none, List.cons_append, List.nil_append, am_rf_s, am_rf_n, am_c1_i, am_c1_r, am_c1_n, List.all_cons, List.all_nil, Bool.and_self, Bool.and_true, Bool.true_and, List.length_cons, List.length_nil, Nat.reduceAdd, Nat.reduceSub, Nat.reduceMul, Nat.reduceLeDiff, Nat.reduceLT, Nat.zero_le, Nat.le_refl, ne_10, ne_1000, ne_4, not_false_eq_true, or_true, true_or, Nat.one_ne_zero, Nat.zero_ne_one, Nat.reduceEqDiff, Bool.true_eq_false, Bool.false_eq_true, n10, inR_e, isC_e, c_isIn, m_isCell I R K hMK, e3, m_isProcessor, bI_0, q0, q1, q2]
      · have q0' := nf q0
        have q1' := nf q1
        have hx2 := hW.2.1
        obtain ⟨c', -, hc, rfl⟩ := inR_of (nf q0) (by omega) (by omega)
        obtain ⟨x', hx, rfl⟩ := isC_of (nf q1) hW.1 hW.2.1
        have ek : (nI c').toNatClampNeg = c' := nI_clamp (by omega)
        have ek2 : (nI x').toNatClampNeg = x' := nI_clamp (by omega)
        by_cases q3 : am_b (bg x') = nI 0
        · have b : okStart bg nc (nI c') (nI x') a = false := by unfold okStart; rw [ek2]; simp [q3]
          rw [b]
          refine ⟨I, ?_, hr0, FM.rf I⟩
          simp (disch := first | assumption | omega | exact ixN (by assumption) (by omega) (by omega) | exact ne_10 | exact ne_1000 | exact ne_4) only [s140_0, s140_1, s140_4, s140_7, s140_7a, s140_8, s140_9, s140_12, s140_15, s140_16, s140_17, s140_20, s140_23, s140_26, s140_27, s140_28, s140_28a, s140_29, s140_32, s140_33, s140_34, s140_37, s140_39, ↓reduceIte, eq_self, Option.bind_some, Option.bind_none, Option.toList_some, Option.toList_none, List.cons_append, List.nil_append, am_rf_s, am_rf_n, am_c1_i, am_c1_r, am_c1_n, List.all_cons, List.all_nil, Bool.and_self, Bool.and_true, Bool.true_and, List.length_cons, List.length_nil, Nat.reduceAdd, Nat.reduceSub, Nat.reduceMul, Nat.reduceLeDiff, Nat.reduceLT, Nat.zero_le, Nat.le_refl, ne_10, ne_1000, ne_4, not_false_eq_true, or_true, true_or, Nat.one_ne_zero, Nat.zero_ne_one, Nat.reduceEqDiff, Bool.true_eq_false, Bool.false_eq_true, n10, inR_e, isC_e, c_isIn, m_isCell I R K hMK, e3, m_isProcessor, bI_0, q0, q1, q2, q3, r3, e5, ek2]
        · have b : okStart bg nc (nI c') (nI x') a = true := by unfold okStart; rw [ek2, q0', q1', nf q2]; simp [q3]
          rw [b]
          obtain ⟨d, hd1, hd2, hd3⟩ := hf.2.2 c' (by omega)
          have kp := m_keeps I R K hMK cs hcs e7
          have k1 := hr0.keep
          obtain ⟨I2, v1, v2, v3⟩ := m_clr R K n nc (c3 cs + 1) tx cd bg (sW wz f cs) hMK c' d (by omega) hd1 (nI x') a d 0 (nI 0) (kI I cs) f (by omega) k1 hd2 (fun j _ hj => (hd3 j hj).2)
          have v6 := v2.2.2.2.2.2.1
          rw [ek, hd2, nt_nI (by omega)]
          refine ⟨st I2 151 (sStart f (8 + 31 * c') d (nI x') a), ?_, ?_, ((FM.keep I cs).tr v3).tr (FM.st _ _ (by omega) (by omega))⟩
          · simp (disch := first | assumption | omega | exact ixN (by assumption) (by omega) (by omega) | exact ne_10 | exact ne_1000 | exact ne_4) only [s140_0, s140_1, s140_4, s140_7, s140_7a, s140_8, s140_9, s140_12, s140_15, s140_16, s140_17, s140_20, s140_23, s140_26, s140_27, s140_28, s140_28a, s140_29, s140_32, s140_33, s140_34, s140_37, s140_39, s140_40, s140_40a, s140_41, s140_44, s140_45, s140_48, s140_50, s140_51, s140_53, s140_54, ↓reduceIte, eq_self, Option.bind_some, Option.bind_none, Option.toList_some, Option.toList_none, List.cons_append, List.nil_append, am_rf_s, am_rf_n, am_c1_i, am_c1_r, am_c1_n, List.all_cons, List.all_nil, Bool.and_self, Bool.and_true, Bool.true_and, List.length_cons, List.length_nil, Nat.reduceAdd, Nat.reduceSub, Nat.reduceMul, Nat.reduceLeDiff, Nat.reduceLT, Nat.zero_le, Nat.le_refl, ne_10, ne_1000, ne_4, not_false_eq_true, or_true, true_or, Nat.one_ne_zero, Nat.zero_ne_one, Nat.reduceEqDiff, Bool.true_eq_false, Bool.false_eq_true, n10, inR_e, isC_e, c_isIn, m_isCell I R K hMK, e3, m_isProcessor, bI_0, q0, q1, q2, q3, r3, e5, ek2, m_processorAt, nI_add, pk_mul, kp, v1]
            simp (disch := first | assumption | omega | exact ixN (by assumption) (by omega) (by omega) | exact ne_10 | exact ne_1000 | exact ne_4) only [s140_133, s140_133a, s140_134, s140_137, s140_139, s140_140, s140_141, s140_141a, s140_142, s140_145, s140_147, s140_148, s140_149, s140_150, s140_151, s140_151a, s140_152, s140_155, s140_157, s140_158, s140_159, s140_160, s140_161, s140_161a, s140_162, s140_165, s140_167, s140_169, s140_170, s140_171, s140_172, s140_174, ↓reduceIte, eq_self, Option.bind_some, Option.bind_none, Option.toList_some, Option.toList_none, List.cons_append, List.nil_append, am_rf_s, am_rf_n, am_c1_i, am_c1_r, am_c1_n, List.all_cons, List.all_nil, Bool.and_self, Bool.and_true, Bool.true_and, List.length_cons, List.length_nil, Nat.reduceAdd, Nat.reduceSub, Nat.reduceMul, Nat.reduceLeDiff, Nat.reduceLT, Nat.zero_le, Nat.le_refl, ne_10, ne_1000, ne_4, not_false_eq_true, or_true, true_or, Nat.one_ne_zero, Nat.zero_ne_one, Nat.reduceEqDiff, Bool.true_eq_false, Bool.false_eq_true, n10, ui_st, st_st, st_eq, st_ne, uf_eq, uf_ne, nI_add, nI_clamp, r4, v6]
            rfl
          · simp only [if_true]
            exact v2.now _
end MQ
