/-! the class: calls that keep: poke, undo, turn, remove -/
theorem RS.mem {I : am_I} {R : am_R} {K : am_K} {f : Nat → Int32} (h : RS I R K 14 f) {k : Nat} (hk : k < 8) (v : Int32) : RS (st I (15 + 1) (uf (I (15 + 1)) k v)) R K 14 (uf f k v) := by
  obtain ⟨s1, s2, s3, s4⟩ := h
  have fn : FN I (st I (15 + 1) (uf (I (15 + 1)) k v)) := FN.st I _ (by omega) (by omega)
  refine ⟨fun j hj => ?_, s2.cg (fun j hj => st_ne _ _ (by omega)) (fun j _ _ => uf_ne _ _ (by omega)), s3.cg (fun j hj => st_ne _ _ (by omega)) (fun j _ _ => uf_ne _ _ (by omega)), fun q hq => (s4 q hq).fr (st_ne _ _ (by omega)) rfl (XE.rf R K) (fn.dy K) (fun j _ _ => uf_ne _ _ (by omega))⟩
  show st I 16 (uf (I 16) k v) 16 j = _
  rw [st_eq]
  by_cases z : j = k
  · subst z; rw [uf_eq, uf_eq]
  · rw [uf_ne _ _ z, uf_ne _ _ z]; exact s1 j hj
section DI
variable (I : am_I) (R : am_R) (K : am_K) (n nc cs : Nat) (tx cd bg f wz : Nat → Int32)
theorem k_keep (h : CH I R K n tx nc cd bg f cs wz) (hw : WB f) : ∃ I' R', ev 10 0 [some (.ref 38), some (.ref 14), none] [] (I, R, K) = some (none, (I', R', K)) ∧ CH I' R' K n tx nc cd bg f (c3 cs + 1) (sW wz f cs) ∧ FC I I' ∧ XE R K R' K ∧ (∀ a, a < 38 → I' a = I a ∧ ∀ i, R' a i = R a i) := by
  obtain ⟨I', R', v1, v2, v3, v4, v5⟩ := c_keep I R K h.1.2.2.2.2.1 h.1.2.2.2.1 f wz cs h.2.2.2.2.1 hw h.2.2.2.2.2
  exact ⟨I', R', v1, h.up v5 (fun a _ _ => (v4 a (by omega)).1) v3 v2, fun a z1 z2 => (v4 a (by omega)).1, v5, fun a z => v4 a (by omega)⟩
theorem k_poke (h : CH I R K n tx nc cd bg f cs wz) (hw : WF f e0) (k v : Int32) : ∃ I' R', ev 81 0 [some (.ref 3), some (.int k), some (.int v), none] [] (I, R, K) = some (some (.int (sp_poke f k v)), (I', R', K)) ∧ CH I' R' K n tx nc cd bg (sf_poke f k v) (kpC (okPoke f k v) cs) (kpW (okPoke f k v) wz f cs) ∧ FC I I' ∧ XE R K R' K := by
  obtain ⟨x1, xt, xl, xd, xn, xh, -⟩ := id h.1.1
  have sb := h.1.2.2.2.1
  have kb := sb.1.1
  have kh := h.1.2.2.2.2.1.1
  have rm : R 14 0 = some 15 := sb.2.1.1
  have ml : ML R K 15 := sb.2.2.1
  have km := ml.1
  have mh := c_mhas I R K 15 ml k
  have isn := c_isNumber I R K v
  unfold sp_poke sf_poke
  by_cases c0 : inR k 0 7 = false
  · have e : okPoke f k v = false := by unfold okPoke; simp [c0]
    rw [c0] at mh
    rw [e, if_pos c0]
    refine ⟨I, R, ?_, h, FC.rf I, XE.rf R K⟩
    simp (disch := first | assumption | omega | exact ixN (by assumption) (by omega) (by omega) | exact ne_10 | exact ne_1000 | exact ne_4) only [s81_0, s81_0a, s81_1, s81_4, s81_7, s81_8, s81_11, s81_14, s81_15, s81_18, s81_21, s81_22, s81_23, s81_23a, s81_24, s81_27, s81_30, s81_31, s81_34, s81_35, s81_36, s81_37, s81_40, s81_42, s81_43, s81_43a, s81_44, s81_47, s81_47a, s81_48, s81_51, s81_54, s81_54a, s81_55, s81_58, s81_61, s81_62, s81_63, s81_66, s81_67, ↓reduceIte, eq_self, Option.bind_some, Option.bind_none, Option.toList_some, Option.toList_none, List.cons_append, List.nil_append, am_rf_s, am_rf_n, am_c1_i, am_c1_r, am_c1_n, List.all_cons, List.all_nil, Bool.and_self, Bool.and_true, Bool.true_and, List.length_cons, List.length_nil, Nat.reduceAdd, Nat.reduceSub, Nat.reduceMul, Nat.reduceLeDiff, Nat.reduceLT, Nat.zero_le, Nat.le_refl, ne_10, ne_1000, ne_4, not_false_eq_true, or_true, true_or, Nat.one_ne_zero, Nat.zero_ne_one, Nat.reduceEqDiff, Bool.true_eq_false, Bool.false_eq_true, n10, xn, rm, mh, bI_f]
  · have c0' := nf c0
    rw [c0'] at mh
    rw [if_neg c0]
    by_cases c1 : inR v 0 999 = false
    · have e : okPoke f k v = false := by unfold okPoke; simp [c1]
      rw [c1] at isn
      rw [e, if_pos c1]
      refine ⟨I, R, ?_, h, FC.rf I, XE.rf R K⟩
      simp (disch := first | assumption | omega | exact ixN (by assumption) (by omega) (by omega) | exact ne_10 | exact ne_1000 | exact ne_4) only [s81_0, s81_0a, s81_1, s81_4, s81_7, s81_8, s81_11, s81_14, s81_15, s81_18, s81_21, s81_22, s81_23, s81_23a, s81_24, s81_27, s81_30, s81_31, s81_34, s81_35, s81_36, s81_37, s81_40, s81_42, s81_43, s81_43a, s81_44, s81_47, s81_47a, s81_48, s81_51, s81_54, s81_54a, s81_55, s81_58, s81_61, s81_62, s81_63, s81_66, s81_67, ↓reduceIte, eq_self, Option.bind_some, Option.bind_none, Option.toList_some, Option.toList_none, List.cons_append, List.nil_append, am_rf_s, am_rf_n, am_c1_i, am_c1_r, am_c1_n, List.all_cons, List.all_nil, Bool.and_self, Bool.and_true, Bool.true_and, List.length_cons, List.length_nil, Nat.reduceAdd, Nat.reduceSub, Nat.reduceMul, Nat.reduceLeDiff, Nat.reduceLT, Nat.zero_le, Nat.le_refl, ne_10, ne_1000, ne_4, not_false_eq_true, or_true, true_or, Nat.one_ne_zero, Nat.zero_ne_one, Nat.reduceEqDiff, Bool.true_eq_false, Bool.false_eq_true, n10, xn, rm, mh, bI_t, isn, bI_f]
    · have c1' := nf c1
      rw [c1'] at isn
      rw [if_neg c1]
      obtain ⟨q, q1, q2, rfl⟩ := inR_of c0' (by omega) (by omega)
      have mg := c_mget I R K 15 ml q (by omega)
      have mq : I (15 + 1) q = f q := h.2.2.2.2.1.1 q (by omega)
      rw [mq] at mg
      rw [nI_clamp (show q < 2 ^ 31 by omega)]
      by_cases c2 : f q = v
      · have e : okPoke f (nI q) v = false := by unfold okPoke; rw [nI_clamp (show q < 2 ^ 31 by omega)]; simp [c2]
        rw [e, if_pos c2]
        refine ⟨I, R, ?_, h, FC.rf I, XE.rf R K⟩
        simp (disch := first | assumption | omega | exact ixN (by assumption) (by omega) (by omega) | exact ne_10 | exact ne_1000 | exact ne_4) only [s81_0, s81_0a, s81_1, s81_4, s81_7, s81_8, s81_11, s81_14, s81_15, s81_18, s81_21, s81_22, s81_23, s81_23a, s81_24, s81_27, s81_30, s81_31, s81_34, s81_35, s81_36, s81_37, s81_40, s81_42, s81_43, s81_43a, s81_44, s81_47, s81_47a, s81_48, s81_51, s81_54, s81_54a, s81_55, s81_58, s81_61, s81_62, s81_63, s81_66, s81_67, ↓reduceIte, eq_self, Option.bind_some, Option.bind_none, Option.toList_some, Option.toList_none, List.cons_append, List.nil_append, am_rf_s, am_rf_n, am_c1_i, am_c1_r, am_c1_n, List.all_cons, List.all_nil, Bool.and_self, Bool.and_true, Bool.true_and, List.length_cons, List.length_nil, Nat.reduceAdd, Nat.reduceSub, Nat.reduceMul, Nat.reduceLeDiff, Nat.reduceLT, Nat.zero_le, Nat.le_refl, ne_10, ne_1000, ne_4, not_false_eq_true, or_true, true_or, Nat.one_ne_zero, Nat.zero_ne_one, Nat.reduceEqDiff, Bool.true_eq_false, Bool.false_eq_true, n10, xn, rm, mh, bI_t, isn, mg, c2]
      · have e : okPoke f (nI q) v = true := by unfold okPoke; rw [nI_clamp (show q < 2 ^ 31 by omega)]; simp [c2, c1', c0']
        rw [e, if_neg c2]
        obtain ⟨J, S, v1, v2, v3, v4, v5⟩ := k_keep I R K n nc cs tx cd bg f wz h hw.wb
        have xn' := v2.1.1.2.2.2.2.1
        have rm' : S 14 0 = some 15 := v2.1.2.2.2.1.2.1.1
        have mp := c_mput J S K 15 v2.1.2.2.2.1.2.2.1 q (by omega) v
        refine ⟨_, S, ?_, v2.now (FN.st J _ (by omega) (by omega)) (v2.2.2.2.2.1.mem (show q < 8 by omega) v), v3.tr (FC.fn (FN.st J _ (by omega) (by omega))), v4⟩
        simp (disch := first | assumption | omega | exact ixN (by assumption) (by omega) (by omega) | exact ne_10 | exact ne_1000 | exact ne_4) only [s81_0, s81_0a, s81_1, s81_4, s81_7, s81_8, s81_11, s81_14, s81_15, s81_18, s81_21, s81_22, s81_23, s81_23a, s81_24, s81_27, s81_30, s81_31, s81_34, s81_35, s81_36, s81_37, s81_40, s81_42, s81_43, s81_43a, s81_44, s81_47, s81_47a, s81_48, s81_51, s81_54, s81_54a, s81_55, s81_58, s81_61, s81_62, s81_63, s81_66, s81_67, ↓reduceIte, eq_self, Option.bind_some, Option.bind_none, Option.toList_some, Option.toList_none, List.cons_append, List.nil_append, am_rf_s, am_rf_n, am_c1_i, am_c1_r, am_c1_n, List.all_cons, List.all_nil, Bool.and_self, Bool.and_true, Bool.true_and, List.length_cons, List.length_nil, Nat.reduceAdd, Nat.reduceSub, Nat.reduceMul, Nat.reduceLeDiff, Nat.reduceLT, Nat.zero_le, Nat.le_refl, ne_10, ne_1000, ne_4, not_false_eq_true, or_true, true_or, Nat.one_ne_zero, Nat.zero_ne_one, Nat.reduceEqDiff, Bool.true_eq_false, Bool.false_eq_true, n10, xn, xh, rm, mh, bI_t, isn, mg, c2, v1, xn', rm', mp]
theorem k_undo (h : CH I R K n tx nc cd bg f cs wz) (hw : cs ≠ 0 → WF (fun k => wz (1318 * (cs - 1) + k)) e0) : ∃ I' R', ev 82 0 [some (.ref 3)] [] (I, R, K) = some (some (.int (if cs = 0 then -2 else nI (cs - 1))), (I', R', K)) ∧ (if cs = 0 then CH I' R' K n tx nc cd bg f cs wz else CH I' R' K n tx nc cd bg (sU wz f cs) (cs - 1) wz) ∧ FC I I' ∧ XE R K R' K := by
  obtain ⟨x1, xt, xl, xd, xn, xh, -⟩ := id h.1.1
  have kb := h.1.2.2.2.1.1.1
  have kh := h.1.2.2.2.2.1.1
  have hr := h.2.2.2.2.2
  have hsz : I 38 2 = nI cs := by obtain ⟨l, l1, l2, l3, l4, -⟩ := hr; exact l3
  have hcs : cs ≤ 4 := by obtain ⟨l, l1, l2, l3, l4, -⟩ := hr; exact l4
  by_cases c0 : cs = 0
  · rw [if_pos c0, ]
    refine ⟨I, R, ?_, by rw [if_pos c0]; exact h, FC.rf I, XE.rf R K⟩
    simp (disch := first | assumption | omega | exact ixN (by assumption) (by omega) (by omega) | exact ne_10 | exact ne_1000 | exact ne_4) only [s82_0, s82_0a, s82_1, s82_4, s82_7, s82_10, s82_12, s82_13, s82_13a, s82_14, s82_17, s82_17a, s82_18, s82_21, s82_24, s82_24a, s82_25, s82_28, s82_31, ↓reduceIte, eq_self, Option.bind_some, Option.bind_none, Option.toList_some, Option.toList_none, List.cons_append, List.nil_append, am_rf_s, am_rf_n, am_c1_i, am_c1_r, am_c1_n, List.all_cons, List.all_nil, Bool.and_self, Bool.and_true, Bool.true_and, List.length_cons, List.length_nil, Nat.reduceAdd, Nat.reduceSub, Nat.reduceMul, Nat.reduceLeDiff, Nat.reduceLT, Nat.zero_le, Nat.le_refl, ne_10, ne_1000, ne_4, not_false_eq_true, or_true, true_or, Nat.one_ne_zero, Nat.zero_ne_one, Nat.reduceEqDiff, Bool.true_eq_false, Bool.false_eq_true, n10, nI_eq, xh, hsz, c0]
  · rw [if_neg c0]
    obtain ⟨J, S, v1, v2, v3, v4, v5⟩ := c_giveBack I R K h.1.2.2.2.2.1 h.1.2.2.2.1 f wz cs (by omega) h.2.2.2.2.1 hr (hw c0).wb
    have hsz' : J 38 2 = nI (cs - 1) := by obtain ⟨l, l1, l2, l3, l4, -⟩ := v2; exact l3
    have xh' : S 3 4 = some 38 := (h.1.xe v5).1.2.2.2.2.2.1
    refine ⟨J, S, ?_, by rw [if_neg c0]; exact h.up v5 (fun a _ _ => (v4 a (by omega)).1) v3 v2, fun a z1 z2 => (v4 a (by omega)).1, v5⟩
    simp (disch := first | assumption | omega | exact ixN (by assumption) (by omega) (by omega) | exact ne_10 | exact ne_1000 | exact ne_4) only [s82_0, s82_0a, s82_1, s82_4, s82_7, s82_10, s82_12, s82_13, s82_13a, s82_14, s82_17, s82_17a, s82_18, s82_21, s82_24, s82_24a, s82_25, s82_28, s82_31, ↓reduceIte, eq_self, Option.bind_some, Option.bind_none, Option.toList_some, Option.toList_none, List.cons_append, List.nil_append, am_rf_s, am_rf_n, am_c1_i, am_c1_r, am_c1_n, List.all_cons, List.all_nil, Bool.and_self, Bool.and_true, Bool.true_and, List.length_cons, List.length_nil, Nat.reduceAdd, Nat.reduceSub, Nat.reduceMul, Nat.reduceLeDiff, Nat.reduceLT, Nat.zero_le, Nat.le_refl, ne_10, ne_1000, ne_4, not_false_eq_true, or_true, true_or, Nat.one_ne_zero, Nat.zero_ne_one, Nat.reduceEqDiff, Bool.true_eq_false, Bool.false_eq_true, n10, nI_eq, xh, xn, hsz, c0, v1, xh', hsz']
theorem isPr_of {f : Nat → Int32} {p : Int32} (h : isPr f p = true) : ∃ q, q < 6 ∧ p = nI q ∧ f (70 + 208 * q) < nI 3 ∧ ¬ f (70 + 208 * q) = nI 3 := by
  unfold isPr at h
  simp only [Bool.and_eq_true, decide_eq_true_eq] at h
  obtain ⟨q, q1, q2, rfl⟩ := inR_of h.1 (by omega) (by omega)
  rw [nI_clamp (show q < 2 ^ 31 by omega)] at h
  refine ⟨q, by omega, rfl, h.2, fun z => ?_⟩
  have := h.2
  rw [z] at this
  exact absurd this (by decide)
theorem k_png (h : CH I R K n tx nc cd bg f cs wz) (q : Nat) (hq : q < 6) (hp : isPr f (nI q) = true) : ev 55 0 [some (.ref 14), some (.int (nI q)), none] [] (I, R, K) = some (some (.ref (32 + q)), (I, R, K)) ∧ am_isK K (32 + q) 3 = true ∧ I (32 + q) 1 = f (70 + 208 * q) := by
  have pn := c_probeNotGone I R K 14 f h.1.2.2.2.1 h.2.2.2.2.1 (nI q)
  have kp := (h.1.2.2.2.1.2.2.2.2.2 q hq).2
  have i1 := (h.2.2.2.2.1.2.2.2 q hq).2.1
  rw [show 14 + 18 + q = 32 + q by omega] at kp i1
  refine ⟨?_, kp, i1⟩
  rw [pn]
  unfold ngP
  rw [if_pos hp, nI_clamp (show q < 2 ^ 31 by omega)]
  unfold pRef
  rw [show 14 + 18 + q = 32 + q by omega]
theorem k_pgn (h : CH I R K n tx nc cd bg f cs wz) (p : Int32) (hp : isPr f p = false) : ev 55 0 [some (.ref 14), some (.int p), none] [] (I, R, K) = some (some .null, (I, R, K)) := by
  rw [c_probeNotGone I R K 14 f h.1.2.2.2.1 h.2.2.2.2.1 p]
  unfold ngP
  rw [hp]
  rfl
theorem k_turn (h : CH I R K n tx nc cd bg f cs wz) (hw : WF f e0) (p b : Int32) : ∃ I' R', ev 76 0 [some (.ref 3), some (.int p), some (.int b), none, none] [] (I, R, K) = some (some (.int (sp_turn f p b)), (I', R', K)) ∧ CH I' R' K n tx nc cd bg (sf_turn f p b) (kpC (okTurn f p b) cs) (kpW (okTurn f p b) wz f cs) ∧ FC I I' ∧ XE R K R' K := by
  obtain ⟨x1, xt, xl, xd, xn, xh, -⟩ := id h.1.1
  have kb := h.1.2.2.2.1.1.1
  have kh := h.1.2.2.2.2.1.1
  unfold sp_turn
  by_cases c0 : isPr f p = false
  · have e : okTurn f p b = false := by unfold okTurn; rw [isPr_e, c0]; rfl
    have pn := k_pgn I R K n nc cs tx cd bg f wz h p c0
    unfold sf_turn
    rw [e, if_pos c0]
    refine ⟨I, R, ?_, h, FC.rf I, XE.rf R K⟩
    simp (disch := first | assumption | omega | exact ixN (by assumption) (by omega) (by omega) | exact ne_10 | exact ne_1000 | exact ne_4) only [s76_0, s76_0a, s76_1, s76_4, s76_5, s76_8, s76_8a, s76_9, s76_9a, s76_10, s76_10a, s76_13, s76_14, s76_15, s76_16, s76_19, s76_22, s76_23, s76_24, s76_25, s76_26, s76_29, s76_30, s76_33, s76_34, s76_36, s76_36a, s76_37, s76_40, s76_41, s76_44, s76_44a, s76_45, s76_48, s76_50, s76_53, s76_55, s76_56, s76_56a, s76_57, s76_60, s76_60a, s76_61, s76_64, s76_67, s76_67a, s76_68, s76_70, s76_73, s76_73a, s76_74, s76_77, s76_78, s76_81, ↓reduceIte, eq_self, Option.bind_some, Option.bind_none, Option.toList_some, Option.toList_none, List.cons_append, List.nil_append, am_rf_s, am_rf_n, am_c1_i, am_c1_r, am_c1_n, List.all_cons, List.all_nil, Bool.and_self, Bool.and_true, Bool.true_and, List.length_cons, List.length_nil, Nat.reduceAdd, Nat.reduceSub, Nat.reduceMul, Nat.reduceLeDiff, Nat.reduceLT, Nat.zero_le, Nat.le_refl, ne_10, ne_1000, ne_4, not_false_eq_true, or_true, true_or, Nat.one_ne_zero, Nat.zero_ne_one, Nat.reduceEqDiff, Bool.true_eq_false, Bool.false_eq_true, n10, xn, pn]
  · have c0' := nf c0
    rw [if_neg c0]
    obtain ⟨q, hq, rfl, h3a, h3⟩ := isPr_of c0'
    obtain ⟨pn, kp, i1⟩ := k_png I R K n nc cs tx cd bg f wz h q hq c0'
    by_cases c1 : inR b 0 1 = false
    · have e : okTurn f (nI q) b = false := by unfold okTurn; simp [c1]
      unfold sf_turn
      rw [e, if_pos c1]
      refine ⟨I, R, ?_, h, FC.rf I, XE.rf R K⟩
      simp (disch := first | assumption | omega | exact ixN (by assumption) (by omega) (by omega) | exact ne_10 | exact ne_1000 | exact ne_4) only [s76_0, s76_0a, s76_1, s76_4, s76_5, s76_8, s76_8a, s76_9, s76_9a, s76_10, s76_10a, s76_13, s76_14, s76_15, s76_16, s76_19, s76_22, s76_23, s76_24, s76_25, s76_26, s76_29, s76_30, s76_33, s76_34, s76_36, s76_36a, s76_37, s76_40, s76_41, s76_44, s76_44a, s76_45, s76_48, s76_50, s76_53, s76_55, s76_56, s76_56a, s76_57, s76_60, s76_60a, s76_61, s76_64, s76_67, s76_67a, s76_68, s76_70, s76_73, s76_73a, s76_74, s76_77, s76_78, s76_81, ↓reduceIte, eq_self, Option.bind_some, Option.bind_none, Option.toList_some, Option.toList_none, List.cons_append, List.nil_append, am_rf_s, am_rf_n, am_c1_i, am_c1_r, am_c1_n, List.all_cons, List.all_nil, Bool.and_self, Bool.and_true, Bool.true_and, List.length_cons, List.length_nil, Nat.reduceAdd, Nat.reduceSub, Nat.reduceMul, Nat.reduceLeDiff, Nat.reduceLT, Nat.zero_le, Nat.le_refl, ne_10, ne_1000, ne_4, not_false_eq_true, or_true, true_or, Nat.one_ne_zero, Nat.zero_ne_one, Nat.reduceEqDiff, Bool.true_eq_false, Bool.false_eq_true, n10, xn, pn, c_within, inR_e, c1, bI_f]
    · have c1' := nf c1
      rw [if_neg c1]
      obtain ⟨z, z1, z2, rfl⟩ := inR_of c1' (by omega) (by omega)
      have ez : nI 1 - nI z = nI (1 - z) := pk_sub z2
      have e2 : (if nI z = nI 1 then nI 0 else nI 1) = nI (1 - z) := by
        have : z = 0 ∨ z = 1 := by omega
        rcases this with rfl | rfl
        · rfl
        · rfl
      have fin : ∀ (J : am_I) (S : am_R) (l4 : Int32), l4 = nI (1 - z) → True := fun _ _ _ _ => trivial
      rw [nI_clamp (show q < 2 ^ 31 by omega), ez]
      by_cases c2 : f (70 + 208 * q) = nI 2
      · have e : okTurn f (nI q) (nI z) = false := by unfold okTurn; rw [nI_clamp (show q < 2 ^ 31 by omega)]; simp [c2]
        unfold sf_turn
        rw [e, if_pos c2]
        refine ⟨I, R, ?_, h, FC.rf I, XE.rf R K⟩
        have : z = 0 ∨ z = 1 := by omega
        rcases this with rfl | rfl
        · simp (disch := first | assumption | omega | exact ixN (by assumption) (by omega) (by omega) | exact ne_10 | exact ne_1000 | exact ne_4) only [s76_0, s76_0a, s76_1, s76_4, s76_5, s76_8, s76_8a, s76_9, s76_9a, s76_10, s76_10a, s76_13, s76_14, s76_15, s76_16, s76_19, s76_22, s76_23, s76_24, s76_25, s76_26, s76_29, s76_30, s76_33, s76_34, s76_36, s76_36a, s76_37, s76_40, s76_41, s76_44, s76_44a, s76_45, s76_48, s76_50, s76_53, s76_55, s76_56, s76_56a, s76_57, s76_60, s76_60a, s76_61, s76_64, s76_67, s76_67a, s76_68, s76_70, s76_73, s76_73a, s76_74, s76_77, s76_78, s76_81, ↓reduceIte, eq_self, Option.bind_some, Option.bind_none, Option.toList_some, Option.toList_none, List.cons_append, List.nil_append, am_rf_s, am_rf_n, am_c1_i, am_c1_r, am_c1_n, List.all_cons, List.all_nil, Bool.and_self, Bool.and_true, Bool.true_and, List.length_cons, List.length_nil, Nat.reduceAdd, Nat.reduceSub, Nat.reduceMul, Nat.reduceLeDiff, Nat.reduceLT, Nat.zero_le, Nat.le_refl, ne_10, ne_1000, ne_4, not_false_eq_true, or_true, true_or, Nat.one_ne_zero, Nat.zero_ne_one, Nat.reduceEqDiff, Bool.true_eq_false, Bool.false_eq_true, n10, nI_eq, xn, pn, c_within, inR_e, c1', bI_t, i1, c2]
        · simp (disch := first | assumption | omega | exact ixN (by assumption) (by omega) (by omega) | exact ne_10 | exact ne_1000 | exact ne_4) only [s76_0, s76_0a, s76_1, s76_4, s76_5, s76_8, s76_8a, s76_9, s76_9a, s76_10, s76_10a, s76_13, s76_14, s76_15, s76_16, s76_19, s76_22, s76_23, s76_24, s76_25, s76_26, s76_29, s76_30, s76_33, s76_34, s76_36, s76_36a, s76_37, s76_40, s76_41, s76_44, s76_44a, s76_45, s76_48, s76_50, s76_53, s76_55, s76_56, s76_56a, s76_57, s76_60, s76_60a, s76_61, s76_64, s76_67, s76_67a, s76_68, s76_70, s76_73, s76_73a, s76_74, s76_77, s76_78, s76_81, ↓reduceIte, eq_self, Option.bind_some, Option.bind_none, Option.toList_some, Option.toList_none, List.cons_append, List.nil_append, am_rf_s, am_rf_n, am_c1_i, am_c1_r, am_c1_n, List.all_cons, List.all_nil, Bool.and_self, Bool.and_true, Bool.true_and, List.length_cons, List.length_nil, Nat.reduceAdd, Nat.reduceSub, Nat.reduceMul, Nat.reduceLeDiff, Nat.reduceLT, Nat.zero_le, Nat.le_refl, ne_10, ne_1000, ne_4, not_false_eq_true, or_true, true_or, Nat.one_ne_zero, Nat.zero_ne_one, Nat.reduceEqDiff, Bool.true_eq_false, Bool.false_eq_true, n10, nI_eq, xn, pn, c_within, inR_e, c1', bI_t, i1, c2]
      · rw [if_neg c2]
        by_cases c3' : f (70 + 208 * q) = nI (1 - z)
        · have e : okTurn f (nI q) (nI z) = false := by unfold okTurn; rw [nI_clamp (show q < 2 ^ 31 by omega), ez]; simp [c3']
          unfold sf_turn
          rw [e, if_pos c3']
          refine ⟨I, R, ?_, h, FC.rf I, XE.rf R K⟩
          have : z = 0 ∨ z = 1 := by omega
          rcases this with rfl | rfl
          · simp (disch := first | assumption | omega | exact ixN (by assumption) (by omega) (by omega) | exact ne_10 | exact ne_1000 | exact ne_4) only [s76_0, s76_0a, s76_1, s76_4, s76_5, s76_8, s76_8a, s76_9, s76_9a, s76_10, s76_10a, s76_13, s76_14, s76_15, s76_16, s76_19, s76_22, s76_23, s76_24, s76_25, s76_26, s76_29, s76_30, s76_33, s76_34, s76_36, s76_36a, s76_37, s76_40, s76_41, s76_44, s76_44a, s76_45, s76_48, s76_50, s76_53, s76_55, s76_56, s76_56a, s76_57, s76_60, s76_60a, s76_61, s76_64, s76_67, s76_67a, s76_68, s76_70, s76_73, s76_73a, s76_74, s76_77, s76_78, s76_81, ↓reduceIte, eq_self, Option.bind_some, Option.bind_none, Option.toList_some, Option.toList_none, List.cons_append, List.nil_append, am_rf_s, am_rf_n, am_c1_i, am_c1_r, am_c1_n, List.all_cons, List.all_nil, Bool.and_self, Bool.and_true, Bool.true_and, List.length_cons, List.length_nil, Nat.reduceAdd, Nat.reduceSub, Nat.reduceMul, Nat.reduceLeDiff, Nat.reduceLT, Nat.zero_le, Nat.le_refl, ne_10, ne_1000, ne_4, not_false_eq_true, or_true, true_or, Nat.one_ne_zero, Nat.zero_ne_one, Nat.reduceEqDiff, Bool.true_eq_false, Bool.false_eq_true, n10, nI_eq, xn, pn, c_within, inR_e, c1', bI_t, i1, c2, c3']
          · simp (disch := first | assumption | omega | exact ixN (by assumption) (by omega) (by omega) | exact ne_10 | exact ne_1000 | exact ne_4) only [s76_0, s76_0a, s76_1, s76_4, s76_5, s76_8, s76_8a, s76_9, s76_9a, s76_10, s76_10a, s76_13, s76_14, s76_15, s76_16, s76_19, s76_22, s76_23, s76_24, s76_25, s76_26, s76_29, s76_30, s76_33, s76_34, s76_36, s76_36a, s76_37, s76_40, s76_41, s76_44, s76_44a, s76_45, s76_48, s76_50, s76_53, s76_55, s76_56, s76_56a, s76_57, s76_60, s76_60a, s76_61, s76_64, s76_67, s76_67a, s76_68, s76_70, s76_73, s76_73a, s76_74, s76_77, s76_78, s76_81, ↓reduceIte, eq_self, Option.bind_some, Option.bind_none, Option.toList_some, Option.toList_none, List.cons_append, List.nil_append, am_rf_s, am_rf_n, am_c1_i, am_c1_r, am_c1_n, List.all_cons, List.all_nil, Bool.and_self, Bool.and_true, Bool.true_and, List.length_cons, List.length_nil, Nat.reduceAdd, Nat.reduceSub, Nat.reduceMul, Nat.reduceLeDiff, Nat.reduceLT, Nat.zero_le, Nat.le_refl, ne_10, ne_1000, ne_4, not_false_eq_true, or_true, true_or, Nat.one_ne_zero, Nat.zero_ne_one, Nat.reduceEqDiff, Bool.true_eq_false, Bool.false_eq_true, n10, nI_eq, xn, pn, c_within, inR_e, c1', bI_t, i1, c2, c3']
        · have e : okTurn f (nI q) (nI z) = true := by
            have c0'' := c0'
            unfold isPr at c0''
            unfold okTurn; rw [c0'', nI_clamp (show q < 2 ^ 31 by omega), ez, c1']; simp [c2, c3']
          have es : sf_turn f (nI q) (nI z) = uf f (70 + 208 * q) (nI (1 - z)) := by unfold sf_turn; rw [e, if_pos rfl, nI_clamp (show q < 2 ^ 31 by omega), ez]
          rw [es, e, if_neg c3']
          obtain ⟨J, S, v1, v2, v3, v4, v5⟩ := k_keep I R K n nc cs tx cd bg f wz h hw.wb
          have xn' := v2.1.1.2.2.2.2.1
          have s2 := v2.2.2.2.2.1.is hq h3 (s := 1 - z) (by omega)
          have ch2 := v2.now (FN.st J (uf (J (32 + q)) 1 (nI (1 - z))) (by omega) (by omega)) s2
          have hm := c_howManyAre (st J (32 + q) (uf (J (32 + q)) 1 (nI (1 - z)))) S K 14 _ v2.1.2.2.2.1 s2 (nI 0)
          refine ⟨_, S, ?_, ch2, v3.tr (FC.fn (FN.st J _ (by omega) (by omega))), v4⟩
          have : z = 0 ∨ z = 1 := by omega
          rcases this with rfl | rfl
          · have c3'' : ¬ f (70 + 208 * q) = nI 1 := c3'
            have hm' : ev 59 0 [some (.ref 14), some (.int (nI 0)), none, none, none] [] (st J (32 + q) (uf (J (32 + q)) 1 (nI 1)), S, K) = some (some (.int (many (uf f (70 + 208 * q) (nI 1)) (nI 0))), (st J (32 + q) (uf (J (32 + q)) 1 (nI 1)), S, K)) := hm
            simp (disch := first | assumption | omega | exact ixN (by assumption) (by omega) (by omega) | exact ne_10 | exact ne_1000 | exact ne_4) only [s76_0, s76_0a, s76_1, s76_4, s76_5, s76_8, s76_8a, s76_9, s76_9a, s76_10, s76_10a, s76_13, s76_14, s76_15, s76_16, s76_19, s76_22, s76_23, s76_24, s76_25, s76_26, s76_29, s76_30, s76_33, s76_34, s76_36, s76_36a, s76_37, s76_40, s76_41, s76_44, s76_44a, s76_45, s76_48, s76_50, s76_53, s76_55, s76_56, s76_56a, s76_57, s76_60, s76_60a, s76_61, s76_64, s76_67, s76_67a, s76_68, s76_70, s76_73, s76_73a, s76_74, s76_77, s76_78, s76_81, ↓reduceIte, eq_self, Option.bind_some, Option.bind_none, Option.toList_some, Option.toList_none, List.cons_append, List.nil_append, am_rf_s, am_rf_n, am_c1_i, am_c1_r, am_c1_n, List.all_cons, List.all_nil, Bool.and_self, Bool.and_true, Bool.true_and, List.length_cons, List.length_nil, Nat.reduceAdd, Nat.reduceSub, Nat.reduceMul, Nat.reduceLeDiff, Nat.reduceLT, Nat.zero_le, Nat.le_refl, ne_10, ne_1000, ne_4, not_false_eq_true, or_true, true_or, Nat.one_ne_zero, Nat.zero_ne_one, Nat.reduceEqDiff, Bool.true_eq_false, Bool.false_eq_true, n10, nI_eq, ui_st, xn, xh, pn, c_within, inR_e, c1', bI_t, i1, c2, c3'', v1, xn', hm']
          · have c3'' : ¬ f (70 + 208 * q) = nI 0 := c3'
            have hm' : ev 59 0 [some (.ref 14), some (.int (nI 0)), none, none, none] [] (st J (32 + q) (uf (J (32 + q)) 1 (nI 0)), S, K) = some (some (.int (many (uf f (70 + 208 * q) (nI 0)) (nI 0))), (st J (32 + q) (uf (J (32 + q)) 1 (nI 0)), S, K)) := hm
            simp (disch := first | assumption | omega | exact ixN (by assumption) (by omega) (by omega) | exact ne_10 | exact ne_1000 | exact ne_4) only [s76_0, s76_0a, s76_1, s76_4, s76_5, s76_8, s76_8a, s76_9, s76_9a, s76_10, s76_10a, s76_13, s76_14, s76_15, s76_16, s76_19, s76_22, s76_23, s76_24, s76_25, s76_26, s76_29, s76_30, s76_33, s76_34, s76_36, s76_36a, s76_37, s76_40, s76_41, s76_44, s76_44a, s76_45, s76_48, s76_50, s76_53, s76_55, s76_56, s76_56a, s76_57, s76_60, s76_60a, s76_61, s76_64, s76_67, s76_67a, s76_68, s76_70, s76_73, s76_73a, s76_74, s76_77, s76_78, s76_81, ↓reduceIte, eq_self, Option.bind_some, Option.bind_none, Option.toList_some, Option.toList_none, List.cons_append, List.nil_append, am_rf_s, am_rf_n, am_c1_i, am_c1_r, am_c1_n, List.all_cons, List.all_nil, Bool.and_self, Bool.and_true, Bool.true_and, List.length_cons, List.length_nil, Nat.reduceAdd, Nat.reduceSub, Nat.reduceMul, Nat.reduceLeDiff, Nat.reduceLT, Nat.zero_le, Nat.le_refl, ne_10, ne_1000, ne_4, not_false_eq_true, or_true, true_or, Nat.one_ne_zero, Nat.zero_ne_one, Nat.reduceEqDiff, Bool.true_eq_false, Bool.false_eq_true, n10, nI_eq, ui_st, xn, xh, pn, c_within, inR_e, c1', bI_t, i1, c2, c3'', v1, xn', hm']
theorem k_remove (h : CH I R K n tx nc cd bg f cs wz) (hw : WF f e0) (p : Int32) : ∃ I' R', ev 77 0 [some (.ref 3), some (.int p), none] [] (I, R, K) = some (some (.int (sp_rem f p)), (I', R', K)) ∧ CH I' R' K n tx nc cd bg (sf_rem f p) (kpC (okRem f p) cs) (kpW (okRem f p) wz f cs) ∧ FC I I' ∧ XE R K R' K := by
  obtain ⟨x1, xt, xl, xd, xn, xh, -⟩ := id h.1.1
  have kb := h.1.2.2.2.1.1.1
  have kh := h.1.2.2.2.2.1.1
  unfold sp_rem
  by_cases c0 : isPr f p = false
  · have e : okRem f p = false := by unfold okRem; rw [c0]; rfl
    have pn := k_pgn I R K n nc cs tx cd bg f wz h p c0
    unfold sf_rem
    rw [e, if_pos c0]
    refine ⟨I, R, ?_, h, FC.rf I, XE.rf R K⟩
    simp (disch := first | assumption | omega | exact ixN (by assumption) (by omega) (by omega) | exact ne_10 | exact ne_1000 | exact ne_4) only [s77_0, s77_0a, s77_1, s77_4, s77_5, s77_8, s77_8a, s77_9, s77_9a, s77_10, s77_10a, s77_13, s77_14, s77_15, s77_15a, s77_16, s77_19, s77_20, s77_23, s77_25, s77_26, s77_26a, s77_27, s77_30, s77_30a, s77_31, s77_34, s77_37, s77_37a, s77_38, s77_39, s77_42, s77_42a, s77_43, s77_46, s77_46a, s77_47, s77_50, s77_51, s77_54, s77_55, s77_58, s77_59, ↓reduceIte, eq_self, Option.bind_some, Option.bind_none, Option.toList_some, Option.toList_none, List.cons_append, List.nil_append, am_rf_s, am_rf_n, am_c1_i, am_c1_r, am_c1_n, List.all_cons, List.all_nil, Bool.and_self, Bool.and_true, Bool.true_and, List.length_cons, List.length_nil, Nat.reduceAdd, Nat.reduceSub, Nat.reduceMul, Nat.reduceLeDiff, Nat.reduceLT, Nat.zero_le, Nat.le_refl, ne_10, ne_1000, ne_4, not_false_eq_true, or_true, true_or, Nat.one_ne_zero, Nat.zero_ne_one, Nat.reduceEqDiff, Bool.true_eq_false, Bool.false_eq_true, n10, xn, pn]
  · have c0' := nf c0
    rw [if_neg c0]
    obtain ⟨q, hq, rfl, h3a, h3⟩ := isPr_of c0'
    obtain ⟨pn, kp, i1⟩ := k_png I R K n nc cs tx cd bg f wz h q hq c0'
    rw [nI_clamp (show q < 2 ^ 31 by omega)]
    by_cases c2 : f (70 + 208 * q) = nI 2
    · have e : okRem f (nI q) = false := by unfold okRem; rw [nI_clamp (show q < 2 ^ 31 by omega)]; simp [c2]
      unfold sf_rem
      rw [e, if_pos c2]
      refine ⟨I, R, ?_, h, FC.rf I, XE.rf R K⟩
      simp (disch := first | assumption | omega | exact ixN (by assumption) (by omega) (by omega) | exact ne_10 | exact ne_1000 | exact ne_4) only [s77_0, s77_0a, s77_1, s77_4, s77_5, s77_8, s77_8a, s77_9, s77_9a, s77_10, s77_10a, s77_13, s77_14, s77_15, s77_15a, s77_16, s77_19, s77_20, s77_23, s77_25, s77_26, s77_26a, s77_27, s77_30, s77_30a, s77_31, s77_34, s77_37, s77_37a, s77_38, s77_39, s77_42, s77_42a, s77_43, s77_46, s77_46a, s77_47, s77_50, s77_51, s77_54, s77_55, s77_58, s77_59, ↓reduceIte, eq_self, Option.bind_some, Option.bind_none, Option.toList_some, Option.toList_none, List.cons_append, List.nil_append, am_rf_s, am_rf_n, am_c1_i, am_c1_r, am_c1_n, List.all_cons, List.all_nil, Bool.and_self, Bool.and_true, Bool.true_and, List.length_cons, List.length_nil, Nat.reduceAdd, Nat.reduceSub, Nat.reduceMul, Nat.reduceLeDiff, Nat.reduceLT, Nat.zero_le, Nat.le_refl, ne_10, ne_1000, ne_4, not_false_eq_true, or_true, true_or, Nat.one_ne_zero, Nat.zero_ne_one, Nat.reduceEqDiff, Bool.true_eq_false, Bool.false_eq_true, n10, nI_eq, xn, pn, i1, c2]
    · have e : okRem f (nI q) = true := by unfold okRem; rw [c0', nI_clamp (show q < 2 ^ 31 by omega)]; simp [c2]
      have es : sf_rem f (nI q) = uf f (70 + 208 * q) (if f (70 + 208 * q + 6) = nI 0 then nI 3 else nI 2) := by unfold sf_rem; rw [e, if_pos rfl, nI_clamp (show q < 2 ^ 31 by omega)]
      rw [es, e, if_neg c2]
      obtain ⟨J, S, v1, v2, v3, v4, v5⟩ := k_keep I R K n nc cs tx cd bg f wz h hw.wb
      obtain ⟨-, -, b3, b4, -⟩ := hw.2.2 q hq
      have j7 : J (32 + q) 7 = f (70 + 208 * q + 6) := by
        have := ((v2.2.2.2.2.1.2.2.2 q hq).2.2.2 h3).1.2.2.2.2.2
        rwa [show 14 + 18 + q = 32 + q by omega] at this
      have s2 := v2.2.2.2.2.1.is hq h3 (s := 2) (by omega)
      obtain ⟨J2, hJ2⟩ : ∃ J2, J2 = st J (32 + q) (uf (J (32 + q)) 1 (nI 2)) := ⟨_, rfl⟩
      have fn2 : FN J J2 := by rw [hJ2]; exact FN.st J _ (by omega) (by omega)
      rw [← hJ2] at s2
      have j21 : J2 (32 + q) 1 = nI 2 := by rw [hJ2, st_eq, uf_eq]
      have j27 : J2 (32 + q) 7 = f (70 + 208 * q + 6) := by rw [hJ2, st_eq, uf_ne _ _ (by omega)]; exact j7
      have go := c_goIf J2 S K (32 + q) kp
      rw [j21, j27] at go
      by_cases c3' : f (70 + 208 * q + 6) = nI 0
      · rw [if_pos ⟨rfl, by rw [c3']; exact Int32.le_refl _⟩] at go
        have s3 := s2.is hq (by rw [uf_eq]; decide) (s := 3) (by omega)
        rw [uf_uf] at s3
        rw [if_pos c3', if_pos c3']
        have j3 : st J2 (32 + q) (uf (J2 (32 + q)) 1 (nI 3)) (32 + q) 1 = nI 3 := by rw [st_eq, uf_eq]
        refine ⟨_, S, ?_, v2.now (fn2.tr (FN.st J2 _ (by omega) (by omega))) s3, v3.tr (FC.fn (fn2.tr (FN.st J2 _ (by omega) (by omega)))), v4⟩
        simp (disch := first | assumption | omega | exact ixN (by assumption) (by omega) (by omega) | exact ne_10 | exact ne_1000 | exact ne_4) only [s77_0, s77_0a, s77_1, s77_4, s77_5, s77_8, s77_8a, s77_9, s77_9a, s77_10, s77_10a, s77_13, s77_14, s77_15, s77_15a, s77_16, s77_19, s77_20, s77_23, s77_25, s77_26, s77_26a, s77_27, s77_30, s77_30a, s77_31, s77_34, s77_37, s77_37a, s77_38, s77_39, s77_42, s77_42a, s77_43, s77_46, s77_46a, s77_47, s77_50, s77_51, s77_54, s77_55, s77_58, s77_59, ↓reduceIte, eq_self, Option.bind_some, Option.bind_none, Option.toList_some, Option.toList_none, List.cons_append, List.nil_append, am_rf_s, am_rf_n, am_c1_i, am_c1_r, am_c1_n, List.all_cons, List.all_nil, Bool.and_self, Bool.and_true, Bool.true_and, List.length_cons, List.length_nil, Nat.reduceAdd, Nat.reduceSub, Nat.reduceMul, Nat.reduceLeDiff, Nat.reduceLT, Nat.zero_le, Nat.le_refl, ne_10, ne_1000, ne_4, not_false_eq_true, or_true, true_or, Nat.one_ne_zero, Nat.zero_ne_one, Nat.reduceEqDiff, Bool.true_eq_false, Bool.false_eq_true, n10, nI_eq, ui_st, xn, xh, pn, i1, c2, v1, ← hJ2, go, j3]
      · have nle : ¬ f (70 + 208 * q + 6) ≤ nI 0 := by
          rw [b3] at c3' ⊢
          rw [nI_eq (by omega) (by omega)] at c3'
          rw [nI_leI (by omega) (by omega)]
          omega
        rw [if_neg (fun z => nle z.2)] at go
        rw [if_neg c3', if_neg c3']
        refine ⟨J2, S, ?_, v2.now fn2 s2, v3.tr (FC.fn fn2), v4⟩
        simp (disch := first | assumption | omega | exact ixN (by assumption) (by omega) (by omega) | exact ne_10 | exact ne_1000 | exact ne_4) only [s77_0, s77_0a, s77_1, s77_4, s77_5, s77_8, s77_8a, s77_9, s77_9a, s77_10, s77_10a, s77_13, s77_14, s77_15, s77_15a, s77_16, s77_19, s77_20, s77_23, s77_25, s77_26, s77_26a, s77_27, s77_30, s77_30a, s77_31, s77_34, s77_37, s77_37a, s77_38, s77_39, s77_42, s77_42a, s77_43, s77_46, s77_46a, s77_47, s77_50, s77_51, s77_54, s77_55, s77_58, s77_59, ↓reduceIte, eq_self, Option.bind_some, Option.bind_none, Option.toList_some, Option.toList_none, List.cons_append, List.nil_append, am_rf_s, am_rf_n, am_c1_i, am_c1_r, am_c1_n, List.all_cons, List.all_nil, Bool.and_self, Bool.and_true, Bool.true_and, List.length_cons, List.length_nil, Nat.reduceAdd, Nat.reduceSub, Nat.reduceMul, Nat.reduceLeDiff, Nat.reduceLT, Nat.zero_le, Nat.le_refl, ne_10, ne_1000, ne_4, not_false_eq_true, or_true, true_or, Nat.one_ne_zero, Nat.zero_ne_one, Nat.reduceEqDiff, Bool.true_eq_false, Bool.false_eq_true, n10, nI_eq, ui_st, xn, xh, pn, i1, c2, v1, ← hJ2, go, j21]
end DI
