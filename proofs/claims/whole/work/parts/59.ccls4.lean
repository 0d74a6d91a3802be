/-! the class: step, and what is looked at -/
theorem kpush_nb {v : Int32} {s s' : List Int32} (hv : nb v) (hs : ∀ x, x ∈ s → nb x) (h : kpush v s = some s') : ∀ x, x ∈ s' → nb x := by
  unfold kpush at h
  split at h
  · cases h
  · cases h
    intro x hx
    rcases List.mem_cons.mp hx with rfl | z
    · exact hv
    · exact hs x z
theorem kstep_nb {g : Int32} {s s' : List Int32} (hs : ∀ x, x ∈ s → nb x) (h : kstep g s = some s') : ∀ x, x ∈ s' → nb x := by
  unfold kstep at h
  split at h
  · match s, hs, h with
    | [], _, h => cases h
    | y :: r, hs, h =>
      cases h
      intro x hx
      rcases List.mem_cons.mp hx with rfl | z
      · split
        · exact nb_nI (by omega)
        · exact nb_nI (by omega)
      · exact hs x (List.mem_cons_of_mem _ z)
  · match s, hs, h with
    | [], _, h => cases h
    | [y], _, h => cases h
    | y :: z :: r, hs, h =>
      dsimp only at h
      split at h
      · cases h
      · rename_i q
        cases h
        intro x hx
        rcases List.mem_cons.mp hx with rfl | w
        · exact nb_tw (hs z (by simp)) (hs y (by simp)) q
        · exact hs x (by simp [w])
theorem kgo_nb {mem g : Nat → Int32} {n : Nat} {acc : Int32} (hm : ∀ k, k < 8 → nb (mem k)) (ha : nb acc) : ∀ (r k : Nat) (s : List Int32) (v : Int32), (∀ x, x ∈ s → nb x) → kgo mem g n acc r k s = some v → nb v
  | 0, _, _, _, _, h => by cases h
  | r + 1, k, s, v, hs, h => by
    unfold kgo at h
    split at h
    · match s, hs, h with
      | [], _, h => cases h
      | [w], hs, h => cases h; exact hs v (by simp)
      | _ :: _ :: _, _, h => cases h
    · split at h
      · split at h
        · cases h
        · split at h
          · cases h
          · rename_i q
            have q4 : nI 48 ≤ g (k + 1) ∧ g (k + 1) ≤ nI 55 := by simpa using q
            obtain ⟨z, z1, z2, z3⟩ := rng (by omega) q4.1 q4.2 (by omega)
            rw [z3, pk_sub z1, nI_clamp (show z - 48 < 2 ^ 31 by omega)] at h
            obtain ⟨s', h1, h2⟩ := Option.bind_eq_some_iff.mp h
            exact kgo_nb hm ha r _ s' v (kpush_nb (hm _ (by omega)) hs h1) h2
      · split at h
        · obtain ⟨s', h1, h2⟩ := Option.bind_eq_some_iff.mp h
          exact kgo_nb hm ha r _ s' v (kpush_nb ha hs h1) h2
        · split at h
          · obtain ⟨s', h1, h2⟩ := Option.bind_eq_some_iff.mp h
            exact kgo_nb hm ha r _ s' v (kstep_nb hs h1) h2
          · rename_i q
            have q4 : nI 48 ≤ g k ∧ g k ≤ nI 57 := by simpa using q
            obtain ⟨z, z1, z2, z3⟩ := rng (by omega) q4.1 q4.2 (by omega)
            obtain ⟨s', h1, h2⟩ := Option.bind_eq_some_iff.mp h
            exact kgo_nb hm ha r _ s' v (kpush_nb (by rw [z3, pk_sub z1]; exact nb_nI (by omega)) hs h1) h2
theorem ask_pos {mem g : Nat → Int32} {n : Nat} {acc : Int32} (hm : ∀ k, k < 8 → nb (mem k)) (ha : nb acc) : askC (kask mem g n acc) = (if nI 0 ≤ askI (kask mem g n acc) then askI (kask mem g n acc) else -2) ∧ (askC (kask mem g n acc) = -2) = ¬ nI 0 ≤ askI (kask mem g n acc) := by
  cases q : kask mem g n acc with
  | none =>
    have e : ¬ nI 0 ≤ askI none := by decide
    rw [if_neg e]
    exact ⟨rfl, propext ⟨fun _ => e, fun _ => rfl⟩⟩
  | some v =>
    obtain ⟨w, w1, rfl⟩ := kgo_nb hm ha _ _ _ v (fun x hx => by cases hx) q
    have e : nI 0 ≤ askI (some (nI w)) := nI_le (by omega) (by omega)
    rw [if_pos e]
    refine ⟨rfl, propext ⟨fun z => ?_, fun z => absurd e z⟩⟩
    have z' : nI w = -2 := z
    have e' : nI 0 ≤ nI w := e
    rw [z'] at e'
    exact absurd e' (by decide)
section DL
variable (I : am_I) (R : am_R) (K : am_K) (n nc cs : Nat) (tx cd bg f wz : Nat → Int32)
theorem k_steps (q k : Nat) (hq : q < 2) (hk : k ≤ 60) (hW : WC cd bg nc) (c bef : Int32) : ∀ (r i : Nat) (s : Int32) (I : am_I) (f : Nat → Int32), i + r = k → CH I R K n tx nc cd bg f cs wz → WF f e0 → ∃ I', ev 80 55 [some (.ref 3), some (.int c), some (.int (nI k)), some (.ref (17 + 7 * q)), some (.int bef), some (.int (nI i))] [] (I, R, K) = some (some (.int ((sSteps cd bg nc q r s f).2 (8 + 31 * q + 16) - bef)), (I', R, K)) ∧ CH I' R K n tx nc cd bg (sSteps cd bg nc q r s f).2 cs wz ∧ FC I I' := by
  intro r
  induction r with
  | zero =>
    intro i s I f hi h hw
    have hi : i = k := by omega
    subst hi
    have kq := (h.1.2.2.2.1.q hq).1.1
    have i7 := (h.2.2.2.2.1.q hq).1.2.2.2.2.1
    refine ⟨I, ?_, h, FC.rf I⟩
    simp (disch := first | assumption | omega | exact ixN (by assumption) (by omega) (by omega) | exact ne_10 | exact ne_1000 | exact ne_4) only [s80_55, s80_57, s80_58, s80_79, s80_79a, s80_80, s80_83, s80_85, s80_86, ↓reduceIte, eq_self, Option.bind_some, Option.bind_none, Option.toList_some, Option.toList_none, List.cons_append, List.nil_append, am_rf_s, am_rf_n, am_c1_i, am_c1_r, am_c1_n, List.all_cons, List.all_nil, Bool.and_self, Bool.and_true, Bool.true_and, List.length_cons, List.length_nil, Nat.reduceAdd, Nat.reduceSub, Nat.reduceMul, Nat.reduceLeDiff, Nat.reduceLT, Nat.zero_le, Nat.le_refl, ne_10, ne_1000, ne_4, not_false_eq_true, or_true, true_or, Nat.one_ne_zero, Nat.zero_ne_one, Nat.reduceEqDiff, Bool.true_eq_false, Bool.false_eq_true, n10, nI_leI, i7, sSteps]
  | succ r ih =>
    intro i s I f hi h hw
    have kq := (h.1.2.2.2.1.q hq).1.1
    have x1 := h.1.1.1
    have i7 := (h.2.2.2.2.1.q hq).1.2.2.2.2.1
    have i6 := (h.2.2.2.2.1.q hq).1.2.2.2.1
    have q0 : ¬ k ≤ i := by omega
    rcases (hw.2.1 q hq).2.2.1 with h0 | h0
    · rw [h0] at i6
      obtain ⟨b, rc, be⟩ := h.2.2.1
      obtain ⟨I1, v1, v2, v3⟩ := c_swp I R K h.1.1 h.1.2.2.2.1 h.1.2.2.2.2.2.1 nc q cd bg f b rc be hW h.2.2.2.2.1 hw hq h0
      obtain ⟨I2, w1, w2, w3⟩ := ih (i + 1) (s + (if (sDo cd bg nc f q).1 = true then nI 1 else nI 0)) I1 _ (by omega) (h.now v3 v2) (hw.step hq hW).1
      unfold sSteps
      refine ⟨I2, ?_, w2, (FC.fn v3).tr w3⟩
      rw [s80_55]
      simp (disch := first | assumption | omega | exact ixN (by assumption) (by omega) (by omega) | exact ne_10 | exact ne_1000 | exact ne_4) only [s80_57, s80_58, s80_61, s80_61a, s80_62, s80_65, s80_68, s80_68a, s80_69, s80_69a, s80_70, s80_73, s80_76, ↓reduceIte, eq_self, Option.bind_some, Option.bind_none, Option.toList_some, Option.toList_none, List.cons_append, List.nil_append, am_rf_s, am_rf_n, am_c1_i, am_c1_r, am_c1_n, List.all_cons, List.all_nil, Bool.and_self, Bool.and_true, Bool.true_and, List.length_cons, List.length_nil, Nat.reduceAdd, Nat.reduceSub, Nat.reduceMul, Nat.reduceLeDiff, Nat.reduceLT, Nat.zero_le, Nat.le_refl, ne_10, ne_1000, ne_4, not_false_eq_true, or_true, true_or, Nat.one_ne_zero, Nat.zero_ne_one, Nat.reduceEqDiff, Bool.true_eq_false, Bool.false_eq_true, n10, nI_leI, nI_add, q0, i6, v1, w1]
    · rw [h0] at i6
      have e := sSteps_halt (cd := cd) (bg := bg) (nc := nc) hw hq h0 (r + 1) s
      rw [e]
      refine ⟨I, ?_, h, FC.rf I⟩
      simp (disch := first | assumption | omega | exact ixN (by assumption) (by omega) (by omega) | exact ne_10 | exact ne_1000 | exact ne_4) only [s80_55, s80_57, s80_58, s80_61, s80_61a, s80_62, s80_65, s80_79, s80_79a, s80_80, s80_83, s80_85, s80_86, ↓reduceIte, eq_self, Option.bind_some, Option.bind_none, Option.toList_some, Option.toList_none, List.cons_append, List.nil_append, am_rf_s, am_rf_n, am_c1_i, am_c1_r, am_c1_n, List.all_cons, List.all_nil, Bool.and_self, Bool.and_true, Bool.true_and, List.length_cons, List.length_nil, Nat.reduceAdd, Nat.reduceSub, Nat.reduceMul, Nat.reduceLeDiff, Nat.reduceLT, Nat.zero_le, Nat.le_refl, ne_10, ne_1000, ne_4, not_false_eq_true, or_true, true_or, Nat.one_ne_zero, Nat.zero_ne_one, Nat.reduceEqDiff, Bool.true_eq_false, Bool.false_eq_true, n10, nI_leI, q0, i6, i7]
theorem k_step (h : CH I R K n tx nc cd bg f cs wz) (hw : WF f e0) (hW : WC cd bg nc) (c k : Int32) : ∃ I' R', ev 80 0 [some (.ref 3), some (.int c), some (.int k), none, none, none] [] (I, R, K) = some (some (.int (sp_step cd bg nc f c k)), (I', R', K)) ∧ CH I' R' K n tx nc cd bg (sf_step cd bg nc f c k) (kpC (okStep f c k) cs) (kpW (okStep f c k) wz f cs) ∧ FC I I' ∧ XE R K R' K := by
  obtain ⟨x1, xt, xl, xd, xn, xh, -⟩ := id h.1.1
  have sb := h.1.2.2.2.1
  have kb := sb.1.1
  have kh := h.1.2.2.2.2.1.1
  unfold sp_step
  by_cases c0 : inR c 0 1 = false
  · have e : okStep f c k = false := by unfold okStep; rw [c0]; rfl
    have pn := k_prn I R K n nc cs tx cd bg f wz h c c0
    unfold sf_step
    rw [e, if_pos c0]
    refine ⟨I, R, ?_, h, FC.rf I, XE.rf R K⟩
    simp (disch := first | assumption | omega | exact ixN (by assumption) (by omega) (by omega) | exact ne_10 | exact ne_1000 | exact ne_4) only [s80_0, s80_0a, s80_1, s80_4, s80_5, s80_8, s80_8a, s80_9, s80_9a, s80_10, s80_10a, s80_13, s80_14, s80_15, s80_17, s80_20, s80_23, s80_24, s80_25, s80_25a, s80_26, s80_29, s80_32, s80_34, s80_35, s80_35a, s80_36, s80_39, s80_39a, s80_40, s80_43, s80_46, s80_46a, s80_47, s80_50, s80_52, s80_53, s80_55, s80_57, s80_58, s80_61, s80_61a, s80_62, s80_65, s80_68, s80_68a, s80_69, s80_69a, s80_70, s80_73, s80_76, s80_79, s80_79a, s80_80, s80_83, s80_85, s80_86, ↓reduceIte, eq_self, Option.bind_some, Option.bind_none, Option.toList_some, Option.toList_none, List.cons_append, List.nil_append, am_rf_s, am_rf_n, am_c1_i, am_c1_r, am_c1_n, List.all_cons, List.all_nil, Bool.and_self, Bool.and_true, Bool.true_and, List.length_cons, List.length_nil, Nat.reduceAdd, Nat.reduceSub, Nat.reduceMul, Nat.reduceLeDiff, Nat.reduceLT, Nat.zero_le, Nat.le_refl, ne_10, ne_1000, ne_4, not_false_eq_true, or_true, true_or, Nat.one_ne_zero, Nat.zero_ne_one, Nat.reduceEqDiff, Bool.true_eq_false, Bool.false_eq_true, n10, xn, pn]
  · have c0' := nf c0
    rw [if_neg c0]
    obtain ⟨q, q1, q2, rfl⟩ := inR_of c0' (by omega) (by omega)
    have pn := k_pro I R K n nc cs tx cd bg f wz h q (by omega)
    have kq := (sb.q (c := q) (by omega)).1.1
    have i6 := (h.2.2.2.2.1.q (c := q) (by omega)).1.2.2.2.1
    by_cases c1 : inR k 1 60 = false
    · have e : okStep f (nI q) k = false := by unfold okStep; rw [c1]; simp
      unfold sf_step
      rw [e, if_pos c1]
      refine ⟨I, R, ?_, h, FC.rf I, XE.rf R K⟩
      simp (disch := first | assumption | omega | exact ixN (by assumption) (by omega) (by omega) | exact ne_10 | exact ne_1000 | exact ne_4) only [s80_0, s80_0a, s80_1, s80_4, s80_5, s80_8, s80_8a, s80_9, s80_9a, s80_10, s80_10a, s80_13, s80_14, s80_15, s80_17, s80_20, s80_23, s80_24, s80_25, s80_25a, s80_26, s80_29, s80_32, s80_34, s80_35, s80_35a, s80_36, s80_39, s80_39a, s80_40, s80_43, s80_46, s80_46a, s80_47, s80_50, s80_52, s80_53, s80_55, s80_57, s80_58, s80_61, s80_61a, s80_62, s80_65, s80_68, s80_68a, s80_69, s80_69a, s80_70, s80_73, s80_76, s80_79, s80_79a, s80_80, s80_83, s80_85, s80_86, ↓reduceIte, eq_self, Option.bind_some, Option.bind_none, Option.toList_some, Option.toList_none, List.cons_append, List.nil_append, am_rf_s, am_rf_n, am_c1_i, am_c1_r, am_c1_n, List.all_cons, List.all_nil, Bool.and_self, Bool.and_true, Bool.true_and, List.length_cons, List.length_nil, Nat.reduceAdd, Nat.reduceSub, Nat.reduceMul, Nat.reduceLeDiff, Nat.reduceLT, Nat.zero_le, Nat.le_refl, ne_10, ne_1000, ne_4, not_false_eq_true, or_true, true_or, Nat.one_ne_zero, Nat.zero_ne_one, Nat.reduceEqDiff, Bool.true_eq_false, Bool.false_eq_true, n10, xn, pn, c_within, inR_e, c1, bI_f]
    · have c1' := nf c1
      rw [if_neg c1]
      obtain ⟨m, m1, m2, rfl⟩ := inR_of c1' (by omega) (by omega)
      rw [nI_clamp (show q < 2 ^ 31 by omega), nI_clamp (show m < 2 ^ 31 by omega)]
      rcases (hw.2.1 q (by omega)).2.2.1 with h0 | h0
      · have ok : okStep f (nI q) (nI m) = true := by unfold okStep; rw [c0', c1', nI_clamp (show q < 2 ^ 31 by omega), h0]; decide
        have es : sf_step cd bg nc f (nI q) (nI m) = (sSteps cd bg nc q m (nI 0) f).2 := by unfold sf_step; rw [ok, if_pos rfl, nI_clamp (show q < 2 ^ 31 by omega), nI_clamp (show m < 2 ^ 31 by omega)]
        rw [es, ok, h0, if_neg n01]
        rw [h0] at i6
        obtain ⟨J, S, v1, v2, v3, v4, v5⟩ := k_keep I R K n nc cs tx cd bg f wz h hw.wb
        have j7 := (v2.2.2.2.2.1.q (c := q) (by omega)).1.2.2.2.2.1
        obtain ⟨J2, w1, w2, w3⟩ := k_steps S K n nc (c3 cs + 1) tx cd bg (sW wz f cs) q m (by omega) (by omega) hW (nI q) (f (8 + 31 * q + 16)) m 0 (nI 0) J f (by omega) v2 hw
        have ea := (sSteps_WF (cd := cd) (bg := bg) (nc := nc) (c := q) (by omega) hW m (nI 0) f hw).2
        rw [ea] at w1
        have e3 : ∀ a b : Int32, a + (b - nI 0) - a = b := fun a b => by
          rw [show nI 0 = (0 : Int32) from rfl]; grind
        rw [e3] at w1
        refine ⟨J2, S, ?_, w2, v3.tr w3, v4⟩
        simp (disch := first | assumption | omega | exact ixN (by assumption) (by omega) (by omega) | exact ne_10 | exact ne_1000 | exact ne_4) only [s80_0, s80_0a, s80_1, s80_4, s80_5, s80_8, s80_8a, s80_9, s80_9a, s80_10, s80_10a, s80_13, s80_14, s80_15, s80_17, s80_20, s80_23, s80_24, s80_25, s80_25a, s80_26, s80_29, s80_32, s80_34, s80_35, s80_35a, s80_36, s80_39, s80_39a, s80_40, s80_43, s80_46, s80_46a, s80_47, s80_50, s80_52, s80_53, ↓reduceIte, eq_self, Option.bind_some, Option.bind_none, Option.toList_some, Option.toList_none, List.cons_append, List.nil_append, am_rf_s, am_rf_n, am_c1_i, am_c1_r, am_c1_n, List.all_cons, List.all_nil, Bool.and_self, Bool.and_true, Bool.true_and, List.length_cons, List.length_nil, Nat.reduceAdd, Nat.reduceSub, Nat.reduceMul, Nat.reduceLeDiff, Nat.reduceLT, Nat.zero_le, Nat.le_refl, ne_10, ne_1000, ne_4, not_false_eq_true, or_true, true_or, Nat.one_ne_zero, Nat.zero_ne_one, Nat.reduceEqDiff, Bool.true_eq_false, Bool.false_eq_true, n10, xn, xh, pn, c_within, inR_e, c1', bI_t, i6, v1, j7, w1]
      · have ok : okStep f (nI q) (nI m) = false := by unfold okStep; rw [nI_clamp (show q < 2 ^ 31 by omega), h0]; simp
        unfold sf_step
        rw [ok, if_pos h0]
        rw [h0] at i6
        refine ⟨I, R, ?_, h, FC.rf I, XE.rf R K⟩
        simp (disch := first | assumption | omega | exact ixN (by assumption) (by omega) (by omega) | exact ne_10 | exact ne_1000 | exact ne_4) only [s80_0, s80_0a, s80_1, s80_4, s80_5, s80_8, s80_8a, s80_9, s80_9a, s80_10, s80_10a, s80_13, s80_14, s80_15, s80_17, s80_20, s80_23, s80_24, s80_25, s80_25a, s80_26, s80_29, s80_32, s80_34, s80_35, s80_35a, s80_36, s80_39, s80_39a, s80_40, s80_43, s80_46, s80_46a, s80_47, s80_50, s80_52, s80_53, s80_55, s80_57, s80_58, s80_61, s80_61a, s80_62, s80_65, s80_68, s80_68a, s80_69, s80_69a, s80_70, s80_73, s80_76, s80_79, s80_79a, s80_80, s80_83, s80_85, s80_86, ↓reduceIte, eq_self, Option.bind_some, Option.bind_none, Option.toList_some, Option.toList_none, List.cons_append, List.nil_append, am_rf_s, am_rf_n, am_c1_i, am_c1_r, am_c1_n, List.all_cons, List.all_nil, Bool.and_self, Bool.and_true, Bool.true_and, List.length_cons, List.length_nil, Nat.reduceAdd, Nat.reduceSub, Nat.reduceMul, Nat.reduceLeDiff, Nat.reduceLT, Nat.zero_le, Nat.le_refl, ne_10, ne_1000, ne_4, not_false_eq_true, or_true, true_or, Nat.one_ne_zero, Nat.zero_ne_one, Nat.reduceEqDiff, Bool.true_eq_false, Bool.false_eq_true, n10, xn, pn, c_within, inR_e, c1', bI_t, i6]
theorem k_pion (h : CH I R K n tx nc cd bg f cs wz) (x : Int32) : ev 57 0 [some (.ref 14), some (.int x), none] [] (I, R, K) = some (some (.int (match pOn f x with
    | none => nI 0
    | some p => if f (70 + 208 * p) = nI 0 then nI 1 else nI 0)), (I, R, K)) := by
  have sb := h.1.2.2.2.1
  have kb := sb.1.1
  have po := c_probeOn I R K 14 f sb h.2.2.2.2.1 x
  cases q : pOn f x with
  | none =>
    rw [q] at po
    simp (disch := first | assumption | omega | exact ixN (by assumption) (by omega) (by omega) | exact ne_10 | exact ne_1000 | exact ne_4) only [s57_0, s57_0a, s57_1, s57_2, s57_5, s57_5a, s57_6, s57_6a, s57_7, s57_7a, s57_10, s57_10a, s57_11, s57_14, s57_17, s57_18, s57_21, s57_22, s57_22a, s57_22b, s57_22c, ↓reduceIte, eq_self, Option.bind_some, Option.bind_none, Option.toList_some, Option.toList_none, List.cons_append, List.nil_append, am_rf_s, am_rf_n, am_c1_i, am_c1_r, am_c1_n, List.all_cons, List.all_nil, Bool.and_self, Bool.and_true, Bool.true_and, List.length_cons, List.length_nil, Nat.reduceAdd, Nat.reduceSub, Nat.reduceMul, Nat.reduceLeDiff, Nat.reduceLT, Nat.zero_le, Nat.le_refl, ne_10, ne_1000, ne_4, not_false_eq_true, or_true, true_or, Nat.one_ne_zero, Nat.zero_ne_one, Nat.reduceEqDiff, Bool.true_eq_false, Bool.false_eq_true, n10, po, pRef]
  | some p =>
    rw [q] at po
    have hp : p < 6 := by have := (fs_lt q).2.1; omega
    have kp := (sb.2.2.2.2.2 p hp).2
    have i1 := (h.2.2.2.2.1.2.2.2 p hp).2.1
    dsimp only
    by_cases c0 : f (70 + 208 * p) = nI 0
    · rw [if_pos c0]
      rw [c0] at i1
      simp (disch := first | assumption | omega | exact ixN (by assumption) (by omega) (by omega) | exact ne_10 | exact ne_1000 | exact ne_4) only [s57_0, s57_0a, s57_1, s57_2, s57_5, s57_5a, s57_6, s57_6a, s57_7, s57_7a, s57_10, s57_10a, s57_11, s57_14, s57_17, s57_18, s57_21, s57_22, s57_22a, s57_22b, s57_22c, ↓reduceIte, eq_self, Option.bind_some, Option.bind_none, Option.toList_some, Option.toList_none, List.cons_append, List.nil_append, am_rf_s, am_rf_n, am_c1_i, am_c1_r, am_c1_n, List.all_cons, List.all_nil, Bool.and_self, Bool.and_true, Bool.true_and, List.length_cons, List.length_nil, Nat.reduceAdd, Nat.reduceSub, Nat.reduceMul, Nat.reduceLeDiff, Nat.reduceLT, Nat.zero_le, Nat.le_refl, ne_10, ne_1000, ne_4, not_false_eq_true, or_true, true_or, Nat.one_ne_zero, Nat.zero_ne_one, Nat.reduceEqDiff, Bool.true_eq_false, Bool.false_eq_true, n10, po, pRef, i1]
    · rw [if_neg c0]
      rw [← i1] at c0
      simp (disch := first | assumption | omega | exact ixN (by assumption) (by omega) (by omega) | exact ne_10 | exact ne_1000 | exact ne_4) only [s57_0, s57_0a, s57_1, s57_2, s57_5, s57_5a, s57_6, s57_6a, s57_7, s57_7a, s57_10, s57_10a, s57_11, s57_14, s57_17, s57_18, s57_21, s57_22, s57_22a, s57_22b, s57_22c, ↓reduceIte, eq_self, Option.bind_some, Option.bind_none, Option.toList_some, Option.toList_none, List.cons_append, List.nil_append, am_rf_s, am_rf_n, am_c1_i, am_c1_r, am_c1_n, List.all_cons, List.all_nil, Bool.and_self, Bool.and_true, Bool.true_and, List.length_cons, List.length_nil, Nat.reduceAdd, Nat.reduceSub, Nat.reduceMul, Nat.reduceLeDiff, Nat.reduceLT, Nat.zero_le, Nat.le_refl, ne_10, ne_1000, ne_4, not_false_eq_true, or_true, true_or, Nat.one_ne_zero, Nat.zero_ne_one, Nat.reduceEqDiff, Bool.true_eq_false, Bool.false_eq_true, n10, po, pRef, c0]
theorem k_code (h : CH I R K n tx nc cd bg f cs wz) (hW : WC cd bg nc) (x r : Int32) : ev 83 0 [some (.ref 3), some (.int x), some (.int r), none] [] (I, R, K) = some (some (.int (sp_code nc cd f x r)), (I, R, K)) := by
  obtain ⟨x1, xt, xl, xd, xn, xh, -⟩ := id h.1.1
  have kb := h.1.2.2.2.1.1.1
  have kl := h.1.2.1.1
  obtain ⟨b, rc, be⟩ := h.2.2.1
  have ch := c_has I R K 6 nc cd rc.1 rc.2.1 x
  have pi := k_pion I R K n nc cs tx cd bg f wz h x
  unfold sp_code
  rw [isC_hs hW.1 hW.2.1]
  by_cases c1 : hs nc x = false
  · rw [c1] at ch
    rw [if_pos c1]
    simp (disch := first | assumption | omega | exact ixN (by assumption) (by omega) (by omega) | exact ne_10 | exact ne_1000 | exact ne_4) only [s83_0, s83_0a, s83_1, s83_4, s83_5, s83_8, s83_11, s83_12, s83_13, s83_14, s83_17, s83_20, s83_21, s83_22, s83_23, s83_26, s83_26a, s83_27, s83_30, s83_31, s83_34, s83_37, s83_38, s83_41, s83_42, s83_43, s83_44, s83_47, s83_49, s83_52, s83_52a, s83_53, s83_56, s83_57, s83_60, ↓reduceIte, eq_self, Option.bind_some, Option.bind_none, Option.toList_some, Option.toList_none, List.cons_append, List.nil_append, am_rf_s, am_rf_n, am_c1_i, am_c1_r, am_c1_n, List.all_cons, List.all_nil, Bool.and_self, Bool.and_true, Bool.true_and, List.length_cons, List.length_nil, Nat.reduceAdd, Nat.reduceSub, Nat.reduceMul, Nat.reduceLeDiff, Nat.reduceLT, Nat.zero_le, Nat.le_refl, ne_10, ne_1000, ne_4, not_false_eq_true, or_true, true_or, Nat.one_ne_zero, Nat.zero_ne_one, Nat.reduceEqDiff, Bool.true_eq_false, Bool.false_eq_true, n10, xl, ch, bI_f]
  · have c1' := nf c1
    rw [if_neg c1]
    rw [c1'] at ch
    obtain ⟨j, hj, rfl⟩ := hs_of c1' (by have := hW.2.1; omega)
    have la := c_letterAt I R K 6 nc cd rc.1 rc.2.1 j (by have := hW.2.1; omega)
    have et : tN cd nc j = cd j := by unfold tN; rw [if_pos hj]
    rw [et] at la
    rw [nI_clamp (show j < 2 ^ 31 by have := hW.2.1; omega)]
    by_cases c2 : inR r 0 1 = false
    · rw [if_pos c2]
      simp (disch := first | assumption | omega | exact ixN (by assumption) (by omega) (by omega) | exact ne_10 | exact ne_1000 | exact ne_4) only [s83_0, s83_0a, s83_1, s83_4, s83_5, s83_8, s83_11, s83_12, s83_13, s83_14, s83_17, s83_20, s83_21, s83_22, s83_23, s83_26, s83_26a, s83_27, s83_30, s83_31, s83_34, s83_37, s83_38, s83_41, s83_42, s83_43, s83_44, s83_47, s83_49, s83_52, s83_52a, s83_53, s83_56, s83_57, s83_60, ↓reduceIte, eq_self, Option.bind_some, Option.bind_none, Option.toList_some, Option.toList_none, List.cons_append, List.nil_append, am_rf_s, am_rf_n, am_c1_i, am_c1_r, am_c1_n, List.all_cons, List.all_nil, Bool.and_self, Bool.and_true, Bool.true_and, List.length_cons, List.length_nil, Nat.reduceAdd, Nat.reduceSub, Nat.reduceMul, Nat.reduceLeDiff, Nat.reduceLT, Nat.zero_le, Nat.le_refl, ne_10, ne_1000, ne_4, not_false_eq_true, or_true, true_or, Nat.one_ne_zero, Nat.zero_ne_one, Nat.reduceEqDiff, Bool.true_eq_false, Bool.false_eq_true, n10, xl, ch, bI_t, bI_f, c_within, inR_e, c2]
    · have c2' := nf c2
      rw [if_neg c2]
      by_cases c3' : r = nI 0
      · subst c3'
        rw [if_pos rfl]
        cases q : pOn f (nI j) with
        | none =>
          rw [q] at pi
          simp (disch := first | assumption | omega | exact ixN (by assumption) (by omega) (by omega) | exact ne_10 | exact ne_1000 | exact ne_4) only [s83_0, s83_0a, s83_1, s83_4, s83_5, s83_8, s83_11, s83_12, s83_13, s83_14, s83_17, s83_20, s83_21, s83_22, s83_23, s83_26, s83_26a, s83_27, s83_30, s83_31, s83_34, s83_37, s83_38, s83_41, s83_42, s83_43, s83_44, s83_47, s83_49, s83_52, s83_52a, s83_53, s83_56, s83_57, s83_60, ↓reduceIte, eq_self, Option.bind_some, Option.bind_none, Option.toList_some, Option.toList_none, List.cons_append, List.nil_append, am_rf_s, am_rf_n, am_c1_i, am_c1_r, am_c1_n, List.all_cons, List.all_nil, Bool.and_self, Bool.and_true, Bool.true_and, List.length_cons, List.length_nil, Nat.reduceAdd, Nat.reduceSub, Nat.reduceMul, Nat.reduceLeDiff, Nat.reduceLT, Nat.zero_le, Nat.le_refl, ne_10, ne_1000, ne_4, not_false_eq_true, or_true, true_or, Nat.one_ne_zero, Nat.zero_ne_one, Nat.reduceEqDiff, Bool.true_eq_false, Bool.false_eq_true, n10, xl, xn, ch, bI_t, c_within, inR_e, c2', pi, la]
        | some p =>
          rw [q] at pi
          dsimp only at pi ⊢
          by_cases c4 : f (70 + 208 * p) = nI 0
          · rw [if_pos c4] at pi ⊢
            simp (disch := first | assumption | omega | exact ixN (by assumption) (by omega) (by omega) | exact ne_10 | exact ne_1000 | exact ne_4) only [s83_0, s83_0a, s83_1, s83_4, s83_5, s83_8, s83_11, s83_12, s83_13, s83_14, s83_17, s83_20, s83_21, s83_22, s83_23, s83_26, s83_26a, s83_27, s83_30, s83_31, s83_34, s83_37, s83_38, s83_41, s83_42, s83_43, s83_44, s83_47, s83_49, s83_52, s83_52a, s83_53, s83_56, s83_57, s83_60, ↓reduceIte, eq_self, Option.bind_some, Option.bind_none, Option.toList_some, Option.toList_none, List.cons_append, List.nil_append, am_rf_s, am_rf_n, am_c1_i, am_c1_r, am_c1_n, List.all_cons, List.all_nil, Bool.and_self, Bool.and_true, Bool.true_and, List.length_cons, List.length_nil, Nat.reduceAdd, Nat.reduceSub, Nat.reduceMul, Nat.reduceLeDiff, Nat.reduceLT, Nat.zero_le, Nat.le_refl, ne_10, ne_1000, ne_4, not_false_eq_true, or_true, true_or, Nat.one_ne_zero, Nat.zero_ne_one, Nat.reduceEqDiff, Bool.true_eq_false, Bool.false_eq_true, n10, xl, xn, ch, bI_t, c_within, inR_e, c2', pi, la]
          · rw [if_neg c4] at pi ⊢
            simp (disch := first | assumption | omega | exact ixN (by assumption) (by omega) (by omega) | exact ne_10 | exact ne_1000 | exact ne_4) only [s83_0, s83_0a, s83_1, s83_4, s83_5, s83_8, s83_11, s83_12, s83_13, s83_14, s83_17, s83_20, s83_21, s83_22, s83_23, s83_26, s83_26a, s83_27, s83_30, s83_31, s83_34, s83_37, s83_38, s83_41, s83_42, s83_43, s83_44, s83_47, s83_49, s83_52, s83_52a, s83_53, s83_56, s83_57, s83_60, ↓reduceIte, eq_self, Option.bind_some, Option.bind_none, Option.toList_some, Option.toList_none, List.cons_append, List.nil_append, am_rf_s, am_rf_n, am_c1_i, am_c1_r, am_c1_n, List.all_cons, List.all_nil, Bool.and_self, Bool.and_true, Bool.true_and, List.length_cons, List.length_nil, Nat.reduceAdd, Nat.reduceSub, Nat.reduceMul, Nat.reduceLeDiff, Nat.reduceLT, Nat.zero_le, Nat.le_refl, ne_10, ne_1000, ne_4, not_false_eq_true, or_true, true_or, Nat.one_ne_zero, Nat.zero_ne_one, Nat.reduceEqDiff, Bool.true_eq_false, Bool.false_eq_true, n10, xl, xn, ch, bI_t, c_within, inR_e, c2', pi, la]
      · rw [if_neg c3']
        simp (disch := first | assumption | omega | exact ixN (by assumption) (by omega) (by omega) | exact ne_10 | exact ne_1000 | exact ne_4) only [s83_0, s83_0a, s83_1, s83_4, s83_5, s83_8, s83_11, s83_12, s83_13, s83_14, s83_17, s83_20, s83_21, s83_22, s83_23, s83_26, s83_26a, s83_27, s83_30, s83_31, s83_34, s83_37, s83_38, s83_41, s83_42, s83_43, s83_44, s83_47, s83_49, s83_52, s83_52a, s83_53, s83_56, s83_57, s83_60, ↓reduceIte, eq_self, Option.bind_some, Option.bind_none, Option.toList_some, Option.toList_none, List.cons_append, List.nil_append, am_rf_s, am_rf_n, am_c1_i, am_c1_r, am_c1_n, List.all_cons, List.all_nil, Bool.and_self, Bool.and_true, Bool.true_and, List.length_cons, List.length_nil, Nat.reduceAdd, Nat.reduceSub, Nat.reduceMul, Nat.reduceLeDiff, Nat.reduceLT, Nat.zero_le, Nat.le_refl, ne_10, ne_1000, ne_4, not_false_eq_true, or_true, true_or, Nat.one_ne_zero, Nat.zero_ne_one, Nat.reduceEqDiff, Bool.true_eq_false, Bool.false_eq_true, n10, xl, xn, ch, bI_t, c_within, inR_e, c2', c3', la]
theorem k_memory (h : CH I R K n tx nc cd bg f cs wz) (k : Int32) : ev 84 0 [some (.ref 3), some (.int k)] [] (I, R, K) = some (some (.int (sp_memory f k)), (I, R, K)) := by
  obtain ⟨x1, xt, xl, xd, xn, xh, -⟩ := id h.1.1
  have sb := h.1.2.2.2.1
  have kb := sb.1.1
  have rm : R 14 0 = some 15 := sb.2.1.1
  have ml : ML R K 15 := sb.2.2.1
  have km := ml.1
  have mh := c_mhas I R K 15 ml k
  unfold sp_memory
  by_cases c0 : inR k 0 7 = false
  · rw [if_pos c0]
    rw [c0] at mh
    simp (disch := first | assumption | omega | exact ixN (by assumption) (by omega) (by omega) | exact ne_10 | exact ne_1000 | exact ne_4) only [s84_0, s84_0a, s84_1, s84_4, s84_7, s84_8, s84_11, s84_14, s84_14a, s84_15, s84_18, s84_21, s84_22, s84_25, s84_28, s84_29, ↓reduceIte, eq_self, Option.bind_some, Option.bind_none, Option.toList_some, Option.toList_none, List.cons_append, List.nil_append, am_rf_s, am_rf_n, am_c1_i, am_c1_r, am_c1_n, List.all_cons, List.all_nil, Bool.and_self, Bool.and_true, Bool.true_and, List.length_cons, List.length_nil, Nat.reduceAdd, Nat.reduceSub, Nat.reduceMul, Nat.reduceLeDiff, Nat.reduceLT, Nat.zero_le, Nat.le_refl, ne_10, ne_1000, ne_4, not_false_eq_true, or_true, true_or, Nat.one_ne_zero, Nat.zero_ne_one, Nat.reduceEqDiff, Bool.true_eq_false, Bool.false_eq_true, n10, xn, rm, mh, bI_f]
  · have c0' := nf c0
    rw [if_neg c0]
    rw [c0'] at mh
    obtain ⟨q, q1, q2, rfl⟩ := inR_of c0' (by omega) (by omega)
    have mg := c_mget I R K 15 ml q (by omega)
    have mq : I (15 + 1) q = f q := h.2.2.2.2.1.1 q (by omega)
    rw [mq] at mg
    rw [nI_clamp (show q < 2 ^ 31 by omega)]
    simp (disch := first | assumption | omega | exact ixN (by assumption) (by omega) (by omega) | exact ne_10 | exact ne_1000 | exact ne_4) only [s84_0, s84_0a, s84_1, s84_4, s84_7, s84_8, s84_11, s84_14, s84_14a, s84_15, s84_18, s84_21, s84_22, s84_25, s84_28, s84_29, ↓reduceIte, eq_self, Option.bind_some, Option.bind_none, Option.toList_some, Option.toList_none, List.cons_append, List.nil_append, am_rf_s, am_rf_n, am_c1_i, am_c1_r, am_c1_n, List.all_cons, List.all_nil, Bool.and_self, Bool.and_true, Bool.true_and, List.length_cons, List.length_nil, Nat.reduceAdd, Nat.reduceSub, Nat.reduceMul, Nat.reduceLeDiff, Nat.reduceLT, Nat.zero_le, Nat.le_refl, ne_10, ne_1000, ne_4, not_false_eq_true, or_true, true_or, Nat.one_ne_zero, Nat.zero_ne_one, Nat.reduceEqDiff, Bool.true_eq_false, Bool.false_eq_true, n10, xn, rm, mh, bI_t, mg]
end DL
