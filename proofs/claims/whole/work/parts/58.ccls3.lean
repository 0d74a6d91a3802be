/-! the class: probe, start, step -/
theorem RS.lay {I : am_I} {R : am_R} {K : am_K} {f : Nat → Int32} (h : RS I R K 14 f) {p : Nat} (hp : p < 6) (kd x : Int32) : RS (st I (32 + p) (uf (uf (uf (uf (uf (uf (uf (I (32 + p)) 1 (nI 0)) 2 kd) 3 x) 4 (nI 0)) 5 (nI 0)) 6 (nI 0)) 7 (nI 0))) (am_ur R (32 + p) 8 none) K 14 (sProbe f p kd x) := by
  obtain ⟨s1, s2, s3, s4⟩ := h
  have fn : ∀ g, FN I (st I (32 + p) g) := fun g => FN.st I _ (by omega) (by omega)
  have out : ∀ j, (j < 70 + 208 * p ∨ 70 + 208 * p + 208 ≤ j) → sProbe f p kd x j = f j := fun j hj => by
    unfold sProbe; rw [uf_ne _ _ (by omega), uf_ne _ _ (by omega), if_neg (by omega)]
  have ins : ∀ i, i < 208 → i ≠ 1 → i ≠ 2 → sProbe f p kd x (70 + 208 * p + i) = nI 0 := fun i h1 h2 h3 => by
    unfold sProbe; rw [uf_ne _ _ (by omega), uf_ne _ _ (by omega), if_pos (by omega)]
  have i1 : sProbe f p kd x (70 + 208 * p + 1) = kd := by unfold sProbe; rw [uf_ne _ _ (by omega), uf_eq]
  have i2 : sProbe f p kd x (70 + 208 * p + 2) = x := by unfold sProbe; rw [uf_eq]
  have i0 : sProbe f p kd x (70 + 208 * p) = nI 0 := ins 0 (by omega) (by omega) (by omega)
  refine ⟨fun k hk => by rw [st_ne _ _ (by omega), out _ (by omega)]; exact s1 k hk, s2.cg (fun j hj => st_ne _ _ (by omega)) (fun j _ _ => out _ (by omega)), s3.cg (fun j hj => st_ne _ _ (by omega)) (fun j _ _ => out _ (by omega)), fun q hq => ?_⟩
  by_cases e : q = p
  · subst e
    obtain ⟨p1, -, -, -⟩ := s4 q hq
    rw [show 14 + 18 + q = 32 + q by omega] at *
    refine ⟨by first | assumption | (simp (disch := omega) only [st_eq, st_ne, uf_eq, uf_ne]; done) | (simp (disch := omega) only [st_eq, st_ne, uf_eq, uf_ne]; assumption), by rw [i0]; first | assumption | (simp (disch := omega) only [st_eq, st_ne, uf_eq, uf_ne]; done) | (simp (disch := omega) only [st_eq, st_ne, uf_eq, uf_ne]; assumption), ⟨0, by omega, i0⟩, fun _ => ⟨⟨?_, ?_, ?_, ?_, ?_, ?_⟩, Or.inl ⟨?_, ?_⟩⟩⟩
    · rw [i1]; first | assumption | (simp (disch := omega) only [st_eq, st_ne, uf_eq, uf_ne]; done) | (simp (disch := omega) only [st_eq, st_ne, uf_eq, uf_ne]; assumption)
    · rw [i2]; first | assumption | (simp (disch := omega) only [st_eq, st_ne, uf_eq, uf_ne]; done) | (simp (disch := omega) only [st_eq, st_ne, uf_eq, uf_ne]; assumption)
    · rw [ins 3 (by omega) (by omega) (by omega)]; first | assumption | (simp (disch := omega) only [st_eq, st_ne, uf_eq, uf_ne]; done) | (simp (disch := omega) only [st_eq, st_ne, uf_eq, uf_ne]; assumption)
    · rw [ins 4 (by omega) (by omega) (by omega)]; first | assumption | (simp (disch := omega) only [st_eq, st_ne, uf_eq, uf_ne]; done) | (simp (disch := omega) only [st_eq, st_ne, uf_eq, uf_ne]; assumption)
    · rw [ins 5 (by omega) (by omega) (by omega)]; first | assumption | (simp (disch := omega) only [st_eq, st_ne, uf_eq, uf_ne]; done) | (simp (disch := omega) only [st_eq, st_ne, uf_eq, uf_ne]; assumption)
    · rw [ins 6 (by omega) (by omega) (by omega)]; first | assumption | (simp (disch := omega) only [st_eq, st_ne, uf_eq, uf_ne]; done) | (simp (disch := omega) only [st_eq, st_ne, uf_eq, uf_ne]; assumption)
    · unfold am_ur; rw [if_pos ⟨rfl, rfl⟩]
    · exact ins 7 (by omega) (by omega) (by omega)
  · exact (s4 q hq).fr (st_ne _ _ (by omega)) (by unfold am_ur; rw [if_neg (by omega)]) (XE.ur R K _ _) ((fn _).dy K) (fun j _ _ => out _ (by omega))
theorem cb_le {b : Nat → Bool} : ∀ {r p : Nat}, cb b r p ≤ r
  | 0, _ => Nat.le_refl _
  | r + 1, p => by
    unfold cb
    have := cb_le (b := b) (r := r) (p := p + 1)
    split <;> omega
theorem cb_fs {b : Nat → Bool} : ∀ {r p q : Nat}, fs b r p = some q → 1 ≤ cb b r p
  | 0, _, _, h => by cases h
  | r + 1, p, q, h => by
    unfold fs at h
    unfold cb
    split at h
    · rename_i z; rw [if_pos z]; omega
    · have := cb_fs h; omega
theorem gone_many {f : Nat → Int32} : (gone f = none) = (many f (nI 3) = nI 0) := by
  have e : many f (nI 3) = nI (0 + cb (fun p => decide (f (70 + 208 * p) = nI 3)) 6 0) := by
    unfold many
    exact cu_cb (fun k _ _ => by by_cases z : f (70 + 208 * k) = nI 3 <;> simp [z])
  have hl := cb_le (b := fun p => decide (f (70 + 208 * p) = nI 3)) (r := 6) (p := 0)
  apply propext
  constructor
  · intro h
    by_cases q : many f (nI 3) = nI 0
    · exact q
    · obtain ⟨p, -, hp⟩ := gone_of q
      rw [h] at hp; cases hp
  · intro h
    cases q : gone f with
    | none => rfl
    | some p =>
      have := cb_fs q
      rw [e, nI_eq (by omega) (by omega)] at h
      omega
section DJ
variable (I : am_I) (R : am_R) (K : am_K) (n nc cs : Nat) (tx cd bg f wz : Nat → Int32)
theorem bA_b {bg : Nat → Int32} {b : Nat → Bool} (hb : BE bg b) {x : Int32} (h2 : nc ≤ 60) (hx : hs nc x = true) : (bA nc b x = false) = (am_b (bg x.toNatClampNeg) = nI 0) := by
  obtain ⟨k, hk, rfl⟩ := hs_of hx (by omega)
  unfold bA
  rw [hx, nI_clamp (by omega), hb k (by omega)]
  simp
theorem k_probe (h : CH I R K n tx nc cd bg f cs wz) (hw : WF f e0) (hW : WC cd bg nc) (kd x : Int32) : ∃ I' R', ev 75 0 [some (.ref 3), some (.int kd), some (.int x), none] [] (I, R, K) = some (some (.int (sp_probe bg nc f kd x)), (I', R', K)) ∧ CH I' R' K n tx nc cd bg (sf_probe bg nc f kd x) (kpC (okProbe bg nc f kd x) cs) (kpW (okProbe bg nc f kd x) wz f cs) ∧ FC I I' ∧ XE R K R' K := by
  obtain ⟨x1, xt, xl, xd, xn, xh, -⟩ := id h.1.1
  have sb := h.1.2.2.2.1
  have kb := sb.1.1
  have kh := h.1.2.2.2.2.1.1
  have kl := h.1.2.1.1
  obtain ⟨b, rc, be⟩ := h.2.2.1
  have ch := c_has I R K 6 nc cd rc.1 rc.2.1 x
  have cbg := c_beginsAt I R K 6 nc cd b rc.1 rc.2.1 rc.2.2 x
  have po := c_probeOn I R K 14 f sb h.2.2.2.2.1 x
  have lg := c_lowestGone I R K 14 f sb h.2.2.2.2.1
  unfold sp_probe
  by_cases c0 : inR kd 0 1 = false
  · have e : okProbe bg nc f kd x = false := by unfold okProbe; rw [c0]; rfl
    unfold sf_probe
    rw [e, if_pos c0]
    refine ⟨I, R, ?_, h, FC.rf I, XE.rf R K⟩
    simp (disch := first | assumption | omega | exact ixN (by assumption) (by omega) (by omega) | exact ne_10 | exact ne_1000 | exact ne_4) only [s75_0, s75_1, s75_2, s75_3, s75_6, s75_9, s75_9a, s75_10, s75_13, s75_14, s75_17, s75_20, s75_21, s75_22, s75_22a, s75_23, s75_26, s75_27, s75_30, s75_33, s75_33a, s75_34, s75_37, s75_38, s75_41, s75_41a, s75_44, s75_46, s75_47, s75_47a, s75_48, s75_51, s75_54, s75_54a, s75_55, s75_55a, s75_56, s75_56a, s75_59, s75_61, s75_62, s75_62a, s75_63, s75_66, s75_66a, s75_67, s75_70, s75_73, s75_73a, s75_74, s75_75, s75_76, s75_79, s75_79a, s75_80, s75_83, ↓reduceIte, eq_self, Option.bind_some, Option.bind_none, Option.toList_some, Option.toList_none, List.cons_append, List.nil_append, am_rf_s, am_rf_n, am_c1_i, am_c1_r, am_c1_n, List.all_cons, List.all_nil, Bool.and_self, Bool.and_true, Bool.true_and, List.length_cons, List.length_nil, Nat.reduceAdd, Nat.reduceSub, Nat.reduceMul, Nat.reduceLeDiff, Nat.reduceLT, Nat.zero_le, Nat.le_refl, ne_10, ne_1000, ne_4, not_false_eq_true, or_true, true_or, Nat.one_ne_zero, Nat.zero_ne_one, Nat.reduceEqDiff, Bool.true_eq_false, Bool.false_eq_true, n10, c_within, inR_e, c0, bI_f]
  · have c0' := nf c0
    rw [if_neg c0]
    rw [isC_hs hW.1 hW.2.1]
    by_cases c1 : hs nc x = false
    · have e : okProbe bg nc f kd x = false := by unfold okProbe; rw [isC_hs hW.1 hW.2.1, c1]; simp
      unfold sf_probe
      rw [c1] at ch
      rw [e, if_pos c1]
      refine ⟨I, R, ?_, h, FC.rf I, XE.rf R K⟩
      simp (disch := first | assumption | omega | exact ixN (by assumption) (by omega) (by omega) | exact ne_10 | exact ne_1000 | exact ne_4) only [s75_0, s75_1, s75_2, s75_3, s75_6, s75_9, s75_9a, s75_10, s75_13, s75_14, s75_17, s75_20, s75_21, s75_22, s75_22a, s75_23, s75_26, s75_27, s75_30, s75_33, s75_33a, s75_34, s75_37, s75_38, s75_41, s75_41a, s75_44, s75_46, s75_47, s75_47a, s75_48, s75_51, s75_54, s75_54a, s75_55, s75_55a, s75_56, s75_56a, s75_59, s75_61, s75_62, s75_62a, s75_63, s75_66, s75_66a, s75_67, s75_70, s75_73, s75_73a, s75_74, s75_75, s75_76, s75_79, s75_79a, s75_80, s75_83, ↓reduceIte, eq_self, Option.bind_some, Option.bind_none, Option.toList_some, Option.toList_none, List.cons_append, List.nil_append, am_rf_s, am_rf_n, am_c1_i, am_c1_r, am_c1_n, List.all_cons, List.all_nil, Bool.and_self, Bool.and_true, Bool.true_and, List.length_cons, List.length_nil, Nat.reduceAdd, Nat.reduceSub, Nat.reduceMul, Nat.reduceLeDiff, Nat.reduceLT, Nat.zero_le, Nat.le_refl, ne_10, ne_1000, ne_4, not_false_eq_true, or_true, true_or, Nat.one_ne_zero, Nat.zero_ne_one, Nat.reduceEqDiff, Bool.true_eq_false, Bool.false_eq_true, n10, c_within, inR_e, c0', bI_t, bI_f, xl, ch]
    · have c1' := nf c1
      rw [if_neg c1]
      rw [c1'] at ch
      have bb := bA_b nc be hW.2.1 c1'
      by_cases c2 : am_b (bg x.toNatClampNeg) = nI 0
      · have e : okProbe bg nc f kd x = false := by unfold okProbe; rw [c2]; simp
        unfold sf_probe
        have c2' : bA nc b x = false := by rw [bb]; exact c2
        rw [c2'] at cbg
        rw [e, if_pos c2]
        refine ⟨I, R, ?_, h, FC.rf I, XE.rf R K⟩
        simp (disch := first | assumption | omega | exact ixN (by assumption) (by omega) (by omega) | exact ne_10 | exact ne_1000 | exact ne_4) only [s75_0, s75_1, s75_2, s75_3, s75_6, s75_9, s75_9a, s75_10, s75_13, s75_14, s75_17, s75_20, s75_21, s75_22, s75_22a, s75_23, s75_26, s75_27, s75_30, s75_33, s75_33a, s75_34, s75_37, s75_38, s75_41, s75_41a, s75_44, s75_46, s75_47, s75_47a, s75_48, s75_51, s75_54, s75_54a, s75_55, s75_55a, s75_56, s75_56a, s75_59, s75_61, s75_62, s75_62a, s75_63, s75_66, s75_66a, s75_67, s75_70, s75_73, s75_73a, s75_74, s75_75, s75_76, s75_79, s75_79a, s75_80, s75_83, ↓reduceIte, eq_self, Option.bind_some, Option.bind_none, Option.toList_some, Option.toList_none, List.cons_append, List.nil_append, am_rf_s, am_rf_n, am_c1_i, am_c1_r, am_c1_n, List.all_cons, List.all_nil, Bool.and_self, Bool.and_true, Bool.true_and, List.length_cons, List.length_nil, Nat.reduceAdd, Nat.reduceSub, Nat.reduceMul, Nat.reduceLeDiff, Nat.reduceLT, Nat.zero_le, Nat.le_refl, ne_10, ne_1000, ne_4, not_false_eq_true, or_true, true_or, Nat.one_ne_zero, Nat.zero_ne_one, Nat.reduceEqDiff, Bool.true_eq_false, Bool.false_eq_true, n10, c_within, inR_e, c0', bI_t, bI_f, xl, ch, cbg]
      · have c2' : bA nc b x = true := nf (by rw [bb]; exact c2)
        rw [c2'] at cbg
        rw [if_neg c2]
        cases c3' : pOn f x with
        | some y =>
          have e : okProbe bg nc f kd x = false := by unfold okProbe; rw [c3']; simp
          unfold sf_probe
          rw [c3'] at po
          rw [e, if_pos (show (some y).isNone = false from rfl)]
          refine ⟨I, R, ?_, h, FC.rf I, XE.rf R K⟩
          simp (disch := first | assumption | omega | exact ixN (by assumption) (by omega) (by omega) | exact ne_10 | exact ne_1000 | exact ne_4) only [s75_0, s75_1, s75_2, s75_3, s75_6, s75_9, s75_9a, s75_10, s75_13, s75_14, s75_17, s75_20, s75_21, s75_22, s75_22a, s75_23, s75_26, s75_27, s75_30, s75_33, s75_33a, s75_34, s75_37, s75_38, s75_41, s75_41a, s75_44, s75_46, s75_47, s75_47a, s75_48, s75_51, s75_54, s75_54a, s75_55, s75_55a, s75_56, s75_56a, s75_59, s75_61, s75_62, s75_62a, s75_63, s75_66, s75_66a, s75_67, s75_70, s75_73, s75_73a, s75_74, s75_75, s75_76, s75_79, s75_79a, s75_80, s75_83, ↓reduceIte, eq_self, Option.bind_some, Option.bind_none, Option.toList_some, Option.toList_none, List.cons_append, List.nil_append, am_rf_s, am_rf_n, am_c1_i, am_c1_r, am_c1_n, List.all_cons, List.all_nil, Bool.and_self, Bool.and_true, Bool.true_and, List.length_cons, List.length_nil, Nat.reduceAdd, Nat.reduceSub, Nat.reduceMul, Nat.reduceLeDiff, Nat.reduceLT, Nat.zero_le, Nat.le_refl, ne_10, ne_1000, ne_4, not_false_eq_true, or_true, true_or, Nat.one_ne_zero, Nat.zero_ne_one, Nat.reduceEqDiff, Bool.true_eq_false, Bool.false_eq_true, n10, c_within, inR_e, c0', bI_t, xl, xn, ch, cbg, po, pRef]
        | none =>
          rw [c3'] at po
          rw [if_neg (by decide)]
          cases c4 : gone f with
          | none =>
            have nm : many f (nI 3) = nI 0 := by rw [← gone_many]; exact c4
            have e : okProbe bg nc f kd x = false := by
              unfold okProbe; rw [nm]; simp
            unfold sf_probe
            rw [c4] at lg
            rw [e, if_pos nm]
            refine ⟨I, R, ?_, h, FC.rf I, XE.rf R K⟩
            simp (disch := first | assumption | omega | exact ixN (by assumption) (by omega) (by omega) | exact ne_10 | exact ne_1000 | exact ne_4) only [s75_0, s75_1, s75_2, s75_3, s75_6, s75_9, s75_9a, s75_10, s75_13, s75_14, s75_17, s75_20, s75_21, s75_22, s75_22a, s75_23, s75_26, s75_27, s75_30, s75_33, s75_33a, s75_34, s75_37, s75_38, s75_41, s75_41a, s75_44, s75_46, s75_47, s75_47a, s75_48, s75_51, s75_54, s75_54a, s75_55, s75_55a, s75_56, s75_56a, s75_59, s75_61, s75_62, s75_62a, s75_63, s75_66, s75_66a, s75_67, s75_70, s75_73, s75_73a, s75_74, s75_75, s75_76, s75_79, s75_79a, s75_80, s75_83, ↓reduceIte, eq_self, Option.bind_some, Option.bind_none, Option.toList_some, Option.toList_none, List.cons_append, List.nil_append, am_rf_s, am_rf_n, am_c1_i, am_c1_r, am_c1_n, List.all_cons, List.all_nil, Bool.and_self, Bool.and_true, Bool.true_and, List.length_cons, List.length_nil, Nat.reduceAdd, Nat.reduceSub, Nat.reduceMul, Nat.reduceLeDiff, Nat.reduceLT, Nat.zero_le, Nat.le_refl, ne_10, ne_1000, ne_4, not_false_eq_true, or_true, true_or, Nat.one_ne_zero, Nat.zero_ne_one, Nat.reduceEqDiff, Bool.true_eq_false, Bool.false_eq_true, n10, c_within, inR_e, c0', bI_t, xl, xn, ch, cbg, po, lg, pRef]
          | some p =>
            have hp : p < 6 := by have := (fs_lt c4).2.1; omega
            have nm : ¬ many f (nI 3) = nI 0 := by rw [← gone_many, c4]; simp
            have e : okProbe bg nc f kd x = true := by unfold okProbe; rw [c0', isC_hs hW.1 hW.2.1, c1', c3']; simp [c2, nm]
            have es : sf_probe bg nc f kd x = sProbe f p kd x := by unfold sf_probe; rw [e, if_pos rfl, c4]; rfl
            rw [es, e, if_neg nm]
            rw [c4] at lg
            obtain ⟨J, S, v1, v2, v3, v4, v5⟩ := k_keep I R K n nc cs tx cd bg f wz h hw.wb
            have kp := (sb.2.2.2.2.2 p hp).2
            have e32 : 14 + 18 + p = 32 + p := by omega
            rw [e32] at kp
            have lo := c_layOn J S K (32 + p) kp kd x
            have s3 := v2.2.2.2.2.1.lay hp kd x
            obtain ⟨J2, hJ2⟩ : ∃ J2, J2 = st J (32 + p) (uf (uf (uf (uf (uf (uf (uf (J (32 + p)) 1 (nI 0)) 2 kd) 3 x) 4 (nI 0)) 5 (nI 0)) 6 (nI 0)) 7 (nI 0)) := ⟨_, rfl⟩
            rw [← hJ2] at lo s3
            have fn2 : FN J J2 := by rw [hJ2]; exact FN.st J _ (by omega) (by omega)
            have xe2 : XE S K (am_ur S (32 + p) 8 none) K := XE.ur S K _ _
            have num : J2 (32 + p) 0 = nI p := by
              have := (s3.2.2.2 p hp).1
              rwa [e32] at this
            refine ⟨J2, am_ur S (32 + p) 8 none, ?_, v2.up xe2 (fun a _ _ => fn2 a (by omega) (by omega) (by omega)) s3 (v2.2.2.2.2.2.fr (fun a _ _ => fn2 a (by omega) (by omega) (by omega)) (fun a _ _ => by unfold am_ur; rw [if_neg (by omega)]) xe2 (fn2.dy K)), v3.tr (FC.fn fn2), v4.tr xe2⟩
            simp (disch := first | assumption | omega | exact ixN (by assumption) (by omega) (by omega) | exact ne_10 | exact ne_1000 | exact ne_4) only [s75_0, s75_1, s75_2, s75_3, s75_6, s75_9, s75_9a, s75_10, s75_13, s75_14, s75_17, s75_20, s75_21, s75_22, s75_22a, s75_23, s75_26, s75_27, s75_30, s75_33, s75_33a, s75_34, s75_37, s75_38, s75_41, s75_41a, s75_44, s75_46, s75_47, s75_47a, s75_48, s75_51, s75_54, s75_54a, s75_55, s75_55a, s75_56, s75_56a, s75_59, s75_61, s75_62, s75_62a, s75_63, s75_66, s75_66a, s75_67, s75_70, s75_73, s75_73a, s75_74, s75_75, s75_76, s75_79, s75_79a, s75_80, s75_83, ↓reduceIte, eq_self, Option.bind_some, Option.bind_none, Option.toList_some, Option.toList_none, List.cons_append, List.nil_append, am_rf_s, am_rf_n, am_c1_i, am_c1_r, am_c1_n, List.all_cons, List.all_nil, Bool.and_self, Bool.and_true, Bool.true_and, List.length_cons, List.length_nil, Nat.reduceAdd, Nat.reduceSub, Nat.reduceMul, Nat.reduceLeDiff, Nat.reduceLT, Nat.zero_le, Nat.le_refl, ne_10, ne_1000, ne_4, not_false_eq_true, or_true, true_or, Nat.one_ne_zero, Nat.zero_ne_one, Nat.reduceEqDiff, Bool.true_eq_false, Bool.false_eq_true, n10, c_within, inR_e, c0', bI_t, xl, xn, xh, ch, cbg, po, lg, pRef, e32, v1, lo, num, Option.getD_some]
theorem k_pro (h : CH I R K n tx nc cd bg f cs wz) (c : Nat) (hc : c < 2) : ev 53 0 [some (.ref 14), some (.int (nI c))] [] (I, R, K) = some (some (.ref (17 + 7 * c)), (I, R, K)) := by
  rw [c_processorOrNull I R K 14 h.1.2.2.2.1]
  have : c = 0 ∨ c = 1 := by omega
  rcases this with rfl | rfl
  · rw [if_pos rfl]
  · rw [if_neg (by decide), if_pos rfl]
theorem k_prn (h : CH I R K n tx nc cd bg f cs wz) (c : Int32) (hc : inR c 0 1 = false) : ev 53 0 [some (.ref 14), some (.int c)] [] (I, R, K) = some (some .null, (I, R, K)) := by
  rw [c_processorOrNull I R K 14 h.1.2.2.2.1]
  rw [if_neg (fun z => by rw [z] at hc; exact absurd hc (by decide)), if_neg (fun z => by rw [z] at hc; exact absurd hc (by decide))]
end DJ
/-- letting go with and without the holders' own places set to 0 -/
theorem sFree_cg {f f' : Nat → Int32} {q : Nat} (h : ∀ j, 70 ≤ j → f' j = f j) : ∀ j, 70 ≤ j → sFree f' q j = sFree f q j := by
  intro j hj
  unfold sFree
  by_cases z : q = 0
  · rw [if_pos z, if_pos z]; exact h j hj
  · rw [if_neg z, if_neg z]
    have e : ∀ v, ∀ i, 70 ≤ i → uf f' (70 + 208 * (q - 1) + 6) v i = uf f (70 + 208 * (q - 1) + 6) v i := fun v i hi => by
      unfold uf; split
      · rfl
      · exact h i hi
    rw [h _ (by omega), e _ _ (by omega), e _ _ (by omega)]
    unfold uf
    split
    · rfl
    · split
      · rfl
      · exact h j hj
/-- the two runs side by side -/
theorem sClr_let {t : Nat} (ht : t + 31 ≤ 70) : ∀ (r k : Nat) (s : Int32) (f g : Nat → Int32), k + r ≤ 6 → (∀ j, (j < t + 9 ∨ t + 9 + k ≤ j) → g j = f j) → (sClr t r k s f).1 = (sLet t r k s g).1 ∧ ∀ j, (j < t + 9 ∨ t + 9 + (k + r) ≤ j) → (sLet t r k s g).2 j = (sClr t r k s f).2 j
  | 0, k, s, f, g, _, h => ⟨rfl, fun j hj => h j (by omega)⟩
  | r + 1, k, s, f, g, hk, h => by
    unfold sClr sLet
    rw [h (t + 9 + k) (by omega)]
    have h2 : ∀ j, (j < t + 9 ∨ t + 9 + (k + 1) ≤ j) → sFree g (nt (f (t + 9 + k))) j = uf (sFree f (nt (f (t + 9 + k)))) (t + 9 + k) (nI 0) j := fun j hj => by
      rw [uf_ne _ _ (by omega)]
      by_cases z : j < 70
      · rw [sFree_lo _ _ z, sFree_lo _ _ z]; exact h j (by omega)
      · exact sFree_cg (fun i hi => h i (by omega)) j (by omega)
    obtain ⟨w1, w2⟩ := sClr_let ht r (k + 1) (s + (if f (t + 9 + k) ≤ nI 0 then nI 0 else nI 1)) _ _ (by omega) h2
    exact ⟨w1, fun j hj => w2 j (by omega)⟩
/-- a holder goes, of k<d -/
theorem WF.gof {f : Nat → Int32} (h : WF f e0) {c d k q : Nat} (hc : c < 2) (hd : f (8 + 31 * c + 2) = nI d) (hd6 : d ≤ 6) (hk : k < d) (hq : f (8 + 31 * c + 9 + k) = nI q) (hq6 : q ≤ 6) : WF (uf (sFree f q) (8 + 31 * c + 9 + k) (nI 0)) e0 := by
  have e : uf (sFree f q) (8 + 31 * c + 9 + k) (nI 0) = sFree (uf f (8 + 31 * c + 9 + k) (nI 0)) q := by
    funext j
    by_cases z : j < 70
    · rw [sFree_lo _ _ z]
      unfold uf
      split
      · rfl
      · exact sFree_lo _ _ z
    · rw [uf_ne _ _ (by omega)]
      exact (sFree_cg (fun i hi => uf_ne _ _ (by omega)) j (by omega)).symm
  rw [e]
  refine WF.free ?_ hq6
  refine h.pro hc (fun j hj => uf_ne _ _ (by omega)) ((h.2.1 c hc).hold (q := 0) (by omega) (by omega)) (fun p hp => ?_)
  have := pcn_hold (p := p) hd hd6 hk (nI 0)
  rw [hq, ind_e hq6 hp, ind_e (by omega) hp] at this
  have z0 : ih1 0 p = 0 := by unfold ih1; rw [if_neg (by omega)]
  have z1 : e0 p = 0 := rfl
  omega
theorem sClr_WF {c d : Nat} (hc : c < 2) (hd6 : d ≤ 6) : ∀ (r k : Nat) (s : Int32) (f : Nat → Int32), k + r = d → WF f e0 → f (8 + 31 * c + 2) = nI d → (∀ j, j < k → f (8 + 31 * c + 9 + j) = nI 0) → WF (sClr (8 + 31 * c) r k s f).2 e0 ∧ (sClr (8 + 31 * c) r k s f).2 (8 + 31 * c + 2) = nI d ∧ ∀ j, j < d → (sClr (8 + 31 * c) r k s f).2 (8 + 31 * c + 9 + j) = nI 0
  | 0, k, s, f, hk, h, hd, hz => ⟨h, hd, fun j hj => hz j (by omega)⟩
  | r + 1, k, s, f, hk, h, hd, hz => by
    obtain ⟨-, q, q6, q1⟩ := h.hl hc hd hd6 (k := k) (by omega)
    unfold sClr
    rw [q1, nt_nI (by omega)]
    refine sClr_WF hc hd6 r (k + 1) _ _ (by omega) (h.gof hc hd hd6 (by omega) q1 q6) (by rw [uf_ne _ _ (by omega), sFree_lo _ _ (by omega)]; exact hd) (fun j hj => ?_)
    by_cases z : j = k
    · subst z; rw [uf_eq]
    · rw [uf_ne _ _ (by omega), sFree_lo _ _ (by omega)]; exact hz j (by omega)
theorem WF.start {f : Nat → Int32} (h : WF f e0) {c d : Nat} (hc : c < 2) (hd : f (8 + 31 * c + 2) = nI d) (hd6 : d ≤ 6) {x a : Int32} (hx : ∃ q, q < 1000 ∧ x = nI q) (ha : nb a) : WF (sStart f (8 + 31 * c) d x a) e0 := by
  obtain ⟨w1, w2, w3⟩ := sClr_WF hc hd6 d 0 (nI 0) f (by omega) h hd (fun j hj => by omega)
  unfold sStart
  obtain ⟨g, hg⟩ : ∃ g, g = (sClr (8 + 31 * c) d 0 (nI 0) f).2 := ⟨_, rfl⟩
  rw [← hg] at w1 w2 w3 ⊢
  have h1 := (w1.own hc (i := 0) (Or.inl ⟨rfl, ha⟩)).own hc (i := 1) (Or.inr (Or.inl ⟨rfl, hx⟩))
  rw [Nat.add_zero] at h1
  have w2' : uf (uf g (8 + 31 * c) a) (8 + 31 * c + 1) x (8 + 31 * c + 2) = nI d := by rw [uf_ne _ _ (by omega), uf_ne _ _ (by omega)]; exact w2
  refine WF.own (i := 15) ?_ hc (Or.inr (Or.inr (Or.inl ⟨rfl, Or.inl rfl⟩)))
  refine h1.pro hc (fun j hj => uf_ne _ _ (by omega)) ?_ (fun p hp => ?_)
  · obtain ⟨h1, h2, h3, -, h5⟩ := h1.2.1 c hc
    exact ⟨by rw [uf_ne _ _ (by omega)]; exact h1, by rw [uf_ne _ _ (by omega)]; exact h2, by rw [uf_ne _ _ (by omega)]; exact h3, ⟨0, by omega, uf_eq _ _ _, fun j hj => by omega⟩, by rw [uf_ne _ _ (by omega)]; exact h5⟩
  · unfold pcn
    rw [uf_eq, w2', nt_nI (by omega), nt_nI (by omega), hcp_0 hp (d := d) (fun k hk => by rw [uf_ne _ _ (by omega), uf_ne _ _ (by omega)]; exact w3 k hk)]
    rfl
section DK
variable (I : am_I) (R : am_R) (K : am_K) (n nc cs : Nat) (tx cd bg f wz : Nat → Int32)
theorem k_start (h : CH I R K n tx nc cd bg f cs wz) (hw : WF f e0) (hW : WC cd bg nc) (c x a : Int32) : ∃ I' R', ev 79 0 [some (.ref 3), some (.int c), some (.int x), some (.int a), none, none] [] (I, R, K) = some (some (.int (sp_start bg nc f c x a)), (I', R', K)) ∧ CH I' R' K n tx nc cd bg (sf_start bg nc f c x a) (kpC (okStart bg nc c x a) cs) (kpW (okStart bg nc c x a) wz f cs) ∧ FC I I' ∧ XE R K R' K := by
  obtain ⟨x1, xt, xl, xd, xn, xh, -⟩ := id h.1.1
  have sb := h.1.2.2.2.1
  have kb := sb.1.1
  have kh := h.1.2.2.2.2.1.1
  have kl := h.1.2.1.1
  obtain ⟨b, rc, be⟩ := h.2.2.1
  have ch := c_has I R K 6 nc cd rc.1 rc.2.1 x
  have cbg := c_beginsAt I R K 6 nc cd b rc.1 rc.2.1 rc.2.2 x
  have isn := c_isNumber I R K a
  unfold sp_start
  by_cases c0 : inR c 0 1 = false
  · have e : okStart bg nc c x a = false := by unfold okStart; rw [c0]; rfl
    have pn := k_prn I R K n nc cs tx cd bg f wz h c c0
    unfold sf_start
    rw [e, if_pos c0]
    refine ⟨I, R, ?_, h, FC.rf I, XE.rf R K⟩
    simp (disch := first | assumption | omega | exact ixN (by assumption) (by omega) (by omega) | exact ne_10 | exact ne_1000 | exact ne_4) only [s79_0, s79_0a, s79_1, s79_4, s79_5, s79_8, s79_8a, s79_10, s79_10a, s79_12, s79_12a, s79_15, s79_15a, s79_16, s79_19, s79_20, s79_23, s79_26, s79_27, s79_30, s79_33, s79_34, s79_35, s79_35a, s79_36, s79_39, s79_40, s79_43, s79_46, s79_48, s79_49, s79_49a, s79_50, s79_53, s79_53a, s79_54, s79_57, s79_60, s79_60a, s79_61, s79_64, s79_64a, s79_66, s79_69, s79_71, s79_71a, s79_73, s79_74, s79_75, s79_78, s79_80, ↓reduceIte, eq_self, Option.bind_some, Option.bind_none, Option.toList_some, Option.toList_none, List.cons_append, List.nil_append, am_rf_s, am_rf_n, am_c1_i, am_c1_r, am_c1_n, List.all_cons, List.all_nil, Bool.and_self, Bool.and_true, Bool.true_and, List.length_cons, List.length_nil, Nat.reduceAdd, Nat.reduceSub, Nat.reduceMul, Nat.reduceLeDiff, Nat.reduceLT, Nat.zero_le, Nat.le_refl, ne_10, ne_1000, ne_4, not_false_eq_true, or_true, true_or, Nat.one_ne_zero, Nat.zero_ne_one, Nat.reduceEqDiff, Bool.true_eq_false, Bool.false_eq_true, n10, xn, pn]
  · have c0' := nf c0
    rw [if_neg c0]
    obtain ⟨q, q1, q2, rfl⟩ := inR_of c0' (by omega) (by omega)
    have pn := k_pro I R K n nc cs tx cd bg f wz h q (by omega)
    have kq := (sb.q (c := q) (by omega)).1.1
    rw [isC_hs hW.1 hW.2.1]
    by_cases c1 : hs nc x = false
    · have e : okStart bg nc (nI q) x a = false := by unfold okStart; rw [isC_hs hW.1 hW.2.1, c1]; simp
      unfold sf_start
      rw [c1] at ch
      rw [e, if_pos c1]
      refine ⟨I, R, ?_, h, FC.rf I, XE.rf R K⟩
      simp (disch := first | assumption | omega | exact ixN (by assumption) (by omega) (by omega) | exact ne_10 | exact ne_1000 | exact ne_4) only [s79_0, s79_0a, s79_1, s79_4, s79_5, s79_8, s79_8a, s79_10, s79_10a, s79_12, s79_12a, s79_15, s79_15a, s79_16, s79_19, s79_20, s79_23, s79_26, s79_27, s79_30, s79_33, s79_34, s79_35, s79_35a, s79_36, s79_39, s79_40, s79_43, s79_46, s79_48, s79_49, s79_49a, s79_50, s79_53, s79_53a, s79_54, s79_57, s79_60, s79_60a, s79_61, s79_64, s79_64a, s79_66, s79_69, s79_71, s79_71a, s79_73, s79_74, s79_75, s79_78, s79_80, ↓reduceIte, eq_self, Option.bind_some, Option.bind_none, Option.toList_some, Option.toList_none, List.cons_append, List.nil_append, am_rf_s, am_rf_n, am_c1_i, am_c1_r, am_c1_n, List.all_cons, List.all_nil, Bool.and_self, Bool.and_true, Bool.true_and, List.length_cons, List.length_nil, Nat.reduceAdd, Nat.reduceSub, Nat.reduceMul, Nat.reduceLeDiff, Nat.reduceLT, Nat.zero_le, Nat.le_refl, ne_10, ne_1000, ne_4, not_false_eq_true, or_true, true_or, Nat.one_ne_zero, Nat.zero_ne_one, Nat.reduceEqDiff, Bool.true_eq_false, Bool.false_eq_true, n10, xn, pn, bI_f, xl, ch]
    · have c1' := nf c1
      rw [if_neg c1]
      rw [c1'] at ch
      have bb := bA_b nc be hW.2.1 c1'
      by_cases c2 : inR a 0 999 = false
      · have e : okStart bg nc (nI q) x a = false := by unfold okStart; rw [c2]; simp
        unfold sf_start
        rw [c2] at isn
        rw [e, if_pos c2]
        refine ⟨I, R, ?_, h, FC.rf I, XE.rf R K⟩
        simp (disch := first | assumption | omega | exact ixN (by assumption) (by omega) (by omega) | exact ne_10 | exact ne_1000 | exact ne_4) only [s79_0, s79_0a, s79_1, s79_4, s79_5, s79_8, s79_8a, s79_10, s79_10a, s79_12, s79_12a, s79_15, s79_15a, s79_16, s79_19, s79_20, s79_23, s79_26, s79_27, s79_30, s79_33, s79_34, s79_35, s79_35a, s79_36, s79_39, s79_40, s79_43, s79_46, s79_48, s79_49, s79_49a, s79_50, s79_53, s79_53a, s79_54, s79_57, s79_60, s79_60a, s79_61, s79_64, s79_64a, s79_66, s79_69, s79_71, s79_71a, s79_73, s79_74, s79_75, s79_78, s79_80, ↓reduceIte, eq_self, Option.bind_some, Option.bind_none, Option.toList_some, Option.toList_none, List.cons_append, List.nil_append, am_rf_s, am_rf_n, am_c1_i, am_c1_r, am_c1_n, List.all_cons, List.all_nil, Bool.and_self, Bool.and_true, Bool.true_and, List.length_cons, List.length_nil, Nat.reduceAdd, Nat.reduceSub, Nat.reduceMul, Nat.reduceLeDiff, Nat.reduceLT, Nat.zero_le, Nat.le_refl, ne_10, ne_1000, ne_4, not_false_eq_true, or_true, true_or, Nat.one_ne_zero, Nat.zero_ne_one, Nat.reduceEqDiff, Bool.true_eq_false, Bool.false_eq_true, n10, xn, pn, bI_t, bI_f, xl, ch, isn]
      · have c2' := nf c2
        rw [if_neg c2]
        rw [c2'] at isn
        by_cases c3' : am_b (bg x.toNatClampNeg) = nI 0
        · have e : okStart bg nc (nI q) x a = false := by unfold okStart; rw [c3']; simp
          unfold sf_start
          have c3'' : bA nc b x = false := by rw [bb]; exact c3'
          rw [c3''] at cbg
          rw [e, if_pos c3']
          refine ⟨I, R, ?_, h, FC.rf I, XE.rf R K⟩
          simp (disch := first | assumption | omega | exact ixN (by assumption) (by omega) (by omega) | exact ne_10 | exact ne_1000 | exact ne_4) only [s79_0, s79_0a, s79_1, s79_4, s79_5, s79_8, s79_8a, s79_10, s79_10a, s79_12, s79_12a, s79_15, s79_15a, s79_16, s79_19, s79_20, s79_23, s79_26, s79_27, s79_30, s79_33, s79_34, s79_35, s79_35a, s79_36, s79_39, s79_40, s79_43, s79_46, s79_48, s79_49, s79_49a, s79_50, s79_53, s79_53a, s79_54, s79_57, s79_60, s79_60a, s79_61, s79_64, s79_64a, s79_66, s79_69, s79_71, s79_71a, s79_73, s79_74, s79_75, s79_78, s79_80, ↓reduceIte, eq_self, Option.bind_some, Option.bind_none, Option.toList_some, Option.toList_none, List.cons_append, List.nil_append, am_rf_s, am_rf_n, am_c1_i, am_c1_r, am_c1_n, List.all_cons, List.all_nil, Bool.and_self, Bool.and_true, Bool.true_and, List.length_cons, List.length_nil, Nat.reduceAdd, Nat.reduceSub, Nat.reduceMul, Nat.reduceLeDiff, Nat.reduceLT, Nat.zero_le, Nat.le_refl, ne_10, ne_1000, ne_4, not_false_eq_true, or_true, true_or, Nat.one_ne_zero, Nat.zero_ne_one, Nat.reduceEqDiff, Bool.true_eq_false, Bool.false_eq_true, n10, xn, pn, bI_t, bI_f, xl, ch, isn, cbg]
        · have c3'' : bA nc b x = true := nf (by rw [bb]; exact c3')
          have e : okStart bg nc (nI q) x a = true := by unfold okStart; rw [c0', isC_hs hW.1 hW.2.1, c1', c2']; simp [c3']
          rw [c3''] at cbg
          rw [if_neg c3']
          obtain ⟨d, d1, d2, -⟩ := (hw.2.1 q (by omega)).2.2.2.1
          have es : sf_start bg nc f (nI q) x a = sStart f (8 + 31 * q) d x a := by unfold sf_start; rw [e, if_pos rfl, nI_clamp (show q < 2 ^ 31 by omega), d2, nt_nI (by omega)]
          rw [es, e, nI_clamp (show q < 2 ^ 31 by omega), d2, nt_nI (by omega)]
          obtain ⟨J, S, v1, v2, v3, v4, v5⟩ := k_keep I R K n nc cs tx cd bg f wz h hw.wb
          -- the holders go
          have hP : LGo (fun k g => k ≤ d ∧ g (8 + 31 * q + 2) = nI d ∧ ∃ f', WF f' e0 ∧ f' (8 + 31 * q + 2) = nI d ∧ ∀ j, (j < 8 + 31 * q + 9 ∨ 8 + 31 * q + 9 + k ≤ j) → g j = f' j) (8 + 31 * q) d := by
            intro k g hg
            obtain ⟨g0, g1, f', w1, w2, w3⟩ := hg
            refine ⟨g1, fun hk => ?_⟩
            obtain ⟨-, y, y1, y2⟩ := w1.hl (c := q) (by omega) w2 d1 hk
            have gy : g (8 + 31 * q + 9 + k) = nI y := by rw [w3 _ (by omega)]; exact y2
            refine ⟨y, y1, gy, fun y0 => ?_, by omega, by rw [sFree_lo _ _ (by omega)]; exact g1, _, w1.gof (c := q) (by omega) w2 d1 hk y2 y1, by rw [uf_ne _ _ (by omega), sFree_lo _ _ (by omega)]; exact w2, fun j hj => ?_⟩
            · obtain ⟨z1, h', z2, z3⟩ := w1.held (c := q) (p := y - 1) (by omega) w2 d1 hk (by omega) (by rw [y2]; congr 1; omega)
              rw [w3 _ (by omega), w3 _ (by omega)]
              exact ⟨z1, h', by omega, z3⟩
            · rw [uf_ne _ _ (by omega)]
              by_cases z : j < 70
              · rw [sFree_lo _ _ z, sFree_lo _ _ z]; exact w3 j (by omega)
              · exact sFree_cg (fun i hi => w3 i (by omega)) j (by omega)
          obtain ⟨J2, u1, u2, u3⟩ := c_letGo S K v2.1.2.2.2.1 q d (by omega) d1 _ hP J f v2.2.2.2.2.1 ⟨by omega, d2, f, hw, d2, fun _ _ => rfl⟩
          obtain ⟨l1, l2⟩ := sClr_let (t := 8 + 31 * q) (by omega) d 0 (nI 0) f f (by omega) (fun _ _ => rfl)
          have gt := c_goTo J2 S K (17 + 7 * q) (v2.1.2.2.2.1.q (by omega)) x a
          obtain ⟨J3, hJ3⟩ : ∃ J3, J3 = st J2 (17 + 7 * q) (uf (uf (uf (uf (J2 (17 + 7 * q)) 4 x) 5 a) 3 (nI 0)) 6 (nI 0)) := ⟨_, rfl⟩
          rw [← hJ3] at gt
          have fn3 : FN J J3 := u3.tr (by rw [hJ3]; exact FN.st J2 _ (by omega) (by omega))
          have s3 : RS J3 S K 14 (sStart f (8 + 31 * q) d x a) := by
            have lo : ∀ j, (j < 8 + 31 * q + 3 ∨ 8 + 31 * q + 16 ≤ j) → j ≠ 8 + 31 * q → j ≠ 8 + 31 * q + 1 → j ≠ 8 + 31 * q + 2 → sStart f (8 + 31 * q) d x a j = (sLet (8 + 31 * q) d 0 (nI 0) f).2 j := fun j hj h1 h2 h3 => by
              unfold sStart
              rw [uf_ne _ _ (by omega), uf_ne _ _ h3, uf_ne _ _ h2, uf_ne _ _ h1, l2 j (by omega)]
            refine u2.pro (c := q) (by omega) (fun a h1 _ _ => by rw [hJ3]; exact st_ne _ _ (by omega)) (fun j hj => lo j (by omega) (by omega) (by omega) (by omega)) ?_
            obtain ⟨⟨g1, g2, g3, g4, g5, g6, g7⟩, -, n', n1, n2, n3⟩ := u2.q (c := q) (by omega)
            have ne : ∀ (b k : Nat), b ≠ 17 + 7 * q → J3 b k = J2 b k := fun b k hb => by rw [hJ3, st_ne _ _ hb]
            have t0 : sStart f (8 + 31 * q) d x a (8 + 31 * q) = a := by unfold sStart; rw [uf_ne _ _ (by omega), uf_ne _ _ (by omega), uf_ne _ _ (by omega), uf_eq]
            have t1 : sStart f (8 + 31 * q) d x a (8 + 31 * q + 1) = x := by unfold sStart; rw [uf_ne _ _ (by omega), uf_ne _ _ (by omega), uf_eq]
            have t2 : sStart f (8 + 31 * q) d x a (8 + 31 * q + 2) = nI 0 := by unfold sStart; rw [uf_ne _ _ (by omega), uf_eq]
            have t15 : sStart f (8 + 31 * q) d x a (8 + 31 * q + 15) = nI 0 := by unfold sStart; rw [uf_eq]
            refine ⟨⟨?_, ?_, ?_, ?_, ?_, ?_, ?_⟩, ⟨0, by omega, t2, fun k hk => by omega⟩, n', n1, by rw [lo _ (by omega) (by omega) (by omega) (by omega)]; exact n2, fun k hk => ?_⟩
            · rw [t2, hJ3]; first | assumption | (simp (disch := omega) only [st_eq, st_ne, uf_eq, uf_ne]; done) | (simp (disch := omega) only [st_eq, st_ne, uf_eq, uf_ne]; assumption)
            · rw [t1, hJ3]; first | assumption | (simp (disch := omega) only [st_eq, st_ne, uf_eq, uf_ne]; done) | (simp (disch := omega) only [st_eq, st_ne, uf_eq, uf_ne]; assumption)
            · rw [t0, hJ3]; first | assumption | (simp (disch := omega) only [st_eq, st_ne, uf_eq, uf_ne]; done) | (simp (disch := omega) only [st_eq, st_ne, uf_eq, uf_ne]; assumption)
            · rw [t15, hJ3]; first | assumption | (simp (disch := omega) only [st_eq, st_ne, uf_eq, uf_ne]; done) | (simp (disch := omega) only [st_eq, st_ne, uf_eq, uf_ne]; assumption)
            · rw [lo _ (by omega) (by omega) (by omega) (by omega), hJ3]; first | assumption | (simp (disch := omega) only [st_eq, st_ne, uf_eq, uf_ne]; done) | (simp (disch := omega) only [st_eq, st_ne, uf_eq, uf_ne]; assumption)
            · rw [lo _ (by omega) (by omega) (by omega) (by omega), ne _ _ (by omega)]; exact g6
            · rw [lo _ (by omega) (by omega) (by omega) (by omega), ne _ _ (by omega)]; exact g7
            · rw [lo _ (by omega) (by omega) (by omega) (by omega), lo _ (by omega) (by omega) (by omega) (by omega), lo _ (by omega) (by omega) (by omega) (by omega), ne _ _ (by omega), ne _ _ (by omega), ne _ _ (by omega)]
              exact n3 k hk
          have xn' := v2.1.1.2.2.2.2.1
          rw [l1]
          refine ⟨J3, S, ?_, v2.now fn3 s3, v3.tr (FC.fn fn3), v4⟩
          simp (disch := first | assumption | omega | exact ixN (by assumption) (by omega) (by omega) | exact ne_10 | exact ne_1000 | exact ne_4) only [s79_0, s79_0a, s79_1, s79_4, s79_5, s79_8, s79_8a, s79_10, s79_10a, s79_12, s79_12a, s79_15, s79_15a, s79_16, s79_19, s79_20, s79_23, s79_26, s79_27, s79_30, s79_33, s79_34, s79_35, s79_35a, s79_36, s79_39, s79_40, s79_43, s79_46, s79_48, s79_49, s79_49a, s79_50, s79_53, s79_53a, s79_54, s79_57, s79_60, s79_60a, s79_61, s79_64, s79_64a, s79_66, s79_69, s79_71, s79_71a, s79_73, s79_74, s79_75, s79_78, s79_80, ↓reduceIte, eq_self, Option.bind_some, Option.bind_none, Option.toList_some, Option.toList_none, List.cons_append, List.nil_append, am_rf_s, am_rf_n, am_c1_i, am_c1_r, am_c1_n, List.all_cons, List.all_nil, Bool.and_self, Bool.and_true, Bool.true_and, List.length_cons, List.length_nil, Nat.reduceAdd, Nat.reduceSub, Nat.reduceMul, Nat.reduceLeDiff, Nat.reduceLT, Nat.zero_le, Nat.le_refl, ne_10, ne_1000, ne_4, not_false_eq_true, or_true, true_or, Nat.one_ne_zero, Nat.zero_ne_one, Nat.reduceEqDiff, Bool.true_eq_false, Bool.false_eq_true, n10, xn, xh, pn, bI_t, xl, ch, isn, cbg, v1, xn', u1, gt]
end DK
