/-! the constructors: the history, the class's cells -/
section DT
theorem hT4 {i : Nat} (hi : i < 4) : ∀ k, k < 24 → am_tag (40 + 24 * i + k) = am_tag (14 + k) := by
  have : i = 0 ∨ i = 1 ∨ i = 2 ∨ i = 3 := by omega
  rcases this with rfl | rfl | rfl | rfl <;> decide +kernel
theorem i_hsl : ∀ (r i : Nat) (I : am_I) (R : am_R) (K : am_K), i + r = 4 → FZ I R K → K.2.1 = 40 + 24 * i → am_isK K 38 1 = true → am_isK K 39 24 = true → R 38 0 = some 39 → K.1 39 = 4 → ∃ I' R' K', ev 9 14 [some (.ref 38), some (.int (nI i))] [] (I, R, K) = some (none, (I', R', K')) ∧ FZ I' R' K' ∧ GX 39 R K R' K' ∧ K'.2.1 = 136 ∧ K'.2.2 = K.2.2 + 147 * r ∧ (∀ q, i ≤ q → q < 4 → R' 39 q = some (40 + 24 * q) ∧ SB R' K' (40 + 24 * q) ∧ ∀ p, p < 6 → I' (40 + 24 * q + 18 + p) 0 = nI p) ∧ (∀ q, q < i → R' 39 q = R 39 q) ∧ (∀ c, (c < 40 + 24 * i ∨ 136 ≤ c) → I' c = I c) := by
  intro r
  induction r with
  | zero =>
    intro i I R K hi hz hn hb hk hr hl
    have hi : i = 4 := by omega
    subst hi
    refine ⟨I, R, K, ?_, hz, ⟨fun _ _ _ => rfl, fun _ _ => rfl, Nat.le_refl _⟩, by omega, by omega, fun q h1 h2 => by omega, fun _ _ => rfl, fun _ _ => rfl⟩
    simp (disch := first | assumption | omega | exact ixN (by assumption) (by omega) (by omega) | exact ne_10 | exact ne_1000 | exact ne_4) only [s9_14, s9_15, s9_16, s9_19, s9_19a, s9_20, s9_23, s9_24, s9_27, s9_28, s9_31, s9_31a, s9_32, s9_35, s9_38, ↓reduceIte, eq_self, Option.bind_some, Option.bind_none, Option.toList_some, Option.toList_none, List.cons_append, List.nil_append, am_rf_s, am_rf_n, am_c1_i, am_c1_r, am_c1_n, List.all_cons, List.all_nil, Bool.and_self, Bool.and_true, Bool.true_and, List.length_cons, List.length_nil, Nat.reduceAdd, Nat.reduceSub, Nat.reduceMul, Nat.reduceLeDiff, Nat.reduceLT, Nat.zero_le, Nat.le_refl, ne_10, ne_1000, ne_4, not_false_eq_true, or_true, true_or, Nat.one_ne_zero, Nat.zero_ne_one, Nat.reduceEqDiff, Bool.true_eq_false, Bool.false_eq_true, n10, nI_leI]
  | succ r ih =>
    intro i I R K hi hz hn hb hk hr hl
    have q0 : ¬ 4 ≤ i := by omega
    have hT := hT4 (i := i) (by omega)
    have ts : am_tag K.2.1 = 7 := by
      rw [hn]
      exact (hT 0 (by omega)).trans (by decide +kernel)
    have zi := hz.zi
    have zr := hz.zr
    obtain ⟨K1, hK1⟩ : ∃ K1, K1 = kN K 0 4 := ⟨_, rfl⟩
    have n1 : K1.2.1 = 40 + 24 * i + 1 := by rw [hK1, kN_n, hn]
    have le1 : K.2.1 ≤ K1.2.1 := by omega
    obtain ⟨I2, R2, K2, a1, a2, a3, a4, a5, a6, a7, a8⟩ := i_state I R K1 (40 + 24 * i) hT (by rw [hK1]; exact hz.kN 0 4) (by rw [hK1, ← hn]; exact kN_is hz.1 ts) n1
    have kk2 : am_isK K2 39 24 = true := isK_mono hk (by omega)
    have kb2 : am_isK K2 38 1 = true := isK_mono hb (by omega)
    have ks2 : am_isK K2 (40 + 24 * i) 7 = true := a6.1.1
    have c2 : ∀ a, a < K.2.1 → R2 a = R a ∧ K2.1 a = K.1 a := fun a ha => ⟨a3.1 a (by omega) (by omega), by
      rw [a3.2.1 a (by omega), hK1]; show am_ul K.1 K.2.1 0 a = _; unfold am_ul; rw [if_neg (by omega)]⟩
    have l2 : K2.1 39 = 4 := by rw [(c2 39 (by omega)).2]; exact hl
    obtain ⟨R3, hR3⟩ : ∃ R3, R3 = am_ur R2 39 i (some (40 + 24 * i)) := ⟨_, rfl⟩
    have hz3 : FZ I2 R3 K2 := by rw [hR3]; exact a2.ur (by omega) _ _
    obtain ⟨I4, R4, K4, w1, w2, w3, w4, w5, w6, w7, w8⟩ := ih (i + 1) I2 R3 K2 (by omega) hz3 (by omega) kb2 kk2 (by rw [hR3, ur_ne _ _ (by omega), (c2 38 (by omega)).1]; exact hr) l2
    have ixp : am_ix (nI i) (K2.1 39) = true := ixN l2 (by omega) (by omega)
    have r382 : R2 38 0 = some 39 := by rw [(c2 38 (by omega)).1]; exact hr
    refine ⟨I4, R4, K4, ?_, w2, ⟨fun a h1 h2 => ?_, fun a h1 => ?_, by omega⟩, w4, by rw [w5, a5, hK1, kN_s]; omega, fun q h1 h2 => ?_, fun q hq => ?_, fun c hc => ?_⟩
    · rw [← hn] at a1
      have e39 : ∀ v, am_ur R2 39 i v = am_ur R2 39 i v := fun _ => rfl
      have ks2' : am_isK K2 K.2.1 7 = true := by rw [hn]; exact ks2
      rw [← hn] at hR3
      rw [s9_14]
      simp (disch := first | assumption | omega | exact ixN (by assumption) (by omega) (by omega) | exact ne_10 | exact ne_1000 | exact ne_4) only [s9_15, s9_16, s9_19, s9_19a, s9_20, s9_23, s9_24, s9_27, s9_28, ↓reduceIte, eq_self, Option.bind_some, Option.bind_none, Option.toList_some, Option.toList_none, List.cons_append, List.nil_append, am_rf_s, am_rf_n, am_c1_i, am_c1_r, am_c1_n, List.all_cons, List.all_nil, Bool.and_self, Bool.and_true, Bool.true_and, List.length_cons, List.length_nil, Nat.reduceAdd, Nat.reduceSub, Nat.reduceMul, Nat.reduceLeDiff, Nat.reduceLT, Nat.zero_le, Nat.le_refl, ne_10, ne_1000, ne_4, not_false_eq_true, or_true, true_or, Nat.one_ne_zero, Nat.zero_ne_one, Nat.reduceEqDiff, Bool.true_eq_false, Bool.false_eq_true, n10, nI_leI, nI_add, nI_clamp, q0, hr, am_mk_k, zi, zr, ← hK1, a1]
      simp (disch := first | assumption | omega | exact ixN (by assumption) (by omega) (by omega) | exact ne_10 | exact ne_1000 | exact ne_4) only [s9_31a, s9_32, s9_35, ↓reduceIte, eq_self, Option.bind_some, Option.bind_none, Option.toList_some, Option.toList_none, List.cons_append, List.nil_append, am_rf_s, am_rf_n, am_c1_i, am_c1_r, am_c1_n, List.all_cons, List.all_nil, Bool.and_self, Bool.and_true, Bool.true_and, List.length_cons, List.length_nil, Nat.reduceAdd, Nat.reduceSub, Nat.reduceMul, Nat.reduceLeDiff, Nat.reduceLT, Nat.zero_le, Nat.le_refl, ne_10, ne_1000, ne_4, not_false_eq_true, or_true, true_or, Nat.one_ne_zero, Nat.zero_ne_one, Nat.reduceEqDiff, Bool.true_eq_false, Bool.false_eq_true, n10, nI_add, nI_clamp, ← hR3, w1]
    · rw [w3.1 a (by omega) h2, hR3, ur_ne _ _ h2, (c2 a h1).1]
    · rw [w3.2.1 a (by omega), (c2 a h1).2]
    · by_cases z : q = i
      · subst z
        refine ⟨?_, ?_, fun p hp => ?_⟩
        · rw [w7 q (by omega), hR3, ur_eq]
        · exact a6.on (fun a z1 z2 => ⟨by rw [w3.1 a (by omega) (by omega), hR3, ur_ne _ _ (by omega)], w3.2.1 a (by omega)⟩) w3.2.2
        · rw [w8 _ (by omega)]; exact (a7 p hp).1
      · exact w6 q (by omega) h2
    · rw [w7 q (by omega), hR3, ur_ni _ (by omega), (c2 39 (by omega)).1]
    · rw [w8 c (by omega), a8 c (by omega)]
theorem i_hist (I : am_I) (R : am_R) (K : am_K) (hz : FZ I R K) (hk : am_isK K 38 1 = true) (hn : K.2.1 = 39) : ∃ I' R' K', ev 9 0 [some (.ref 38), none] [] (I, R, K) = some (none, (I', R', K')) ∧ FZ I' R' K' ∧ GX 38 R K R' K' ∧ K'.2.1 = 136 ∧ K'.2.2 = K.2.2 + 592 ∧ HL R' K' ∧ (∀ i p, i < 4 → p < 6 → I' (40 + 24 * i + 18 + p) 0 = nI p) ∧ (∀ c, (c < 40 ∨ 136 ≤ c) → I' c = I c) := by
  have p0 : ¬ nI 4 < 0 := by decide
  have p1 : (nI 4).toNatClampNeg ≤ 10000 := by decide
  have p2 : (nI 4).toNatClampNeg = 4 := by decide
  have la := isK_lt hk
  have zi := hz.zi
  have zr := hz.zr
  have tq : am_tag K.2.1 = 24 := by rw [hn]; decide +kernel
  obtain ⟨u1, u2, u3, u4⟩ := af hz la 0 4 4 24 tq
  obtain ⟨R1, hR1⟩ : ∃ R1, R1 = am_ur R 38 0 (some K.2.1) := ⟨_, rfl⟩
  obtain ⟨K1, hK1⟩ : ∃ K1, K1 = kN K 4 4 := ⟨_, rfl⟩
  rw [← hR1, ← hK1] at u1 u2
  rw [← hK1, hn] at u3 u4
  have k1 : am_isK K1 38 1 = true := isK_mono hk u2.2.2
  have f1 : R1 38 0 = some 39 := by rw [hR1, ur_eq, hn]
  obtain ⟨I2, R2, K2, w1, w2, w3, w4, w5, w6, w7, w8⟩ := i_hsl 4 0 I R1 K1 (by omega) u1 (by rw [hK1, kN_n, hn]) k1 u3 f1 u4
  have n1 : K1.2.1 = 40 := by rw [hK1, kN_n, hn]
  refine ⟨I2, R2, K2, ?_, w2, ⟨fun a h1 h2 => by rw [w3.1 a (by omega) (by omega), u2.1 a h1 h2], fun a h1 => by rw [w3.2.1 a (by omega), u2.2.1 a h1], by omega⟩, w4, by rw [w5, hK1, kN_s], ⟨isK_mono k1 w3.2.2, isK_mono u3 w3.2.2, by rw [w3.2.1 _ (by omega)]; exact u4, by rw [w3.1 38 (by omega) (by omega)]; exact f1, fun i hi => ⟨(w6 i (by omega) hi).1, (w6 i (by omega) hi).2.1⟩⟩, fun i p hi hp => (w6 i (by omega) hi).2.2 p hp, fun c hc => w8 c (by omega)⟩
  simp (disch := first | assumption | omega | exact ixN (by assumption) (by omega) (by omega) | exact ne_10 | exact ne_1000 | exact ne_4) only [s9_0, s9_0a, s9_1, s9_4, s9_4a, s9_5, s9_6, s9_9, s9_9a, s9_12, s9_13, ↓reduceIte, eq_self, Option.bind_some, Option.bind_none, Option.toList_some, Option.toList_none, List.cons_append, List.nil_append, am_rf_s, am_rf_n, am_c1_i, am_c1_r, am_c1_n, List.all_cons, List.all_nil, Bool.and_self, Bool.and_true, Bool.true_and, List.length_cons, List.length_nil, Nat.reduceAdd, Nat.reduceSub, Nat.reduceMul, Nat.reduceLeDiff, Nat.reduceLT, Nat.zero_le, Nat.le_refl, ne_10, ne_1000, ne_4, not_false_eq_true, or_true, true_or, Nat.one_ne_zero, Nat.zero_ne_one, Nat.reduceEqDiff, Bool.true_eq_false, Bool.false_eq_true, n10, am_mk_k, p2, zi, zr, ← hK1, ← hR1, w1]
theorem i_cells (I : am_I) (R : am_R) (K : am_K) (hz : FZ I R K) (hk : am_isK K 3 9 = true) (hn : K.2.1 = 4) : ∃ I' R' K', ev 70 0 [some (.ref 3), none] [] (I, R, K) = ev 70 95 [some (.ref 3), none] [] (I', R', K') ∧ FZ I' R' K' ∧ GX 3 R K R' K' ∧ K'.2.1 = 147 ∧ K'.2.2 = K.2.2 + 1246 ∧ LY R' K' ∧ (am_isK K' 4 8 = true ∧ am_isK K' 5 22 = true ∧ R' 4 0 = some 5 ∧ K'.1 5 = 200) ∧ (∀ p, p < 6 → I' (32 + p) 0 = nI p ∧ I' (32 + p) 1 = nI 3) ∧ (∀ i p, i < 4 → p < 6 → I' (40 + 24 * i + 18 + p) 0 = nI p) ∧ (∀ c, (c < 32 ∨ c = 38 ∨ c = 39 ∨ 136 ≤ c) → I' c = I c) := by
  have T : ∀ i t, am_tag i = t → am_tag i = t := fun _ _ h => h
  -- text
  have la0 := isK_lt hk
  have zi0 := hz.zi
  have zr0 := hz.zr
  have t0 : am_tag K.2.1 = 8 := by rw [hn]; decide +kernel
  obtain ⟨Ka0, hKa0⟩ : ∃ Ka0, Ka0 = kN K 0 2 := ⟨_, rfl⟩
  have ka0 : am_isK Ka0 4 8 = true := by rw [hKa0, ← hn]; exact kN_is hz.1 t0
  have na0 : Ka0.2.1 = 5 := by rw [hKa0, kN_n, hn]
  have fz0 : FZ I R Ka0 := by rw [hKa0]; exact hz.kN 0 2
  obtain ⟨Rb0, Kb0, c0, d0, g0, n0, m0, y0, y1, y2, y3⟩ := i_text I R Ka0 4 200 fz0 ka0 na0 (by decide +kernel) (by omega)
  obtain ⟨q0, v0, u0⟩ := ao (a := 3) (s := 2) la0 (by rw [← hKa0, hn]; exact g0) d0 0
  rw [← hn] at c0
  obtain ⟨Rc0, hRc0⟩ : ∃ Rc0, Rc0 = am_ur Rb0 3 0 (some K.2.1) := ⟨_, rfl⟩
  rw [← hRc0] at q0 v0
  have kc0 : am_isK Kb0 3 9 = true := isK_mono hk v0.2.2
  have f0_0 : Rc0 3 0 = some 4 := by rw [hRc0, ur_eq, hn]
  have nn0 : Kb0.2.1 = 6 := by rw [n0]
  -- laid
  have la1 := isK_lt kc0
  have zi1 := q0.zi
  have zr1 := q0.zr
  have t1 : am_tag Kb0.2.1 = 0 := by rw [nn0]; decide +kernel
  obtain ⟨Ka1, hKa1⟩ : ∃ Ka1, Ka1 = kN Kb0 0 3 := ⟨_, rfl⟩
  have ka1 : am_isK Ka1 6 0 = true := by rw [hKa1, ← nn0]; exact kN_is q0.1 t1
  have na1 : Ka1.2.1 = 7 := by rw [hKa1, kN_n, nn0]
  have fz1 : FZ I Rc0 Ka1 := by rw [hKa1]; exact q0.kN 0 3
  obtain ⟨Rb1, Kb1, c1, d1, g1, n1, m1, x1⟩ := i_code I Rc0 Ka1 6 fz1 ka1 na1 (by decide +kernel) (by decide +kernel) (by decide +kernel)
  obtain ⟨q1, v1, u1⟩ := ao (a := 3) (s := 3) la1 (by rw [← hKa1, nn0]; exact g1) d1 1
  rw [← nn0] at c1
  obtain ⟨Rc1, hRc1⟩ : ∃ Rc1, Rc1 = am_ur Rb1 3 1 (some Kb0.2.1) := ⟨_, rfl⟩
  rw [← hRc1] at q1 v1
  have kc1 : am_isK Kb1 3 9 = true := isK_mono kc0 v1.2.2
  have f1_0 : Rc1 3 0 = some 4 := by rw [hRc1, ur_ni _ (by omega), u1]; exact f0_0
  have f1_1 : Rc1 3 1 = some 6 := by rw [hRc1, ur_eq, nn0]
  have nn1 : Kb1.2.1 = 10 := by rw [n1]
  -- draft
  have la2 := isK_lt kc1
  have zi2 := q1.zi
  have zr2 := q1.zr
  have t2 : am_tag Kb1.2.1 = 0 := by rw [nn1]; decide +kernel
  obtain ⟨Ka2, hKa2⟩ : ∃ Ka2, Ka2 = kN Kb1 0 3 := ⟨_, rfl⟩
  have ka2 : am_isK Ka2 10 0 = true := by rw [hKa2, ← nn1]; exact kN_is q1.1 t2
  have na2 : Ka2.2.1 = 11 := by rw [hKa2, kN_n, nn1]
  have fz2 : FZ I Rc1 Ka2 := by rw [hKa2]; exact q1.kN 0 3
  obtain ⟨Rb2, Kb2, c2, d2, g2, n2, m2, x2⟩ := i_code I Rc1 Ka2 10 fz2 ka2 na2 (by decide +kernel) (by decide +kernel) (by decide +kernel)
  obtain ⟨q2, v2, u2⟩ := ao (a := 3) (s := 3) la2 (by rw [← hKa2, nn1]; exact g2) d2 2
  rw [← nn1] at c2
  obtain ⟨Rc2, hRc2⟩ : ∃ Rc2, Rc2 = am_ur Rb2 3 2 (some Kb1.2.1) := ⟨_, rfl⟩
  rw [← hRc2] at q2 v2
  have kc2 : am_isK Kb2 3 9 = true := isK_mono kc1 v2.2.2
  have f2_0 : Rc2 3 0 = some 4 := by rw [hRc2, ur_ni _ (by omega), u2]; exact f1_0
  have f2_1 : Rc2 3 1 = some 6 := by rw [hRc2, ur_ni _ (by omega), u2]; exact f1_1
  have f2_2 : Rc2 3 2 = some 10 := by rw [hRc2, ur_eq, nn1]
  have nn2 : Kb2.2.1 = 14 := by rw [n2]
  -- now
  have la3 := isK_lt kc2
  have zi3 := q2.zi
  have zr3 := q2.zr
  have t3 : am_tag Kb2.2.1 = 7 := by rw [nn2]; decide +kernel
  obtain ⟨Ka3, hKa3⟩ : ∃ Ka3, Ka3 = kN Kb2 0 4 := ⟨_, rfl⟩
  have ka3 : am_isK Ka3 14 7 = true := by rw [hKa3, ← nn2]; exact kN_is q2.1 t3
  have na3 : Ka3.2.1 = 15 := by rw [hKa3, kN_n, nn2]
  have fz3 : FZ I Rc2 Ka3 := by rw [hKa3]; exact q2.kN 0 4
  obtain ⟨Ib3, Rb3, Kb3, c3, d3, g3, n3, m3, x3, e3, o3⟩ := i_state I Rc2 Ka3 14 (by decide +kernel) fz3 ka3 na3
  obtain ⟨q3, v3, u3⟩ := ao (a := 3) (s := 4) la3 (by rw [← hKa3, nn2]; exact g3) d3 3
  rw [← nn2] at c3
  obtain ⟨Rc3, hRc3⟩ : ∃ Rc3, Rc3 = am_ur Rb3 3 3 (some Kb2.2.1) := ⟨_, rfl⟩
  rw [← hRc3] at q3 v3
  have kc3 : am_isK Kb3 3 9 = true := isK_mono kc2 v3.2.2
  have f3_0 : Rc3 3 0 = some 4 := by rw [hRc3, ur_ni _ (by omega), u3]; exact f2_0
  have f3_1 : Rc3 3 1 = some 6 := by rw [hRc3, ur_ni _ (by omega), u3]; exact f2_1
  have f3_2 : Rc3 3 2 = some 10 := by rw [hRc3, ur_ni _ (by omega), u3]; exact f2_2
  have f3_3 : Rc3 3 3 = some 14 := by rw [hRc3, ur_eq, nn2]
  have nn3 : Kb3.2.1 = 38 := by rw [n3]
  -- hist
  have la4 := isK_lt kc3
  have zi4 := q3.zi
  have zr4 := q3.zr
  have t4 : am_tag Kb3.2.1 = 1 := by rw [nn3]; decide +kernel
  obtain ⟨Ka4, hKa4⟩ : ∃ Ka4, Ka4 = kN Kb3 0 3 := ⟨_, rfl⟩
  have ka4 : am_isK Ka4 38 1 = true := by rw [hKa4, ← nn3]; exact kN_is q3.1 t4
  have na4 : Ka4.2.1 = 39 := by rw [hKa4, kN_n, nn3]
  have fz4 : FZ Ib3 Rc3 Ka4 := by rw [hKa4]; exact q3.kN 0 3
  obtain ⟨Ib4, Rb4, Kb4, c4, d4, g4, n4, m4, x4, e4, o4⟩ := i_hist Ib3 Rc3 Ka4 fz4 ka4 na4
  obtain ⟨q4, v4, u4⟩ := ao (a := 3) (s := 3) la4 (by rw [← hKa4, nn3]; exact g4) d4 4
  rw [← nn3] at c4
  obtain ⟨Rc4, hRc4⟩ : ∃ Rc4, Rc4 = am_ur Rb4 3 4 (some Kb3.2.1) := ⟨_, rfl⟩
  rw [← hRc4] at q4 v4
  have kc4 : am_isK Kb4 3 9 = true := isK_mono kc3 v4.2.2
  have f4_0 : Rc4 3 0 = some 4 := by rw [hRc4, ur_ni _ (by omega), u4]; exact f3_0
  have f4_1 : Rc4 3 1 = some 6 := by rw [hRc4, ur_ni _ (by omega), u4]; exact f3_1
  have f4_2 : Rc4 3 2 = some 10 := by rw [hRc4, ur_ni _ (by omega), u4]; exact f3_2
  have f4_3 : Rc4 3 3 = some 14 := by rw [hRc4, ur_ni _ (by omega), u4]; exact f3_3
  have f4_4 : Rc4 3 4 = some 38 := by rw [hRc4, ur_eq, nn3]
  have nn4 : Kb4.2.1 = 136 := by rw [n4]
  -- stack
  have la5 := isK_lt kc4
  have zi5 := q4.zi
  have zr5 := q4.zr
  have t5 : am_tag Kb4.2.1 = 6 := by rw [nn4]; decide +kernel
  obtain ⟨Ka5, hKa5⟩ : ∃ Ka5, Ka5 = kN Kb4 0 2 := ⟨_, rfl⟩
  have ka5 : am_isK Ka5 136 6 = true := by rw [hKa5, ← nn4]; exact kN_is q4.1 t5
  have na5 : Ka5.2.1 = 137 := by rw [hKa5, kN_n, nn4]
  have fz5 : FZ Ib4 Rc4 Ka5 := by rw [hKa5]; exact q4.kN 0 2
  obtain ⟨Rb5, Kb5, c5, d5, g5, n5, m5, x5⟩ := i_stack Ib4 Rc4 Ka5 136 fz5 ka5 na5 (by decide +kernel)
  obtain ⟨q5, v5, u5⟩ := ao (a := 3) (s := 2) la5 (by rw [← hKa5, nn4]; exact g5) d5 5
  rw [← nn4] at c5
  obtain ⟨Rc5, hRc5⟩ : ∃ Rc5, Rc5 = am_ur Rb5 3 5 (some Kb4.2.1) := ⟨_, rfl⟩
  rw [← hRc5] at q5 v5
  have kc5 : am_isK Kb5 3 9 = true := isK_mono kc4 v5.2.2
  have f5_0 : Rc5 3 0 = some 4 := by rw [hRc5, ur_ni _ (by omega), u5]; exact f4_0
  have f5_1 : Rc5 3 1 = some 6 := by rw [hRc5, ur_ni _ (by omega), u5]; exact f4_1
  have f5_2 : Rc5 3 2 = some 10 := by rw [hRc5, ur_ni _ (by omega), u5]; exact f4_2
  have f5_3 : Rc5 3 3 = some 14 := by rw [hRc5, ur_ni _ (by omega), u5]; exact f4_3
  have f5_4 : Rc5 3 4 = some 38 := by rw [hRc5, ur_ni _ (by omega), u5]; exact f4_4
  have f5_5 : Rc5 3 5 = some 136 := by rw [hRc5, ur_eq, nn4]
  have nn5 : Kb5.2.1 = 138 := by rw [n5]
  -- proc
  have la6 := isK_lt kc5
  have zi6 := q5.zi
  have zr6 := q5.zr
  have t6 : am_tag Kb5.2.1 = 4 := by rw [nn5]; decide +kernel
  obtain ⟨Ka6, hKa6⟩ : ∃ Ka6, Ka6 = kN Kb5 0 8 := ⟨_, rfl⟩
  have ka6 : am_isK Ka6 138 4 = true := by rw [hKa6, ← nn5]; exact kN_is q5.1 t6
  have na6 : Ka6.2.1 = 139 := by rw [hKa6, kN_n, nn5]
  have fz6 : FZ Ib4 Rc5 Ka6 := by rw [hKa6]; exact q5.kN 0 8
  obtain ⟨Rb6, Kb6, c6, d6, g6, n6, m6, x6⟩ := i_proc Ib4 Rc5 Ka6 138 fz6 ka6 na6 (by decide +kernel) (by decide +kernel) (by decide +kernel) (by decide +kernel) (by decide +kernel) (by decide +kernel)
  obtain ⟨q6, v6, u6⟩ := ao (a := 3) (s := 8) la6 (by rw [← hKa6, nn5]; exact g6) d6 6
  rw [← nn5] at c6
  obtain ⟨Rc6, hRc6⟩ : ∃ Rc6, Rc6 = am_ur Rb6 3 6 (some Kb5.2.1) := ⟨_, rfl⟩
  rw [← hRc6] at q6 v6
  have kc6 : am_isK Kb6 3 9 = true := isK_mono kc5 v6.2.2
  have f6_0 : Rc6 3 0 = some 4 := by rw [hRc6, ur_ni _ (by omega), u6]; exact f5_0
  have f6_1 : Rc6 3 1 = some 6 := by rw [hRc6, ur_ni _ (by omega), u6]; exact f5_1
  have f6_2 : Rc6 3 2 = some 10 := by rw [hRc6, ur_ni _ (by omega), u6]; exact f5_2
  have f6_3 : Rc6 3 3 = some 14 := by rw [hRc6, ur_ni _ (by omega), u6]; exact f5_3
  have f6_4 : Rc6 3 4 = some 38 := by rw [hRc6, ur_ni _ (by omega), u6]; exact f5_4
  have f6_5 : Rc6 3 5 = some 136 := by rw [hRc6, ur_ni _ (by omega), u6]; exact f5_5
  have f6_6 : Rc6 3 6 = some 138 := by rw [hRc6, ur_eq, nn5]
  have nn6 : Kb6.2.1 = 145 := by rw [n6]
  -- mem
  have la7 := isK_lt kc6
  have zi7 := q6.zi
  have zr7 := q6.zr
  have t7 : am_tag Kb6.2.1 = 2 := by rw [nn6]; decide +kernel
  obtain ⟨Ka7, hKa7⟩ : ∃ Ka7, Ka7 = kN Kb6 0 1 := ⟨_, rfl⟩
  have ka7 : am_isK Ka7 145 2 = true := by rw [hKa7, ← nn6]; exact kN_is q6.1 t7
  have na7 : Ka7.2.1 = 146 := by rw [hKa7, kN_n, nn6]
  have fz7 : FZ Ib4 Rc6 Ka7 := by rw [hKa7]; exact q6.kN 0 1
  obtain ⟨Rb7, Kb7, c7, d7, g7, n7, m7, x7⟩ := i_mem Ib4 Rc6 Ka7 145 fz7 ka7 na7 (by decide +kernel)
  obtain ⟨q7, v7, u7⟩ := ao (a := 3) (s := 1) la7 (by rw [← hKa7, nn6]; exact g7) d7 7
  rw [← nn6] at c7
  obtain ⟨Rc7, hRc7⟩ : ∃ Rc7, Rc7 = am_ur Rb7 3 7 (some Kb6.2.1) := ⟨_, rfl⟩
  rw [← hRc7] at q7 v7
  have kc7 : am_isK Kb7 3 9 = true := isK_mono kc6 v7.2.2
  have f7_0 : Rc7 3 0 = some 4 := by rw [hRc7, ur_ni _ (by omega), u7]; exact f6_0
  have f7_1 : Rc7 3 1 = some 6 := by rw [hRc7, ur_ni _ (by omega), u7]; exact f6_1
  have f7_2 : Rc7 3 2 = some 10 := by rw [hRc7, ur_ni _ (by omega), u7]; exact f6_2
  have f7_3 : Rc7 3 3 = some 14 := by rw [hRc7, ur_ni _ (by omega), u7]; exact f6_3
  have f7_4 : Rc7 3 4 = some 38 := by rw [hRc7, ur_ni _ (by omega), u7]; exact f6_4
  have f7_5 : Rc7 3 5 = some 136 := by rw [hRc7, ur_ni _ (by omega), u7]; exact f6_5
  have f7_6 : Rc7 3 6 = some 138 := by rw [hRc7, ur_ni _ (by omega), u7]; exact f6_6
  have f7_7 : Rc7 3 7 = some 145 := by rw [hRc7, ur_eq, nn6]
  have nn7 : Kb7.2.1 = 147 := by rw [n7]
  have G7 : GX 3 Rc7 Kb7 Rc7 Kb7 := ⟨fun _ _ _ => rfl, fun _ _ => rfl, Nat.le_refl _⟩
  have G6 : GX 3 Rc6 Kb6 Rc7 Kb7 := v7.tr G7
  have G5 : GX 3 Rc5 Kb5 Rc7 Kb7 := v6.tr G6
  have G4 : GX 3 Rc4 Kb4 Rc7 Kb7 := v5.tr G5
  have G3 : GX 3 Rc3 Kb3 Rc7 Kb7 := v4.tr G4
  have G2 : GX 3 Rc2 Kb2 Rc7 Kb7 := v3.tr G3
  have G1 : GX 3 Rc1 Kb1 Rc7 Kb7 := v2.tr G2
  have G0 : GX 3 Rc0 Kb0 Rc7 Kb7 := v1.tr G1
  have G : GX 3 R K Rc7 Kb7 := v0.tr G0
  have O0 : ∀ b, b < Kb0.2.1 → b ≠ 3 → Rc7 b = Rb0 b ∧ Kb7.1 b = Kb0.1 b := fun b z1 z2 => ⟨by rw [G0.1 b z1 z2, hRc0, ur_ne _ _ z2], G0.2.1 b z1⟩
  have O1 : ∀ b, b < Kb1.2.1 → b ≠ 3 → Rc7 b = Rb1 b ∧ Kb7.1 b = Kb1.1 b := fun b z1 z2 => ⟨by rw [G1.1 b z1 z2, hRc1, ur_ne _ _ z2], G1.2.1 b z1⟩
  have O2 : ∀ b, b < Kb2.2.1 → b ≠ 3 → Rc7 b = Rb2 b ∧ Kb7.1 b = Kb2.1 b := fun b z1 z2 => ⟨by rw [G2.1 b z1 z2, hRc2, ur_ne _ _ z2], G2.2.1 b z1⟩
  have O3 : ∀ b, b < Kb3.2.1 → b ≠ 3 → Rc7 b = Rb3 b ∧ Kb7.1 b = Kb3.1 b := fun b z1 z2 => ⟨by rw [G3.1 b z1 z2, hRc3, ur_ne _ _ z2], G3.2.1 b z1⟩
  have O4 : ∀ b, b < Kb4.2.1 → b ≠ 3 → Rc7 b = Rb4 b ∧ Kb7.1 b = Kb4.1 b := fun b z1 z2 => ⟨by rw [G4.1 b z1 z2, hRc4, ur_ne _ _ z2], G4.2.1 b z1⟩
  have O5 : ∀ b, b < Kb5.2.1 → b ≠ 3 → Rc7 b = Rb5 b ∧ Kb7.1 b = Kb5.1 b := fun b z1 z2 => ⟨by rw [G5.1 b z1 z2, hRc5, ur_ne _ _ z2], G5.2.1 b z1⟩
  have O6 : ∀ b, b < Kb6.2.1 → b ≠ 3 → Rc7 b = Rb6 b ∧ Kb7.1 b = Kb6.1 b := fun b z1 z2 => ⟨by rw [G6.1 b z1 z2, hRc6, ur_ne _ _ z2], G6.2.1 b z1⟩
  have O7 : ∀ b, b < Kb7.2.1 → b ≠ 3 → Rc7 b = Rb7 b ∧ Kb7.1 b = Kb7.1 b := fun b z1 z2 => ⟨by rw [G7.1 b z1 z2, hRc7, ur_ne _ _ z2], G7.2.1 b z1⟩
  have L6 : CL Rc7 Kb7 6 := x1.on (fun b z1 z2 => O1 b (by omega) (by omega)) G1.2.2
  have L10 : CL Rc7 Kb7 10 := x2.on (fun b z1 z2 => O2 b (by omega) (by omega)) G2.2.2
  have L14 : SB Rc7 Kb7 14 := x3.on (fun b z1 z2 => O3 b (by omega) (by omega)) G3.2.2
  have L38 : HL Rc7 Kb7 := ⟨isK_mono x4.1 G4.2.2, isK_mono x4.2.1 G4.2.2, by rw [(O4 39 (by omega) (by omega)).2]; exact x4.2.2.1, by rw [(O4 38 (by omega) (by omega)).1]; exact x4.2.2.2.1, fun i hi => ⟨by rw [(O4 39 (by omega) (by omega)).1]; exact (x4.2.2.2.2 i hi).1, (x4.2.2.2.2 i hi).2.on (fun b z1 z2 => O4 b (by omega) (by omega)) G4.2.2⟩⟩
  have L136 : SL Rc7 Kb7 := ⟨isK_mono x5.1 G5.2.2, isK_mono x5.2.1 G5.2.2, by rw [(O5 136 (by omega) (by omega)).1]; exact x5.2.2.1, by rw [(O5 137 (by omega) (by omega)).2]; exact x5.2.2.2⟩
  have L138 : PL Rc7 Kb7 138 := x6.on (fun b z1 z2 => O6 b (by omega) (by omega)) G6.2.2
  have L145 : ML Rc7 Kb7 145 := x7.on (fun b z1 z2 => O7 b (by omega) (by omega)) G7.2.2
  refine ⟨Ib4, Rc7, Kb7, ?_, q7, G, nn7, ?_, ⟨⟨kc7, f7_0, f7_1, f7_2, f7_3, f7_4, f7_5, f7_6, f7_7⟩, L6, L10, L14, L38, L136, L138, L145⟩, ⟨isK_mono y0 G0.2.2, isK_mono y1 G0.2.2, by rw [(O0 4 (by omega) (by omega)).1]; exact y2, by rw [(O0 5 (by omega) (by omega)).2]; exact y3⟩, fun p hp => ?_, e4, fun c hc => ?_⟩
  · simp (disch := first | assumption | omega | exact ixN (by assumption) (by omega) (by omega) | exact ne_10 | exact ne_1000 | exact ne_4) only [s70_0, s70_0a, s70_1, s70_4, s70_4a, s70_5, s70_8, s70_9, s70_12, s70_15, s70_15a, ↓reduceIte, eq_self, Option.bind_some, Option.bind_none, Option.toList_some, Option.toList_none, List.cons_append, List.nil_append, am_rf_s, am_rf_n, am_c1_i, am_c1_r, am_c1_n, List.all_cons, List.all_nil, Bool.and_self, Bool.and_true, Bool.true_and, List.length_cons, List.length_nil, Nat.reduceAdd, Nat.reduceSub, Nat.reduceMul, Nat.reduceLeDiff, Nat.reduceLT, Nat.zero_le, Nat.le_refl, ne_10, ne_1000, ne_4, not_false_eq_true, or_true, true_or, Nat.one_ne_zero, Nat.zero_ne_one, Nat.reduceEqDiff, Bool.true_eq_false, Bool.false_eq_true, n10, am_mk_k, zi0, zr0, ← hKa0, c0, ← hRc0]
    simp (disch := first | assumption | omega | exact ixN (by assumption) (by omega) (by omega) | exact ne_10 | exact ne_1000 | exact ne_4) only [s70_18, s70_18a, s70_19, s70_22, s70_23, s70_26, s70_26a, ↓reduceIte, eq_self, Option.bind_some, Option.bind_none, Option.toList_some, Option.toList_none, List.cons_append, List.nil_append, am_rf_s, am_rf_n, am_c1_i, am_c1_r, am_c1_n, List.all_cons, List.all_nil, Bool.and_self, Bool.and_true, Bool.true_and, List.length_cons, List.length_nil, Nat.reduceAdd, Nat.reduceSub, Nat.reduceMul, Nat.reduceLeDiff, Nat.reduceLT, Nat.zero_le, Nat.le_refl, ne_10, ne_1000, ne_4, not_false_eq_true, or_true, true_or, Nat.one_ne_zero, Nat.zero_ne_one, Nat.reduceEqDiff, Bool.true_eq_false, Bool.false_eq_true, n10, am_mk_k, zi1, zr1, ← hKa1, c1, ← hRc1]
    simp (disch := first | assumption | omega | exact ixN (by assumption) (by omega) (by omega) | exact ne_10 | exact ne_1000 | exact ne_4) only [s70_29, s70_29a, s70_30, s70_33, s70_34, s70_37, s70_37a, ↓reduceIte, eq_self, Option.bind_some, Option.bind_none, Option.toList_some, Option.toList_none, List.cons_append, List.nil_append, am_rf_s, am_rf_n, am_c1_i, am_c1_r, am_c1_n, List.all_cons, List.all_nil, Bool.and_self, Bool.and_true, Bool.true_and, List.length_cons, List.length_nil, Nat.reduceAdd, Nat.reduceSub, Nat.reduceMul, Nat.reduceLeDiff, Nat.reduceLT, Nat.zero_le, Nat.le_refl, ne_10, ne_1000, ne_4, not_false_eq_true, or_true, true_or, Nat.one_ne_zero, Nat.zero_ne_one, Nat.reduceEqDiff, Bool.true_eq_false, Bool.false_eq_true, n10, am_mk_k, zi2, zr2, ← hKa2, c2, ← hRc2]
    simp (disch := first | assumption | omega | exact ixN (by assumption) (by omega) (by omega) | exact ne_10 | exact ne_1000 | exact ne_4) only [s70_40, s70_40a, s70_41, s70_44, s70_45, s70_48, s70_48a, ↓reduceIte, eq_self, Option.bind_some, Option.bind_none, Option.toList_some, Option.toList_none, List.cons_append, List.nil_append, am_rf_s, am_rf_n, am_c1_i, am_c1_r, am_c1_n, List.all_cons, List.all_nil, Bool.and_self, Bool.and_true, Bool.true_and, List.length_cons, List.length_nil, Nat.reduceAdd, Nat.reduceSub, Nat.reduceMul, Nat.reduceLeDiff, Nat.reduceLT, Nat.zero_le, Nat.le_refl, ne_10, ne_1000, ne_4, not_false_eq_true, or_true, true_or, Nat.one_ne_zero, Nat.zero_ne_one, Nat.reduceEqDiff, Bool.true_eq_false, Bool.false_eq_true, n10, am_mk_k, zi3, zr3, ← hKa3, c3, ← hRc3]
    simp (disch := first | assumption | omega | exact ixN (by assumption) (by omega) (by omega) | exact ne_10 | exact ne_1000 | exact ne_4) only [s70_51, s70_51a, s70_52, s70_55, s70_56, s70_59, s70_59a, ↓reduceIte, eq_self, Option.bind_some, Option.bind_none, Option.toList_some, Option.toList_none, List.cons_append, List.nil_append, am_rf_s, am_rf_n, am_c1_i, am_c1_r, am_c1_n, List.all_cons, List.all_nil, Bool.and_self, Bool.and_true, Bool.true_and, List.length_cons, List.length_nil, Nat.reduceAdd, Nat.reduceSub, Nat.reduceMul, Nat.reduceLeDiff, Nat.reduceLT, Nat.zero_le, Nat.le_refl, ne_10, ne_1000, ne_4, not_false_eq_true, or_true, true_or, Nat.one_ne_zero, Nat.zero_ne_one, Nat.reduceEqDiff, Bool.true_eq_false, Bool.false_eq_true, n10, am_mk_k, zi4, zr4, ← hKa4, c4, ← hRc4]
    simp (disch := first | assumption | omega | exact ixN (by assumption) (by omega) (by omega) | exact ne_10 | exact ne_1000 | exact ne_4) only [s70_62, s70_62a, s70_63, s70_66, s70_67, s70_70, s70_70a, ↓reduceIte, eq_self, Option.bind_some, Option.bind_none, Option.toList_some, Option.toList_none, List.cons_append, List.nil_append, am_rf_s, am_rf_n, am_c1_i, am_c1_r, am_c1_n, List.all_cons, List.all_nil, Bool.and_self, Bool.and_true, Bool.true_and, List.length_cons, List.length_nil, Nat.reduceAdd, Nat.reduceSub, Nat.reduceMul, Nat.reduceLeDiff, Nat.reduceLT, Nat.zero_le, Nat.le_refl, ne_10, ne_1000, ne_4, not_false_eq_true, or_true, true_or, Nat.one_ne_zero, Nat.zero_ne_one, Nat.reduceEqDiff, Bool.true_eq_false, Bool.false_eq_true, n10, am_mk_k, zi5, zr5, ← hKa5, c5, ← hRc5]
    simp (disch := first | assumption | omega | exact ixN (by assumption) (by omega) (by omega) | exact ne_10 | exact ne_1000 | exact ne_4) only [s70_73, s70_73a, s70_74, s70_77, s70_78, s70_81, s70_81a, ↓reduceIte, eq_self, Option.bind_some, Option.bind_none, Option.toList_some, Option.toList_none, List.cons_append, List.nil_append, am_rf_s, am_rf_n, am_c1_i, am_c1_r, am_c1_n, List.all_cons, List.all_nil, Bool.and_self, Bool.and_true, Bool.true_and, List.length_cons, List.length_nil, Nat.reduceAdd, Nat.reduceSub, Nat.reduceMul, Nat.reduceLeDiff, Nat.reduceLT, Nat.zero_le, Nat.le_refl, ne_10, ne_1000, ne_4, not_false_eq_true, or_true, true_or, Nat.one_ne_zero, Nat.zero_ne_one, Nat.reduceEqDiff, Bool.true_eq_false, Bool.false_eq_true, n10, am_mk_k, zi6, zr6, ← hKa6, c6, ← hRc6]
    simp (disch := first | assumption | omega | exact ixN (by assumption) (by omega) (by omega) | exact ne_10 | exact ne_1000 | exact ne_4) only [s70_84, s70_84a, s70_85, s70_88, s70_89, s70_92, s70_92a, ↓reduceIte, eq_self, Option.bind_some, Option.bind_none, Option.toList_some, Option.toList_none, List.cons_append, List.nil_append, am_rf_s, am_rf_n, am_c1_i, am_c1_r, am_c1_n, List.all_cons, List.all_nil, Bool.and_self, Bool.and_true, Bool.true_and, List.length_cons, List.length_nil, Nat.reduceAdd, Nat.reduceSub, Nat.reduceMul, Nat.reduceLeDiff, Nat.reduceLT, Nat.zero_le, Nat.le_refl, ne_10, ne_1000, ne_4, not_false_eq_true, or_true, true_or, Nat.one_ne_zero, Nat.zero_ne_one, Nat.reduceEqDiff, Bool.true_eq_false, Bool.false_eq_true, n10, am_mk_k, zi7, zr7, ← hKa7, c7, ← hRc7]
  · rw [m7, hKa7, kN_s, m6, hKa6, kN_s, m5, hKa5, kN_s, m4, hKa4, kN_s, m3, hKa3, kN_s, m2, hKa2, kN_s, m1, hKa1, kN_s, m0, hKa0, kN_s]
  · rw [show 32 + p = 14 + 18 + p by omega, o4 _ (by omega)]; exact e3 p hp
  · rw [o4 c (by omega), o3 c (by omega)]
end DT
