/-! the constructors: a state, the history -/
theorem ML.on {R R' : am_R} {K K' : am_K} {a : Nat} (h : ML R K a) (o : ∀ b, a ≤ b → b < a + 2 → R' b = R b ∧ K'.1 b = K.1 b) (hk : K.2.1 ≤ K'.2.1) : ML R' K' a := by
  obtain ⟨h1, h2, h3, h4⟩ := h
  exact ⟨isK_mono h1 hk, isK_mono h2 hk, by rw [(o a (by omega) (by omega)).1]; exact h3, by rw [(o (a + 1) (by omega) (by omega)).2]; exact h4⟩
theorem PL.on {R R' : am_R} {K K' : am_K} {a : Nat} (h : PL R K a) (o : ∀ b, a ≤ b → b < a + 7 → R' b = R b ∧ K'.1 b = K.1 b) (hk : K.2.1 ≤ K'.2.1) : PL R' K' a := by
  obtain ⟨⟨h1, h2, h3, h4, h5, h6, h7⟩, ⟨r1, r2, r3, r4, r5, r6⟩, l1, l2, l3, l4, l5⟩ := h
  have o0 := (o a (by omega) (by omega)).1
  have o3 := (o (a + 3) (by omega) (by omega)).1
  exact ⟨⟨isK_mono h1 hk, isK_mono h2 hk, isK_mono h3 hk, isK_mono h4 hk, isK_mono h5 hk, isK_mono h6 hk, isK_mono h7 hk⟩, ⟨by rw [o0]; exact r1, by rw [o0]; exact r2, by rw [o0]; exact r3, by rw [o3]; exact r4, by rw [o3]; exact r5, by rw [o3]; exact r6⟩, by rw [(o _ (by omega) (by omega)).2]; exact l1, by rw [(o _ (by omega) (by omega)).2]; exact l2, by rw [(o _ (by omega) (by omega)).2]; exact l3, by rw [(o _ (by omega) (by omega)).2]; exact l4, by rw [(o _ (by omega) (by omega)).2]; exact l5⟩
theorem CL.on {R R' : am_R} {K K' : am_K} {a : Nat} (h : CL R K a) (o : ∀ b, a ≤ b → b < a + 4 → R' b = R b ∧ K'.1 b = K.1 b) (hk : K.2.1 ≤ K'.2.1) : CL R' K' a := by
  obtain ⟨h1, h2, h3, h4, r1, r2, r3, l1, l2⟩ := h
  exact ⟨isK_mono h1 hk, isK_mono h2 hk, isK_mono h3 hk, isK_mono h4 hk, by rw [(o _ (by omega) (by omega)).1]; exact r1, by rw [(o _ (by omega) (by omega)).1]; exact r2, by rw [(o _ (by omega) (by omega)).1]; exact r3, by rw [(o _ (by omega) (by omega)).2]; exact l1, by rw [(o _ (by omega) (by omega)).2]; exact l2⟩
theorem SB.on {R R' : am_R} {K K' : am_K} {b : Nat} (h : SB R K b) (o : ∀ a, b ≤ a → a < b + 24 → R' a = R a ∧ K'.1 a = K.1 a) (hk : K.2.1 ≤ K'.2.1) : SB R' K' b := by
  obtain ⟨⟨h1, h2, h3⟩, ⟨r1, r2, r3, r4⟩, m, p1, p2, q⟩ := h
  have o0 := (o b (by omega) (by omega)).1
  refine ⟨⟨isK_mono h1 hk, isK_mono h2 hk, by rw [(o _ (by omega) (by omega)).2]; exact h3⟩, ⟨by rw [o0]; exact r1, by rw [o0]; exact r2, by rw [o0]; exact r3, by rw [o0]; exact r4⟩, m.on (fun a _ _ => o a (by omega) (by omega)) hk, p1.on (fun a _ _ => o a (by omega) (by omega)) hk, p2.on (fun a _ _ => o a (by omega) (by omega)) hk, fun p hp => ⟨by rw [(o _ (by omega) (by omega)).1]; exact (q p hp).1, isK_mono (q p hp).2 hk⟩⟩
section DS
theorem i_prb (I : am_I) (R : am_R) (K : am_K) (pa p : Nat) (h : am_isK K pa 3 = true) : ev 20 0 [some (.ref pa), some (.int (nI p))] [] (I, R, K) = some (none, (st I pa (uf (uf (I pa) 1 (nI 3)) 0 (nI p)), R, K)) := by
  simp (disch := first | assumption | omega | exact ixN (by assumption) (by omega) (by omega) | exact ne_10 | exact ne_1000 | exact ne_4) only [s20_0, s20_0a, s20_1, s20_4, s20_4a, s20_5, s20_6, s20_9, s20_9a, s20_10, s20_11, s20_14, ↓reduceIte, eq_self, Option.bind_some, Option.bind_none, Option.toList_some, Option.toList_none, List.cons_append, List.nil_append, am_rf_s, am_rf_n, am_c1_i, am_c1_r, am_c1_n, List.all_cons, List.all_nil, Bool.and_self, Bool.and_true, Bool.true_and, List.length_cons, List.length_nil, Nat.reduceAdd, Nat.reduceSub, Nat.reduceMul, Nat.reduceLeDiff, Nat.reduceLT, Nat.zero_le, Nat.le_refl, ne_10, ne_1000, ne_4, not_false_eq_true, or_true, true_or, Nat.one_ne_zero, Nat.zero_ne_one, Nat.reduceEqDiff, Bool.true_eq_false, Bool.false_eq_true, n10, ui_st, st_st, st_eq, st_ne, uf_eq, uf_ne]
theorem i_stl (b : Nat) (hT : ∀ i, i < 24 → am_tag (b + i) = am_tag (14 + i)) : ∀ (r p : Nat) (I : am_I) (R : am_R) (K : am_K), p + r = 6 → FZ I R K → K.2.1 = b + 18 + p → am_isK K b 7 = true → am_isK K (b + 17) 23 = true → R b 3 = some (b + 17) → K.1 (b + 17) = 6 → ∃ I' R' K', ev 52 48 [some (.ref b), some (.int (nI p))] [] (I, R, K) = some (none, (I', R', K')) ∧ FZ I' R' K' ∧ GX (b + 17) R K R' K' ∧ K'.2.1 = b + 24 ∧ K'.2.2 = K.2.2 + 9 * r ∧ (∀ q, p ≤ q → q < 6 → R' (b + 17) q = some (b + 18 + q) ∧ I' (b + 18 + q) 0 = nI q ∧ I' (b + 18 + q) 1 = nI 3) ∧ (∀ q, q < p → R' (b + 17) q = R (b + 17) q) ∧ (∀ c, (c < b + 18 + p ∨ b + 24 ≤ c) → I' c = I c) := by
  intro r
  induction r with
  | zero =>
    intro p I R K hp hz hn hb hk hr hl
    have hp : p = 6 := by omega
    subst hp
    refine ⟨I, R, K, ?_, hz, ⟨fun _ _ _ => rfl, fun _ _ => rfl, Nat.le_refl _⟩, by omega, by omega, fun q h1 h2 => by omega, fun _ _ => rfl, fun _ _ => rfl⟩
    simp (disch := first | assumption | omega | exact ixN (by assumption) (by omega) (by omega) | exact ne_10 | exact ne_1000 | exact ne_4) only [s52_48, s52_49, s52_51, s52_54, s52_54a, s52_55, s52_58, s52_59, s52_62, s52_63, s52_64, s52_67, s52_67a, s52_68, s52_71, s52_74, ↓reduceIte, eq_self, Option.bind_some, Option.bind_none, Option.toList_some, Option.toList_none, List.cons_append, List.nil_append, am_rf_s, am_rf_n, am_c1_i, am_c1_r, am_c1_n, List.all_cons, List.all_nil, Bool.and_self, Bool.and_true, Bool.true_and, List.length_cons, List.length_nil, Nat.reduceAdd, Nat.reduceSub, Nat.reduceMul, Nat.reduceLeDiff, Nat.reduceLT, Nat.zero_le, Nat.le_refl, ne_10, ne_1000, ne_4, not_false_eq_true, or_true, true_or, Nat.one_ne_zero, Nat.zero_ne_one, Nat.reduceEqDiff, Bool.true_eq_false, Bool.false_eq_true, n10, nI_leI]
  | succ r ih =>
    intro p I R K hp hz hn hb hk hr hl
    have q0 : ¬ 6 ≤ p := by omega
    have tp : am_tag K.2.1 = 3 := by
      rw [hn, show b + 18 + p = b + (18 + p) by omega, hT _ (by omega)]
      have : p = 0 ∨ p = 1 ∨ p = 2 ∨ p = 3 ∨ p = 4 ∨ p = 5 := by omega
      rcases this with rfl | rfl | rfl | rfl | rfl | rfl <;> decide +kernel
    have zi := hz.zi
    have zr := hz.zr
    obtain ⟨K1, hK1⟩ : ∃ K1, K1 = kN K 0 9 := ⟨_, rfl⟩
    have n1 : K1.2.1 = b + 18 + (p + 1) := by rw [hK1, kN_n, hn]; omega
    have le1 : K.2.1 ≤ K1.2.1 := by omega
    have kp : am_isK K1 K.2.1 3 = true := by rw [hK1]; exact kN_is hz.1 tp
    have kb1 : am_isK K1 b 7 = true := isK_mono hb le1
    have kk1 : am_isK K1 (b + 17) 23 = true := isK_mono hk le1
    have l1 : K1.1 (b + 17) = 6 := by
      rw [hK1]; show am_ul K.1 K.2.1 0 (b + 17) = 6
      unfold am_ul; rw [if_neg (by omega)]; exact hl
    have ip := i_prb I R K1 K.2.1 p kp
    obtain ⟨I1, hI1⟩ : ∃ I1, I1 = st I K.2.1 (uf (uf (I K.2.1) 1 (nI 3)) 0 (nI p)) := ⟨_, rfl⟩
    obtain ⟨R1, hR1⟩ : ∃ R1, R1 = am_ur R (b + 17) p (some K.2.1) := ⟨_, rfl⟩
    rw [← hI1] at ip
    have hz1 : FZ I1 R1 K1 := by
      rw [hI1, hR1, hK1]
      exact ((hz.kN 0 9).st (by rw [kN_n]; omega) _).ur (by rw [kN_n]; omega) _ _
    obtain ⟨I2, R2, K2, w1, w2, w3, w4, w5, w6, w7, w8⟩ := ih (p + 1) I1 R1 K1 (by omega) hz1 n1 kb1 kk1 (by rw [hR1, ur_ne _ _ (by omega)]; exact hr) l1
    have g1 : GX (b + 17) R K R1 K1 := ⟨fun c _ hc => by rw [hR1]; exact ur_ne _ _ hc, fun c hc => by rw [hK1]; show am_ul K.1 K.2.1 0 c = _; unfold am_ul; rw [if_neg (by omega)], le1⟩
    have ixp : am_ix (nI p) (K1.1 (b + 17)) = true := ixN l1 (by omega) (by omega)
    refine ⟨I2, R2, K2, ?_, w2, g1.tr w3, w4, by rw [w5, hK1, kN_s]; omega, fun q h1 h2 => ?_, fun q hq => ?_, fun c hc => ?_⟩
    · rw [s52_48]
      simp (disch := first | assumption | omega | exact ixN (by assumption) (by omega) (by omega) | exact ne_10 | exact ne_1000 | exact ne_4) only [s52_49, s52_51, s52_54, s52_54a, s52_55, s52_58, s52_59, s52_62, s52_63, s52_64, s52_67, s52_67a, s52_68, s52_71, ↓reduceIte, eq_self, Option.bind_some, Option.bind_none, Option.toList_some, Option.toList_none, List.cons_append, List.nil_append, am_rf_s, am_rf_n, am_c1_i, am_c1_r, am_c1_n, List.all_cons, List.all_nil, Bool.and_self, Bool.and_true, Bool.true_and, List.length_cons, List.length_nil, Nat.reduceAdd, Nat.reduceSub, Nat.reduceMul, Nat.reduceLeDiff, Nat.reduceLT, Nat.zero_le, Nat.le_refl, ne_10, ne_1000, ne_4, not_false_eq_true, or_true, true_or, Nat.one_ne_zero, Nat.zero_ne_one, Nat.reduceEqDiff, Bool.true_eq_false, Bool.false_eq_true, n10, nI_leI, nI_add, nI_clamp, q0, hr, am_mk_k, zi, zr, ← hK1, ip, ← hR1, w1]
    · by_cases z : q = p
      · subst z
        rw [w7 q (by omega), w8 (b + 18 + q) (by omega), hR1, ur_eq, hI1, ← hn, st_eq]
        exact ⟨rfl, uf_eq _ _ _, by rw [uf_ne _ _ (by omega), uf_eq]⟩
      · exact w6 q (by omega) h2
    · rw [w7 q (by omega), hR1, ur_ni _ (by omega)]
    · rw [w8 c (by omega), hI1, st_ne _ _ (by omega)]
theorem i_state (I : am_I) (R : am_R) (K : am_K) (b : Nat) (hT : ∀ i, i < 24 → am_tag (b + i) = am_tag (14 + i)) (hz : FZ I R K) (hk : am_isK K b 7 = true) (hn : K.2.1 = b + 1) : ∃ I' R' K', ev 52 0 [some (.ref b), none] [] (I, R, K) = some (none, (I', R', K')) ∧ FZ I' R' K' ∧ GX b R K R' K' ∧ K'.2.1 = b + 24 ∧ K'.2.2 = K.2.2 + 143 ∧ SB R' K' b ∧ (∀ p, p < 6 → I' (b + 18 + p) 0 = nI p ∧ I' (b + 18 + p) 1 = nI 3) ∧ (∀ c, (c < b + 18 ∨ b + 24 ≤ c) → I' c = I c) := by
  have p0 : ¬ nI 6 < 0 := by decide
  have p1 : (nI 6).toNatClampNeg ≤ 10000 := by decide
  have p2 : (nI 6).toNatClampNeg = 6 := by decide
  have T : ∀ i t, i < 24 → am_tag (14 + i) = t → am_tag (b + i) = t := fun i t hi ht => (hT i hi).trans ht
  have la := isK_lt hk
  -- memory
  have zi := hz.zi
  have zr := hz.zr
  have tm : am_tag K.2.1 = 2 := by rw [hn]; exact T 1 2 (by omega) (by decide +kernel)
  obtain ⟨K1, hK1⟩ : ∃ K1, K1 = kN K 0 1 := ⟨_, rfl⟩
  obtain ⟨R2, K2, a1, a2, a3, a4, a5, a6⟩ := i_mem I R K1 (b + 1) (by rw [hK1]; exact hz.kN 0 1) (by rw [hK1, ← hn]; exact kN_is hz.1 tm) (by rw [hK1, kN_n, hn]) (T 2 20 (by omega) (by decide +kernel))
  obtain ⟨c1, c2, c3⟩ := ao (a := b) (s := 1) la (by rw [← hK1, hn]; exact a3) a2 0
  rw [← hn] at a1
  obtain ⟨R3, hR3⟩ : ∃ R3, R3 = am_ur R2 b 0 (some K.2.1) := ⟨_, rfl⟩
  rw [← hR3] at c1 c2
  have k3 : am_isK K2 b 7 = true := isK_mono hk c2.2.2
  have m3 : ML R3 K2 (b + 1) := a6.on (fun a h1 h2 => ⟨by rw [hR3]; exact ur_ne _ _ (by omega), rfl⟩) (Nat.le_refl _)
  have f30 : R3 b 0 = some (b + 1) := by rw [hR3, ur_eq, hn]
  -- the first processor
  have zi3 := c1.zi
  have zr3 := c1.zr
  have la3 := isK_lt k3
  have tp : am_tag K2.2.1 = 4 := by rw [a4]; exact T 3 4 (by omega) (by decide +kernel)
  obtain ⟨K4, hK4⟩ : ∃ K4, K4 = kN K2 0 8 := ⟨_, rfl⟩
  have e2 : K2.2.1 = b + 3 := by rw [a4]
  obtain ⟨R5, K5, b1, b2, b3, b4, b5, b6⟩ := i_proc I R3 K4 (b + 3) (by rw [hK4]; exact c1.kN 0 8) (by rw [hK4, ← e2]; exact kN_is c1.1 tp) (by rw [hK4, kN_n, e2]) (T 4 20 (by omega) (by decide +kernel)) (T 5 20 (by omega) (by decide +kernel)) (T 6 5 (by omega) (by decide +kernel)) (T 7 20 (by omega) (by decide +kernel)) (T 8 20 (by omega) (by decide +kernel)) (T 9 20 (by omega) (by decide +kernel))
  obtain ⟨d1, d2, d3⟩ := ao (a := b) (s := 8) la3 (by rw [← hK4, e2]; exact b3) b2 1
  rw [← e2] at b1
  obtain ⟨R6, hR6⟩ : ∃ R6, R6 = am_ur R5 b 1 (some K2.2.1) := ⟨_, rfl⟩
  rw [← hR6] at d1 d2
  have k6 : am_isK K5 b 7 = true := isK_mono k3 d2.2.2
  have m6 : ML R6 K5 (b + 1) := m3.on (fun a h1 h2 => ⟨d2.1 a (by omega) (by omega), d2.2.1 a (by omega)⟩) d2.2.2
  have q6 : PL R6 K5 (b + 3) := b6.on (fun a h1 h2 => ⟨by rw [hR6]; exact ur_ne _ _ (by omega), rfl⟩) (Nat.le_refl _)
  have f60 : R6 b 0 = some (b + 1) := by rw [hR6, ur_ni _ (by omega), d3]; exact f30
  have f61 : R6 b 1 = some (b + 3) := by rw [hR6, ur_eq, e2]
  -- the second
  have zi6 := d1.zi
  have zr6 := d1.zr
  have la6 := isK_lt k6
  have e5 : K5.2.1 = b + 10 := by rw [b4]
  have tp2 : am_tag K5.2.1 = 4 := by rw [e5]; exact T 10 4 (by omega) (by decide +kernel)
  obtain ⟨K7, hK7⟩ : ∃ K7, K7 = kN K5 0 8 := ⟨_, rfl⟩
  obtain ⟨R8, K8, g1, g2, g3, g4, g5, g6⟩ := i_proc I R6 K7 (b + 10) (by rw [hK7]; exact d1.kN 0 8) (by rw [hK7, ← e5]; exact kN_is d1.1 tp2) (by rw [hK7, kN_n, e5]) (T 11 20 (by omega) (by decide +kernel)) (T 12 20 (by omega) (by decide +kernel)) (T 13 5 (by omega) (by decide +kernel)) (T 14 20 (by omega) (by decide +kernel)) (T 15 20 (by omega) (by decide +kernel)) (T 16 20 (by omega) (by decide +kernel))
  obtain ⟨h1, h2, h3⟩ := ao (a := b) (s := 8) la6 (by rw [← hK7, e5]; exact g3) g2 2
  rw [← e5] at g1
  obtain ⟨R9, hR9⟩ : ∃ R9, R9 = am_ur R8 b 2 (some K5.2.1) := ⟨_, rfl⟩
  rw [← hR9] at h1 h2
  have k9 : am_isK K8 b 7 = true := isK_mono k6 h2.2.2
  have m9 : ML R9 K8 (b + 1) := m6.on (fun a _ _ => ⟨h2.1 a (by omega) (by omega), h2.2.1 a (by omega)⟩) h2.2.2
  have q9 : PL R9 K8 (b + 3) := q6.on (fun a _ _ => ⟨h2.1 a (by omega) (by omega), h2.2.1 a (by omega)⟩) h2.2.2
  have s9 : PL R9 K8 (b + 10) := g6.on (fun a _ _ => ⟨by rw [hR9]; exact ur_ne _ _ (by omega), rfl⟩) (Nat.le_refl _)
  have f90 : R9 b 0 = some (b + 1) := by rw [hR9, ur_ni _ (by omega), h3]; exact f60
  have f91 : R9 b 1 = some (b + 3) := by rw [hR9, ur_ni _ (by omega), h3]; exact f61
  have f92 : R9 b 2 = some (b + 10) := by rw [hR9, ur_eq, e5]
  -- the row of probes
  have zi9 := h1.zi
  have zr9 := h1.zr
  have la9 := isK_lt k9
  have e8 : K8.2.1 = b + 17 := by rw [g4]
  have tq : am_tag K8.2.1 = 23 := by rw [e8]; exact T 17 23 (by omega) (by decide +kernel)
  obtain ⟨u1, u2, u3, u4⟩ := af h1 la9 3 6 6 23 tq
  obtain ⟨R10, hR10⟩ : ∃ R10, R10 = am_ur R9 b 3 (some K8.2.1) := ⟨_, rfl⟩
  obtain ⟨K10, hK10⟩ : ∃ K10, K10 = kN K8 6 6 := ⟨_, rfl⟩
  rw [← hR10, ← hK10] at u1 u2
  rw [← hK10, e8] at u3 u4
  have n10 : K10.2.1 = b + 18 + 0 := by rw [hK10, kN_n, e8]
  have k10 : am_isK K10 b 7 = true := isK_mono k9 u2.2.2
  have f103 : R10 b 3 = some (b + 17) := by rw [hR10, ur_eq, e8]
  obtain ⟨I11, R11, K11, w1, w2, w3, w4, w5, w6, w7, w8⟩ := i_stl b hT 6 0 I R10 K10 (by omega) u1 n10 k10 u3 f103 u4
  have x : GX b R9 K8 R10 K10 := u2
  have o : ∀ a, b ≤ a → a < b + 17 → a ≠ b → R11 a = R9 a ∧ K11.1 a = K8.1 a := fun a z1 z2 z3 => ⟨by rw [w3.1 a (by omega) (by omega), x.1 a (by omega) z3], by rw [w3.2.1 a (by omega), x.2.1 a (by omega)]⟩
  have le11 : K8.2.1 ≤ K11.2.1 := by omega
  have rb : R11 b = R10 b := w3.1 b (by omega) (by omega)
  have k91 : am_isK K8 b 7 = true := k9
  refine ⟨I11, R11, K11, ?_, w2, ⟨fun a z1 z2 => ?_, fun a z => ?_, by omega⟩, w4, ?_, ⟨⟨isK_mono k10 w3.2.2, isK_mono u3 w3.2.2, by rw [w3.2.1 _ (by omega)]; exact u4⟩, ⟨?_, ?_, ?_, ?_⟩, m9.on (fun a z1 z2 => o a (by omega) (by omega) (by omega)) le11, q9.on (fun a z1 z2 => o a (by omega) (by omega) (by omega)) le11, s9.on (fun a z1 z2 => o a (by omega) (by omega) (by omega)) le11, fun p hp => ⟨(w6 p (by omega) hp).1, ?_⟩⟩, fun p hp => (w6 p (by omega) hp).2, fun c hc => w8 c (by omega)⟩
  · simp (disch := first | assumption | omega | exact ixN (by assumption) (by omega) (by omega) | exact ne_10 | exact ne_1000 | exact ne_4) only [s52_0, s52_0a, s52_1, s52_4, s52_4a, s52_5, s52_8, s52_9, s52_12, s52_12a, s52_15, s52_15a, s52_16, s52_19, s52_20, s52_23, s52_23a, s52_26, s52_26a, s52_27, s52_30, s52_31, s52_34, s52_34a, s52_37, s52_37a, ↓reduceIte, eq_self, Option.bind_some, Option.bind_none, Option.toList_some, Option.toList_none, List.cons_append, List.nil_append, am_rf_s, am_rf_n, am_c1_i, am_c1_r, am_c1_n, List.all_cons, List.all_nil, Bool.and_self, Bool.and_true, Bool.true_and, List.length_cons, List.length_nil, Nat.reduceAdd, Nat.reduceSub, Nat.reduceMul, Nat.reduceLeDiff, Nat.reduceLT, Nat.zero_le, Nat.le_refl, ne_10, ne_1000, ne_4, not_false_eq_true, or_true, true_or, Nat.one_ne_zero, Nat.zero_ne_one, Nat.reduceEqDiff, Bool.true_eq_false, Bool.false_eq_true, n10, am_mk_k, zi, zr, ← hK1, a1, ← hR3, zi3, zr3, ← hK4, b1, ← hR6, zi6, zr6, ← hK7, g1, ← hR9]
    simp (disch := first | assumption | omega | exact ixN (by assumption) (by omega) (by omega) | exact ne_10 | exact ne_1000 | exact ne_4) only [s52_38, s52_40, s52_43, s52_43a, s52_46, s52_47, ↓reduceIte, eq_self, Option.bind_some, Option.bind_none, Option.toList_some, Option.toList_none, List.cons_append, List.nil_append, am_rf_s, am_rf_n, am_c1_i, am_c1_r, am_c1_n, List.all_cons, List.all_nil, Bool.and_self, Bool.and_true, Bool.true_and, List.length_cons, List.length_nil, Nat.reduceAdd, Nat.reduceSub, Nat.reduceMul, Nat.reduceLeDiff, Nat.reduceLT, Nat.zero_le, Nat.le_refl, ne_10, ne_1000, ne_4, not_false_eq_true, or_true, true_or, Nat.one_ne_zero, Nat.zero_ne_one, Nat.reduceEqDiff, Bool.true_eq_false, Bool.false_eq_true, n10, am_mk_k, p2, zi9, zr9, ← hK10, ← hR10, w1]
  · rw [w3.1 a (by omega) (by omega), x.1 a (by omega) z2, h2.1 a (by omega) z2, d2.1 a (by omega) z2, c2.1 a z1 z2]
  · rw [w3.2.1 a (by omega), x.2.1 a (by omega), h2.2.1 a (by omega), d2.2.1 a (by omega), c2.2.1 a z]
  · rw [w5, hK10, kN_s, g5, hK7, kN_s, b5, hK4, kN_s, a5, hK1, kN_s]
  · rw [rb, hR10, ur_ni _ (by omega)]; exact f90
  · rw [rb, hR10, ur_ni _ (by omega)]; exact f91
  · rw [rb, hR10, ur_ni _ (by omega)]; exact f92
  · rw [rb]; exact f103
  · have : am_tag (b + 18 + p) = 3 := by
      rw [show b + 18 + p = b + (18 + p) by omega, hT _ (by omega)]
      have : p = 0 ∨ p = 1 ∨ p = 2 ∨ p = 3 ∨ p = 4 ∨ p = 5 := by omega
      rcases this with rfl | rfl | rfl | rfl | rfl | rfl <;> decide +kernel
    unfold am_isK
    have h3 := hz.1
    simp [this]
    omega
end DS
