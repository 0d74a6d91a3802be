/-! the class: comeBy -/
section DB
variable (I : am_I) (R : am_R) (K : am_K)
theorem c_comeBy (hX : XL R K) (hb : SB R K 14) (hS : SL R K) (f : Nat → Int32) (hs : RS I R K 14 f) (c p m n d : Nat) (hc : c < 2) (hp : p < 6) (h3 : ¬ f (70 + 208 * p) = nI 3) (hm : f (70 + 208 * p + 7) = nI m) (hm2 : m ≤ 200) (hn : f (8 + 31 * c + 17) = nI n) (hn2 : n ≤ 4) (hacc : nb (f (8 + 31 * c))) (hmem : ∀ k, k < 8 → nb (f k)) (hd : f (8 + 31 * c + 2) = nI d) (hd6 : d ≤ 6) (hh : ∃ h, h ≤ 3 ∧ f (70 + 208 * p + 6) = nI h) (hq : d ≠ 0 → ∃ q, q ≤ 6 ∧ f (8 + 31 * c + 8 + d) = nI q) : ∃ I', ev 93 0 [some (.ref 3), some (.ref (17 + 7 * c)), some (.ref (32 + p))] [] (I, R, K) = some (none, (I', R, K)) ∧ RS I' R K 14 (sMeet f p c m n d) ∧ FN I I' := by
  have x1 := hX.1
  have kp : am_isK K (32 + p) 3 = true := by
    have := (hb.2.2.2.2.2 p hp).2
    rwa [show 14 + 18 + p = 32 + p by omega] at this
  have pl := hb.q hc
  have kq := pl.1.1
  have sq := hs.q hc
  have ad : I (17 + 7 * c) 3 = nI d := by rw [sq.1.1]; exact hd
  obtain ⟨q1, q2, q3, q4⟩ := hs.2.2.2 p hp
  obtain ⟨⟨a1, a2, a3, a4, a5, a6⟩, a7⟩ := q4 h3
  rw [show 14 + 18 + p = 32 + p by omega] at *
  obtain ⟨h, hh1, hh2⟩ := hh
  have a6' : I (32 + p) 7 = nI h := a6.trans hh2
  have miss : RS (st I (32 + p) (uf (I (32 + p)) 6 (f (70 + 208 * p + 5) + nI 1))) R K 14 (uf f (70 + 208 * p + 5) (f (70 + 208 * p + 5) + nI 1)) := hs.prb hp h3 (i := 6) (by omega) (by omega) _
  unfold sMeet
  by_cases c0 : f (70 + 208 * p + 1) = nI 0
  · rw [if_pos c0]
    obtain ⟨I', v1, v2, v3⟩ := c_hit I R K hX hb hS f hs c p m n hc hp h3 hm hm2 hn hn2 hacc hmem
    refine ⟨I', ?_, v2, v3⟩
    simp (disch := first | assumption | omega | exact ixN (by assumption) (by omega) (by omega) | exact ne_10 | exact ne_1000 | exact ne_4) only [s93_0, s93_0a, s93_1, s93_4, s93_7, s93_7a, s93_8, s93_8a, s93_9, s93_9a, s93_10, s93_13, s93_16, s93_16a, s93_17, s93_20, s93_21, s93_24, s93_24a, s93_25, s93_25a, s93_26, s93_29, s93_32, s93_35, s93_35a, s93_36, s93_37, s93_40, s93_41, s93_42, s93_45, s93_48, s93_48a, s93_49, s93_50, s93_53, s93_54, s93_55, s93_58, ↓reduceIte, eq_self, Option.bind_some, Option.bind_none, Option.toList_some, Option.toList_none, List.cons_append, List.nil_append, am_rf_s, am_rf_n, am_c1_i, am_c1_r, am_c1_n, List.all_cons, List.all_nil, Bool.and_self, Bool.and_true, Bool.true_and, List.length_cons, List.length_nil, Nat.reduceAdd, Nat.reduceSub, Nat.reduceMul, Nat.reduceLeDiff, Nat.reduceLT, Nat.zero_le, Nat.le_refl, ne_10, ne_1000, ne_4, not_false_eq_true, or_true, true_or, Nat.one_ne_zero, Nat.zero_ne_one, Nat.reduceEqDiff, Bool.true_eq_false, Bool.false_eq_true, n10, a1, c0, v1]
  · rw [if_neg c0]
    by_cases c3' : f (70 + 208 * p + 6) = nI 3
    · have h33 : h = 3 := by rw [hh2, nI_eq (by omega) (by omega)] at c3'; exact c3'
      subst h33
      rw [if_pos (Or.inr (Or.inr c3'))]
      refine ⟨_, ?_, miss, FN.st I _ (by omega) (by omega)⟩
      simp (disch := first | assumption | omega | exact ixN (by assumption) (by omega) (by omega) | exact ne_10 | exact ne_1000 | exact ne_4) only [s93_0, s93_0a, s93_1, s93_4, s93_7, s93_7a, s93_8, s93_8a, s93_9, s93_9a, s93_10, s93_13, s93_16, s93_16a, s93_17, s93_20, s93_21, s93_24, s93_24a, s93_25, s93_25a, s93_26, s93_29, s93_32, s93_35, s93_35a, s93_36, s93_37, s93_40, s93_41, s93_42, s93_45, s93_48, s93_48a, s93_49, s93_50, s93_53, s93_54, s93_55, s93_58, ↓reduceIte, eq_self, Option.bind_some, Option.bind_none, Option.toList_some, Option.toList_none, List.cons_append, List.nil_append, am_rf_s, am_rf_n, am_c1_i, am_c1_r, am_c1_n, List.all_cons, List.all_nil, Bool.and_self, Bool.and_true, Bool.true_and, List.length_cons, List.length_nil, Nat.reduceAdd, Nat.reduceSub, Nat.reduceMul, Nat.reduceLeDiff, Nat.reduceLT, Nat.zero_le, Nat.le_refl, ne_10, ne_1000, ne_4, not_false_eq_true, or_true, true_or, Nat.one_ne_zero, Nat.zero_ne_one, Nat.reduceEqDiff, Bool.true_eq_false, Bool.false_eq_true, n10, nI_leI, ui_st, a1, c0, a5, a6']
    · have h33 : ¬ 3 ≤ h := by
        rw [hh2, nI_eq (by omega) (by omega)] at c3'; omega
      have ht := c_holdTop I R K (17 + 7 * c) d pl ad hd6 (nI p)
      by_cases c1 : d = 0
      · rw [if_pos (Or.inl c1)] at ht ⊢
        refine ⟨_, ?_, miss, FN.st I _ (by omega) (by omega)⟩
        simp (disch := first | assumption | omega | exact ixN (by assumption) (by omega) (by omega) | exact ne_10 | exact ne_1000 | exact ne_4) only [s93_0, s93_0a, s93_1, s93_4, s93_7, s93_7a, s93_8, s93_8a, s93_9, s93_9a, s93_10, s93_13, s93_16, s93_16a, s93_17, s93_20, s93_21, s93_24, s93_24a, s93_25, s93_25a, s93_26, s93_29, s93_32, s93_35, s93_35a, s93_36, s93_37, s93_40, s93_41, s93_42, s93_45, s93_48, s93_48a, s93_49, s93_50, s93_53, s93_54, s93_55, s93_58, ↓reduceIte, eq_self, Option.bind_some, Option.bind_none, Option.toList_some, Option.toList_none, List.cons_append, List.nil_append, am_rf_s, am_rf_n, am_c1_i, am_c1_r, am_c1_n, List.all_cons, List.all_nil, Bool.and_self, Bool.and_true, Bool.true_and, List.length_cons, List.length_nil, Nat.reduceAdd, Nat.reduceSub, Nat.reduceMul, Nat.reduceLeDiff, Nat.reduceLT, Nat.zero_le, Nat.le_refl, ne_10, ne_1000, ne_4, not_false_eq_true, or_true, true_or, Nat.one_ne_zero, Nat.zero_ne_one, Nat.reduceEqDiff, Bool.true_eq_false, Bool.false_eq_true, n10, nI_leI, ui_st, a1, c0, a5, a6', h33, q1, ht]
      · obtain ⟨q, hq1, hq2⟩ := hq c1
        obtain ⟨d', d1, d2, d3⟩ := sq.2.1
        have ed : d' = d := by rw [hd, nI_eq (by omega) (by omega)] at d2; exact d2.symm
        subst ed
        have hl := (d3 (d' - 1) (by omega)).2
        rw [show 8 + 31 * c + 9 + (d' - 1) = 8 + 31 * c + 8 + d' by omega, hq2] at hl
        by_cases c2 : q = 0
        · subst c2
          have n1 : I (17 + 7 * c + 2) (d' - 1) = -1 := by rw [hl]; decide
          have n0 : ¬ nI 0 < f (8 + 31 * c + 8 + d') := by rw [hq2]; decide
          rw [if_neg (by rintro (z | z); exact c1 z; exact z n1)] at ht
          rw [if_neg (by rintro (z | z | z); exact c1 z; exact n0 z; exact c3' z)]
          dsimp only
          obtain ⟨I1, hI1⟩ : ∃ I1, I1 = st I (17 + 7 * c + 2) (uf (I (17 + 7 * c + 2)) (d' - 1) (nI p)) := ⟨_, rfl⟩
          rw [← hI1] at ht
          obtain ⟨f1, hf1⟩ : ∃ f1, f1 = uf f (8 + 31 * c + 8 + d') (nI (p + 1)) := ⟨_, rfl⟩
          rw [← hf1]
          have fn1 : FN I I1 := by rw [hI1]; exact FN.st I _ (by omega) (by omega)
          have rq : RQ I1 (17 + 7 * c) f1 (8 + 31 * c) := by
            obtain ⟨⟨g1, g2, g3, g4, g5, g6, g7⟩, -, n', n1', n2', n3'⟩ := sq
            rw [hI1, hf1]
            refine ⟨⟨by first | assumption | (simp (disch := omega) only [st_eq, st_ne, uf_eq, uf_ne]; done) | (simp (disch := omega) only [st_eq, st_ne, uf_eq, uf_ne]; assumption), by first | assumption | (simp (disch := omega) only [st_eq, st_ne, uf_eq, uf_ne]; done) | (simp (disch := omega) only [st_eq, st_ne, uf_eq, uf_ne]; assumption), by first | assumption | (simp (disch := omega) only [st_eq, st_ne, uf_eq, uf_ne]; done) | (simp (disch := omega) only [st_eq, st_ne, uf_eq, uf_ne]; assumption), by first | assumption | (simp (disch := omega) only [st_eq, st_ne, uf_eq, uf_ne]; done) | (simp (disch := omega) only [st_eq, st_ne, uf_eq, uf_ne]; assumption), by first | assumption | (simp (disch := omega) only [st_eq, st_ne, uf_eq, uf_ne]; done) | (simp (disch := omega) only [st_eq, st_ne, uf_eq, uf_ne]; assumption), by first | assumption | (simp (disch := omega) only [st_eq, st_ne, uf_eq, uf_ne]; done) | (simp (disch := omega) only [st_eq, st_ne, uf_eq, uf_ne]; assumption), by first | assumption | (simp (disch := omega) only [st_eq, st_ne, uf_eq, uf_ne]; done) | (simp (disch := omega) only [st_eq, st_ne, uf_eq, uf_ne]; assumption)⟩, ⟨d', hd6, by first | assumption | (simp (disch := omega) only [st_eq, st_ne, uf_eq, uf_ne]; done) | (simp (disch := omega) only [st_eq, st_ne, uf_eq, uf_ne]; assumption), fun k hk => ?_⟩, n', n1', by first | assumption | (simp (disch := omega) only [st_eq, st_ne, uf_eq, uf_ne]; done) | (simp (disch := omega) only [st_eq, st_ne, uf_eq, uf_ne]; assumption), fun k hk => ?_⟩
            · obtain ⟨y1, y2⟩ := d3 k hk
              refine ⟨by first | assumption | (simp (disch := omega) only [st_eq, st_ne, uf_eq, uf_ne]; done) | (simp (disch := omega) only [st_eq, st_ne, uf_eq, uf_ne]; assumption), ?_⟩
              by_cases z : k = d' - 1
              · subst z
                rw [st_eq, uf_eq, show 8 + 31 * c + 9 + (d' - 1) = 8 + 31 * c + 8 + d' by omega, uf_eq, pk_sub (by omega)]
                congr 1
              · first | assumption | (simp (disch := omega) only [st_eq, st_ne, uf_eq, uf_ne]; done) | (simp (disch := omega) only [st_eq, st_ne, uf_eq, uf_ne]; assumption)
            · obtain ⟨y1, y2, y3⟩ := n3' k hk
              exact ⟨by first | assumption | (simp (disch := omega) only [st_eq, st_ne, uf_eq, uf_ne]; done) | (simp (disch := omega) only [st_eq, st_ne, uf_eq, uf_ne]; assumption), by first | assumption | (simp (disch := omega) only [st_eq, st_ne, uf_eq, uf_ne]; done) | (simp (disch := omega) only [st_eq, st_ne, uf_eq, uf_ne]; assumption), by first | assumption | (simp (disch := omega) only [st_eq, st_ne, uf_eq, uf_ne]; done) | (simp (disch := omega) only [st_eq, st_ne, uf_eq, uf_ne]; assumption)⟩
          have s1 : RS I1 R K 14 f1 := hs.pro hc (fun a h1 _ _ => by rw [hI1]; exact st_ne _ _ (by omega)) (fun j hj => by rw [hf1]; exact uf_ne _ _ (by omega)) rq
          have g3 : ¬ f1 (70 + 208 * p) = nI 3 := by rw [hf1, uf_ne _ _ (by omega)]; exact h3
          have s2 := s1.prb hp g3 (i := 7) (by omega) (by omega) (f1 (70 + 208 * p + 6) + nI 1)
          have j7 : I1 (32 + p) 7 = f1 (70 + 208 * p + 6) := by
            have := ((s1.2.2.2 p hp).2.2.2 g3).1.2.2.2.2.2
            rwa [show 14 + 18 + p = 32 + p by omega] at this
          refine ⟨_, ?_, s2, fn1.tr (FN.st I1 _ (by omega) (by omega))⟩
          simp (disch := first | assumption | omega | exact ixN (by assumption) (by omega) (by omega) | exact ne_10 | exact ne_1000 | exact ne_4) only [s93_0, s93_0a, s93_1, s93_4, s93_7, s93_7a, s93_8, s93_8a, s93_9, s93_9a, s93_10, s93_13, s93_16, s93_16a, s93_17, s93_20, s93_21, s93_24, s93_24a, s93_25, s93_25a, s93_26, s93_29, s93_32, s93_35, s93_35a, s93_36, s93_37, s93_40, s93_41, s93_42, s93_45, s93_48, s93_48a, s93_49, s93_50, s93_53, s93_54, s93_55, s93_58, ↓reduceIte, eq_self, Option.bind_some, Option.bind_none, Option.toList_some, Option.toList_none, List.cons_append, List.nil_append, am_rf_s, am_rf_n, am_c1_i, am_c1_r, am_c1_n, List.all_cons, List.all_nil, Bool.and_self, Bool.and_true, Bool.true_and, List.length_cons, List.length_nil, Nat.reduceAdd, Nat.reduceSub, Nat.reduceMul, Nat.reduceLeDiff, Nat.reduceLT, Nat.zero_le, Nat.le_refl, ne_10, ne_1000, ne_4, not_false_eq_true, or_true, true_or, Nat.one_ne_zero, Nat.zero_ne_one, Nat.reduceEqDiff, Bool.true_eq_false, Bool.false_eq_true, n10, nI_leI, ui_st, a1, c0, a6', h33, q1, ht, j7]
        · have n1 : ¬ I (17 + 7 * c + 2) (d' - 1) = -1 := by
            rw [hl, pk_sub (by omega)]
            intro z
            have z2 := nI_pos (n := q - 1) (by omega)
            rw [z] at z2
            exact z2 (by decide)
          have n0 : nI 0 < f (8 + 31 * c + 8 + d') := by rw [hq2, nI_ltI (by omega) (by omega)]; omega
          rw [if_pos (Or.inr n1)] at ht
          rw [if_pos (Or.inr (Or.inl n0))]
          refine ⟨_, ?_, miss, FN.st I _ (by omega) (by omega)⟩
          simp (disch := first | assumption | omega | exact ixN (by assumption) (by omega) (by omega) | exact ne_10 | exact ne_1000 | exact ne_4) only [s93_0, s93_0a, s93_1, s93_4, s93_7, s93_7a, s93_8, s93_8a, s93_9, s93_9a, s93_10, s93_13, s93_16, s93_16a, s93_17, s93_20, s93_21, s93_24, s93_24a, s93_25, s93_25a, s93_26, s93_29, s93_32, s93_35, s93_35a, s93_36, s93_37, s93_40, s93_41, s93_42, s93_45, s93_48, s93_48a, s93_49, s93_50, s93_53, s93_54, s93_55, s93_58, ↓reduceIte, eq_self, Option.bind_some, Option.bind_none, Option.toList_some, Option.toList_none, List.cons_append, List.nil_append, am_rf_s, am_rf_n, am_c1_i, am_c1_r, am_c1_n, List.all_cons, List.all_nil, Bool.and_self, Bool.and_true, Bool.true_and, List.length_cons, List.length_nil, Nat.reduceAdd, Nat.reduceSub, Nat.reduceMul, Nat.reduceLeDiff, Nat.reduceLT, Nat.zero_le, Nat.le_refl, ne_10, ne_1000, ne_4, not_false_eq_true, or_true, true_or, Nat.one_ne_zero, Nat.zero_ne_one, Nat.reduceEqDiff, Bool.true_eq_false, Bool.false_eq_true, n10, nI_leI, ui_st, a1, c0, a5, a6', h33, q1, ht]
end DB
