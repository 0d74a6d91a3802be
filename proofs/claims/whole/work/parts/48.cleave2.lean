/-! the class: leave, second half -/
theorem uf_id (f : Nat → Int32) (i : Nat) : uf f i (f i) = f := by
  funext k; unfold uf; by_cases q : k = i
  · rw [if_pos q, q]
  · rw [if_neg q]
/-- whether a probe is on, off, dying or gone -/
theorem RS.is {I : am_I} {R : am_R} {K : am_K} {f : Nat → Int32} (h : RS I R K 14 f) {p s : Nat} (hp : p < 6) (h3 : ¬ f (70 + 208 * p) = nI 3) (hs : s ≤ 3) : RS (st I (32 + p) (uf (I (32 + p)) 1 (nI s))) R K 14 (uf f (70 + 208 * p) (nI s)) := by
  obtain ⟨s1, s2, s3, s4⟩ := h
  have fn : FN I (st I (32 + p) (uf (I (32 + p)) 1 (nI s))) := FN.st I _ (by omega) (by omega)
  refine ⟨fun k hk => ?_, s2.cg (fun j hj => st_ne _ _ (by omega)) (fun j _ _ => uf_ne _ _ (by omega)), s3.cg (fun j hj => st_ne _ _ (by omega)) (fun j _ _ => uf_ne _ _ (by omega)), fun q hq => ?_⟩
  · rw [st_ne _ _ (by omega), uf_ne _ _ (by omega)]; exact s1 k hk
  · by_cases e : q = p
    · subst e
      obtain ⟨p1, p2, p3, p4⟩ := s4 q hq
      obtain ⟨⟨a1, a2, a3, a4, a5, a6⟩, a7⟩ := p4 h3
      have e14 : 14 + 18 + q = 32 + q := by omega
      rw [e14] at *
      refine ⟨by first | assumption | (simp (disch := omega) only [st_eq, st_ne, uf_eq, uf_ne]; done) | (simp (disch := omega) only [st_eq, st_ne, uf_eq, uf_ne]; assumption), by first | assumption | (simp (disch := omega) only [st_eq, st_ne, uf_eq, uf_ne]; done) | (simp (disch := omega) only [st_eq, st_ne, uf_eq, uf_ne]; assumption), ⟨s, hs, uf_eq _ _ _⟩, fun _ => ⟨⟨by first | assumption | (simp (disch := omega) only [st_eq, st_ne, uf_eq, uf_ne]; done) | (simp (disch := omega) only [st_eq, st_ne, uf_eq, uf_ne]; assumption), by first | assumption | (simp (disch := omega) only [st_eq, st_ne, uf_eq, uf_ne]; done) | (simp (disch := omega) only [st_eq, st_ne, uf_eq, uf_ne]; assumption), by first | assumption | (simp (disch := omega) only [st_eq, st_ne, uf_eq, uf_ne]; done) | (simp (disch := omega) only [st_eq, st_ne, uf_eq, uf_ne]; assumption), by first | assumption | (simp (disch := omega) only [st_eq, st_ne, uf_eq, uf_ne]; done) | (simp (disch := omega) only [st_eq, st_ne, uf_eq, uf_ne]; assumption), by first | assumption | (simp (disch := omega) only [st_eq, st_ne, uf_eq, uf_ne]; done) | (simp (disch := omega) only [st_eq, st_ne, uf_eq, uf_ne]; assumption), by first | assumption | (simp (disch := omega) only [st_eq, st_ne, uf_eq, uf_ne]; done) | (simp (disch := omega) only [st_eq, st_ne, uf_eq, uf_ne]; assumption)⟩, a7.fr rfl (XE.rf R K) (fn.dy K) (fun j j1 j2 => uf_ne _ _ (by omega))⟩⟩
    · exact (s4 q hq).fr (st_ne _ _ (by omega)) rfl (XE.rf R K) (fn.dy K) (fun j _ _ => uf_ne _ _ (by omega))
section DC
variable (I : am_I) (R : am_R) (K : am_K)
theorem sHit_keep (f : Nat → Int32) (p c m n : Nat) (hc : c < 2) (hn : n ≤ 4) : sHit f p c m n (70 + 208 * p + 6) = f (70 + 208 * p + 6) ∧ sHit f p c m n (70 + 208 * p) = f (70 + 208 * p) := by
  unfold sHit
  split
  · exact ⟨by simp (disch := omega) only [uf_ne], by simp (disch := omega) only [uf_ne]⟩
  · have e := (sRing_eqs (uf f (70 + 208 * p + 3) (f (70 + 208 * p + 3) + nI 1)) (8 + 31 * c) n (nI p) hn).1
    exact ⟨by rw [e _ (by omega), uf_ne _ _ (by omega)], by rw [e _ (by omega), uf_ne _ _ (by omega)]⟩
theorem c_leave (hX : XL R K) (hb : SB R K 14) (hS : SL R K) (f : Nat → Int32) (hs : RS I R K 14 f) (c p m n h : Nat) (hc : c < 2) (hp : p < 6) (h3 : ¬ f (70 + 208 * p) = nI 3) (hm : f (70 + 208 * p + 7) = nI m) (hm2 : m ≤ 200) (hn : f (8 + 31 * c + 17) = nI n) (hn2 : n ≤ 4) (hacc : nb (f (8 + 31 * c))) (hmem : ∀ k, k < 8 → nb (f k)) (hh : f (70 + 208 * p + 6) = nI (h + 1)) (hh2 : h ≤ 3) : ∃ I', ev 94 0 [some (.ref 3), some (.ref (17 + 7 * c)), some (.ref (32 + p))] [] (I, R, K) = some (none, (I', R, K)) ∧ RS I' R K 14 (sFree (if f (70 + 208 * p) = nI 0 then sHit f p c m n else f) (p + 1)) ∧ FN I I' := by
  have x1 := hX.1
  have kp : am_isK K (32 + p) 3 = true := by
    have := (hb.2.2.2.2.2 p hp).2
    rwa [show 14 + 18 + p = 32 + p by omega] at this
  obtain ⟨q1, q2, q3, q4⟩ := hs.2.2.2 p hp
  obtain ⟨⟨a1, a2, a3, a4, a5, a6⟩, a7⟩ := q4 h3
  rw [show 14 + 18 + p = 32 + p by omega] at *
  have a6' : I (32 + p) 7 = nI (h + 1) := a6.trans hh
  obtain ⟨f1, hf1⟩ : ∃ f1, f1 = uf f (70 + 208 * p + 6) (nI h) := ⟨_, rfl⟩
  obtain ⟨I1, hI1⟩ : ∃ I1, I1 = st I (32 + p) (uf (I (32 + p)) 7 (nI h)) := ⟨_, rfl⟩
  have s1 : RS I1 R K 14 f1 := by rw [hI1, hf1]; exact hs.prb hp h3 (i := 7) (by omega) (by omega) _
  have fn1 : FN I I1 := by rw [hI1]; exact FN.st I _ (by omega) (by omega)
  have g : ∀ j, j ≠ 70 + 208 * p + 6 → f1 j = f j := fun j hj => by rw [hf1]; exact uf_ne _ _ hj
  have i1 : I1 (32 + p) 1 = f (70 + 208 * p) := by rw [hI1, st_eq, uf_ne _ _ (by omega)]; exact q2
  have i7 : I1 (32 + p) 7 = nI h := by rw [hI1, st_eq, uf_eq]
  have eh : nI (h + 1) - nI 1 = nI h := pk_sub (by omega)
  unfold sFree
  rw [if_neg (by omega), show p + 1 - 1 = p by omega]
  by_cases c0 : f (70 + 208 * p) = nI 0
  · rw [if_pos c0]
    obtain ⟨k1, k2⟩ := sHit_keep f p c m n hc hn2
    obtain ⟨I2, v1, v2, v3⟩ := c_hit I1 R K hX hb hS f1 s1 c p m n hc hp (by rw [g _ (by omega)]; exact h3) (by rw [g _ (by omega)]; exact hm) hm2 (by rw [g _ (by omega)]; exact hn) hn2 (by rw [g _ (by omega)]; exact hacc) (fun k hk => by rw [g _ (by omega)]; exact hmem k hk)
    rw [hf1, sHit_up f p c m n (nI h) hc hn2] at v2
    have w : I2 (32 + p) 1 = nI 0 := by
      have := (v2.2.2.2 p hp).2.1
      rw [show 14 + 18 + p = 32 + p by omega, uf_ne _ _ (by omega), k2, c0] at this
      exact this
    have go := c_goIf I2 R K (32 + p) kp
    rw [w, if_neg (fun z => absurd z.1 (by decide))] at go
    refine ⟨I2, ?_, ?_, fn1.tr v3⟩
    · simp (disch := first | assumption | omega | exact ixN (by assumption) (by omega) (by omega) | exact ne_10 | exact ne_1000 | exact ne_4) only [s94_0, s94_0a, s94_1, s94_2, s94_5, s94_6, s94_7, s94_10, s94_10a, s94_11, s94_14, s94_17, s94_17a, s94_18, s94_18a, s94_19, s94_19a, s94_20, s94_23, s94_23a, s94_24, s94_27, ↓reduceIte, eq_self, Option.bind_some, Option.bind_none, Option.toList_some, Option.toList_none, List.cons_append, List.nil_append, am_rf_s, am_rf_n, am_c1_i, am_c1_r, am_c1_n, List.all_cons, List.all_nil, Bool.and_self, Bool.and_true, Bool.true_and, List.length_cons, List.length_nil, Nat.reduceAdd, Nat.reduceSub, Nat.reduceMul, Nat.reduceLeDiff, Nat.reduceLT, Nat.zero_le, Nat.le_refl, ne_10, ne_1000, ne_4, not_false_eq_true, or_true, true_or, Nat.one_ne_zero, Nat.zero_ne_one, Nat.reduceEqDiff, Bool.true_eq_false, Bool.false_eq_true, n10, ui_st, a6', eh, ← hI1, i1, c0, v1, go]
    · dsimp only
      rw [k1, hh, eh, uf_ne _ _ (by omega), k2, c0, if_neg (by decide)]
      have e0 : uf (sHit f p c m n) (70 + 208 * p + 6) (nI h) (70 + 208 * p) = nI 0 := by rw [uf_ne _ _ (by omega), k2, c0]
      have e1 := uf_id (uf (sHit f p c m n) (70 + 208 * p + 6) (nI h)) (70 + 208 * p)
      rw [e0] at e1
      rw [e1]
      exact v2
  · rw [if_neg c0]
    dsimp only
    rw [hh, eh, ← hf1]
    have g0 : f1 (70 + 208 * p) = f (70 + 208 * p) := g _ (by omega)
    have g6 : f1 (70 + 208 * p + 6) = nI h := by rw [hf1, uf_eq]
    have go := c_goIf I1 R K (32 + p) kp
    rw [i1, i7] at go
    by_cases c2 : f (70 + 208 * p) = nI 2
    · by_cases c3 : h = 0
      · subst c3
        rw [if_pos ⟨c2, Int32.le_refl _⟩] at go
        rw [g0, if_pos c2, g6, if_pos rfl]
        refine ⟨_, ?_, s1.is hp (by rw [g0]; exact h3) (s := 3) (by omega), fn1.tr (FN.st I1 _ (by omega) (by omega))⟩
        simp (disch := first | assumption | omega | exact ixN (by assumption) (by omega) (by omega) | exact ne_10 | exact ne_1000 | exact ne_4) only [s94_0, s94_0a, s94_1, s94_2, s94_5, s94_6, s94_7, s94_10, s94_10a, s94_11, s94_14, s94_17, s94_17a, s94_18, s94_18a, s94_19, s94_19a, s94_20, s94_23, s94_23a, s94_24, s94_27, ↓reduceIte, eq_self, Option.bind_some, Option.bind_none, Option.toList_some, Option.toList_none, List.cons_append, List.nil_append, am_rf_s, am_rf_n, am_c1_i, am_c1_r, am_c1_n, List.all_cons, List.all_nil, Bool.and_self, Bool.and_true, Bool.true_and, List.length_cons, List.length_nil, Nat.reduceAdd, Nat.reduceSub, Nat.reduceMul, Nat.reduceLeDiff, Nat.reduceLT, Nat.zero_le, Nat.le_refl, ne_10, ne_1000, ne_4, not_false_eq_true, or_true, true_or, Nat.one_ne_zero, Nat.zero_ne_one, Nat.reduceEqDiff, Bool.true_eq_false, Bool.false_eq_true, n10, ui_st, a6', eh, ← hI1, i1, c0, go]
      · rw [if_neg (fun z => by have := z.2; rw [nI_leI (by omega) (by omega)] at this; omega)] at go
        rw [g0, if_pos c2, g6, if_neg (by rw [nI_eq (by omega) (by omega)]; exact c3)]
        refine ⟨I1, ?_, by rw [← g0, uf_id]; exact s1, fn1⟩
        simp (disch := first | assumption | omega | exact ixN (by assumption) (by omega) (by omega) | exact ne_10 | exact ne_1000 | exact ne_4) only [s94_0, s94_0a, s94_1, s94_2, s94_5, s94_6, s94_7, s94_10, s94_10a, s94_11, s94_14, s94_17, s94_17a, s94_18, s94_18a, s94_19, s94_19a, s94_20, s94_23, s94_23a, s94_24, s94_27, ↓reduceIte, eq_self, Option.bind_some, Option.bind_none, Option.toList_some, Option.toList_none, List.cons_append, List.nil_append, am_rf_s, am_rf_n, am_c1_i, am_c1_r, am_c1_n, List.all_cons, List.all_nil, Bool.and_self, Bool.and_true, Bool.true_and, List.length_cons, List.length_nil, Nat.reduceAdd, Nat.reduceSub, Nat.reduceMul, Nat.reduceLeDiff, Nat.reduceLT, Nat.zero_le, Nat.le_refl, ne_10, ne_1000, ne_4, not_false_eq_true, or_true, true_or, Nat.one_ne_zero, Nat.zero_ne_one, Nat.reduceEqDiff, Bool.true_eq_false, Bool.false_eq_true, n10, ui_st, a6', eh, ← hI1, i1, c0, go]
    · rw [if_neg (fun z => c2 z.1)] at go
      rw [g0, if_neg c2]
      refine ⟨I1, ?_, by rw [← g0, uf_id]; exact s1, fn1⟩
      simp (disch := first | assumption | omega | exact ixN (by assumption) (by omega) (by omega) | exact ne_10 | exact ne_1000 | exact ne_4) only [s94_0, s94_0a, s94_1, s94_2, s94_5, s94_6, s94_7, s94_10, s94_10a, s94_11, s94_14, s94_17, s94_17a, s94_18, s94_18a, s94_19, s94_19a, s94_20, s94_23, s94_23a, s94_24, s94_27, ↓reduceIte, eq_self, Option.bind_some, Option.bind_none, Option.toList_some, Option.toList_none, List.cons_append, List.nil_append, am_rf_s, am_rf_n, am_c1_i, am_c1_r, am_c1_n, List.all_cons, List.all_nil, Bool.and_self, Bool.and_true, Bool.true_and, List.length_cons, List.length_nil, Nat.reduceAdd, Nat.reduceSub, Nat.reduceMul, Nat.reduceLeDiff, Nat.reduceLT, Nat.zero_le, Nat.le_refl, ne_10, ne_1000, ne_4, not_false_eq_true, or_true, true_or, Nat.one_ne_zero, Nat.zero_ne_one, Nat.reduceEqDiff, Bool.true_eq_false, Bool.false_eq_true, n10, ui_st, a6', eh, ← hI1, i1, c0, go]
end DC
