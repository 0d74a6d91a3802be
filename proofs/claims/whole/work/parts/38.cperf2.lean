/-! the class: perform -/
section CV
variable (I : am_I) (R : am_R) (K : am_K)
theorem neg1_e : (-1 : Int32) = nI 0 - nI 1 := by decide
theorem c_perform (a ma q t nc x d : Nat) (cd f : Nat → Int32) (b : Nat → Bool) (h : PL R K a) (hm : ML R K ma) (hc : RC I R K q nc cd b) (hq : q + 3 < a ∧ q + 3 < ma) (hma : ma + 1 < a ∨ a + 6 < ma) (hQ : RQ I a f t) (hmem : ∀ k, k < 8 → I (ma + 1) k = f k) (hx : f (t + 1) = nI x) (hxn : x < nc) (hW : WL cd nc x) (hd : f (t + 2) = nI d) (hd6 : d ≤ 6) (ht : 8 ≤ t) (hnb : nb (f t)) : ∃ I', ev 27 0 [some (.ref a), some (.ref q), some (.ref ma), none, none] [] (I, R, K) = some (none, (I', R, K)) ∧ RQ I' a (uf (sI cd f t d x).1 (t + 1) (sI cd f t d x).2) t ∧ (∀ k, k < 8 → I' (ma + 1) k = uf (sI cd f t d x).1 (t + 1) (sI cd f t d x).2 k) ∧ (∀ c, c ≠ a → c ≠ a + 1 → c ≠ a + 2 → c ≠ ma + 1 → I' c = I c) := by
  have hPL := h
  obtain ⟨⟨h1, h2, h3, h4, h5, h6, h7⟩, ⟨r1, r2, r3, r4, r5, r6⟩, l1, l2, l3, l4, l5⟩ := h
  obtain ⟨hc1, hc2, hc3⟩ := hc
  have n60 := hc2.2.2.2.2.2.1
  have k1 := hc1.1
  have m1 := hm.1
  obtain ⟨⟨f1, f2, f3, f4, f5, f6, f7⟩, ⟨d', e1, e2, d3⟩, n, n1, n2, n3⟩ := hQ
  have ed : d' = d := by rw [hd, nI_eq (by omega) (by omega)] at e2; exact e2.symm
  subst ed
  have ix : I a 4 = nI x := by rw [f2]; exact hx
  have id' : I a 3 = nI d' := by rw [f1]; exact hd
  have le := c_letterAt I R K q nc cd hc1 hc2 x (by omega)
  have et : tN cd nc x = cd x := by unfold tN; rw [if_pos hxn]
  rw [et] at le
  have nu := c_numberAt I R K q nc cd hc1 hc2 x (by omega)
  obtain ⟨L, hL⟩ : ∃ L, L = cd x := ⟨_, rfl⟩
  obtain ⟨N, hN⟩ : ∃ N, N = nmI cd nc x := ⟨_, rfl⟩
  rw [← hL] at le
  rw [← hN] at nu
  -- the run, for what reckon and goingOn do
  have run : ∀ (k : Nat), ((L = nI 108 ∨ L = nI 115 ∨ L = nI 112) → k < 8 ∧ N = nI k) → ∀ (J : am_I), rk I a ma L k = J → J a 4 = nI x → J a 3 = nI d' → ev 27 0 [some (.ref a), some (.ref q), some (.ref ma), none, none] [] (I, R, K) = some (none, (st (gn J a x d' L N).1 a (uf ((gn J a x d' L N).1 a) 4 (gn J a x d' L N).2), R, K)) := by
    intro k hk J hJ j4 j3
    have re := c_reckon I R K a ma k hPL hm L N hk
    rw [hJ] at re
    have go := c_goingOn J R K a x d' hPL j4 j3 hd6 L N
    simp (disch := first | assumption | omega | exact ixN (by assumption) (by omega) (by omega) | exact ne_10 | exact ne_1000 | exact ne_4) only [s27_0, s27_0a, s27_1, s27_1a, s27_2, s27_5, s27_8, s27_9, s27_9a, s27_10, s27_10a, s27_11, s27_14, s27_17, s27_19, s27_19a, s27_20, s27_21, s27_23, s27_23a, s27_24, s27_27, s27_27a, s27_28, s27_28a, s27_29, s27_30, s27_32, s27_35, s27_38, ↓reduceIte, eq_self, Option.bind_some, Option.bind_none, Option.toList_some, Option.toList_none, List.cons_append, List.nil_append, am_rf_s, am_rf_n, am_c1_i, am_c1_r, am_c1_n, List.all_cons, List.all_nil, Bool.and_self, Bool.and_true, Bool.true_and, List.length_cons, List.length_nil, Nat.reduceAdd, Nat.reduceSub, Nat.reduceMul, Nat.reduceLeDiff, Nat.reduceLT, Nat.zero_le, Nat.le_refl, ne_10, ne_1000, ne_4, not_false_eq_true, or_true, true_or, Nat.one_ne_zero, Nat.zero_ne_one, Nat.reduceEqDiff, Bool.true_eq_false, Bool.false_eq_true, n10, ix, le, nu, re, go, ui_st]
  have hwt : wO (cd x) = wO L := by rw [hL]
  obtain ⟨v, hv, hv2⟩ := hnb
  rcases hW with (w | w | w | w) | ⟨w, w2, k, w3, w4⟩ | ⟨w, w2, ka, kb, w3, w4, w5, w6⟩
  · -- i
    have lw : L = nI 105 := hL.trans w
    have eS : sI cd f t d' x = (uf f t (md (f t + nI 1)), nI (x + 1)) := by
      unfold sI; simp (disch := omega) only [w, nI_eq, Nat.reduceEqDiff, ↓reduceIte]
    rw [eS]
    have wo : wO (nI 105) = 1 := by decide
    have er : rk I a ma L 0 = st I a (uf (I a) 5 (md (I a 5 + nI 1))) := by
      unfold rk; simp (disch := omega) only [lw, nI_eq, Nat.reduceEqDiff, ↓reduceIte]
    have rn := run 0 (fun z => by rw [lw] at z; exact absurd z (by decide)) _ er (by first | assumption | (simp (disch := omega) only [st_eq, st_ne, uf_eq, uf_ne]; done) | (simp (disch := omega) only [st_eq, st_ne, uf_eq, uf_ne]; assumption)) (by first | assumption | (simp (disch := omega) only [st_eq, st_ne, uf_eq, uf_ne]; done) | (simp (disch := omega) only [st_eq, st_ne, uf_eq, uf_ne]; assumption))
    have eg : gn (st I a (uf (I a) 5 (md (I a 5 + nI 1)))) a x d' L N = (st I a (uf (I a) 5 (md (I a 5 + nI 1))), nI (x + 1)) := by
      unfold gn; simp (disch := omega) only [lw, nI_eq, Nat.reduceEqDiff, ↓reduceIte, wo]
    rw [eg] at rn
    refine ⟨_, rn, ⟨⟨by first | assumption | (simp (disch := omega) only [st_eq, st_ne, uf_eq, uf_ne]; done) | (simp (disch := omega) only [st_eq, st_ne, uf_eq, uf_ne]; assumption), by first | assumption | (simp (disch := omega) only [st_eq, st_ne, uf_eq, uf_ne]; done) | (simp (disch := omega) only [st_eq, st_ne, uf_eq, uf_ne]; assumption), by rw [← f3]; first | assumption | (simp (disch := omega) only [st_eq, st_ne, uf_eq, uf_ne]; done) | (simp (disch := omega) only [st_eq, st_ne, uf_eq, uf_ne]; assumption), by first | assumption | (simp (disch := omega) only [st_eq, st_ne, uf_eq, uf_ne]; done) | (simp (disch := omega) only [st_eq, st_ne, uf_eq, uf_ne]; assumption), by first | assumption | (simp (disch := omega) only [st_eq, st_ne, uf_eq, uf_ne]; done) | (simp (disch := omega) only [st_eq, st_ne, uf_eq, uf_ne]; assumption), by first | assumption | (simp (disch := omega) only [st_eq, st_ne, uf_eq, uf_ne]; done) | (simp (disch := omega) only [st_eq, st_ne, uf_eq, uf_ne]; assumption), by first | assumption | (simp (disch := omega) only [st_eq, st_ne, uf_eq, uf_ne]; done) | (simp (disch := omega) only [st_eq, st_ne, uf_eq, uf_ne]; assumption)⟩, ⟨d', by omega, by first | assumption | (simp (disch := omega) only [st_eq, st_ne, uf_eq, uf_ne]; done) | (simp (disch := omega) only [st_eq, st_ne, uf_eq, uf_ne]; assumption), fun k hk => ?_⟩, n, n1, by first | assumption | (simp (disch := omega) only [st_eq, st_ne, uf_eq, uf_ne]; done) | (simp (disch := omega) only [st_eq, st_ne, uf_eq, uf_ne]; assumption), fun k hk => ?_⟩, fun k hk => ?_, fun c z1 z2 z3 z4 => ?_⟩
    · obtain ⟨y1, y2⟩ := d3 k hk
      exact ⟨by first | assumption | (simp (disch := omega) only [st_eq, st_ne, uf_eq, uf_ne]; done) | (simp (disch := omega) only [st_eq, st_ne, uf_eq, uf_ne]; assumption), by first | assumption | (simp (disch := omega) only [st_eq, st_ne, uf_eq, uf_ne]; done) | (simp (disch := omega) only [st_eq, st_ne, uf_eq, uf_ne]; assumption)⟩
    · obtain ⟨y1, y2, y3⟩ := n3 k hk
      exact ⟨by first | assumption | (simp (disch := omega) only [st_eq, st_ne, uf_eq, uf_ne]; done) | (simp (disch := omega) only [st_eq, st_ne, uf_eq, uf_ne]; assumption), by first | assumption | (simp (disch := omega) only [st_eq, st_ne, uf_eq, uf_ne]; done) | (simp (disch := omega) only [st_eq, st_ne, uf_eq, uf_ne]; assumption), by first | assumption | (simp (disch := omega) only [st_eq, st_ne, uf_eq, uf_ne]; done) | (simp (disch := omega) only [st_eq, st_ne, uf_eq, uf_ne]; assumption)⟩
    · have y := hmem k hk
      first | assumption | (simp (disch := omega) only [st_eq, st_ne, uf_eq, uf_ne]; done) | (simp (disch := omega) only [st_eq, st_ne, uf_eq, uf_ne]; assumption)
    · first | assumption | (simp (disch := omega) only [st_eq, st_ne, uf_eq, uf_ne]; done) | (simp (disch := omega) only [st_eq, st_ne, uf_eq, uf_ne]; assumption)
  · -- d
    have e999 : I a 5 + nI 1000 - nI 1 = f t + nI 999 := by
      rw [f3, hv2, nI_add, pk_sub (by omega), nI_add]; congr 1
    have lw : L = nI 100 := hL.trans w
    have eS : sI cd f t d' x = (uf f t (md (f t + nI 999)), nI (x + 1)) := by
      unfold sI; simp (disch := omega) only [w, nI_eq, Nat.reduceEqDiff, ↓reduceIte]
    rw [eS]
    have wo : wO (nI 100) = 1 := by decide
    have er : rk I a ma L 0 = st I a (uf (I a) 5 (md (f t + nI 999))) := by
      rw [← e999]; unfold rk; rw [if_neg (by rw [lw]; decide), if_pos lw]
    clear e999 eS
    generalize md (f t + nI 999) = V at er ⊢
    have rn := run 0 (fun z => by rw [lw] at z; exact absurd z (by decide)) _ er (by first | assumption | (simp (disch := omega) only [st_eq, st_ne, uf_eq, uf_ne]; done) | (simp (disch := omega) only [st_eq, st_ne, uf_eq, uf_ne]; assumption)) (by first | assumption | (simp (disch := omega) only [st_eq, st_ne, uf_eq, uf_ne]; done) | (simp (disch := omega) only [st_eq, st_ne, uf_eq, uf_ne]; assumption))
    have eg : gn (st I a (uf (I a) 5 (V))) a x d' L N = (st I a (uf (I a) 5 (V)), nI (x + 1)) := by
      unfold gn; simp (disch := omega) only [lw, nI_eq, Nat.reduceEqDiff, ↓reduceIte, wo]
    rw [eg] at rn
    refine ⟨_, rn, ⟨⟨by first | assumption | (simp (disch := omega) only [st_eq, st_ne, uf_eq, uf_ne]; done) | (simp (disch := omega) only [st_eq, st_ne, uf_eq, uf_ne]; assumption), by first | assumption | (simp (disch := omega) only [st_eq, st_ne, uf_eq, uf_ne]; done) | (simp (disch := omega) only [st_eq, st_ne, uf_eq, uf_ne]; assumption), by first | assumption | (simp (disch := omega) only [st_eq, st_ne, uf_eq, uf_ne]; done) | (simp (disch := omega) only [st_eq, st_ne, uf_eq, uf_ne]; assumption), by first | assumption | (simp (disch := omega) only [st_eq, st_ne, uf_eq, uf_ne]; done) | (simp (disch := omega) only [st_eq, st_ne, uf_eq, uf_ne]; assumption), by first | assumption | (simp (disch := omega) only [st_eq, st_ne, uf_eq, uf_ne]; done) | (simp (disch := omega) only [st_eq, st_ne, uf_eq, uf_ne]; assumption), by first | assumption | (simp (disch := omega) only [st_eq, st_ne, uf_eq, uf_ne]; done) | (simp (disch := omega) only [st_eq, st_ne, uf_eq, uf_ne]; assumption), by first | assumption | (simp (disch := omega) only [st_eq, st_ne, uf_eq, uf_ne]; done) | (simp (disch := omega) only [st_eq, st_ne, uf_eq, uf_ne]; assumption)⟩, ⟨d', by omega, by first | assumption | (simp (disch := omega) only [st_eq, st_ne, uf_eq, uf_ne]; done) | (simp (disch := omega) only [st_eq, st_ne, uf_eq, uf_ne]; assumption), fun k hk => ?_⟩, n, n1, by first | assumption | (simp (disch := omega) only [st_eq, st_ne, uf_eq, uf_ne]; done) | (simp (disch := omega) only [st_eq, st_ne, uf_eq, uf_ne]; assumption), fun k hk => ?_⟩, fun k hk => ?_, fun c z1 z2 z3 z4 => ?_⟩
    · obtain ⟨y1, y2⟩ := d3 k hk
      exact ⟨by first | assumption | (simp (disch := omega) only [st_eq, st_ne, uf_eq, uf_ne]; done) | (simp (disch := omega) only [st_eq, st_ne, uf_eq, uf_ne]; assumption), by first | assumption | (simp (disch := omega) only [st_eq, st_ne, uf_eq, uf_ne]; done) | (simp (disch := omega) only [st_eq, st_ne, uf_eq, uf_ne]; assumption)⟩
    · obtain ⟨y1, y2, y3⟩ := n3 k hk
      exact ⟨by first | assumption | (simp (disch := omega) only [st_eq, st_ne, uf_eq, uf_ne]; done) | (simp (disch := omega) only [st_eq, st_ne, uf_eq, uf_ne]; assumption), by first | assumption | (simp (disch := omega) only [st_eq, st_ne, uf_eq, uf_ne]; done) | (simp (disch := omega) only [st_eq, st_ne, uf_eq, uf_ne]; assumption), by first | assumption | (simp (disch := omega) only [st_eq, st_ne, uf_eq, uf_ne]; done) | (simp (disch := omega) only [st_eq, st_ne, uf_eq, uf_ne]; assumption)⟩
    · have y := hmem k hk
      first | assumption | (simp (disch := omega) only [st_eq, st_ne, uf_eq, uf_ne]; done) | (simp (disch := omega) only [st_eq, st_ne, uf_eq, uf_ne]; assumption)
    · first | assumption | (simp (disch := omega) only [st_eq, st_ne, uf_eq, uf_ne]; done) | (simp (disch := omega) only [st_eq, st_ne, uf_eq, uf_ne]; assumption)
  · -- r
    have lw : L = nI 114 := hL.trans w
    have er : rk I a ma L 0 = I := by
      unfold rk; simp (disch := omega) only [lw, nI_eq, Nat.reduceEqDiff, ↓reduceIte]
    have rn := run 0 (fun z => by rw [lw] at z; exact absurd z (by decide)) _ er ix id'
    by_cases qd : d' = 0
    · have eS : sI cd f t d' x = (uf f (t + 15) (nI 1), nI x) := by
        unfold sI; simp (disch := omega) only [w, nI_eq, Nat.reduceEqDiff, ↓reduceIte, qd]
      rw [eS]
      have eg : gn I a x d' L N = (st I a (uf (I a) 6 (nI 1)), nI x) := by
        unfold gn; simp (disch := omega) only [lw, nI_eq, Nat.reduceEqDiff, ↓reduceIte, qd]
      rw [eg] at rn
      refine ⟨_, rn, ⟨⟨by first | assumption | (simp (disch := omega) only [st_eq, st_ne, uf_eq, uf_ne]; done) | (simp (disch := omega) only [st_eq, st_ne, uf_eq, uf_ne]; assumption), by first | assumption | (simp (disch := omega) only [st_eq, st_ne, uf_eq, uf_ne]; done) | (simp (disch := omega) only [st_eq, st_ne, uf_eq, uf_ne]; assumption), by first | assumption | (simp (disch := omega) only [st_eq, st_ne, uf_eq, uf_ne]; done) | (simp (disch := omega) only [st_eq, st_ne, uf_eq, uf_ne]; assumption), by first | assumption | (simp (disch := omega) only [st_eq, st_ne, uf_eq, uf_ne]; done) | (simp (disch := omega) only [st_eq, st_ne, uf_eq, uf_ne]; assumption), by first | assumption | (simp (disch := omega) only [st_eq, st_ne, uf_eq, uf_ne]; done) | (simp (disch := omega) only [st_eq, st_ne, uf_eq, uf_ne]; assumption), by first | assumption | (simp (disch := omega) only [st_eq, st_ne, uf_eq, uf_ne]; done) | (simp (disch := omega) only [st_eq, st_ne, uf_eq, uf_ne]; assumption), by first | assumption | (simp (disch := omega) only [st_eq, st_ne, uf_eq, uf_ne]; done) | (simp (disch := omega) only [st_eq, st_ne, uf_eq, uf_ne]; assumption)⟩, ⟨d', by omega, by first | assumption | (simp (disch := omega) only [st_eq, st_ne, uf_eq, uf_ne]; done) | (simp (disch := omega) only [st_eq, st_ne, uf_eq, uf_ne]; assumption), fun k hk => ?_⟩, n, n1, by first | assumption | (simp (disch := omega) only [st_eq, st_ne, uf_eq, uf_ne]; done) | (simp (disch := omega) only [st_eq, st_ne, uf_eq, uf_ne]; assumption), fun k hk => ?_⟩, fun k hk => ?_, fun c z1 z2 z3 z4 => ?_⟩
      · obtain ⟨y1, y2⟩ := d3 k hk
        exact ⟨by first | assumption | (simp (disch := omega) only [st_eq, st_ne, uf_eq, uf_ne]; done) | (simp (disch := omega) only [st_eq, st_ne, uf_eq, uf_ne]; assumption), by first | assumption | (simp (disch := omega) only [st_eq, st_ne, uf_eq, uf_ne]; done) | (simp (disch := omega) only [st_eq, st_ne, uf_eq, uf_ne]; assumption)⟩
      · obtain ⟨y1, y2, y3⟩ := n3 k hk
        exact ⟨by first | assumption | (simp (disch := omega) only [st_eq, st_ne, uf_eq, uf_ne]; done) | (simp (disch := omega) only [st_eq, st_ne, uf_eq, uf_ne]; assumption), by first | assumption | (simp (disch := omega) only [st_eq, st_ne, uf_eq, uf_ne]; done) | (simp (disch := omega) only [st_eq, st_ne, uf_eq, uf_ne]; assumption), by first | assumption | (simp (disch := omega) only [st_eq, st_ne, uf_eq, uf_ne]; done) | (simp (disch := omega) only [st_eq, st_ne, uf_eq, uf_ne]; assumption)⟩
      · have y := hmem k hk
        first | assumption | (simp (disch := omega) only [st_eq, st_ne, uf_eq, uf_ne]; done) | (simp (disch := omega) only [st_eq, st_ne, uf_eq, uf_ne]; assumption)
      · first | assumption | (simp (disch := omega) only [st_eq, st_ne, uf_eq, uf_ne]; done) | (simp (disch := omega) only [st_eq, st_ne, uf_eq, uf_ne]; assumption)
    · have ec : I (a + 1) (d' - 1) = f (t + 2 + d') := by rw [(d3 (d' - 1) (by omega)).1]; congr 1; omega
      have eS : sI cd f t d' x = (uf f (t + 2) (nI (d' - 1)), f (t + 2 + d')) := by
        unfold sI; simp (disch := omega) only [w, nI_eq, Nat.reduceEqDiff, ↓reduceIte, qd]
      rw [eS]
      have eg : gn I a x d' L N = (st I a (uf (I a) 3 (nI (d' - 1))), I (a + 1) (d' - 1)) := by
        unfold gn; simp (disch := omega) only [lw, nI_eq, Nat.reduceEqDiff, ↓reduceIte, qd]
      rw [eg] at rn
      refine ⟨_, rn, ⟨⟨by first | assumption | (simp (disch := omega) only [st_eq, st_ne, uf_eq, uf_ne]; done) | (simp (disch := omega) only [st_eq, st_ne, uf_eq, uf_ne]; assumption), by rw [← ec]; first | assumption | (simp (disch := omega) only [st_eq, st_ne, uf_eq, uf_ne]; done) | (simp (disch := omega) only [st_eq, st_ne, uf_eq, uf_ne]; assumption), by first | assumption | (simp (disch := omega) only [st_eq, st_ne, uf_eq, uf_ne]; done) | (simp (disch := omega) only [st_eq, st_ne, uf_eq, uf_ne]; assumption), by first | assumption | (simp (disch := omega) only [st_eq, st_ne, uf_eq, uf_ne]; done) | (simp (disch := omega) only [st_eq, st_ne, uf_eq, uf_ne]; assumption), by first | assumption | (simp (disch := omega) only [st_eq, st_ne, uf_eq, uf_ne]; done) | (simp (disch := omega) only [st_eq, st_ne, uf_eq, uf_ne]; assumption), by first | assumption | (simp (disch := omega) only [st_eq, st_ne, uf_eq, uf_ne]; done) | (simp (disch := omega) only [st_eq, st_ne, uf_eq, uf_ne]; assumption), by first | assumption | (simp (disch := omega) only [st_eq, st_ne, uf_eq, uf_ne]; done) | (simp (disch := omega) only [st_eq, st_ne, uf_eq, uf_ne]; assumption)⟩, ⟨d' - 1, by omega, by first | assumption | (simp (disch := omega) only [st_eq, st_ne, uf_eq, uf_ne]; done) | (simp (disch := omega) only [st_eq, st_ne, uf_eq, uf_ne]; assumption), fun k hk => ?_⟩, n, n1, by first | assumption | (simp (disch := omega) only [st_eq, st_ne, uf_eq, uf_ne]; done) | (simp (disch := omega) only [st_eq, st_ne, uf_eq, uf_ne]; assumption), fun k hk => ?_⟩, fun k hk => ?_, fun c z1 z2 z3 z4 => ?_⟩
      · obtain ⟨y1, y2⟩ := d3 k (by omega)
        exact ⟨by first | assumption | (simp (disch := omega) only [st_eq, st_ne, uf_eq, uf_ne]; done) | (simp (disch := omega) only [st_eq, st_ne, uf_eq, uf_ne]; assumption), by first | assumption | (simp (disch := omega) only [st_eq, st_ne, uf_eq, uf_ne]; done) | (simp (disch := omega) only [st_eq, st_ne, uf_eq, uf_ne]; assumption)⟩
      · obtain ⟨y1, y2, y3⟩ := n3 k hk
        exact ⟨by first | assumption | (simp (disch := omega) only [st_eq, st_ne, uf_eq, uf_ne]; done) | (simp (disch := omega) only [st_eq, st_ne, uf_eq, uf_ne]; assumption), by first | assumption | (simp (disch := omega) only [st_eq, st_ne, uf_eq, uf_ne]; done) | (simp (disch := omega) only [st_eq, st_ne, uf_eq, uf_ne]; assumption), by first | assumption | (simp (disch := omega) only [st_eq, st_ne, uf_eq, uf_ne]; done) | (simp (disch := omega) only [st_eq, st_ne, uf_eq, uf_ne]; assumption)⟩
      · have y := hmem k hk
        first | assumption | (simp (disch := omega) only [st_eq, st_ne, uf_eq, uf_ne]; done) | (simp (disch := omega) only [st_eq, st_ne, uf_eq, uf_ne]; assumption)
      · first | assumption | (simp (disch := omega) only [st_eq, st_ne, uf_eq, uf_ne]; done) | (simp (disch := omega) only [st_eq, st_ne, uf_eq, uf_ne]; assumption)
  · -- h
    have lw : L = nI 104 := hL.trans w
    have er : rk I a ma L 0 = I := by
      unfold rk; simp (disch := omega) only [lw, nI_eq, Nat.reduceEqDiff, ↓reduceIte]
    have rn := run 0 (fun z => by rw [lw] at z; exact absurd z (by decide)) _ er ix id'
    have eS : sI cd f t d' x = (uf f (t + 15) (nI 1), nI x) := by
      unfold sI; simp (disch := omega) only [w, nI_eq, Nat.reduceEqDiff, ↓reduceIte]
    rw [eS]
    have eg : gn I a x d' L N = (st I a (uf (I a) 6 (nI 1)), nI x) := by
      unfold gn; simp (disch := omega) only [lw, nI_eq, Nat.reduceEqDiff, ↓reduceIte]
    rw [eg] at rn
    refine ⟨_, rn, ⟨⟨by first | assumption | (simp (disch := omega) only [st_eq, st_ne, uf_eq, uf_ne]; done) | (simp (disch := omega) only [st_eq, st_ne, uf_eq, uf_ne]; assumption), by first | assumption | (simp (disch := omega) only [st_eq, st_ne, uf_eq, uf_ne]; done) | (simp (disch := omega) only [st_eq, st_ne, uf_eq, uf_ne]; assumption), by first | assumption | (simp (disch := omega) only [st_eq, st_ne, uf_eq, uf_ne]; done) | (simp (disch := omega) only [st_eq, st_ne, uf_eq, uf_ne]; assumption), by first | assumption | (simp (disch := omega) only [st_eq, st_ne, uf_eq, uf_ne]; done) | (simp (disch := omega) only [st_eq, st_ne, uf_eq, uf_ne]; assumption), by first | assumption | (simp (disch := omega) only [st_eq, st_ne, uf_eq, uf_ne]; done) | (simp (disch := omega) only [st_eq, st_ne, uf_eq, uf_ne]; assumption), by first | assumption | (simp (disch := omega) only [st_eq, st_ne, uf_eq, uf_ne]; done) | (simp (disch := omega) only [st_eq, st_ne, uf_eq, uf_ne]; assumption), by first | assumption | (simp (disch := omega) only [st_eq, st_ne, uf_eq, uf_ne]; done) | (simp (disch := omega) only [st_eq, st_ne, uf_eq, uf_ne]; assumption)⟩, ⟨d', by omega, by first | assumption | (simp (disch := omega) only [st_eq, st_ne, uf_eq, uf_ne]; done) | (simp (disch := omega) only [st_eq, st_ne, uf_eq, uf_ne]; assumption), fun k hk => ?_⟩, n, n1, by first | assumption | (simp (disch := omega) only [st_eq, st_ne, uf_eq, uf_ne]; done) | (simp (disch := omega) only [st_eq, st_ne, uf_eq, uf_ne]; assumption), fun k hk => ?_⟩, fun k hk => ?_, fun c z1 z2 z3 z4 => ?_⟩
    · obtain ⟨y1, y2⟩ := d3 k hk
      exact ⟨by first | assumption | (simp (disch := omega) only [st_eq, st_ne, uf_eq, uf_ne]; done) | (simp (disch := omega) only [st_eq, st_ne, uf_eq, uf_ne]; assumption), by first | assumption | (simp (disch := omega) only [st_eq, st_ne, uf_eq, uf_ne]; done) | (simp (disch := omega) only [st_eq, st_ne, uf_eq, uf_ne]; assumption)⟩
    · obtain ⟨y1, y2, y3⟩ := n3 k hk
      exact ⟨by first | assumption | (simp (disch := omega) only [st_eq, st_ne, uf_eq, uf_ne]; done) | (simp (disch := omega) only [st_eq, st_ne, uf_eq, uf_ne]; assumption), by first | assumption | (simp (disch := omega) only [st_eq, st_ne, uf_eq, uf_ne]; done) | (simp (disch := omega) only [st_eq, st_ne, uf_eq, uf_ne]; assumption), by first | assumption | (simp (disch := omega) only [st_eq, st_ne, uf_eq, uf_ne]; done) | (simp (disch := omega) only [st_eq, st_ne, uf_eq, uf_ne]; assumption)⟩
    · have y := hmem k hk
      first | assumption | (simp (disch := omega) only [st_eq, st_ne, uf_eq, uf_ne]; done) | (simp (disch := omega) only [st_eq, st_ne, uf_eq, uf_ne]; assumption)
    · first | assumption | (simp (disch := omega) only [st_eq, st_ne, uf_eq, uf_ne]; done) | (simp (disch := omega) only [st_eq, st_ne, uf_eq, uf_ne]; assumption)
  · -- l, s, p
    have dk : dig1 cd x = k := by
      unfold dig1; rw [w4, pk_sub (by omega), nI_clamp (by omega)]; omega
    have w22 : ∀ z, (z = nI 108 ∨ z = nI 115 ∨ z = nI 112) → wO z = 2 := by rintro z (rfl | rfl | rfl) <;> decide
    have hNk : N = nI k := by
      rw [hN]; unfold nmI; rw [et, w22 _ w, if_pos rfl]; exact fg_dig w4 (by omega) w2
    have mk := hmem k (by omega)
    rcases w with w | w | w
    · -- l
      have lw : L = nI 108 := hL.trans w
      have eS : sI cd f t d' x = (uf f t (f k), nI (x + 2)) := by
        unfold sI; simp (disch := omega) only [w, nI_eq, Nat.reduceEqDiff, ↓reduceIte, dk]
      rw [eS]
      have wo : wO (nI 108) = 2 := by decide
      have er : rk I a ma L k = st I a (uf (I a) 5 (I (ma + 1) k)) := by
        unfold rk; simp (disch := omega) only [lw, nI_eq, Nat.reduceEqDiff, ↓reduceIte]
      have rn := run k (fun _ => ⟨by omega, hNk⟩) _ er (by first | assumption | (simp (disch := omega) only [st_eq, st_ne, uf_eq, uf_ne]; done) | (simp (disch := omega) only [st_eq, st_ne, uf_eq, uf_ne]; assumption)) (by first | assumption | (simp (disch := omega) only [st_eq, st_ne, uf_eq, uf_ne]; done) | (simp (disch := omega) only [st_eq, st_ne, uf_eq, uf_ne]; assumption))
      have eg : gn (st I a (uf (I a) 5 (I (ma + 1) k))) a x d' L N = (st I a (uf (I a) 5 (I (ma + 1) k)), nI (x + 2)) := by
        unfold gn; simp (disch := omega) only [lw, nI_eq, Nat.reduceEqDiff, ↓reduceIte, wo]
      rw [eg] at rn
      refine ⟨_, rn, ⟨⟨by first | assumption | (simp (disch := omega) only [st_eq, st_ne, uf_eq, uf_ne]; done) | (simp (disch := omega) only [st_eq, st_ne, uf_eq, uf_ne]; assumption), by first | assumption | (simp (disch := omega) only [st_eq, st_ne, uf_eq, uf_ne]; done) | (simp (disch := omega) only [st_eq, st_ne, uf_eq, uf_ne]; assumption), by first | assumption | (simp (disch := omega) only [st_eq, st_ne, uf_eq, uf_ne]; done) | (simp (disch := omega) only [st_eq, st_ne, uf_eq, uf_ne]; assumption), by first | assumption | (simp (disch := omega) only [st_eq, st_ne, uf_eq, uf_ne]; done) | (simp (disch := omega) only [st_eq, st_ne, uf_eq, uf_ne]; assumption), by first | assumption | (simp (disch := omega) only [st_eq, st_ne, uf_eq, uf_ne]; done) | (simp (disch := omega) only [st_eq, st_ne, uf_eq, uf_ne]; assumption), by first | assumption | (simp (disch := omega) only [st_eq, st_ne, uf_eq, uf_ne]; done) | (simp (disch := omega) only [st_eq, st_ne, uf_eq, uf_ne]; assumption), by first | assumption | (simp (disch := omega) only [st_eq, st_ne, uf_eq, uf_ne]; done) | (simp (disch := omega) only [st_eq, st_ne, uf_eq, uf_ne]; assumption)⟩, ⟨d', by omega, by first | assumption | (simp (disch := omega) only [st_eq, st_ne, uf_eq, uf_ne]; done) | (simp (disch := omega) only [st_eq, st_ne, uf_eq, uf_ne]; assumption), fun k hk => ?_⟩, n, n1, by first | assumption | (simp (disch := omega) only [st_eq, st_ne, uf_eq, uf_ne]; done) | (simp (disch := omega) only [st_eq, st_ne, uf_eq, uf_ne]; assumption), fun k hk => ?_⟩, fun k hk => ?_, fun c z1 z2 z3 z4 => ?_⟩
      · obtain ⟨y1, y2⟩ := d3 k hk
        exact ⟨by first | assumption | (simp (disch := omega) only [st_eq, st_ne, uf_eq, uf_ne]; done) | (simp (disch := omega) only [st_eq, st_ne, uf_eq, uf_ne]; assumption), by first | assumption | (simp (disch := omega) only [st_eq, st_ne, uf_eq, uf_ne]; done) | (simp (disch := omega) only [st_eq, st_ne, uf_eq, uf_ne]; assumption)⟩
      · obtain ⟨y1, y2, y3⟩ := n3 k hk
        exact ⟨by first | assumption | (simp (disch := omega) only [st_eq, st_ne, uf_eq, uf_ne]; done) | (simp (disch := omega) only [st_eq, st_ne, uf_eq, uf_ne]; assumption), by first | assumption | (simp (disch := omega) only [st_eq, st_ne, uf_eq, uf_ne]; done) | (simp (disch := omega) only [st_eq, st_ne, uf_eq, uf_ne]; assumption), by first | assumption | (simp (disch := omega) only [st_eq, st_ne, uf_eq, uf_ne]; done) | (simp (disch := omega) only [st_eq, st_ne, uf_eq, uf_ne]; assumption)⟩
      · have y := hmem k hk
        first | assumption | (simp (disch := omega) only [st_eq, st_ne, uf_eq, uf_ne]; done) | (simp (disch := omega) only [st_eq, st_ne, uf_eq, uf_ne]; assumption)
      · first | assumption | (simp (disch := omega) only [st_eq, st_ne, uf_eq, uf_ne]; done) | (simp (disch := omega) only [st_eq, st_ne, uf_eq, uf_ne]; assumption)
    · -- s
      have lw : L = nI 115 := hL.trans w
      have eS : sI cd f t d' x = (uf f k (f t), nI (x + 2)) := by
        unfold sI; simp (disch := omega) only [w, nI_eq, Nat.reduceEqDiff, ↓reduceIte, dk]
      rw [eS]
      have wo : wO (nI 115) = 2 := by decide
      have er : rk I a ma L k = st I (ma + 1) (uf (I (ma + 1)) k (I a 5)) := by
        unfold rk; simp (disch := omega) only [lw, nI_eq, Nat.reduceEqDiff, ↓reduceIte]
      have rn := run k (fun _ => ⟨by omega, hNk⟩) _ er (by first | assumption | (simp (disch := omega) only [st_eq, st_ne, uf_eq, uf_ne]; done) | (simp (disch := omega) only [st_eq, st_ne, uf_eq, uf_ne]; assumption)) (by first | assumption | (simp (disch := omega) only [st_eq, st_ne, uf_eq, uf_ne]; done) | (simp (disch := omega) only [st_eq, st_ne, uf_eq, uf_ne]; assumption))
      have eg : gn (st I (ma + 1) (uf (I (ma + 1)) k (I a 5))) a x d' L N = (st I (ma + 1) (uf (I (ma + 1)) k (I a 5)), nI (x + 2)) := by
        unfold gn; simp (disch := omega) only [lw, nI_eq, Nat.reduceEqDiff, ↓reduceIte, wo]
      rw [eg] at rn
      refine ⟨_, rn, ⟨⟨by first | assumption | (simp (disch := omega) only [st_eq, st_ne, uf_eq, uf_ne]; done) | (simp (disch := omega) only [st_eq, st_ne, uf_eq, uf_ne]; assumption), by first | assumption | (simp (disch := omega) only [st_eq, st_ne, uf_eq, uf_ne]; done) | (simp (disch := omega) only [st_eq, st_ne, uf_eq, uf_ne]; assumption), by first | assumption | (simp (disch := omega) only [st_eq, st_ne, uf_eq, uf_ne]; done) | (simp (disch := omega) only [st_eq, st_ne, uf_eq, uf_ne]; assumption), by first | assumption | (simp (disch := omega) only [st_eq, st_ne, uf_eq, uf_ne]; done) | (simp (disch := omega) only [st_eq, st_ne, uf_eq, uf_ne]; assumption), by first | assumption | (simp (disch := omega) only [st_eq, st_ne, uf_eq, uf_ne]; done) | (simp (disch := omega) only [st_eq, st_ne, uf_eq, uf_ne]; assumption), by first | assumption | (simp (disch := omega) only [st_eq, st_ne, uf_eq, uf_ne]; done) | (simp (disch := omega) only [st_eq, st_ne, uf_eq, uf_ne]; assumption), by first | assumption | (simp (disch := omega) only [st_eq, st_ne, uf_eq, uf_ne]; done) | (simp (disch := omega) only [st_eq, st_ne, uf_eq, uf_ne]; assumption)⟩, ⟨d', by omega, by first | assumption | (simp (disch := omega) only [st_eq, st_ne, uf_eq, uf_ne]; done) | (simp (disch := omega) only [st_eq, st_ne, uf_eq, uf_ne]; assumption), fun k hk => ?_⟩, n, n1, by first | assumption | (simp (disch := omega) only [st_eq, st_ne, uf_eq, uf_ne]; done) | (simp (disch := omega) only [st_eq, st_ne, uf_eq, uf_ne]; assumption), fun k hk => ?_⟩, fun k_ hk => ?_, fun c z1 z2 z3 z4 => ?_⟩
      · obtain ⟨y1, y2⟩ := d3 k hk
        exact ⟨by first | assumption | (simp (disch := omega) only [st_eq, st_ne, uf_eq, uf_ne]; done) | (simp (disch := omega) only [st_eq, st_ne, uf_eq, uf_ne]; assumption), by first | assumption | (simp (disch := omega) only [st_eq, st_ne, uf_eq, uf_ne]; done) | (simp (disch := omega) only [st_eq, st_ne, uf_eq, uf_ne]; assumption)⟩
      · obtain ⟨y1, y2, y3⟩ := n3 k hk
        exact ⟨by first | assumption | (simp (disch := omega) only [st_eq, st_ne, uf_eq, uf_ne]; done) | (simp (disch := omega) only [st_eq, st_ne, uf_eq, uf_ne]; assumption), by first | assumption | (simp (disch := omega) only [st_eq, st_ne, uf_eq, uf_ne]; done) | (simp (disch := omega) only [st_eq, st_ne, uf_eq, uf_ne]; assumption), by first | assumption | (simp (disch := omega) only [st_eq, st_ne, uf_eq, uf_ne]; done) | (simp (disch := omega) only [st_eq, st_ne, uf_eq, uf_ne]; assumption)⟩
      · have y := hmem k_ hk
        by_cases z : k_ = k
        · subst z; first | assumption | (simp (disch := omega) only [st_eq, st_ne, uf_eq, uf_ne]; done) | (simp (disch := omega) only [st_eq, st_ne, uf_eq, uf_ne]; assumption)
        · first | assumption | (simp (disch := omega) only [st_eq, st_ne, uf_eq, uf_ne]; done) | (simp (disch := omega) only [st_eq, st_ne, uf_eq, uf_ne]; assumption)
      · first | assumption | (simp (disch := omega) only [st_eq, st_ne, uf_eq, uf_ne]; done) | (simp (disch := omega) only [st_eq, st_ne, uf_eq, uf_ne]; assumption)
    · -- p
      have lw : L = nI 112 := hL.trans w
      have eS : sI cd f t d' x = (uf f t (md (f t + f k)), nI (x + 2)) := by
        unfold sI; simp (disch := omega) only [w, nI_eq, Nat.reduceEqDiff, ↓reduceIte, dk]
      rw [eS]
      have wo : wO (nI 112) = 2 := by decide
      have er : rk I a ma L k = st I a (uf (I a) 5 (md (I a 5 + I (ma + 1) k))) := by
        unfold rk; simp (disch := omega) only [lw, nI_eq, Nat.reduceEqDiff, ↓reduceIte]
      have rn := run k (fun _ => ⟨by omega, hNk⟩) _ er (by first | assumption | (simp (disch := omega) only [st_eq, st_ne, uf_eq, uf_ne]; done) | (simp (disch := omega) only [st_eq, st_ne, uf_eq, uf_ne]; assumption)) (by first | assumption | (simp (disch := omega) only [st_eq, st_ne, uf_eq, uf_ne]; done) | (simp (disch := omega) only [st_eq, st_ne, uf_eq, uf_ne]; assumption))
      have eg : gn (st I a (uf (I a) 5 (md (I a 5 + I (ma + 1) k)))) a x d' L N = (st I a (uf (I a) 5 (md (I a 5 + I (ma + 1) k))), nI (x + 2)) := by
        unfold gn; simp (disch := omega) only [lw, nI_eq, Nat.reduceEqDiff, ↓reduceIte, wo]
      rw [eg] at rn
      refine ⟨_, rn, ⟨⟨by first | assumption | (simp (disch := omega) only [st_eq, st_ne, uf_eq, uf_ne]; done) | (simp (disch := omega) only [st_eq, st_ne, uf_eq, uf_ne]; assumption), by first | assumption | (simp (disch := omega) only [st_eq, st_ne, uf_eq, uf_ne]; done) | (simp (disch := omega) only [st_eq, st_ne, uf_eq, uf_ne]; assumption), by rw [← f3, ← mk]; first | assumption | (simp (disch := omega) only [st_eq, st_ne, uf_eq, uf_ne]; done) | (simp (disch := omega) only [st_eq, st_ne, uf_eq, uf_ne]; assumption), by first | assumption | (simp (disch := omega) only [st_eq, st_ne, uf_eq, uf_ne]; done) | (simp (disch := omega) only [st_eq, st_ne, uf_eq, uf_ne]; assumption), by first | assumption | (simp (disch := omega) only [st_eq, st_ne, uf_eq, uf_ne]; done) | (simp (disch := omega) only [st_eq, st_ne, uf_eq, uf_ne]; assumption), by first | assumption | (simp (disch := omega) only [st_eq, st_ne, uf_eq, uf_ne]; done) | (simp (disch := omega) only [st_eq, st_ne, uf_eq, uf_ne]; assumption), by first | assumption | (simp (disch := omega) only [st_eq, st_ne, uf_eq, uf_ne]; done) | (simp (disch := omega) only [st_eq, st_ne, uf_eq, uf_ne]; assumption)⟩, ⟨d', by omega, by first | assumption | (simp (disch := omega) only [st_eq, st_ne, uf_eq, uf_ne]; done) | (simp (disch := omega) only [st_eq, st_ne, uf_eq, uf_ne]; assumption), fun k hk => ?_⟩, n, n1, by first | assumption | (simp (disch := omega) only [st_eq, st_ne, uf_eq, uf_ne]; done) | (simp (disch := omega) only [st_eq, st_ne, uf_eq, uf_ne]; assumption), fun k hk => ?_⟩, fun k hk => ?_, fun c z1 z2 z3 z4 => ?_⟩
      · obtain ⟨y1, y2⟩ := d3 k hk
        exact ⟨by first | assumption | (simp (disch := omega) only [st_eq, st_ne, uf_eq, uf_ne]; done) | (simp (disch := omega) only [st_eq, st_ne, uf_eq, uf_ne]; assumption), by first | assumption | (simp (disch := omega) only [st_eq, st_ne, uf_eq, uf_ne]; done) | (simp (disch := omega) only [st_eq, st_ne, uf_eq, uf_ne]; assumption)⟩
      · obtain ⟨y1, y2, y3⟩ := n3 k hk
        exact ⟨by first | assumption | (simp (disch := omega) only [st_eq, st_ne, uf_eq, uf_ne]; done) | (simp (disch := omega) only [st_eq, st_ne, uf_eq, uf_ne]; assumption), by first | assumption | (simp (disch := omega) only [st_eq, st_ne, uf_eq, uf_ne]; done) | (simp (disch := omega) only [st_eq, st_ne, uf_eq, uf_ne]; assumption), by first | assumption | (simp (disch := omega) only [st_eq, st_ne, uf_eq, uf_ne]; done) | (simp (disch := omega) only [st_eq, st_ne, uf_eq, uf_ne]; assumption)⟩
      · have y := hmem k hk
        first | assumption | (simp (disch := omega) only [st_eq, st_ne, uf_eq, uf_ne]; done) | (simp (disch := omega) only [st_eq, st_ne, uf_eq, uf_ne]; assumption)
      · first | assumption | (simp (disch := omega) only [st_eq, st_ne, uf_eq, uf_ne]; done) | (simp (disch := omega) only [st_eq, st_ne, uf_eq, uf_ne]; assumption)
  · -- j, z, c
    have w33 : ∀ z, (z = nI 106 ∨ z = nI 122 ∨ z = nI 99) → wO z = 3 := by rintro z (rfl | rfl | rfl) <;> decide
    have hNk : N = dig2 cd x := by
      rw [hN, dig2_eq w5 w6]; unfold nmI
      rw [et, w33 _ w, if_neg (by omega), if_pos rfl, fg_dig w5 (by omega) (by omega), fg_dig w6 (by omega) w2, pk_mul, nI_add]
    rcases w with w | w | w
    · -- j
      have lw : L = nI 106 := hL.trans w
      have eS : sI cd f t d' x = (f, dig2 cd x) := by
        unfold sI; simp (disch := omega) only [w, nI_eq, Nat.reduceEqDiff, ↓reduceIte]
      rw [eS]
      have er : rk I a ma L 0 = I := by
        unfold rk; simp (disch := omega) only [lw, nI_eq, Nat.reduceEqDiff, ↓reduceIte]
      have rn := run 0 (fun z => by rw [lw] at z; exact absurd z (by decide)) _ er ix id'
      have eg : gn I a x d' L N = (I, dig2 cd x) := by
        unfold gn; simp (disch := omega) only [lw, nI_eq, Nat.reduceEqDiff, ↓reduceIte, hNk]
      rw [eg] at rn
      refine ⟨_, rn, ⟨⟨by first | assumption | (simp (disch := omega) only [st_eq, st_ne, uf_eq, uf_ne]; done) | (simp (disch := omega) only [st_eq, st_ne, uf_eq, uf_ne]; assumption), by first | assumption | (simp (disch := omega) only [st_eq, st_ne, uf_eq, uf_ne]; done) | (simp (disch := omega) only [st_eq, st_ne, uf_eq, uf_ne]; assumption), by first | assumption | (simp (disch := omega) only [st_eq, st_ne, uf_eq, uf_ne]; done) | (simp (disch := omega) only [st_eq, st_ne, uf_eq, uf_ne]; assumption), by first | assumption | (simp (disch := omega) only [st_eq, st_ne, uf_eq, uf_ne]; done) | (simp (disch := omega) only [st_eq, st_ne, uf_eq, uf_ne]; assumption), by first | assumption | (simp (disch := omega) only [st_eq, st_ne, uf_eq, uf_ne]; done) | (simp (disch := omega) only [st_eq, st_ne, uf_eq, uf_ne]; assumption), by first | assumption | (simp (disch := omega) only [st_eq, st_ne, uf_eq, uf_ne]; done) | (simp (disch := omega) only [st_eq, st_ne, uf_eq, uf_ne]; assumption), by first | assumption | (simp (disch := omega) only [st_eq, st_ne, uf_eq, uf_ne]; done) | (simp (disch := omega) only [st_eq, st_ne, uf_eq, uf_ne]; assumption)⟩, ⟨d', by omega, by first | assumption | (simp (disch := omega) only [st_eq, st_ne, uf_eq, uf_ne]; done) | (simp (disch := omega) only [st_eq, st_ne, uf_eq, uf_ne]; assumption), fun k hk => ?_⟩, n, n1, by first | assumption | (simp (disch := omega) only [st_eq, st_ne, uf_eq, uf_ne]; done) | (simp (disch := omega) only [st_eq, st_ne, uf_eq, uf_ne]; assumption), fun k hk => ?_⟩, fun k hk => ?_, fun c z1 z2 z3 z4 => ?_⟩
      · obtain ⟨y1, y2⟩ := d3 k hk
        exact ⟨by first | assumption | (simp (disch := omega) only [st_eq, st_ne, uf_eq, uf_ne]; done) | (simp (disch := omega) only [st_eq, st_ne, uf_eq, uf_ne]; assumption), by first | assumption | (simp (disch := omega) only [st_eq, st_ne, uf_eq, uf_ne]; done) | (simp (disch := omega) only [st_eq, st_ne, uf_eq, uf_ne]; assumption)⟩
      · obtain ⟨y1, y2, y3⟩ := n3 k hk
        exact ⟨by first | assumption | (simp (disch := omega) only [st_eq, st_ne, uf_eq, uf_ne]; done) | (simp (disch := omega) only [st_eq, st_ne, uf_eq, uf_ne]; assumption), by first | assumption | (simp (disch := omega) only [st_eq, st_ne, uf_eq, uf_ne]; done) | (simp (disch := omega) only [st_eq, st_ne, uf_eq, uf_ne]; assumption), by first | assumption | (simp (disch := omega) only [st_eq, st_ne, uf_eq, uf_ne]; done) | (simp (disch := omega) only [st_eq, st_ne, uf_eq, uf_ne]; assumption)⟩
      · have y := hmem k hk
        first | assumption | (simp (disch := omega) only [st_eq, st_ne, uf_eq, uf_ne]; done) | (simp (disch := omega) only [st_eq, st_ne, uf_eq, uf_ne]; assumption)
      · first | assumption | (simp (disch := omega) only [st_eq, st_ne, uf_eq, uf_ne]; done) | (simp (disch := omega) only [st_eq, st_ne, uf_eq, uf_ne]; assumption)
    · -- z
      have lw : L = nI 122 := hL.trans w
      have eS : sI cd f t d' x = (f, if f t = nI 0 then dig2 cd x else nI (x + 3)) := by
        unfold sI; simp (disch := omega) only [w, nI_eq, Nat.reduceEqDiff, ↓reduceIte]
      rw [eS]
      have er : rk I a ma L 0 = I := by
        unfold rk; simp (disch := omega) only [lw, nI_eq, Nat.reduceEqDiff, ↓reduceIte]
      have rn := run 0 (fun z => by rw [lw] at z; exact absurd z (by decide)) _ er ix id'
      have eg : gn I a x d' L N = (I, if f t = nI 0 then dig2 cd x else nI (x + 3)) := by
        unfold gn; simp (disch := omega) only [lw, nI_eq, Nat.reduceEqDiff, ↓reduceIte, hNk, f3]
      rw [eg] at rn
      refine ⟨_, rn, ⟨⟨by first | assumption | (simp (disch := omega) only [st_eq, st_ne, uf_eq, uf_ne]; done) | (simp (disch := omega) only [st_eq, st_ne, uf_eq, uf_ne]; assumption), by first | assumption | (simp (disch := omega) only [st_eq, st_ne, uf_eq, uf_ne]; done) | (simp (disch := omega) only [st_eq, st_ne, uf_eq, uf_ne]; assumption), by first | assumption | (simp (disch := omega) only [st_eq, st_ne, uf_eq, uf_ne]; done) | (simp (disch := omega) only [st_eq, st_ne, uf_eq, uf_ne]; assumption), by first | assumption | (simp (disch := omega) only [st_eq, st_ne, uf_eq, uf_ne]; done) | (simp (disch := omega) only [st_eq, st_ne, uf_eq, uf_ne]; assumption), by first | assumption | (simp (disch := omega) only [st_eq, st_ne, uf_eq, uf_ne]; done) | (simp (disch := omega) only [st_eq, st_ne, uf_eq, uf_ne]; assumption), by first | assumption | (simp (disch := omega) only [st_eq, st_ne, uf_eq, uf_ne]; done) | (simp (disch := omega) only [st_eq, st_ne, uf_eq, uf_ne]; assumption), by first | assumption | (simp (disch := omega) only [st_eq, st_ne, uf_eq, uf_ne]; done) | (simp (disch := omega) only [st_eq, st_ne, uf_eq, uf_ne]; assumption)⟩, ⟨d', by omega, by first | assumption | (simp (disch := omega) only [st_eq, st_ne, uf_eq, uf_ne]; done) | (simp (disch := omega) only [st_eq, st_ne, uf_eq, uf_ne]; assumption), fun k hk => ?_⟩, n, n1, by first | assumption | (simp (disch := omega) only [st_eq, st_ne, uf_eq, uf_ne]; done) | (simp (disch := omega) only [st_eq, st_ne, uf_eq, uf_ne]; assumption), fun k hk => ?_⟩, fun k hk => ?_, fun c z1 z2 z3 z4 => ?_⟩
      · obtain ⟨y1, y2⟩ := d3 k hk
        exact ⟨by first | assumption | (simp (disch := omega) only [st_eq, st_ne, uf_eq, uf_ne]; done) | (simp (disch := omega) only [st_eq, st_ne, uf_eq, uf_ne]; assumption), by first | assumption | (simp (disch := omega) only [st_eq, st_ne, uf_eq, uf_ne]; done) | (simp (disch := omega) only [st_eq, st_ne, uf_eq, uf_ne]; assumption)⟩
      · obtain ⟨y1, y2, y3⟩ := n3 k hk
        exact ⟨by first | assumption | (simp (disch := omega) only [st_eq, st_ne, uf_eq, uf_ne]; done) | (simp (disch := omega) only [st_eq, st_ne, uf_eq, uf_ne]; assumption), by first | assumption | (simp (disch := omega) only [st_eq, st_ne, uf_eq, uf_ne]; done) | (simp (disch := omega) only [st_eq, st_ne, uf_eq, uf_ne]; assumption), by first | assumption | (simp (disch := omega) only [st_eq, st_ne, uf_eq, uf_ne]; done) | (simp (disch := omega) only [st_eq, st_ne, uf_eq, uf_ne]; assumption)⟩
      · have y := hmem k hk
        first | assumption | (simp (disch := omega) only [st_eq, st_ne, uf_eq, uf_ne]; done) | (simp (disch := omega) only [st_eq, st_ne, uf_eq, uf_ne]; assumption)
      · first | assumption | (simp (disch := omega) only [st_eq, st_ne, uf_eq, uf_ne]; done) | (simp (disch := omega) only [st_eq, st_ne, uf_eq, uf_ne]; assumption)
    · -- c
      have lw : L = nI 99 := hL.trans w
      have er : rk I a ma L 0 = I := by
        unfold rk; simp (disch := omega) only [lw, nI_eq, Nat.reduceEqDiff, ↓reduceIte]
      have rn := run 0 (fun z => by rw [lw] at z; exact absurd z (by decide)) _ er ix id'
      by_cases qd : d' = 6
      · have eS : sI cd f t d' x = (uf f (t + 15) (nI 1), nI x) := by
          unfold sI; rw [if_pos w, if_pos qd]
        rw [eS]
        have eg : gn I a x d' L N = (st I a (uf (I a) 6 (nI 1)), nI x) := by
          unfold gn; rw [if_pos lw, if_pos qd]
        rw [eg] at rn
        refine ⟨_, rn, ⟨⟨by first | assumption | (simp (disch := omega) only [st_eq, st_ne, uf_eq, uf_ne]; done) | (simp (disch := omega) only [st_eq, st_ne, uf_eq, uf_ne]; assumption), by first | assumption | (simp (disch := omega) only [st_eq, st_ne, uf_eq, uf_ne]; done) | (simp (disch := omega) only [st_eq, st_ne, uf_eq, uf_ne]; assumption), by first | assumption | (simp (disch := omega) only [st_eq, st_ne, uf_eq, uf_ne]; done) | (simp (disch := omega) only [st_eq, st_ne, uf_eq, uf_ne]; assumption), by first | assumption | (simp (disch := omega) only [st_eq, st_ne, uf_eq, uf_ne]; done) | (simp (disch := omega) only [st_eq, st_ne, uf_eq, uf_ne]; assumption), by first | assumption | (simp (disch := omega) only [st_eq, st_ne, uf_eq, uf_ne]; done) | (simp (disch := omega) only [st_eq, st_ne, uf_eq, uf_ne]; assumption), by first | assumption | (simp (disch := omega) only [st_eq, st_ne, uf_eq, uf_ne]; done) | (simp (disch := omega) only [st_eq, st_ne, uf_eq, uf_ne]; assumption), by first | assumption | (simp (disch := omega) only [st_eq, st_ne, uf_eq, uf_ne]; done) | (simp (disch := omega) only [st_eq, st_ne, uf_eq, uf_ne]; assumption)⟩, ⟨d', by omega, by first | assumption | (simp (disch := omega) only [st_eq, st_ne, uf_eq, uf_ne]; done) | (simp (disch := omega) only [st_eq, st_ne, uf_eq, uf_ne]; assumption), fun k hk => ?_⟩, n, n1, by first | assumption | (simp (disch := omega) only [st_eq, st_ne, uf_eq, uf_ne]; done) | (simp (disch := omega) only [st_eq, st_ne, uf_eq, uf_ne]; assumption), fun k hk => ?_⟩, fun k hk => ?_, fun c z1 z2 z3 z4 => ?_⟩
        · obtain ⟨y1, y2⟩ := d3 k hk
          exact ⟨by first | assumption | (simp (disch := omega) only [st_eq, st_ne, uf_eq, uf_ne]; done) | (simp (disch := omega) only [st_eq, st_ne, uf_eq, uf_ne]; assumption), by first | assumption | (simp (disch := omega) only [st_eq, st_ne, uf_eq, uf_ne]; done) | (simp (disch := omega) only [st_eq, st_ne, uf_eq, uf_ne]; assumption)⟩
        · obtain ⟨y1, y2, y3⟩ := n3 k hk
          exact ⟨by first | assumption | (simp (disch := omega) only [st_eq, st_ne, uf_eq, uf_ne]; done) | (simp (disch := omega) only [st_eq, st_ne, uf_eq, uf_ne]; assumption), by first | assumption | (simp (disch := omega) only [st_eq, st_ne, uf_eq, uf_ne]; done) | (simp (disch := omega) only [st_eq, st_ne, uf_eq, uf_ne]; assumption), by first | assumption | (simp (disch := omega) only [st_eq, st_ne, uf_eq, uf_ne]; done) | (simp (disch := omega) only [st_eq, st_ne, uf_eq, uf_ne]; assumption)⟩
        · have y := hmem k hk
          first | assumption | (simp (disch := omega) only [st_eq, st_ne, uf_eq, uf_ne]; done) | (simp (disch := omega) only [st_eq, st_ne, uf_eq, uf_ne]; assumption)
        · first | assumption | (simp (disch := omega) only [st_eq, st_ne, uf_eq, uf_ne]; done) | (simp (disch := omega) only [st_eq, st_ne, uf_eq, uf_ne]; assumption)
      · have eS : sI cd f t d' x = (uf (uf (uf f (t + 3 + d') (nI (x + 3))) (t + 9 + d') (nI 0)) (t + 2) (nI (d' + 1)), dig2 cd x) := by
          unfold sI; rw [if_pos w, if_neg qd]
        rw [eS]
        have eg : gn I a x d' L N = (st (st (st I (a + 1) (uf (I (a + 1)) d' (nI (x + 3)))) (a + 2) (uf (I (a + 2)) d' (-1))) a (uf (I a) 3 (nI (d' + 1))), dig2 cd x) := by
          unfold gn; rw [if_pos lw, if_neg qd, hNk]
        rw [eg] at rn
        refine ⟨_, rn, ⟨⟨by first | assumption | (simp (disch := omega) only [st_eq, st_ne, uf_eq, uf_ne]; done) | (simp (disch := omega) only [st_eq, st_ne, uf_eq, uf_ne]; assumption), by first | assumption | (simp (disch := omega) only [st_eq, st_ne, uf_eq, uf_ne]; done) | (simp (disch := omega) only [st_eq, st_ne, uf_eq, uf_ne]; assumption), by first | assumption | (simp (disch := omega) only [st_eq, st_ne, uf_eq, uf_ne]; done) | (simp (disch := omega) only [st_eq, st_ne, uf_eq, uf_ne]; assumption), by first | assumption | (simp (disch := omega) only [st_eq, st_ne, uf_eq, uf_ne]; done) | (simp (disch := omega) only [st_eq, st_ne, uf_eq, uf_ne]; assumption), by first | assumption | (simp (disch := omega) only [st_eq, st_ne, uf_eq, uf_ne]; done) | (simp (disch := omega) only [st_eq, st_ne, uf_eq, uf_ne]; assumption), by first | assumption | (simp (disch := omega) only [st_eq, st_ne, uf_eq, uf_ne]; done) | (simp (disch := omega) only [st_eq, st_ne, uf_eq, uf_ne]; assumption), by first | assumption | (simp (disch := omega) only [st_eq, st_ne, uf_eq, uf_ne]; done) | (simp (disch := omega) only [st_eq, st_ne, uf_eq, uf_ne]; assumption)⟩, ⟨d' + 1, by omega, by first | assumption | (simp (disch := omega) only [st_eq, st_ne, uf_eq, uf_ne]; done) | (simp (disch := omega) only [st_eq, st_ne, uf_eq, uf_ne]; assumption), fun k hk => ?_⟩, n, n1, by first | assumption | (simp (disch := omega) only [st_eq, st_ne, uf_eq, uf_ne]; done) | (simp (disch := omega) only [st_eq, st_ne, uf_eq, uf_ne]; assumption), fun k hk => ?_⟩, fun k hk => ?_, fun c z1 z2 z3 z4 => ?_⟩
        · by_cases z : k = d'
          · subst z
            exact ⟨by first | assumption | (simp (disch := omega) only [st_eq, st_ne, uf_eq, uf_ne]; done) | (simp (disch := omega) only [st_eq, st_ne, uf_eq, uf_ne]; assumption), by rw [neg1_e] at *; first | assumption | (simp (disch := omega) only [st_eq, st_ne, uf_eq, uf_ne]; done) | (simp (disch := omega) only [st_eq, st_ne, uf_eq, uf_ne]; assumption)⟩
          · obtain ⟨y1, y2⟩ := d3 k (by omega)
            exact ⟨by first | assumption | (simp (disch := omega) only [st_eq, st_ne, uf_eq, uf_ne]; done) | (simp (disch := omega) only [st_eq, st_ne, uf_eq, uf_ne]; assumption), by first | assumption | (simp (disch := omega) only [st_eq, st_ne, uf_eq, uf_ne]; done) | (simp (disch := omega) only [st_eq, st_ne, uf_eq, uf_ne]; assumption)⟩
        · obtain ⟨y1, y2, y3⟩ := n3 k hk
          exact ⟨by first | assumption | (simp (disch := omega) only [st_eq, st_ne, uf_eq, uf_ne]; done) | (simp (disch := omega) only [st_eq, st_ne, uf_eq, uf_ne]; assumption), by first | assumption | (simp (disch := omega) only [st_eq, st_ne, uf_eq, uf_ne]; done) | (simp (disch := omega) only [st_eq, st_ne, uf_eq, uf_ne]; assumption), by first | assumption | (simp (disch := omega) only [st_eq, st_ne, uf_eq, uf_ne]; done) | (simp (disch := omega) only [st_eq, st_ne, uf_eq, uf_ne]; assumption)⟩
        · have y := hmem k hk
          first | assumption | (simp (disch := omega) only [st_eq, st_ne, uf_eq, uf_ne]; done) | (simp (disch := omega) only [st_eq, st_ne, uf_eq, uf_ne]; assumption)
        · first | assumption | (simp (disch := omega) only [st_eq, st_ne, uf_eq, uf_ne]; done) | (simp (disch := omega) only [st_eq, st_ne, uf_eq, uf_ne]; assumption)
end CV
