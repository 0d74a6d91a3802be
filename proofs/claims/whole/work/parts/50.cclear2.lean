/-! the class: State.clear, State.letGoReturns -/
theorem sEmp_0 (f : Nat → Int32) {j : Nat} (h : j < 70) : sEmp f j = nI 0 := by
  unfold sEmp; rw [if_pos (by omega), if_neg (by omega)]
theorem sEmp_3 (f : Nat → Int32) {p : Nat} (h : p < 6) : sEmp f (70 + 208 * p) = nI 3 := by
  unfold sEmp; rw [if_pos (by omega), if_pos (by omega)]
section DE
variable (R : am_R) (K : am_K)
theorem c_sclear1 (hb : SB R K 14) : ∀ (r p : Nat) (I : am_I), p + r = 6 → ∀ l2, ∃ I', ev 62 23 [some (.ref 14), some (.int (nI p)), l2] [] (I, R, K) = some (none, (I', R, K)) ∧ (∀ j, p ≤ j → j < 6 → I' (32 + j) 0 = I (32 + j) 0 ∧ I' (32 + j) 1 = nI 3) ∧ (∀ a, (a < 32 + p ∨ 38 ≤ a) → I' a = I a) := by
  intro r
  induction r with
  | zero =>
    intro p I hp l2
    have hp : p = 6 := by omega
    subst hp
    refine ⟨I, ?_, fun j _ _ => by omega, fun _ _ => rfl⟩
    simp (disch := first | assumption | omega | exact ixN (by assumption) (by omega) (by omega) | exact ne_10 | exact ne_1000 | exact ne_4) only [s62_23, s62_24, s62_26, s62_29, s62_29a, s62_30, s62_31, s62_34, s62_34a, s62_35, s62_35a, s62_36, s62_36a, s62_39, s62_39a, s62_40, s62_41, s62_44, s62_47, s62_50, ↓reduceIte, eq_self, Option.bind_some, Option.bind_none, Option.toList_some, Option.toList_none, List.cons_append, List.nil_append, am_rf_s, am_rf_n, am_c1_i, am_c1_r, am_c1_n, List.all_cons, List.all_nil, Bool.and_self, Bool.and_true, Bool.true_and, List.length_cons, List.length_nil, Nat.reduceAdd, Nat.reduceSub, Nat.reduceMul, Nat.reduceLeDiff, Nat.reduceLT, Nat.zero_le, Nat.le_refl, ne_10, ne_1000, ne_4, not_false_eq_true, or_true, true_or, Nat.one_ne_zero, Nat.zero_ne_one, Nat.reduceEqDiff, Bool.true_eq_false, Bool.false_eq_true, n10, nI_leI]
  | succ r ih =>
    intro p I hp l2
    have q0 : ¬ 6 ≤ p := by omega
    have k1 := hb.1.1
    have pb := c_probeOrNull I R K 14 hb (nI p)
    have e0 : nI 0 ≤ nI p := nI_le (by omega) (by omega)
    have e1 : nI p ≤ nI 5 := nI_le (by omega) (by omega)
    have e : inR (nI p) 0 5 = true := by unfold inR; simp [e0, e1]
    simp only [e, if_true, pRef, nI_clamp (show p < 2 ^ 31 by omega), show 14 + 18 + p = 32 + p by omega] at pb
    have kb := (hb.2.2.2.2.2 p (by omega)).2
    rw [show 14 + 18 + p = 32 + p by omega] at kb
    obtain ⟨I2, v1, v2, v3⟩ := ih (p + 1) (st I (32 + p) (uf (I (32 + p)) 1 (nI 3))) (by omega) (some (.ref (32 + p)))
    refine ⟨I2, ?_, fun j j1 j2 => ?_, fun a ha => by rw [v3 a (by omega), st_ne _ _ (by omega)]⟩
    · rw [s62_23]
      simp (disch := first | assumption | omega | exact ixN (by assumption) (by omega) (by omega) | exact ne_10 | exact ne_1000 | exact ne_4) only [s62_24, s62_26, s62_29, s62_29a, s62_30, s62_31, s62_34, s62_34a, s62_35, s62_35a, s62_36, s62_36a, s62_39, s62_39a, s62_40, s62_41, s62_44, s62_47, ↓reduceIte, eq_self, Option.bind_some, Option.bind_none, Option.toList_some, Option.toList_none, List.cons_append, List.nil_append, am_rf_s, am_rf_n, am_c1_i, am_c1_r, am_c1_n, List.all_cons, List.all_nil, Bool.and_self, Bool.and_true, Bool.true_and, List.length_cons, List.length_nil, Nat.reduceAdd, Nat.reduceSub, Nat.reduceMul, Nat.reduceLeDiff, Nat.reduceLT, Nat.zero_le, Nat.le_refl, ne_10, ne_1000, ne_4, not_false_eq_true, or_true, true_or, Nat.one_ne_zero, Nat.zero_ne_one, Nat.reduceEqDiff, Bool.true_eq_false, Bool.false_eq_true, n10, nI_leI, nI_add, ui_st, q0, pb, v1]
    · by_cases z : j = p
      · subst z
        rw [v3 _ (by omega)]
        exact ⟨by first | assumption | (simp (disch := omega) only [st_eq, st_ne, uf_eq, uf_ne]; done) | (simp (disch := omega) only [st_eq, st_ne, uf_eq, uf_ne]; assumption), by first | assumption | (simp (disch := omega) only [st_eq, st_ne, uf_eq, uf_ne]; done) | (simp (disch := omega) only [st_eq, st_ne, uf_eq, uf_ne]; assumption)⟩
      · obtain ⟨y1, y2⟩ := v2 j (by omega) j2
        exact ⟨by rw [y1, st_ne _ _ (by omega)], y2⟩
theorem c_sclear (I : am_I) (hb : SB R K 14) (f : Nat → Int32) (hs : RS I R K 14 f) : ∃ I', ev 62 0 [some (.ref 14), none, none] [] (I, R, K) = some (none, (I', R, K)) ∧ RS I' R K 14 (sEmp f) ∧ (∀ a, (a < 14 ∨ 38 ≤ a) → I' a = I a) := by
  have k1 := hb.1.1
  obtain ⟨-, ⟨b0, b1, b2, b3⟩, mb, pb1, pb2, -⟩ := id hb
  have m1 := mb.1
  have q1 := pb1.1.1
  have q2 := pb2.1.1
  have mc := c_mclear R K 15 mb I
  obtain ⟨I1, hI1⟩ : ∃ I1, I1 = st I (15 + 1) (cpy 8 (fun _ => nI 0) (I (15 + 1))) := ⟨_, rfl⟩
  rw [← hI1] at mc
  obtain ⟨I2, u1, u2, u3, u4, u5⟩ := c_pclear I1 R K 17 pb1
  obtain ⟨I3, w1, w2, w3, w4, w5⟩ := c_pclear I2 R K 24 pb2
  obtain ⟨I4, v1, v2, v3⟩ := c_sclear1 R K hb 6 0 I3 rfl none
  have z0 : ∀ (J : am_I) (a t : Nat), t + 30 < 70 → (∀ j, 3 ≤ j → j ≤ 7 → J a j = nI 0) → J (a + 3) 3 = nI 0 → J (a + 3) 4 = nI 0 → RQ J a (sEmp f) t := by
    intro J a t ht y1 y2 y3
    refine ⟨⟨?_, ?_, ?_, ?_, ?_, ?_, ?_⟩, ⟨0, by omega, sEmp_0 f (by omega), fun k hk => by omega⟩, 0, by omega, sEmp_0 f (by omega), fun k hk => by omega⟩
    · rw [sEmp_0 f (by omega)]; exact y1 3 (by omega) (by omega)
    · rw [sEmp_0 f (by omega)]; exact y1 4 (by omega) (by omega)
    · rw [sEmp_0 f (by omega)]; exact y1 5 (by omega) (by omega)
    · rw [sEmp_0 f (by omega)]; exact y1 6 (by omega) (by omega)
    · rw [sEmp_0 f (by omega)]; exact y1 7 (by omega) (by omega)
    · rw [sEmp_0 f (by omega)]; exact y2
    · rw [sEmp_0 f (by omega)]; exact y3
  refine ⟨I4, ?_, ⟨fun k hk => ?_, ?_, ?_, fun p hp => ?_⟩, fun a ha => ?_⟩
  · simp (disch := first | assumption | omega | exact ixN (by assumption) (by omega) (by omega) | exact ne_10 | exact ne_1000 | exact ne_4) only [s62_0, s62_0a, s62_1, s62_4, s62_7, s62_7a, s62_8, s62_11, s62_14, s62_14a, s62_15, s62_18, s62_21, s62_22, ↓reduceIte, eq_self, Option.bind_some, Option.bind_none, Option.toList_some, Option.toList_none, List.cons_append, List.nil_append, am_rf_s, am_rf_n, am_c1_i, am_c1_r, am_c1_n, List.all_cons, List.all_nil, Bool.and_self, Bool.and_true, Bool.true_and, List.length_cons, List.length_nil, Nat.reduceAdd, Nat.reduceSub, Nat.reduceMul, Nat.reduceLeDiff, Nat.reduceLT, Nat.zero_le, Nat.le_refl, ne_10, ne_1000, ne_4, not_false_eq_true, or_true, true_or, Nat.one_ne_zero, Nat.zero_ne_one, Nat.reduceEqDiff, Bool.true_eq_false, Bool.false_eq_true, n10, b0, b1, b2, Nat.reduceAdd, mc, u1, w1, v1]
  · rw [sEmp_0 f (by omega), v3 _ (by omega), w5 _ (by omega) (by omega), u5 _ (by omega) (by omega), hI1, st_eq, cpy_lt hk]
  · refine (z0 I2 17 8 (by omega) u2 u3 u4).cg (fun j hj => ?_) (fun _ _ _ => rfl)
    rw [v3 _ (by omega), w5 _ (by omega) (by omega)]
  · exact (z0 I3 24 39 (by omega) w2 w3 w4).cg (fun j hj => v3 _ (by omega)) (fun _ _ _ => rfl)
  · obtain ⟨y1, y2⟩ := v2 p (by omega) hp
    rw [show 14 + 18 + p = 32 + p by omega]
    have p1 := (hs.2.2.2 p hp).1
    rw [show 14 + 18 + p = 32 + p by omega] at p1
    refine ⟨?_, by rw [sEmp_3 f hp]; exact y2, ⟨3, by omega, sEmp_3 f hp⟩, fun z => absurd (sEmp_3 f hp) z⟩
    rw [y1, w5 _ (by omega) (by omega), u5 _ (by omega) (by omega), hI1, st_ne _ _ (by omega)]
    exact p1
  · rw [v3 _ (by omega), w5 _ (by omega) (by omega), u5 _ (by omega) (by omega), hI1, st_ne _ _ (by omega)]
end DE
