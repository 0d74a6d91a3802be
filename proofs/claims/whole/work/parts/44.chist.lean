/-! the class: History -/
theorem c_fm (I : am_I) (R : am_R) (K : am_K) (k : Nat) (hk : k ≤ 4) : ev 151 0 [some (.int (nI k)), some (.int (nI 4)), none] [] (I, R, K) = some (some (.int (nI (k % 4))), (I, R, K)) := by
  have n4 := ne_4
  have : k = 0 ∨ k = 1 ∨ k = 2 ∨ k = 3 ∨ k = 4 := by omega
  rcases this with rfl | rfl | rfl | rfl | rfl
  · have e1 : nI 0 - nI 0 / nI 4 * nI 4 = nI 0 := by decide
    have e2 : nI 0 ≤ nI 0 ^^^ nI 4 := by decide
    simp (disch := first | assumption | omega | exact ixN (by assumption) (by omega) (by omega) | exact ne_10 | exact ne_1000 | exact ne_4) only [s151_0, s151_1, s151_2, s151_3, s151_4, s151_5, s151_6, s151_7, s151_10, s151_11, s151_14, s151_15, s151_16, s151_17, s151_18, s151_19, ↓reduceIte, eq_self, Option.bind_some, Option.bind_none, Option.toList_some, Option.toList_none, List.cons_append, List.nil_append, am_rf_s, am_rf_n, am_c1_i, am_c1_r, am_c1_n, List.all_cons, List.all_nil, Bool.and_self, Bool.and_true, Bool.true_and, List.length_cons, List.length_nil, Nat.reduceAdd, Nat.reduceSub, Nat.reduceMul, Nat.reduceLeDiff, Nat.reduceLT, Nat.zero_le, Nat.le_refl, ne_10, ne_1000, ne_4, not_false_eq_true, or_true, true_or, Nat.one_ne_zero, Nat.zero_ne_one, Nat.reduceEqDiff, Bool.true_eq_false, Bool.false_eq_true, n10, e1, e2]
  · have e1 : nI 1 - nI 1 / nI 4 * nI 4 = nI 1 := by decide
    have e2 : nI 0 ≤ nI 1 ^^^ nI 4 := by decide
    simp (disch := first | assumption | omega | exact ixN (by assumption) (by omega) (by omega) | exact ne_10 | exact ne_1000 | exact ne_4) only [s151_0, s151_1, s151_2, s151_3, s151_4, s151_5, s151_6, s151_7, s151_10, s151_11, s151_14, s151_15, s151_16, s151_17, s151_18, s151_19, ↓reduceIte, eq_self, Option.bind_some, Option.bind_none, Option.toList_some, Option.toList_none, List.cons_append, List.nil_append, am_rf_s, am_rf_n, am_c1_i, am_c1_r, am_c1_n, List.all_cons, List.all_nil, Bool.and_self, Bool.and_true, Bool.true_and, List.length_cons, List.length_nil, Nat.reduceAdd, Nat.reduceSub, Nat.reduceMul, Nat.reduceLeDiff, Nat.reduceLT, Nat.zero_le, Nat.le_refl, ne_10, ne_1000, ne_4, not_false_eq_true, or_true, true_or, Nat.one_ne_zero, Nat.zero_ne_one, Nat.reduceEqDiff, Bool.true_eq_false, Bool.false_eq_true, n10, e1, e2]
  · have e1 : nI 2 - nI 2 / nI 4 * nI 4 = nI 2 := by decide
    have e2 : nI 0 ≤ nI 2 ^^^ nI 4 := by decide
    simp (disch := first | assumption | omega | exact ixN (by assumption) (by omega) (by omega) | exact ne_10 | exact ne_1000 | exact ne_4) only [s151_0, s151_1, s151_2, s151_3, s151_4, s151_5, s151_6, s151_7, s151_10, s151_11, s151_14, s151_15, s151_16, s151_17, s151_18, s151_19, ↓reduceIte, eq_self, Option.bind_some, Option.bind_none, Option.toList_some, Option.toList_none, List.cons_append, List.nil_append, am_rf_s, am_rf_n, am_c1_i, am_c1_r, am_c1_n, List.all_cons, List.all_nil, Bool.and_self, Bool.and_true, Bool.true_and, List.length_cons, List.length_nil, Nat.reduceAdd, Nat.reduceSub, Nat.reduceMul, Nat.reduceLeDiff, Nat.reduceLT, Nat.zero_le, Nat.le_refl, ne_10, ne_1000, ne_4, not_false_eq_true, or_true, true_or, Nat.one_ne_zero, Nat.zero_ne_one, Nat.reduceEqDiff, Bool.true_eq_false, Bool.false_eq_true, n10, e1, e2]
  · have e1 : nI 3 - nI 3 / nI 4 * nI 4 = nI 3 := by decide
    have e2 : nI 0 ≤ nI 3 ^^^ nI 4 := by decide
    simp (disch := first | assumption | omega | exact ixN (by assumption) (by omega) (by omega) | exact ne_10 | exact ne_1000 | exact ne_4) only [s151_0, s151_1, s151_2, s151_3, s151_4, s151_5, s151_6, s151_7, s151_10, s151_11, s151_14, s151_15, s151_16, s151_17, s151_18, s151_19, ↓reduceIte, eq_self, Option.bind_some, Option.bind_none, Option.toList_some, Option.toList_none, List.cons_append, List.nil_append, am_rf_s, am_rf_n, am_c1_i, am_c1_r, am_c1_n, List.all_cons, List.all_nil, Bool.and_self, Bool.and_true, Bool.true_and, List.length_cons, List.length_nil, Nat.reduceAdd, Nat.reduceSub, Nat.reduceMul, Nat.reduceLeDiff, Nat.reduceLT, Nat.zero_le, Nat.le_refl, ne_10, ne_1000, ne_4, not_false_eq_true, or_true, true_or, Nat.one_ne_zero, Nat.zero_ne_one, Nat.reduceEqDiff, Bool.true_eq_false, Bool.false_eq_true, n10, e1, e2]
  · have e1 : nI 4 - nI 4 / nI 4 * nI 4 = nI 0 := by decide
    have e2 : nI 0 ≤ nI 4 ^^^ nI 4 := by decide
    simp (disch := first | assumption | omega | exact ixN (by assumption) (by omega) (by omega) | exact ne_10 | exact ne_1000 | exact ne_4) only [s151_0, s151_1, s151_2, s151_3, s151_4, s151_5, s151_6, s151_7, s151_10, s151_11, s151_14, s151_15, s151_16, s151_17, s151_18, s151_19, ↓reduceIte, eq_self, Option.bind_some, Option.bind_none, Option.toList_some, Option.toList_none, List.cons_append, List.nil_append, am_rf_s, am_rf_n, am_c1_i, am_c1_r, am_c1_n, List.all_cons, List.all_nil, Bool.and_self, Bool.and_true, Bool.true_and, List.length_cons, List.length_nil, Nat.reduceAdd, Nat.reduceSub, Nat.reduceMul, Nat.reduceLeDiff, Nat.reduceLT, Nat.zero_le, Nat.le_refl, ne_10, ne_1000, ne_4, not_false_eq_true, or_true, true_or, Nat.one_ne_zero, Nat.zero_ne_one, Nat.reduceEqDiff, Bool.true_eq_false, Bool.false_eq_true, n10, e1, e2]
theorem c_fm1 (I : am_I) (R : am_R) (K : am_K) : ev 151 0 [some (.int (nI 0 - nI 1)), some (.int (nI 4)), none] [] (I, R, K) = some (some (.int (nI 3)), (I, R, K)) := by
  have n4 := ne_4
  have e0 : nI 0 - nI 1 = -1 := by decide
  have e1 : (-1 : Int32) - (-1) / nI 4 * nI 4 = -1 := by decide
  have e2 : ¬ nI 0 ≤ (-1 : Int32) ^^^ nI 4 := by decide
  have e3 : ¬ (-1 : Int32) = nI 0 := by decide
  have e4 : (-1 : Int32) + nI 4 = nI 3 := by decide
  simp (disch := first | assumption | omega | exact ixN (by assumption) (by omega) (by omega) | exact ne_10 | exact ne_1000 | exact ne_4) only [s151_0, s151_1, s151_2, s151_3, s151_4, s151_5, s151_6, s151_7, s151_10, s151_11, s151_14, s151_15, s151_16, s151_17, s151_18, s151_19, ↓reduceIte, eq_self, Option.bind_some, Option.bind_none, Option.toList_some, Option.toList_none, List.cons_append, List.nil_append, am_rf_s, am_rf_n, am_c1_i, am_c1_r, am_c1_n, List.all_cons, List.all_nil, Bool.and_self, Bool.and_true, Bool.true_and, List.length_cons, List.length_nil, Nat.reduceAdd, Nat.reduceSub, Nat.reduceMul, Nat.reduceLeDiff, Nat.reduceLT, Nat.zero_le, Nat.le_refl, ne_10, ne_1000, ne_4, not_false_eq_true, or_true, true_or, Nat.one_ne_zero, Nat.zero_ne_one, Nat.reduceEqDiff, Bool.true_eq_false, Bool.false_eq_true, n10, e0, e1, e2, e3, e4]
theorem RPb.cgf {I : am_I} {R : am_R} {K : am_K} {pa p : Nat} {f f' : Nat → Int32} (h : RPb I R K pa p f) (hf : ∀ j, 70 + 208 * p ≤ j → j < 70 + 208 * p + 208 → f' j = f j) : RPb I R K pa p f' := h.fr rfl rfl (XE.rf R K) (DY.rf I K) hf
theorem RS.cgf {I : am_I} {R : am_R} {K : am_K} {b : Nat} {f f' : Nat → Int32} (h : RS I R K b f) (hf : ∀ j, j < 1318 → f' j = f j) : RS I R K b f' := by
  obtain ⟨h1, h2, h3, h4⟩ := h
  exact ⟨fun k hk => by rw [hf k (by omega)]; exact h1 k hk, h2.cg (fun _ _ => rfl) (fun j _ _ => hf j (by omega)), h3.cg (fun _ _ => rfl) (fun j _ _ => hf j (by omega)), fun p hp => (h4 p hp).cgf (fun j _ _ => hf j (by omega))⟩
def HL (R : am_R) (K : am_K) : Prop := am_isK K 38 1 = true ∧ am_isK K 39 24 = true ∧ K.1 39 = 4 ∧ R 38 0 = some 39 ∧ ∀ i, i < 4 → R 39 i = some (40 + 24 * i) ∧ SB R K (40 + 24 * i)
theorem HL.xe {R R' : am_R} {K K' : am_K} (h : HL R K) (e : XE R K R' K') : HL R' K' := by
  obtain ⟨h1, h2, h3, h4, h5⟩ := h
  exact ⟨isK_xe e h1, isK_xe e h2, by rw [e.2.1 _ (isK_lt h2)]; exact h3, by rw [e.1 _ _ (by omega) (isK_lt h1)]; exact h4, fun i hi => ⟨by rw [e.1 _ _ (by omega) (isK_lt h2)]; exact (h5 i hi).1, (h5 i hi).2.xe e⟩⟩
/-- the kept rows: the j-th from the latest -/
def HR (I : am_I) (R : am_R) (K : am_K) (cs : Nat) (wz : Nat → Int32) : Prop := ∃ l, l < 4 ∧ I 38 1 = nI l ∧ I 38 2 = nI cs ∧ cs ≤ 4 ∧ (∀ j, j < cs → RS I R K (40 + 24 * ((l + 4 - j) % 4)) (fun k => wz (1318 * (cs - 1 - j) + k))) ∧ ∀ i p, i < 4 → p < 6 → I (40 + 24 * i + 18 + p) 0 = nI p
def WB (f : Nat → Int32) : Prop := (f 23 = nI 0 ∨ f 23 = nI 1) ∧ (f 54 = nI 0 ∨ f 54 = nI 1)
/-- what keeping or giving back leaves: the blocks of the class beside the history and now -/
theorem c_keep (I : am_I) (R : am_R) (K : am_K) (h : HL R K) (hb : SB R K 14) (f wz : Nat → Int32) (cs : Nat) (hs : RS I R K 14 f) (hf : WB f) (hr : HR I R K cs wz) : ∃ I' R', ev 10 0 [some (.ref 38), some (.ref 14), none] [] (I, R, K) = some (none, (I', R', K)) ∧ HR I' R' K (c3 cs + 1) (sW wz f cs) ∧ RS I' R' K 14 f ∧ (∀ a, (a < 38 ∨ 136 ≤ a) → I' a = I a ∧ ∀ i, R' a i = R a i) ∧ XE R K R' K := by
  have hHL := h
  obtain ⟨h1, h2, h3, h4, h5⟩ := h
  obtain ⟨l, l4, e1, e2, c4, rows, nums⟩ := hr
  obtain ⟨l', hl'⟩ : ∃ l', l' = (l + 1) % 4 := ⟨_, rfl⟩
  have l'4 : l' < 4 := by omega
  obtain ⟨r1, sb⟩ := h5 l' l'4
  obtain ⟨J, hJ⟩ : ∃ J, J = st I 38 (uf (I 38) 1 (nI l')) := ⟨_, rfl⟩
  have jo : ∀ a, a ≠ 38 → J a = I a := fun a ha => by rw [hJ]; exact st_ne _ _ ha
  have fm := c_fm I R K (l + 1) (by omega)
  rw [← hl'] at fm
  have sJ : RS J R K 14 f := hs.fr (fun a a1 a2 => jo a (by omega)) (fun _ _ => rfl) (XE.rf R K) (fun a a1 _ => jo a (by omega))
  obtain ⟨J2, R2, v1, v2, v3, v4⟩ := c_scopy K J R (40 + 24 * l') 14 (by omega) (by omega) sb hb f sJ (fun p hp => by rw [jo _ (by omega)]; exact nums l' p l'4 hp) hf
  have j38 := (v3 38 (by omega)).1
  have k2 := (am_isK_of h1).2.1
  have mn : (if nI 4 < nI (cs + 1) then nI 4 else nI (cs + 1)) = nI (c3 cs + 1) := by
    unfold c3
    by_cases q : cs = 4
    · subst q; decide
    · rw [if_neg q, if_neg (by rw [nI_ltI (by omega) (by omega)]; omega)]
  have s2 : J 38 2 = nI cs := by rw [hJ, st_eq, uf_ne _ _ (by omega)]; exact e2
  have dy2 : DY J K J2 := fun a a1 _ => (v3 a (by omega)).1
  have ks := sb.1.1
  refine ⟨st J2 38 (uf (J2 38) 2 (nI (c3 cs + 1))), R2, ?_, ?_, ?_, ?_, v4⟩
  · have j1 : J 38 1 = nI l' := by rw [hJ, st_eq, uf_eq]
    simp (disch := first | assumption | omega | exact ixN (by assumption) (by omega) (by omega) | exact ne_10 | exact ne_1000 | exact ne_4) only [s10_0, s10_0a, s10_1, s10_1a, s10_2, s10_5, s10_6, s10_7, s10_8, s10_11, s10_14, s10_14a, s10_15, s10_18, s10_18a, s10_19, s10_22, s10_22a, s10_23, s10_23a, s10_24, s10_24a, s10_25, s10_25a, s10_28, s10_28a, s10_29, s10_29a, s10_30, s10_33, s10_33a, s10_34, s10_34a, s10_35, s10_38, s10_39, s10_40, s10_41, s10_44, s10_47, ↓reduceIte, eq_self, Option.bind_some, Option.bind_none, Option.toList_some, Option.toList_none, List.cons_append, List.nil_append, am_rf_s, am_rf_n, am_c1_i, am_c1_r, am_c1_n, List.all_cons, List.all_nil, Bool.and_self, Bool.and_true, Bool.true_and, List.length_cons, List.length_nil, Nat.reduceAdd, Nat.reduceSub, Nat.reduceMul, Nat.reduceLeDiff, Nat.reduceLT, Nat.zero_le, Nat.le_refl, ne_10, ne_1000, ne_4, not_false_eq_true, or_true, true_or, Nat.one_ne_zero, Nat.zero_ne_one, Nat.reduceEqDiff, Bool.true_eq_false, Bool.false_eq_true, n10, nI_add, nI_clamp, ui_st, e1, fm, ← hJ, j1, h4, r1, v1, j38, s2, c_min, mn]
  · have c3' : c3 cs ≤ 3 := by unfold c3; split <;> omega
    refine ⟨l', l'4, ?_, by rw [st_eq, uf_eq], by omega, fun j hj => ?_, fun i p hi hp => ?_⟩
    · rw [st_eq, uf_ne _ _ (by omega), j38, hJ, st_eq, uf_eq]
    · by_cases z : j = 0
      · subst z
        have eb : (l' + 4 - 0) % 4 = l' := by omega
        rw [eb]
        have v2' : RS (st J2 38 (uf (J2 38) 2 (nI (c3 cs + 1)))) R2 K (40 + 24 * l') f := v2.fr (fun a a1 a2 => st_ne _ _ (by omega)) (fun _ _ => rfl) (XE.rf R2 K) (fun a a1 _ => st_ne _ _ (by omega))
        refine v2'.cgf (fun k hk => ?_)
        show sW wz f cs (1318 * (c3 cs + 1 - 1 - 0) + k) = f k
        unfold sW
        rw [if_pos (by omega)]
        congr 1; omega
      · have hj' : j - 1 < cs := by unfold c3 at hj; split at hj <;> omega
        have ro := rows (j - 1) hj'
        have eb : (l + 4 - (j - 1)) % 4 = (l' + 4 - j) % 4 := by omega
        rw [eb] at ro
        have ne : (l' + 4 - j) % 4 ≠ l' := by omega
        have ro2 : RS (st J2 38 (uf (J2 38) 2 (nI (c3 cs + 1)))) R2 K (40 + 24 * ((l' + 4 - j) % 4)) (fun k => wz (1318 * (cs - 1 - (j - 1)) + k)) := ro.fr (fun a a1 a2 => by rw [st_ne _ _ (by omega), (v3 a (by omega)).1, jo a (by omega)]) (fun p hp => (v3 _ (by omega)).2 8) v4 (fun a a1 a2 => by rw [st_ne _ _ (by omega), (v3 a (by omega)).1, jo a (by omega)])
        refine ro2.cgf (fun k hk => ?_)
        show sW wz f cs (1318 * (c3 cs + 1 - 1 - j) + k) = wz (1318 * (cs - 1 - (j - 1)) + k)
        have cj : j ≤ c3 cs := by omega
        have ge : 1318 * (c3 cs + 1 - 1 - j) + 1318 ≤ 1318 * c3 cs := by
          have : c3 cs + 1 - 1 - j + 1 ≤ c3 cs := by omega
          omega
        unfold sW
        rw [if_neg (by omega)]
        unfold sW1
        by_cases q : cs = 4
        · subst q
          have c33 : c3 4 = 3 := rfl
          rw [c33] at cj ge ⊢
          rw [if_pos rfl, if_pos (by omega)]
          congr 1; omega
        · have c33 : c3 cs = cs := by unfold c3; rw [if_neg q]
          rw [c33, if_neg q]
          congr 1
          have : cs + 1 - 1 - j = cs - 1 - (j - 1) := by omega
          rw [this]
    · rw [st_ne _ _ (by omega)]
      by_cases q : i = l'
      · subst q; exact (v2.2.2.2 p hp).1
      · rw [(v3 _ (by omega)).1, jo _ (by omega)]; exact nums i p hi hp
  · exact sJ.fr (fun a a1 a2 => by rw [st_ne _ _ (by omega), (v3 a (by omega)).1]) (fun p hp => (v3 _ (by omega)).2 8) v4 (fun a a1 a2 => by rw [st_ne _ _ (by omega)]; exact dy2 a a1 a2)
  · intro a ha
    exact ⟨by rw [st_ne _ _ (by omega), (v3 a (by omega)).1, jo a (by omega)], fun i => (v3 a (by omega)).2 i⟩
theorem c_giveBack (I : am_I) (R : am_R) (K : am_K) (h : HL R K) (hb : SB R K 14) (f wz : Nat → Int32) (cs : Nat) (h1c : 1 ≤ cs) (hs : RS I R K 14 f) (hr : HR I R K cs wz) (hw : WB (fun k => wz (1318 * (cs - 1) + k))) : ∃ I' R', ev 11 0 [some (.ref 38), some (.ref 14), none, none] [] (I, R, K) = some (none, (I', R', K)) ∧ HR I' R' K (cs - 1) wz ∧ RS I' R' K 14 (sU wz f cs) ∧ (∀ a, (a < 14 ∨ 136 ≤ a) → I' a = I a ∧ ∀ i, R' a i = R a i) ∧ XE R K R' K := by
  have hHL := h
  obtain ⟨h1, h2, h3, h4, h5⟩ := h
  obtain ⟨l, l4, e1, e2, c4, rows, nums⟩ := hr
  obtain ⟨r1, sb⟩ := h5 l l4
  have fm := c_fm I R K l (by omega)
  have el : l % 4 = l := by omega
  rw [el] at fm
  have ro := rows 0 (by omega)
  have eb : (l + 4 - 0) % 4 = l := by omega
  rw [eb] at ro
  obtain ⟨J, R2, v1, v2, v3, v4⟩ := c_scopy K I R 14 (40 + 24 * l) (by omega) (by omega) hb sb _ ro (fun p hp => (hs.2.2.2 p hp).1) hw
  have j38 := (v3 38 (by omega)).1
  have kb := hb.1.1
  have c0 : ¬ cs ≤ 0 := by omega
  have fin : ∀ l', l' = (l + 3) % 4 → ev 151 0 [some (.int (nI l - nI 1)), some (.int (nI 4)), none] [] (J, R2, K) = some (some (.int (nI l')), (J, R2, K)) → ev 11 0 [some (.ref 38), some (.ref 14), none, none] [] (I, R, K) = some (none, (st J 38 (uf (uf (J 38) 1 (nI l')) 2 (nI (cs - 1))), R2, K)) := by
    intro l' _ hfm
    have j1 : J 38 1 = nI l := by rw [j38]; exact e1
    have j2 : J 38 2 = nI cs := by rw [j38]; exact e2
    have i0 : nI l - nI 1 = nI l - nI 1 := rfl
    simp (disch := first | assumption | omega | exact ixN (by assumption) (by omega) (by omega) | exact ne_10 | exact ne_1000 | exact ne_4) only [s11_0, s11_0a, s11_1, s11_4, s11_5, s11_8, s11_9, s11_9a, s11_10, s11_13, s11_14, s11_14a, s11_15, s11_15a, s11_16, s11_16a, s11_17, s11_20, s11_23, s11_23a, s11_24, s11_24a, s11_27, s11_27a, s11_28, s11_28a, s11_29, s11_32, s11_32a, s11_33, s11_33a, s11_34, ↓reduceIte, eq_self, Option.bind_some, Option.bind_none, Option.toList_some, Option.toList_none, List.cons_append, List.nil_append, am_rf_s, am_rf_n, am_c1_i, am_c1_r, am_c1_n, List.all_cons, List.all_nil, Bool.and_self, Bool.and_true, Bool.true_and, List.length_cons, List.length_nil, Nat.reduceAdd, Nat.reduceSub, Nat.reduceMul, Nat.reduceLeDiff, Nat.reduceLT, Nat.zero_le, Nat.le_refl, ne_10, ne_1000, ne_4, not_false_eq_true, or_true, true_or, Nat.one_ne_zero, Nat.zero_ne_one, Nat.reduceEqDiff, Bool.true_eq_false, Bool.false_eq_true, n10, nI_clamp, nI_leI, e1, e2, fm, h4, r1, c0, v1]
    simp (disch := first | assumption | omega | exact ixN (by assumption) (by omega) (by omega) | exact ne_10 | exact ne_1000 | exact ne_4) only [s11_37, s11_38, s11_39, ↓reduceIte, eq_self, Option.bind_some, Option.bind_none, Option.toList_some, Option.toList_none, List.cons_append, List.nil_append, am_rf_s, am_rf_n, am_c1_i, am_c1_r, am_c1_n, List.all_cons, List.all_nil, Bool.and_self, Bool.and_true, Bool.true_and, List.length_cons, List.length_nil, Nat.reduceAdd, Nat.reduceSub, Nat.reduceMul, Nat.reduceLeDiff, Nat.reduceLT, Nat.zero_le, Nat.le_refl, ne_10, ne_1000, ne_4, not_false_eq_true, or_true, true_or, Nat.one_ne_zero, Nat.zero_ne_one, Nat.reduceEqDiff, Bool.true_eq_false, Bool.false_eq_true, n10, j1]
    simp (disch := first | assumption | omega | exact ixN (by assumption) (by omega) (by omega) | exact ne_10 | exact ne_1000 | exact ne_4) only [s11_40, s11_43, s11_46, s11_46a, s11_47, s11_48, s11_51, s11_52, s11_53, s11_56, ↓reduceIte, eq_self, Option.bind_some, Option.bind_none, Option.toList_some, Option.toList_none, List.cons_append, List.nil_append, am_rf_s, am_rf_n, am_c1_i, am_c1_r, am_c1_n, List.all_cons, List.all_nil, Bool.and_self, Bool.and_true, Bool.true_and, List.length_cons, List.length_nil, Nat.reduceAdd, Nat.reduceSub, Nat.reduceMul, Nat.reduceLeDiff, Nat.reduceLT, Nat.zero_le, Nat.le_refl, ne_10, ne_1000, ne_4, not_false_eq_true, or_true, true_or, Nat.one_ne_zero, Nat.zero_ne_one, Nat.reduceEqDiff, Bool.true_eq_false, Bool.false_eq_true, n10, hfm, ui_st, st_st, st_eq, st_ne, uf_eq, uf_ne, j2, pk_sub]
  have goal : ∀ l', l' = (l + 3) % 4 → HR (st J 38 (uf (uf (J 38) 1 (nI l')) 2 (nI (cs - 1)))) R2 K (cs - 1) wz ∧ RS (st J 38 (uf (uf (J 38) 1 (nI l')) 2 (nI (cs - 1)))) R2 K 14 (sU wz f cs) ∧ (∀ a, (a < 14 ∨ 136 ≤ a) → (st J 38 (uf (uf (J 38) 1 (nI l')) 2 (nI (cs - 1)))) a = I a ∧ ∀ i, R2 a i = R a i) := by
    intro l' hl'
    refine ⟨⟨l', by omega, by first | assumption | (simp (disch := omega) only [st_eq, st_ne, uf_eq, uf_ne]; done) | (simp (disch := omega) only [st_eq, st_ne, uf_eq, uf_ne]; assumption), by rw [st_eq, uf_eq], by omega, fun j hj => ?_, fun i p hi hp => ?_⟩, ?_, fun a ha => ?_⟩
    · have ro := rows (j + 1) (by omega)
      have eb : (l + 4 - (j + 1)) % 4 = (l' + 4 - j) % 4 := by omega
      have ei : cs - 1 - (j + 1) = cs - 1 - 1 - j := by omega
      rw [eb, ei] at ro
      exact ro.fr (fun a a1 a2 => by rw [st_ne _ _ (by omega), (v3 a (by omega)).1]) (fun p hp => (v3 _ (by omega)).2 8) v4 (fun a a1 a2 => by rw [st_ne _ _ (by omega), (v3 a (by omega)).1])
    · rw [st_ne _ _ (by omega), (v3 _ (by omega)).1]; exact nums i p hi hp
    · have v2' : RS (st J 38 (uf (uf (J 38) 1 (nI l')) 2 (nI (cs - 1)))) R2 K 14 (fun k => wz (1318 * (cs - 1 - 0) + k)) := v2.fr (fun a a1 a2 => st_ne _ _ (by omega)) (fun _ _ => rfl) (XE.rf R2 K) (fun a a1 _ => st_ne _ _ (by omega))
      refine v2'.cgf (fun k hk => ?_)
      unfold sU
      rw [if_pos hk, Nat.sub_zero]
    · exact ⟨by rw [st_ne _ _ (by omega), (v3 a (by omega)).1], (v3 a (by omega)).2⟩
  by_cases q : l = 0
  · subst q
    obtain ⟨g1, g2, g3⟩ := goal 3 (by omega)
    exact ⟨_, R2, fin 3 (by omega) (c_fm1 J R2 K), g1, g2, g3, v4⟩
  · have e9 : nI l - nI 1 = nI (l - 1) := pk_sub (by omega)
    have em : (l - 1) % 4 = (l + 3) % 4 := by omega
    have f2 := c_fm J R2 K (l - 1) (by omega)
    rw [← e9, em] at f2
    obtain ⟨g1, g2, g3⟩ := goal ((l + 3) % 4) rfl
    exact ⟨_, R2, fin _ rfl f2, g1, g2, g3, v4⟩
