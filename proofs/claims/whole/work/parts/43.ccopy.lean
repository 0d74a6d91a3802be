/-! the class: State.copyFrom -/
theorem RQ.copy {I I' : am_I} {a b t : Nat} {f : Nat → Int32} (h : RQ I b f t) (e1 : ∀ j, 3 ≤ j → j ≤ 7 → I' a j = I b j) (e2 : I' (a + 3) 3 = I (b + 3) 3) (e3 : I' (a + 3) 4 = I (b + 3) 4) (e4 : ∀ k, k < 6 → I' (a + 1) k = I (b + 1) k ∧ I' (a + 2) k = I (b + 2) k) (e5 : ∀ k, k < 4 → I' (a + 4) k = I (b + 4) k ∧ I' (a + 5) k = I (b + 5) k ∧ I' (a + 6) k = I (b + 6) k) : RQ I' a f t := by
  obtain ⟨⟨h1, h2, h3, h4, h5, h6, h7⟩, ⟨d, d1, d2, d3⟩, n, n1, n2, n3⟩ := h
  refine ⟨⟨(e1 3 (by omega) (by omega)).trans h1, (e1 4 (by omega) (by omega)).trans h2, (e1 5 (by omega) (by omega)).trans h3, (e1 6 (by omega) (by omega)).trans h4, (e1 7 (by omega) (by omega)).trans h5, e2.trans h6, e3.trans h7⟩, ⟨d, d1, d2, fun k hk => ?_⟩, n, n1, n2, fun k hk => ?_⟩
  · obtain ⟨y1, y2⟩ := e4 k (by omega)
    rw [y1, y2]; exact d3 k hk
  · obtain ⟨y1, y2, y3⟩ := e5 k (by omega)
    rw [y1, y2, y3]; exact n3 k hk
section CZ
variable (K : am_K)
theorem c_mcopy (I : am_I) (R : am_R) (a b : Nat) (h : ML R K a) (hb : ML R K b) : ev 19 0 [some (.ref a), some (.ref b)] [] (I, R, K) = some (none, (st I (a + 1) (cpy 8 (I (b + 1)) (I (a + 1))), R, K)) := by
  obtain ⟨h1, h2, h3, h4⟩ := h
  obtain ⟨h1', h2', h3', h4'⟩ := hb
  have p0 := np0
  have p8 := np8
  have s08 : (nI 0).toNatClampNeg + (nI 8).toNatClampNeg = 8 := by decide
  have q1 : (nI 0).toNatClampNeg + (nI 8).toNatClampNeg ≤ K.1 (a + 1) := by omega
  have q2 : (nI 0).toNatClampNeg + (nI 8).toNatClampNeg ≤ K.1 (b + 1) := by omega
  have k0 : (nI 0).toNatClampNeg = 0 := by decide
  have k8 : (nI 8).toNatClampNeg = 8 := by decide
  simp (disch := first | assumption | omega | exact ixN (by assumption) (by omega) (by omega) | exact ne_10 | exact ne_1000 | exact ne_4) only [s19_0, s19_0a, s19_1, s19_4, s19_5, s19_5a, s19_6, s19_9, s19_10, s19_12, s19_15, ↓reduceIte, eq_self, Option.bind_some, Option.bind_none, Option.toList_some, Option.toList_none, List.cons_append, List.nil_append, am_rf_s, am_rf_n, am_c1_i, am_c1_r, am_c1_n, List.all_cons, List.all_nil, Bool.and_self, Bool.and_true, Bool.true_and, List.length_cons, List.length_nil, Nat.reduceAdd, Nat.reduceSub, Nat.reduceMul, Nat.reduceLeDiff, Nat.reduceLT, Nat.zero_le, Nat.le_refl, ne_10, ne_1000, ne_4, not_false_eq_true, or_true, true_or, Nat.one_ne_zero, Nat.zero_ne_one, Nat.reduceEqDiff, Bool.true_eq_false, Bool.false_eq_true, n10, h3, h3', k0, k8, cp0]
theorem c_scopy1 (b c : Nat) (hbc : b + 24 ≤ c ∨ c + 24 ≤ b) : ∀ (r p : Nat) (I : am_I) (R : am_R), p + r = 6 → SB R K b → SB R K c → ∀ l3 l4, ∃ I' R', ev 63 35 [some (.ref b), some (.ref c), some (.int (nI p)), l3, l4] [] (I, R, K) = some (none, (I', R', K)) ∧ (∀ j, p ≤ j → j < 6 → I' (b + 18 + j) 0 = I (b + 18 + j) 0 ∧ (∀ i, 1 ≤ i → i ≤ 7 → I' (b + 18 + j) i = I (c + 18 + j) i) ∧ R' (b + 18 + j) 8 = R (c + 18 + j) 8) ∧ (∀ a, (a < b + 18 + p ∨ b + 24 ≤ a) → I' a = I a ∧ ∀ i, R' a i = R a i) ∧ XE R K R' K := by
  intro r
  induction r with
  | zero =>
    intro p I R hp hb hc l3 l4
    have hp : p = 6 := by omega
    subst hp
    refine ⟨I, R, ?_, fun j _ _ => by omega, fun _ _ => ⟨rfl, fun _ => rfl⟩, XE.rf R K⟩
    simp (disch := first | assumption | omega | exact ixN (by assumption) (by omega) (by omega) | exact ne_10 | exact ne_1000 | exact ne_4) only [s63_35, s63_36, s63_38, s63_41, s63_41a, s63_42, s63_43, s63_46, s63_46a, s63_47, s63_47a, s63_48, s63_49, s63_52, s63_52a, s63_54, s63_54a, s63_55, s63_55a, s63_58, s63_58a, s63_60, s63_60a, s63_63, s63_63a, s63_64, s63_64a, s63_66, s63_69, s63_72, s63_75, ↓reduceIte, eq_self, Option.bind_some, Option.bind_none, Option.toList_some, Option.toList_none, List.cons_append, List.nil_append, am_rf_s, am_rf_n, am_c1_i, am_c1_r, am_c1_n, List.all_cons, List.all_nil, Bool.and_self, Bool.and_true, Bool.true_and, List.length_cons, List.length_nil, Nat.reduceAdd, Nat.reduceSub, Nat.reduceMul, Nat.reduceLeDiff, Nat.reduceLT, Nat.zero_le, Nat.le_refl, ne_10, ne_1000, ne_4, not_false_eq_true, or_true, true_or, Nat.one_ne_zero, Nat.zero_ne_one, Nat.reduceEqDiff, Bool.true_eq_false, Bool.false_eq_true, n10, nI_leI]
  | succ r ih =>
    intro p I R hp hb hc l3 l4
    have q0 : ¬ 6 ≤ p := by omega
    have k1 := hb.1.1
    have k2 := hc.1.1
    have pb := c_probeOrNull I R K b hb (nI p)
    have pc := c_probeOrNull I R K c hc (nI p)
    have e0 : nI 0 ≤ nI p := nI_le (by omega) (by omega)
    have e1 : nI p ≤ nI 5 := nI_le (by omega) (by omega)
    have e : inR (nI p) 0 5 = true := by unfold inR; simp [e0, e1]
    simp only [e, if_true, pRef, nI_clamp (show p < 2 ^ 31 by omega)] at pb pc
    have kb := (hb.2.2.2.2.2 p (by omega)).2
    have kc := (hc.2.2.2.2.2 p (by omega)).2
    have cp := c_bcopy I R K (b + 18 + p) (c + 18 + p) kb kc (by omega)
    obtain ⟨I1, hI1⟩ : ∃ I1, I1 = st I (b + 18 + p) (uf (uf (uf (uf (uf (uf (uf (I (b + 18 + p)) 1 (I (c + 18 + p) 1)) 2 (I (c + 18 + p) 2)) 3 (I (c + 18 + p) 3)) 4 (I (c + 18 + p) 4)) 5 (I (c + 18 + p) 5)) 6 (I (c + 18 + p) 6)) 7 (I (c + 18 + p) 7)) := ⟨_, rfl⟩
    obtain ⟨R1, hR1⟩ : ∃ R1, R1 = am_ur R (b + 18 + p) 8 (R (c + 18 + p) 8) := ⟨_, rfl⟩
    have xe : XE R K R1 K := by rw [hR1]; exact XE.ur R K _ _
    rw [← hI1, ← hR1] at cp
    obtain ⟨I2, R2, v1, v2, v3, v4⟩ := ih (p + 1) I1 R1 (by omega) (hb.xe xe) (hc.xe xe) (some (.ref (b + 18 + p))) (some (.ref (c + 18 + p)))
    have r1 : ∀ a, a ≠ b + 18 + p → ∀ i, R1 a i = R a i := fun a ha i => by rw [hR1]; unfold am_ur; rw [if_neg (fun z => ha z.1)]
    have i1 : ∀ a, a ≠ b + 18 + p → I1 a = I a := fun a ha => by rw [hI1]; exact st_ne _ _ ha
    refine ⟨I2, R2, ?_, fun j j1 j2 => ?_, fun a ha => ?_, xe.tr v4⟩
    · rw [s63_35]
      simp (disch := first | assumption | omega | exact ixN (by assumption) (by omega) (by omega) | exact ne_10 | exact ne_1000 | exact ne_4) only [s63_36, s63_38, s63_41, s63_41a, s63_42, s63_43, s63_46, s63_46a, s63_47, s63_47a, s63_48, s63_49, s63_52, s63_52a, s63_54, s63_54a, s63_55, s63_55a, s63_58, s63_58a, s63_60, s63_60a, s63_63, s63_63a, s63_64, s63_64a, s63_66, s63_69, s63_72, ↓reduceIte, eq_self, Option.bind_some, Option.bind_none, Option.toList_some, Option.toList_none, List.cons_append, List.nil_append, am_rf_s, am_rf_n, am_c1_i, am_c1_r, am_c1_n, List.all_cons, List.all_nil, Bool.and_self, Bool.and_true, Bool.true_and, List.length_cons, List.length_nil, Nat.reduceAdd, Nat.reduceSub, Nat.reduceMul, Nat.reduceLeDiff, Nat.reduceLT, Nat.zero_le, Nat.le_refl, ne_10, ne_1000, ne_4, not_false_eq_true, or_true, true_or, Nat.one_ne_zero, Nat.zero_ne_one, Nat.reduceEqDiff, Bool.true_eq_false, Bool.false_eq_true, n10, nI_leI, nI_add, q0, pb, pc, cp, v1]
    · by_cases z : j = p
      · subst z
        obtain ⟨a1, a2⟩ := v3 (b + 18 + j) (by omega)
        rw [a1, a2 8, hI1, hR1]
        refine ⟨by first | assumption | (simp (disch := omega) only [st_eq, st_ne, uf_eq, uf_ne]; done) | (simp (disch := omega) only [st_eq, st_ne, uf_eq, uf_ne]; assumption), fun i i1 i2 => ?_, by unfold am_ur; rw [if_pos ⟨rfl, rfl⟩]⟩
        have : i = 1 ∨ i = 2 ∨ i = 3 ∨ i = 4 ∨ i = 5 ∨ i = 6 ∨ i = 7 := by omega
        rcases this with rfl | rfl | rfl | rfl | rfl | rfl | rfl
        all_goals first | assumption | (simp (disch := omega) only [st_eq, st_ne, uf_eq, uf_ne]; done) | (simp (disch := omega) only [st_eq, st_ne, uf_eq, uf_ne]; assumption)
      · obtain ⟨a1, a2, a3⟩ := v2 j (by omega) j2
        refine ⟨a1.trans (by rw [i1 _ (by omega)]), fun i y1 y2 => (a2 i y1 y2).trans (by rw [i1 _ (by omega)]), a3.trans (r1 _ (by omega) 8)⟩
    · obtain ⟨a1, a2⟩ := v3 a (by omega)
      exact ⟨a1.trans (i1 a (by omega)), fun i => (a2 i).trans (r1 a (by omega) i)⟩
theorem c_scopy (I : am_I) (R : am_R) (b c : Nat) (hbc : b + 24 ≤ c ∨ c + 24 ≤ b) (hb6 : b + 24 ≤ 156) (hb : SB R K b) (hc : SB R K c) (f : Nat → Int32) (hs : RS I R K c f) (h0 : ∀ p, p < 6 → I (b + 18 + p) 0 = nI p) (h01 : (f 23 = nI 0 ∨ f 23 = nI 1) ∧ (f 54 = nI 0 ∨ f 54 = nI 1)) : ∃ I' R', ev 63 0 [some (.ref b), some (.ref c), none, none, none] [] (I, R, K) = some (none, (I', R', K)) ∧ RS I' R' K b f ∧ (∀ a, (a < b ∨ b + 24 ≤ a) → I' a = I a ∧ ∀ i, R' a i = R a i) ∧ XE R K R' K := by
  have hs0 := hs
  obtain ⟨s1, s2, s3, s4⟩ := hs
  have k1 := hb.1.1
  have k2 := hc.1.1
  obtain ⟨-, ⟨b0, b1, b2, b3⟩, mb, pb1, pb2, -⟩ := id hb
  obtain ⟨-, ⟨c0, c1, c2, c3⟩, mc, pc1, pc2, -⟩ := id hc
  have m1 := mb.1
  have q1 := pb1.1.1
  have q2 := pb2.1.1
  have mcp := c_mcopy K I R (b + 1) (c + 1) mb mc
  obtain ⟨I1, hI1⟩ : ∃ I1, I1 = st I (b + 1 + 1) (cpy 8 (I (c + 1 + 1)) (I (b + 1 + 1))) := ⟨_, rfl⟩
  rw [← hI1] at mcp
  have i1 : ∀ a, a ≠ b + 2 → I1 a = I a := fun a ha => by rw [hI1]; exact st_ne _ _ ha
  have f6 := s2.1.2.2.2.1
  have f6' := s3.1.2.2.2.1
  obtain ⟨I2, u1, u2, u3, u4, u5, u6, u7⟩ := c_pcopy I1 R K (b + 3) (c + 3) pb1 pc1 (by omega) (by rw [i1 _ (by omega), f6]; exact h01.1)
  obtain ⟨I3, w1, w2, w3, w4, w5, w6, w7⟩ := c_pcopy I2 R K (b + 10) (c + 10) pb2 pc2 (by omega) (by rw [u7 _ (by omega), i1 _ (by omega), f6']; exact h01.2)
  obtain ⟨I4, R4, v1, v2, v3, v4⟩ := c_scopy1 K b c hbc 6 0 I3 R rfl hb hc none none
  have o3 : ∀ a, (a < b ∨ b + 17 ≤ a) → I3 a = I a := fun a ha => by rw [w7 a (by omega), u7 a (by omega), i1 a (by omega)]
  have oo : ∀ a, (a < b ∨ b + 24 ≤ a) → I4 a = I a ∧ ∀ i, R4 a i = R a i := fun a ha => by
    obtain ⟨y1, y2⟩ := v3 a (by omega)
    exact ⟨y1.trans (o3 a (by omega)), y2⟩
  have dy : DY I K I4 := fun a h1 _ => (oo a (by omega)).1
  refine ⟨I4, R4, ?_, ⟨fun k hk => ?_, ?_, ?_, fun p hp => ?_⟩, oo, v4⟩
  · simp (disch := first | assumption | omega | exact ixN (by assumption) (by omega) (by omega) | exact ne_10 | exact ne_1000 | exact ne_4) only [s63_0, s63_0a, s63_1, s63_4, s63_4a, s63_5, s63_8, s63_11, s63_11a, s63_12, s63_15, s63_15a, s63_16, s63_19, s63_22, s63_22a, s63_23, s63_26, s63_26a, s63_27, s63_30, s63_33, s63_34, ↓reduceIte, eq_self, Option.bind_some, Option.bind_none, Option.toList_some, Option.toList_none, List.cons_append, List.nil_append, am_rf_s, am_rf_n, am_c1_i, am_c1_r, am_c1_n, List.all_cons, List.all_nil, Bool.and_self, Bool.and_true, Bool.true_and, List.length_cons, List.length_nil, Nat.reduceAdd, Nat.reduceSub, Nat.reduceMul, Nat.reduceLeDiff, Nat.reduceLT, Nat.zero_le, Nat.le_refl, ne_10, ne_1000, ne_4, not_false_eq_true, or_true, true_or, Nat.one_ne_zero, Nat.zero_ne_one, Nat.reduceEqDiff, Bool.true_eq_false, Bool.false_eq_true, n10, b0, b1, b2, c0, c1, c2, mcp, u1, w1, v1]
  · rw [(v3 (b + 2) (by omega)).1, w7 _ (by omega), u7 _ (by omega), hI1, st_eq, cpy_lt hk]
    exact s1 k hk
  · have t2 : RQ I1 (c + 3) f 8 := s2.cg (fun j hj => i1 _ (by omega)) (fun _ _ _ => rfl)
    have t3 : RQ I2 (b + 3) f 8 := t2.copy u2 u3 u4 u5 u6
    exact t3.cg (fun j hj => by rw [(v3 _ (by omega)).1, w7 _ (by omega)]) (fun _ _ _ => rfl)
  · have t2 : RQ I2 (c + 10) f 39 := s3.cg (fun j hj => by rw [u7 _ (by omega), i1 _ (by omega)]) (fun _ _ _ => rfl)
    have t3 : RQ I3 (b + 10) f 39 := t2.copy w2 w3 w4 w5 w6
    exact t3.cg (fun j hj => by rw [(v3 _ (by omega)).1]) (fun _ _ _ => rfl)
  · obtain ⟨y1, y2, y3⟩ := v2 p (by omega) hp
    obtain ⟨p1, p2, p3, p4⟩ := s4 p hp
    have oc := o3 (c + 18 + p) (by omega)
    rw [oc] at y2
    refine ⟨?_, (y2 1 (by omega) (by omega)).trans p2, p3, fun z => ?_⟩
    · rw [y1, o3 _ (by omega)]; exact h0 p hp
    · obtain ⟨⟨a1, a2, a3, a4, a5, a6⟩, a7⟩ := p4 z
      exact ⟨⟨(y2 2 (by omega) (by omega)).trans a1, (y2 3 (by omega) (by omega)).trans a2, (y2 4 (by omega) (by omega)).trans a3, (y2 5 (by omega) (by omega)).trans a4, (y2 6 (by omega) (by omega)).trans a5, (y2 7 (by omega) (by omega)).trans a6⟩, a7.fr y3 v4 dy (fun _ _ _ => rfl)⟩
end CZ
