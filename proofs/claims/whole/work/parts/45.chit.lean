/-! the class: hit, comeBy, leave -/
def XL (R : am_R) (K : am_K) : Prop := am_isK K 3 9 = true ∧ R 3 0 = some 4 ∧ R 3 1 = some 6 ∧ R 3 2 = some 10 ∧ R 3 3 = some 14 ∧ R 3 4 = some 38 ∧ R 3 5 = some 136 ∧ R 3 6 = some 138 ∧ R 3 7 = some 145
theorem XL.xe {R R' : am_R} {K K' : am_K} (h : XL R K) (e : XE R K R' K') : XL R' K' := by
  obtain ⟨h1, r0, r1, r2, r3, r4, r5, r6, r7⟩ := h
  have k := isK_lt h1
  exact ⟨isK_xe e h1, by rw [e.1 _ _ (by omega) k]; exact r0, by rw [e.1 _ _ (by omega) k]; exact r1, by rw [e.1 _ _ (by omega) k]; exact r2, by rw [e.1 _ _ (by omega) k]; exact r3, by rw [e.1 _ _ (by omega) k]; exact r4, by rw [e.1 _ _ (by omega) k]; exact r5, by rw [e.1 _ _ (by omega) k]; exact r6, by rw [e.1 _ _ (by omega) k]; exact r7⟩
/-- only now and the stack are touched -/
def FN (I I' : am_I) : Prop := ∀ a, (a < 14 ∨ 38 ≤ a) → a ≠ 136 → a ≠ 137 → I' a = I a
theorem FN.rf (I : am_I) : FN I I := fun _ _ _ _ => rfl
theorem FN.tr {I I' I'' : am_I} (h : FN I I') (h' : FN I' I'') : FN I I'' := fun a q1 q2 q3 => (h' a q1 q2 q3).trans (h a q1 q2 q3)
theorem FN.st {a : Nat} (I : am_I) (g : Nat → Int32) (h1 : 14 ≤ a) (h2 : a < 38) : FN I (st I a g) := fun b q _ _ => st_ne I g (by omega)
theorem FN.dy {I I' : am_I} (K : am_K) (h : FN I I') : DY I K I' := fun a h1 _ => h a (by omega) (by omega) (by omega)
/-- a number of a probe that isn't gone -/
theorem RS.prb {I : am_I} {R : am_R} {K : am_K} {f : Nat → Int32} (h : RS I R K 14 f) {p i : Nat} (hp : p < 6) (h3 : ¬ f (70 + 208 * p) = nI 3) (h2 : 2 ≤ i) (h7 : i ≤ 7) (v : Int32) : RS (st I (32 + p) (uf (I (32 + p)) i v)) R K 14 (uf f (70 + 208 * p + (i - 1)) v) := by
  obtain ⟨s1, s2, s3, s4⟩ := h
  have fn : FN I (st I (32 + p) (uf (I (32 + p)) i v)) := FN.st I _ (by omega) (by omega)
  refine ⟨fun k hk => ?_, s2.cg (fun j hj => st_ne _ _ (by omega)) (fun j _ _ => uf_ne _ _ (by omega)), s3.cg (fun j hj => st_ne _ _ (by omega)) (fun j _ _ => uf_ne _ _ (by omega)), fun q hq => ?_⟩
  · rw [st_ne _ _ (by omega), uf_ne _ _ (by omega)]; exact s1 k hk
  · by_cases e : q = p
    · subst e
      obtain ⟨p1, p2, p3, p4⟩ := s4 q hq
      obtain ⟨⟨a1, a2, a3, a4, a5, a6⟩, a7⟩ := p4 h3
      have e14 : 14 + 18 + q = 32 + q := by omega
      rw [e14] at *
      have f0 : uf f (70 + 208 * q + (i - 1)) v (70 + 208 * q) = f (70 + 208 * q) := uf_ne _ _ (by omega)
      refine ⟨by rw [st_eq, uf_ne _ _ (by omega)]; exact p1, by rw [st_eq, uf_ne _ _ (by omega), f0]; exact p2, by rw [f0]; exact p3, fun _ => ⟨?_, a7.fr rfl (XE.rf R K) (fn.dy K) (fun j j1 j2 => uf_ne _ _ (by omega))⟩⟩
      have : i = 2 ∨ i = 3 ∨ i = 4 ∨ i = 5 ∨ i = 6 ∨ i = 7 := by omega
      rcases this with rfl | rfl | rfl | rfl | rfl | rfl
      all_goals exact ⟨by first | assumption | (simp (disch := omega) only [st_eq, st_ne, uf_eq, uf_ne]; done) | (simp (disch := omega) only [st_eq, st_ne, uf_eq, uf_ne]; assumption), by first | assumption | (simp (disch := omega) only [st_eq, st_ne, uf_eq, uf_ne]; done) | (simp (disch := omega) only [st_eq, st_ne, uf_eq, uf_ne]; assumption), by first | assumption | (simp (disch := omega) only [st_eq, st_ne, uf_eq, uf_ne]; done) | (simp (disch := omega) only [st_eq, st_ne, uf_eq, uf_ne]; assumption), by first | assumption | (simp (disch := omega) only [st_eq, st_ne, uf_eq, uf_ne]; done) | (simp (disch := omega) only [st_eq, st_ne, uf_eq, uf_ne]; assumption), by first | assumption | (simp (disch := omega) only [st_eq, st_ne, uf_eq, uf_ne]; done) | (simp (disch := omega) only [st_eq, st_ne, uf_eq, uf_ne]; assumption), by first | assumption | (simp (disch := omega) only [st_eq, st_ne, uf_eq, uf_ne]; done) | (simp (disch := omega) only [st_eq, st_ne, uf_eq, uf_ne]; assumption)⟩
    · exact (s4 q hq).fr (st_ne _ _ (by omega)) rfl (XE.rf R K) (fn.dy K) (fun j _ _ => uf_ne _ _ (by omega))
/-- a processor's numbers -/
theorem RS.pro {I I' : am_I} {R : am_R} {K : am_K} {f f' : Nat → Int32} (h : RS I R K 14 f) {c : Nat} (hc : c < 2) (hI : ∀ a, (a < 17 + 7 * c ∨ 17 + 7 * c + 7 ≤ a) → a ≠ 136 → a ≠ 137 → I' a = I a) (hf : ∀ j, (j < 8 + 31 * c ∨ 8 + 31 * c + 31 ≤ j) → f' j = f j) (hQ : RQ I' (17 + 7 * c) f' (8 + 31 * c)) : RS I' R K 14 f' := by
  obtain ⟨s1, s2, s3, s4⟩ := h
  have dy : DY I K I' := fun a h1 _ => hI a (by omega) (by omega) (by omega)
  refine ⟨fun k hk => by rw [hI _ (by omega) (by omega) (by omega), hf _ (by omega)]; exact s1 k hk, ?_, ?_, fun p hp => (s4 p hp).fr (hI _ (by omega) (by omega) (by omega)) rfl (XE.rf R K) dy (fun j _ _ => hf j (by omega))⟩
  · have : c = 0 ∨ c = 1 := by omega
    rcases this with rfl | rfl
    · exact hQ
    · exact s2.cg (fun j hj => hI _ (by omega) (by omega) (by omega)) (fun j _ _ => hf j (by omega))
  · have : c = 0 ∨ c = 1 := by omega
    rcases this with rfl | rfl
    · exact s3.cg (fun j hj => hI _ (by omega) (by omega) (by omega)) (fun j _ _ => hf j (by omega))
    · exact hQ
theorem RS.q {I : am_I} {R : am_R} {K : am_K} {f : Nat → Int32} (h : RS I R K 14 f) {c : Nat} (hc : c < 2) : RQ I (17 + 7 * c) f (8 + 31 * c) := by
  have : c = 0 ∨ c = 1 := by omega
  rcases this with rfl | rfl
  · exact h.2.1
  · exact h.2.2.1
theorem SB.q {R : am_R} {K : am_K} (h : SB R K 14) {c : Nat} (hc : c < 2) : PL R K (17 + 7 * c) := by
  have : c = 0 ∨ c = 1 := by omega
  rcases this with rfl | rfl
  · exact h.2.2.2.1
  · exact h.2.2.2.2.1
theorem ask0 (o : Option Int32) : (askC o = nI 0) = (askI o = nI 0) := by
  cases o with
  | none => apply propext; constructor <;> (intro z; exact absurd z (by decide))
  | some v => rfl
section DA
variable (I : am_I) (R : am_R) (K : am_K)
theorem c_hit (hX : XL R K) (hb : SB R K 14) (hS : SL R K) (f : Nat → Int32) (hs : RS I R K 14 f) (c p m n : Nat) (hc : c < 2) (hp : p < 6) (h3 : ¬ f (70 + 208 * p) = nI 3) (hm : f (70 + 208 * p + 7) = nI m) (hm2 : m ≤ 200) (hn : f (8 + 31 * c + 17) = nI n) (hn2 : n ≤ 4) (hacc : nb (f (8 + 31 * c))) (hmem : ∀ k, k < 8 → nb (f k)) : ∃ I', ev 95 0 [some (.ref 3), some (.ref (17 + 7 * c)), some (.ref (32 + p))] [] (I, R, K) = some (none, (I', R, K)) ∧ RS I' R K 14 (sHit f p c m n) ∧ FN I I' := by
  obtain ⟨x1, x2, x3, x4, x5, x6, x7, x8, x9⟩ := hX
  have kp : am_isK K (32 + p) 3 = true := by
    have := (hb.2.2.2.2.2 p hp).2
    rwa [show 14 + 18 + p = 32 + p by omega] at this
  have pl := hb.q hc
  have kq := pl.1.1
  have kb := hb.1.1
  have rb0 := hb.2.1.1
  have mb := hb.2.2.1
  have km := mb.1
  obtain ⟨q1, q2, q3, q4⟩ := hs.2.2.2 p hp
  obtain ⟨⟨a1, a2, a3, a4, a5, a6⟩, a7⟩ := q4 h3
  rw [show 14 + 18 + p = 32 + p by omega] at *
  obtain ⟨f1, hf1⟩ : ∃ f1, f1 = uf f (70 + 208 * p + 3) (f (70 + 208 * p + 3) + nI 1) := ⟨_, rfl⟩
  obtain ⟨I1, hI1⟩ : ∃ I1, I1 = st I (32 + p) (uf (I (32 + p)) 4 (f (70 + 208 * p + 3) + nI 1)) := ⟨_, rfl⟩
  have s1 : RS I1 R K 14 f1 := by rw [hI1, hf1]; exact hs.prb hp h3 (by omega) (by omega) _
  have fn1 : FN I I1 := by rw [hI1]; exact FN.st I _ (by omega) (by omega)
  have g : ∀ j, j ≠ 70 + 208 * p + 3 → f1 j = f j := fun j hj => by rw [hf1]; exact uf_ne _ _ hj
  have sq := s1.q hc
  have ac : I1 (17 + 7 * c) 5 = f1 (8 + 31 * c) := sq.1.2.2.1
  have rs17 : I1 (17 + 7 * c + 3) 3 = nI n := by rw [sq.1.2.2.2.2.2.1, g _ (by omega)]; exact hn
  have i10 : I1 (32 + p) 0 = nI p := by rw [hI1]; first | assumption | (simp (disch := omega) only [st_eq, st_ne, uf_eq, uf_ne]; done) | (simp (disch := omega) only [st_eq, st_ne, uf_eq, uf_ne]; assumption)
  have r2 := pl.2.1.2.2.1
  have k3 := pl.1.2.2.2.1
  -- into the ring, from a memory J that is I1 beside the stack
  have ring : ∀ J : am_I, FK I1 J → ∃ I', ev 95 55 [some (.ref 3), some (.ref (17 + 7 * c)), some (.ref (32 + p))] [] (J, R, K) = some (none, (I', R, K)) ∧ RS I' R K 14 (sRing f1 (8 + 31 * c) n (nI p)) ∧ FN I I' := by
    intro J hJ
    have jq : J (17 + 7 * c) = I1 (17 + 7 * c) := hJ _ (by omega) (by omega)
    have jr : J (17 + 7 * c + 3) = I1 (17 + 7 * c + 3) := hJ _ (by omega) (by omega)
    have jp : J (32 + p) = I1 (32 + p) := hJ _ (by omega) (by omega)
    have fnJ : FN I1 J := fun a _ q2 q3 => hJ a q2 q3
    have sJ : RS J R K 14 f1 := s1.fr (fun a a1 a2 => hJ a (by omega) (by omega)) (fun _ _ => rfl) (XE.rf R K) (fnJ.dy K)
    obtain ⟨I2, v1, v2, v3, v4, v5, v6, v7, v8⟩ := c_enter J R K (17 + 7 * c) n pl hn2 (by rw [jr]; exact rs17) (nI p) (J (17 + 7 * c) 5) (J (17 + 7 * c) 7)
    have rq := (sJ.q hc).ring hn2 (by rw [g _ (by omega)]; exact hn) v2 v3 v4 v5 v6 v7 v8
    have e := sRing_eqs f1 (8 + 31 * c) n (nI p) hn2
    refine ⟨I2, ?_, sJ.pro hc (fun a h1 _ _ => v8 a (by omega) (by omega) (by omega) (by omega)) (fun j hj => e.1 j (by omega)) rq, fn1.tr (fnJ.tr (fun a h1 h2 h3 => v8 a (by omega) (by omega) (by omega) (by omega)))⟩
    have j0 : J (32 + p) 0 = nI p := by rw [jp]; exact i10
    simp (disch := first | assumption | omega | exact ixN (by assumption) (by omega) (by omega) | exact ne_10 | exact ne_1000 | exact ne_4) only [s95_55, s95_55a, s95_56, s95_59, s95_59a, s95_60, s95_63, s95_63a, s95_64, s95_67, s95_67a, s95_68, s95_71, s95_74, ↓reduceIte, eq_self, Option.bind_some, Option.bind_none, Option.toList_some, Option.toList_none, List.cons_append, List.nil_append, am_rf_s, am_rf_n, am_c1_i, am_c1_r, am_c1_n, List.all_cons, List.all_nil, Bool.and_self, Bool.and_true, Bool.true_and, List.length_cons, List.length_nil, Nat.reduceAdd, Nat.reduceSub, Nat.reduceMul, Nat.reduceLeDiff, Nat.reduceLT, Nat.zero_le, Nat.le_refl, ne_10, ne_1000, ne_4, not_false_eq_true, or_true, true_or, Nat.one_ne_zero, Nat.zero_ne_one, Nat.reduceEqDiff, Bool.true_eq_false, Bool.false_eq_true, n10, r2, j0, v1]
  unfold sHit
  rw [← hf1]
  dsimp only
  rcases a7 with ⟨n1, n2⟩ | ⟨x, m', n1, n2, n3, n4, n5⟩
  · have m0 : m = 0 := by rw [hm, nI_eq (by omega) (by omega)] at n2; exact n2
    have cn : ¬ (m ≠ 0 ∧ askI (kask f1 (fun i => f1 (70 + 208 * p + 8 + i)) m (f1 (8 + 31 * c))) = nI 0) := fun z => z.1 m0
    obtain ⟨I2, v1, v2, v3⟩ := ring I1 (FK.rf I1)
    refine ⟨I2, ?_, by rw [if_neg cn]; exact v2, v3⟩
    rw [← v1]
    simp (disch := first | assumption | omega | exact ixN (by assumption) (by omega) (by omega) | exact ne_10 | exact ne_1000 | exact ne_4) only [s95_0, s95_0a, s95_1, s95_2, s95_5, s95_6, s95_7, s95_10, s95_10a, s95_11, s95_14, s95_14a, ↓reduceIte, eq_self, Option.bind_some, Option.bind_none, Option.toList_some, Option.toList_none, List.cons_append, List.nil_append, am_rf_s, am_rf_n, am_c1_i, am_c1_r, am_c1_n, List.all_cons, List.all_nil, Bool.and_self, Bool.and_true, Bool.true_and, List.length_cons, List.length_nil, Nat.reduceAdd, Nat.reduceSub, Nat.reduceMul, Nat.reduceLeDiff, Nat.reduceLT, Nat.zero_le, Nat.le_refl, ne_10, ne_1000, ne_4, not_false_eq_true, or_true, true_or, Nat.one_ne_zero, Nat.zero_ne_one, Nat.reduceEqDiff, Bool.true_eq_false, Bool.false_eq_true, n10, ui_st, a3, ← hI1, n1]
  · have n52 := n5.2.2.2.2.2.2.1
    have em : m' = m := by rw [hm, nI_eq (by omega) (by omega)] at n4; exact n4.symm
    subst em
    have m0 : m' ≠ 0 := by omega
    have etx : (fun i => f1 (70 + 208 * p + 8 + i)) = fun i => f (70 + 208 * p + 8 + i) := by funext i; exact g _ (by omega)
    rw [etx]
    have tx1 : RT I1 R K x (x + 1) m' m' (fun i => f (70 + 208 * p + 8 + i)) := n5.fr (fn1 x (by omega) (by omega) (by omega)) (fn1 (x + 1) (by omega) (by omega) (by omega))
    obtain ⟨J, w1, w2⟩ := c_ask I1 R K hS 15 x (x + 1) m' m' (fun i => f (70 + 208 * p + 8 + i)) f1 (f1 (8 + 31 * c)) (by rw [g _ (by omega)]; exact hacc) mb (by omega) (by omega) (fun k hk => by rw [g _ (by omega)]; exact hmem k hk) tx1 s1.1
    have ks := hS.1
    by_cases ca : askI (kask f1 (fun i => f (70 + 208 * p + 8 + i)) m' (f1 (8 + 31 * c))) = nI 0
    · rw [if_pos ⟨m0, ca⟩]
      have ca' := ca
      rw [← ask0] at ca'
      rw [ca'] at w1
      have jp : J (32 + p) = I1 (32 + p) := w2 _ (by omega) (by omega)
      have fnJ : FN I1 J := fun a _ q2 q3 => w2 a q2 q3
      have sJ : RS J R K 14 f1 := s1.fr (fun a a1 a2 => w2 a (by omega) (by omega)) (fun _ _ => rfl) (XE.rf R K) (fnJ.dy K)
      have h3' : ¬ f1 (70 + 208 * p) = nI 3 := by rw [g _ (by omega)]; exact h3
      have s2 := sJ.prb hp h3' (i := 5) (by omega) (by omega) (f1 (70 + 208 * p + 4) + nI 1)
      have j5 : J (32 + p) 5 = f1 (70 + 208 * p + 4) := by
        have := ((sJ.2.2.2 p hp).2.2.2 h3').1.2.2.2.1
        rwa [show 14 + 18 + p = 32 + p by omega] at this
      refine ⟨_, ?_, s2, fn1.tr (fnJ.tr (FN.st J _ (by omega) (by omega)))⟩
      simp (disch := first | assumption | omega | exact ixN (by assumption) (by omega) (by omega) | exact ne_10 | exact ne_1000 | exact ne_4) only [s95_0, s95_0a, s95_1, s95_2, s95_5, s95_6, s95_7, s95_10, s95_10a, s95_11, s95_14, s95_14a, s95_17, s95_17a, s95_18, s95_21, s95_21a, s95_22, s95_25, s95_25a, s95_26, s95_29, s95_29a, s95_30, s95_33, s95_36, s95_39, s95_42, s95_42a, s95_43, s95_44, s95_47, s95_48, s95_49, s95_52, s95_74, ↓reduceIte, eq_self, Option.bind_some, Option.bind_none, Option.toList_some, Option.toList_none, List.cons_append, List.nil_append, am_rf_s, am_rf_n, am_c1_i, am_c1_r, am_c1_n, List.all_cons, List.all_nil, Bool.and_self, Bool.and_true, Bool.true_and, List.length_cons, List.length_nil, Nat.reduceAdd, Nat.reduceSub, Nat.reduceMul, Nat.reduceLeDiff, Nat.reduceLT, Nat.zero_le, Nat.le_refl, ne_10, ne_1000, ne_4, not_false_eq_true, or_true, true_or, Nat.one_ne_zero, Nat.zero_ne_one, Nat.reduceEqDiff, Bool.true_eq_false, Bool.false_eq_true, n10, ui_st, a3, ← hI1, n1, x7, x5, rb0, ac, w1, j5]
    · rw [if_neg (fun z => ca z.2)]
      have ca' := ca
      rw [← ask0] at ca'
      obtain ⟨I2, v1, v2, v3⟩ := ring J w2
      refine ⟨I2, ?_, v2, v3⟩
      rw [← v1]
      simp (disch := first | assumption | omega | exact ixN (by assumption) (by omega) (by omega) | exact ne_10 | exact ne_1000 | exact ne_4) only [s95_0, s95_0a, s95_1, s95_2, s95_5, s95_6, s95_7, s95_10, s95_10a, s95_11, s95_14, s95_14a, s95_17, s95_17a, s95_18, s95_21, s95_21a, s95_22, s95_25, s95_25a, s95_26, s95_29, s95_29a, s95_30, s95_33, s95_36, s95_39, ↓reduceIte, eq_self, Option.bind_some, Option.bind_none, Option.toList_some, Option.toList_none, List.cons_append, List.nil_append, am_rf_s, am_rf_n, am_c1_i, am_c1_r, am_c1_n, List.all_cons, List.all_nil, Bool.and_self, Bool.and_true, Bool.true_and, List.length_cons, List.length_nil, Nat.reduceAdd, Nat.reduceSub, Nat.reduceMul, Nat.reduceLeDiff, Nat.reduceLT, Nat.zero_le, Nat.le_refl, ne_10, ne_1000, ne_4, not_false_eq_true, or_true, true_or, Nat.one_ne_zero, Nat.zero_ne_one, Nat.reduceEqDiff, Bool.true_eq_false, Bool.false_eq_true, n10, ui_st, a3, ← hI1, n1, x7, x5, rb0, ac, w1, ca']
end DA
