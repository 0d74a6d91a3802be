/-! the constructors: cells made one behind the other -/
def FZ (I : am_I) (R : am_R) (K : am_K) : Prop := 3 ≤ K.2.1 ∧ ∀ b, K.2.1 ≤ b → (∀ i, I b i = nI 0) ∧ ∀ i, R b i = none
theorem FZ.zi {I : am_I} {R : am_R} {K : am_K} (h : FZ I R K) : am_zi I K.2.1 = I := by
  funext b i; unfold am_zi; split
  · rename_i z; rw [z]; exact ((h.2 _ (Nat.le_refl _)).1 i).symm
  · rfl
theorem FZ.zr {I : am_I} {R : am_R} {K : am_K} (h : FZ I R K) : am_zr R K.2.1 = R := by
  funext b i; unfold am_zr; split
  · rename_i z; rw [z]; exact ((h.2 _ (Nat.le_refl _)).2 i).symm
  · rfl
theorem FZ.kN {I : am_I} {R : am_R} {K : am_K} (h : FZ I R K) (l s : Nat) : FZ I R (kN K l s) := ⟨Nat.le_succ_of_le h.1, fun b hb => h.2 b (Nat.le_of_succ_le hb)⟩
theorem FZ.ur {I : am_I} {R : am_R} {K : am_K} (h : FZ I R K) {a : Nat} (ha : a < K.2.1) (j : Nat) (v : Option Nat) : FZ I (am_ur R a j v) K := ⟨h.1, fun b hb => ⟨(h.2 b hb).1, fun i => by unfold am_ur; rw [if_neg (by omega)]; exact (h.2 b hb).2 i⟩⟩
theorem FZ.st {I : am_I} {R : am_R} {K : am_K} (h : FZ I R K) {a : Nat} (ha : a < K.2.1) (g : Nat → Int32) : FZ (st I a g) R K := ⟨h.1, fun b hb => ⟨fun i => by rw [st_ne _ _ (by omega)]; exact (h.2 b hb).1 i, (h.2 b hb).2⟩⟩
/-- beside a, what was made is as it was -/
def GX (a : Nat) (R : am_R) (K : am_K) (R' : am_R) (K' : am_K) : Prop := (∀ b, b < K.2.1 → b ≠ a → R' b = R b) ∧ (∀ b, b < K.2.1 → K'.1 b = K.1 b) ∧ K.2.1 ≤ K'.2.1
theorem GX.tr {a : Nat} {R R' R'' : am_R} {K K' K'' : am_K} (h : GX a R K R' K') (h' : GX a R' K' R'' K'') : GX a R K R'' K'' := ⟨fun b q1 q2 => (h'.1 b (Nat.lt_of_lt_of_le q1 h.2.2) q2).trans (h.1 b q1 q2), fun b q => (h'.2.1 b (Nat.lt_of_lt_of_le q h.2.2)).trans (h.2.1 b q), Nat.le_trans h.2.2 h'.2.2⟩
theorem ur_ne {R : am_R} {a b : Nat} (j : Nat) (v : Option Nat) (h : b ≠ a) : am_ur R a j v b = R b := by
  funext i; unfold am_ur; rw [if_neg (fun z => h z.1)]
theorem ur_eq (R : am_R) (a j : Nat) (v : Option Nat) : am_ur R a j v a j = v := by unfold am_ur; rw [if_pos ⟨rfl, rfl⟩]
theorem ur_ni {R : am_R} {a j i : Nat} (v : Option Nat) (h : i ≠ j) : am_ur R a j v a i = R a i := by unfold am_ur; rw [if_neg (fun z => h z.2)]
theorem isK_mono {K K' : am_K} {b t : Nat} (h : am_isK K b t = true) (hk : K.2.1 ≤ K'.2.1) : am_isK K' b t = true := by
  obtain ⟨h1, h2, h3⟩ := am_isK_of h
  unfold am_isK
  simp [h1, h3]; omega
/-- an array that is made for a field -/
theorem af {I : am_I} {R : am_R} {K : am_K} (hz : FZ I R K) {a : Nat} (ha : a < K.2.1) (j l s t : Nat) (ht : am_tag K.2.1 = t) : FZ I (am_ur R a j (some K.2.1)) (kN K l s) ∧ GX a R K (am_ur R a j (some K.2.1)) (kN K l s) ∧ am_isK (kN K l s) K.2.1 t = true ∧ (kN K l s).1 K.2.1 = l :=
  ⟨(hz.kN l s).ur (Nat.lt_succ_of_lt ha) j _, ⟨fun b _ q => ur_ne j _ q, fun b q => by show am_ul K.1 K.2.1 l b = _; unfold am_ul; rw [if_neg (by omega)], Nat.le_succ _⟩, kN_is hz.1 ht, kN_len K l s⟩
/-- an object that is made for a field -/
theorem ao {I' : am_I} {R R2 : am_R} {K K2 : am_K} {a s : Nat} (ha : a < K.2.1) (hg : GX K.2.1 R (kN K 0 s) R2 K2) (hz : FZ I' R2 K2) (j : Nat) : FZ I' (am_ur R2 a j (some K.2.1)) K2 ∧ GX a R K (am_ur R2 a j (some K.2.1)) K2 ∧ R2 a = R a := by
  have e : (kN K 0 s).2.1 = K.2.1 + 1 := rfl
  have g3 := hg.2.2
  refine ⟨hz.ur (by omega) j _, ⟨fun b q1 q2 => by rw [ur_ne j _ q2]; exact hg.1 b (by omega) (by omega), fun b q => ?_, by omega⟩, hg.1 a (by omega) (by omega)⟩
  rw [hg.2.1 b (by omega)]
  show am_ul K.1 K.2.1 0 b = _
  unfold am_ul; rw [if_neg (by omega)]
theorem kN_n (K : am_K) (l s : Nat) : (kN K l s).2.1 = K.2.1 + 1 := rfl
theorem kN_s (K : am_K) (l s : Nat) : (kN K l s).2.2 = K.2.2 + s := rfl
section DR
variable (I : am_I) (R : am_R) (K : am_K)
theorem i_mem (a : Nat) (hz : FZ I R K) (hk : am_isK K a 2 = true) (hn : K.2.1 = a + 1) (t1 : am_tag (a + 1) = 20) : ∃ R' K', ev 13 0 [some (.ref a)] [] (I, R, K) = some (none, (I, R', K')) ∧ FZ I R' K' ∧ GX a R K R' K' ∧ K'.2.1 = a + 2 ∧ K'.2.2 = K.2.2 + 8 ∧ ML R' K' a := by
  have la := isK_lt hk
  rw [← hn] at t1
  obtain ⟨b1, b2, b3, b4⟩ := af hz la 0 8 8 20 t1
  have zi := hz.zi
  have zr := hz.zr
  have k1 : am_isK (kN K 8 8) a 2 = true := isK_mono hk (Nat.le_succ _)
  have p0 : ¬ nI 8 < 0 := by decide
  have p1 : (nI 8).toNatClampNeg ≤ 10000 := by decide
  have p2 : (nI 8).toNatClampNeg = 8 := by decide
  refine ⟨_, _, ?_, b1, b2, by rw [kN_n, hn], rfl, k1, by rw [← hn]; exact b3, by rw [← hn]; exact ur_eq _ _ _ _, by rw [← hn]; exact b4⟩
  simp (disch := first | assumption | omega | exact ixN (by assumption) (by omega) (by omega) | exact ne_10 | exact ne_1000 | exact ne_4) only [s13_0, s13_0a, s13_1, s13_4, s13_4a, s13_5, s13_7, s13_9, s13_9a, s13_12, ↓reduceIte, eq_self, Option.bind_some, Option.bind_none, Option.toList_some, Option.toList_none, List.cons_append, List.nil_append, am_rf_s, am_rf_n, am_c1_i, am_c1_r, am_c1_n, List.all_cons, List.all_nil, Bool.and_self, Bool.and_true, Bool.true_and, List.length_cons, List.length_nil, Nat.reduceAdd, Nat.reduceSub, Nat.reduceMul, Nat.reduceLeDiff, Nat.reduceLT, Nat.zero_le, Nat.le_refl, ne_10, ne_1000, ne_4, not_false_eq_true, or_true, true_or, Nat.one_ne_zero, Nat.zero_ne_one, Nat.reduceEqDiff, Bool.true_eq_false, Bool.false_eq_true, n10, am_mk_k, p2, zi, zr]
theorem i_stack (a : Nat) (hz : FZ I R K) (hk : am_isK K a 6 = true) (hn : K.2.1 = a + 1) (t1 : am_tag (a + 1) = 20) : ∃ R' K', ev 46 0 [some (.ref a)] [] (I, R, K) = some (none, (I, R', K')) ∧ FZ I R' K' ∧ GX a R K R' K' ∧ K'.2.1 = a + 2 ∧ K'.2.2 = K.2.2 + 4 ∧ am_isK K' a 6 = true ∧ am_isK K' (a + 1) 20 = true ∧ R' a 0 = some (a + 1) ∧ K'.1 (a + 1) = 4 := by
  have la := isK_lt hk
  rw [← hn] at t1
  obtain ⟨b1, b2, b3, b4⟩ := af hz la 0 4 4 20 t1
  have zi := hz.zi
  have zr := hz.zr
  have k1 : am_isK (kN K 4 4) a 6 = true := isK_mono hk (Nat.le_succ _)
  have p0 : ¬ nI 4 < 0 := by decide
  have p1 : (nI 4).toNatClampNeg ≤ 10000 := by decide
  have p2 : (nI 4).toNatClampNeg = 4 := by decide
  refine ⟨_, _, ?_, b1, b2, by rw [kN_n, hn], rfl, k1, by rw [← hn]; exact b3, by rw [← hn]; exact ur_eq _ _ _ _, by rw [← hn]; exact b4⟩
  simp (disch := first | assumption | omega | exact ixN (by assumption) (by omega) (by omega) | exact ne_10 | exact ne_1000 | exact ne_4) only [s46_0, s46_0a, s46_1, s46_4, s46_4a, s46_5, s46_6, s46_8, s46_8a, s46_11, ↓reduceIte, eq_self, Option.bind_some, Option.bind_none, Option.toList_some, Option.toList_none, List.cons_append, List.nil_append, am_rf_s, am_rf_n, am_c1_i, am_c1_r, am_c1_n, List.all_cons, List.all_nil, Bool.and_self, Bool.and_true, Bool.true_and, List.length_cons, List.length_nil, Nat.reduceAdd, Nat.reduceSub, Nat.reduceMul, Nat.reduceLeDiff, Nat.reduceLT, Nat.zero_le, Nat.le_refl, ne_10, ne_1000, ne_4, not_false_eq_true, or_true, true_or, Nat.one_ne_zero, Nat.zero_ne_one, Nat.reduceEqDiff, Bool.true_eq_false, Bool.false_eq_true, n10, am_mk_k, p2, zi, zr]
theorem i_text (a n : Nat) (hz : FZ I R K) (hk : am_isK K a 8 = true) (hn : K.2.1 = a + 1) (t1 : am_tag (a + 1) = 22) (hl : n ≤ 200) : ∃ R' K', ev 64 0 [some (.ref a), some (.int (nI n))] [] (I, R, K) = some (none, (I, R', K')) ∧ FZ I R' K' ∧ GX a R K R' K' ∧ K'.2.1 = a + 2 ∧ K'.2.2 = K.2.2 + n ∧ am_isK K' a 8 = true ∧ am_isK K' (a + 1) 22 = true ∧ R' a 0 = some (a + 1) ∧ K'.1 (a + 1) = n := by
  have la := isK_lt hk
  rw [← hn] at t1
  obtain ⟨b1, b2, b3, b4⟩ := af hz la 0 n n 22 t1
  have ti := c_Tinit I R K a n hk t1 hl
  rw [hz.zi, hz.zr] at ti
  have k1 : am_isK (kN K n n) a 8 = true := isK_mono hk (Nat.le_succ _)
  exact ⟨_, _, ti, b1, b2, by rw [kN_n, hn], rfl, k1, by rw [← hn]; exact b3, by rw [← hn]; exact ur_eq _ _ _ _, by rw [← hn]; exact b4⟩
/-- three rows of four numbers -/
theorem i_ring (a : Nat) (hz : FZ I R K) (hk : am_isK K a 5 = true) (hn : K.2.1 = a + 1) (t1 : am_tag (a + 1) = 20) (t2 : am_tag (a + 2) = 20) (t3 : am_tag (a + 3) = 20) : ∃ R' K', ev 40 0 [some (.ref a)] [] (I, R, K) = some (none, (I, R', K')) ∧ FZ I R' K' ∧ GX a R K R' K' ∧ K'.2.1 = a + 4 ∧ K'.2.2 = K.2.2 + 12 ∧ (am_isK K' a 5 = true ∧ am_isK K' (a + 1) 20 = true ∧ am_isK K' (a + 2) 20 = true ∧ am_isK K' (a + 3) 20 = true) ∧ (R' a 0 = some (a + 1) ∧ R' a 1 = some (a + 2) ∧ R' a 2 = some (a + 3)) ∧ (K'.1 (a + 1) = 4 ∧ K'.1 (a + 2) = 4 ∧ K'.1 (a + 3) = 4) := by
  have p0 : ¬ nI 4 < 0 := by decide
  have p1 : (nI 4).toNatClampNeg ≤ 10000 := by decide
  have p2 : (nI 4).toNatClampNeg = 4 := by decide
  have la := isK_lt hk
  rw [← hn] at t1
  obtain ⟨b1, b2, b3, b4⟩ := af hz la 0 4 4 20 t1
  have zi := hz.zi
  have zr := hz.zr
  obtain ⟨R1, hR1⟩ : ∃ R1, R1 = am_ur R a 0 (some K.2.1) := ⟨_, rfl⟩
  obtain ⟨K1, hK1⟩ : ∃ K1, K1 = kN K 4 4 := ⟨_, rfl⟩
  have k1 : am_isK K1 a 5 = true := by rw [hK1]; exact isK_mono hk (Nat.le_succ _)
  have n1 : K1.2.1 = a + 2 := by rw [hK1, kN_n, hn]
  have u1 : R1 a 0 = some (a + 1) := by rw [hR1, ← hn]; exact ur_eq _ _ _ _
  rw [← hR1, ← hK1] at b1 b2
  rw [← hK1, hn] at b3 b4
  rw [← n1] at t2
  have la1 := isK_lt k1
  obtain ⟨c1, c2, c3, c4⟩ := af b1 la1 1 4 4 20 t2
  have zi1 := b1.zi
  have zr1 := b1.zr
  obtain ⟨R2, hR2⟩ : ∃ R2, R2 = am_ur R1 a 1 (some K1.2.1) := ⟨_, rfl⟩
  obtain ⟨K2, hK2⟩ : ∃ K2, K2 = kN K1 4 4 := ⟨_, rfl⟩
  have k2 : am_isK K2 a 5 = true := by rw [hK2]; exact isK_mono k1 (Nat.le_succ _)
  have n2 : K2.2.1 = a + 3 := by rw [hK2, kN_n, n1]
  have u2 : R2 a 1 = some (a + 2) := by rw [hR2, ← n1]; exact ur_eq _ _ _ _
  have u20 : R2 a 0 = some (a + 1) := by rw [hR2, ur_ni _ (by omega)]; exact u1
  rw [← hR2, ← hK2] at c1 c2
  rw [← hK2, n1] at c3 c4
  rw [← n2] at t3
  have la2 := isK_lt k2
  obtain ⟨d1, d2, d3, d4⟩ := af c1 la2 2 4 4 20 t3
  have zi2 := c1.zi
  have zr2 := c1.zr
  rw [n2] at d3 d4
  have k3 : am_isK (kN K2 4 4) a 5 = true := isK_mono k2 (Nat.le_succ _)
  refine ⟨am_ur R2 a 2 (some K2.2.1), kN K2 4 4, ?_, d1, (b2.tr c2).tr d2, by rw [kN_n, n2], ?_, ⟨k3, isK_mono (isK_mono b3 c2.2.2) d2.2.2, isK_mono c3 d2.2.2, d3⟩, ⟨by rw [ur_ni _ (by omega)]; exact u20, by rw [ur_ni _ (by omega)]; exact u2, by rw [ur_eq, n2]⟩, ⟨by rw [d2.2.1 _ (by omega), c2.2.1 _ (by omega)]; exact b4, by rw [d2.2.1 _ (by omega)]; exact c4, d4⟩⟩
  · simp (disch := first | assumption | omega | exact ixN (by assumption) (by omega) (by omega) | exact ne_10 | exact ne_1000 | exact ne_4) only [s40_0, s40_0a, s40_1, s40_4, s40_4a, s40_5, s40_6, s40_8, s40_8a, s40_11, s40_11a, s40_12, s40_13, s40_15, s40_15a, s40_18, s40_18a, s40_19, s40_20, s40_22, s40_22a, s40_25, ↓reduceIte, eq_self, Option.bind_some, Option.bind_none, Option.toList_some, Option.toList_none, List.cons_append, List.nil_append, am_rf_s, am_rf_n, am_c1_i, am_c1_r, am_c1_n, List.all_cons, List.all_nil, Bool.and_self, Bool.and_true, Bool.true_and, List.length_cons, List.length_nil, Nat.reduceAdd, Nat.reduceSub, Nat.reduceMul, Nat.reduceLeDiff, Nat.reduceLT, Nat.zero_le, Nat.le_refl, ne_10, ne_1000, ne_4, not_false_eq_true, or_true, true_or, Nat.one_ne_zero, Nat.zero_ne_one, Nat.reduceEqDiff, Bool.true_eq_false, Bool.false_eq_true, n10, am_mk_k, p2, zi, zr, ← hK1, ← hR1, zi1, zr1, ← hK2, ← hR2, zi2, zr2]
  · rw [kN_s, hK2, kN_s, hK1, kN_s]
theorem i_proc (a : Nat) (hz : FZ I R K) (hk : am_isK K a 4 = true) (hn : K.2.1 = a + 1) (t1 : am_tag (a + 1) = 20) (t2 : am_tag (a + 2) = 20) (t3 : am_tag (a + 3) = 5) (t4 : am_tag (a + 4) = 20) (t5 : am_tag (a + 5) = 20) (t6 : am_tag (a + 6) = 20) : ∃ R' K', ev 25 0 [some (.ref a)] [] (I, R, K) = some (none, (I, R', K')) ∧ FZ I R' K' ∧ GX a R K R' K' ∧ K'.2.1 = a + 7 ∧ K'.2.2 = K.2.2 + 29 ∧ PL R' K' a := by
  have p0 : ¬ nI 6 < 0 := by decide
  have p1 : (nI 6).toNatClampNeg ≤ 10000 := by decide
  have p2 : (nI 6).toNatClampNeg = 6 := by decide
  have la := isK_lt hk
  rw [← hn] at t1
  obtain ⟨b1, b2, b3, b4⟩ := af hz la 0 6 6 20 t1
  have zi := hz.zi
  have zr := hz.zr
  obtain ⟨R1, hR1⟩ : ∃ R1, R1 = am_ur R a 0 (some K.2.1) := ⟨_, rfl⟩
  obtain ⟨K1, hK1⟩ : ∃ K1, K1 = kN K 6 6 := ⟨_, rfl⟩
  have k1 : am_isK K1 a 4 = true := by rw [hK1]; exact isK_mono hk (Nat.le_succ _)
  have n1 : K1.2.1 = a + 2 := by rw [hK1, kN_n, hn]
  have u1 : R1 a 0 = some (a + 1) := by rw [hR1, ← hn]; exact ur_eq _ _ _ _
  rw [← hR1, ← hK1] at b1 b2
  rw [← hK1, hn] at b3 b4
  rw [← n1] at t2
  have la1 := isK_lt k1
  obtain ⟨c1, c2, c3, c4⟩ := af b1 la1 1 6 6 20 t2
  have zi1 := b1.zi
  have zr1 := b1.zr
  obtain ⟨R2, hR2⟩ : ∃ R2, R2 = am_ur R1 a 1 (some K1.2.1) := ⟨_, rfl⟩
  obtain ⟨K2, hK2⟩ : ∃ K2, K2 = kN K1 6 6 := ⟨_, rfl⟩
  have k2 : am_isK K2 a 4 = true := by rw [hK2]; exact isK_mono k1 (Nat.le_succ _)
  have n2 : K2.2.1 = a + 3 := by rw [hK2, kN_n, n1]
  have u2 : R2 a 1 = some (a + 2) := by rw [hR2, ← n1]; exact ur_eq _ _ _ _
  have u20 : R2 a 0 = some (a + 1) := by rw [hR2, ur_ni _ (by omega)]; exact u1
  rw [← hR2, ← hK2] at c1 c2
  rw [← hK2, n1] at c3 c4
  have la2 := isK_lt k2
  have zi2 := c1.zi
  have zr2 := c1.zr
  have t3' : am_tag K2.2.1 = 5 := by rw [n2]; exact t3
  obtain ⟨K3, hK3⟩ : ∃ K3, K3 = kN K2 0 5 := ⟨_, rfl⟩
  have n3 : K3.2.1 = a + 3 + 1 := by rw [hK3, kN_n, n2]
  have kr : am_isK K3 (a + 3) 5 = true := by rw [hK3, ← n2]; exact kN_is c1.1 t3'
  obtain ⟨R4, K4, r1, r2, r3, r4, r5, ⟨r6, r7, r8, r9⟩, ⟨r10, r11, r12⟩, r13, r14, r15⟩ := i_ring I R2 K3 (a + 3) (by rw [hK3]; exact c1.kN 0 5) kr n3 t4 t5 t6
  obtain ⟨d1, d2, d3⟩ := ao (a := a) (s := 5) la2 (by rw [← hK3, n2]; exact r3) r2 2
  have k4 : am_isK K4 a 4 = true := isK_mono k2 (by omega)
  have z8 : ∀ b, b ≠ a → am_ur R4 a 2 (some K2.2.1) b = R4 b := fun b hb => ur_ne 2 _ hb
  refine ⟨am_ur R4 a 2 (some K2.2.1), K4, ?_, d1, (b2.tr c2).tr d2, by omega, ?_, ⟨k4, isK_mono (isK_mono b3 c2.2.2) d2.2.2, isK_mono c3 d2.2.2, r6, r7, r8, r9⟩, ⟨?_, ?_, ?_, ?_, ?_, ?_⟩, ?_, ?_, r13, r14, r15⟩
  · rw [← n2] at r1
    simp (disch := first | assumption | omega | exact ixN (by assumption) (by omega) (by omega) | exact ne_10 | exact ne_1000 | exact ne_4) only [s25_0, s25_0a, s25_1, s25_4, s25_4a, s25_5, s25_7, s25_9, s25_9a, s25_12, s25_12a, s25_13, s25_15, s25_17, s25_17a, s25_20, s25_20a, s25_21, s25_24, s25_25, s25_28, s25_28a, s25_31, ↓reduceIte, eq_self, Option.bind_some, Option.bind_none, Option.toList_some, Option.toList_none, List.cons_append, List.nil_append, am_rf_s, am_rf_n, am_c1_i, am_c1_r, am_c1_n, List.all_cons, List.all_nil, Bool.and_self, Bool.and_true, Bool.true_and, List.length_cons, List.length_nil, Nat.reduceAdd, Nat.reduceSub, Nat.reduceMul, Nat.reduceLeDiff, Nat.reduceLT, Nat.zero_le, Nat.le_refl, ne_10, ne_1000, ne_4, not_false_eq_true, or_true, true_or, Nat.one_ne_zero, Nat.zero_ne_one, Nat.reduceEqDiff, Bool.true_eq_false, Bool.false_eq_true, n10, am_mk_k, p2, zi, zr, ← hK1, ← hR1, zi1, zr1, ← hK2, ← hR2, zi2, zr2, ← hK3, r1]
  · rw [r5, hK3, kN_s, hK2, kN_s, hK1, kN_s]
  · rw [ur_ni _ (by omega), d3]; exact u20
  · rw [ur_ni _ (by omega), d3]; exact u2
  · rw [ur_eq, n2]
  · rw [z8 _ (by omega)]; exact r10
  · rw [z8 _ (by omega)]; exact r11
  · rw [z8 _ (by omega)]; exact r12
  · rw [d2.2.1 _ (by omega), c2.2.1 _ (by omega)]; exact b4
  · rw [d2.2.1 _ (by omega)]; exact c4
theorem i_code (a : Nat) (hz : FZ I R K) (hk : am_isK K a 0 = true) (hn : K.2.1 = a + 1) (t1 : am_tag (a + 1) = 8) (t2 : am_tag (a + 2) = 22) (t3 : am_tag (a + 3) = 21) : ∃ R' K', ev 0 0 [some (.ref a)] [] (I, R, K) = some (none, (I, R', K')) ∧ FZ I R' K' ∧ GX a R K R' K' ∧ K'.2.1 = a + 4 ∧ K'.2.2 = K.2.2 + 122 ∧ CL R' K' a := by
  have p0 : ¬ nI 60 < 0 := by decide
  have p1 : (nI 60).toNatClampNeg ≤ 10000 := by decide
  have p2 : (nI 60).toNatClampNeg = 60 := by decide
  have la := isK_lt hk
  have t1' : am_tag K.2.1 = 8 := by rw [hn]; exact t1
  have zi := hz.zi
  have zr := hz.zr
  obtain ⟨K1, hK1⟩ : ∃ K1, K1 = kN K 0 2 := ⟨_, rfl⟩
  have n1 : K1.2.1 = a + 1 + 1 := by rw [hK1, kN_n, hn]
  have kt : am_isK K1 (a + 1) 8 = true := by rw [hK1, ← hn]; exact kN_is hz.1 t1'
  obtain ⟨R2, K2, r1, r2, r3, r4, r5, r6, r7, r8, r9⟩ := i_text I R K1 (a + 1) 60 (by rw [hK1]; exact hz.kN 0 2) kt n1 t2 (by omega)
  obtain ⟨d1, d2, d3⟩ := ao (a := a) (s := 2) la (by rw [← hK1, hn]; exact r3) r2 0
  obtain ⟨R3, hR3⟩ : ∃ R3, R3 = am_ur R2 a 0 (some K.2.1) := ⟨_, rfl⟩
  rw [← hR3] at d1 d2
  have k2 : am_isK K2 a 0 = true := isK_mono hk (by omega)
  have la2 := isK_lt k2
  have t3' : am_tag K2.2.1 = 21 := by rw [r4]; exact t3
  obtain ⟨c1, c2, c3, c4⟩ := af d1 la2 1 60 60 21 t3'
  have zi2 := d1.zi
  have zr2 := d1.zr
  have k3 : am_isK (kN K2 60 60) a 0 = true := isK_mono k2 (Nat.le_succ _)
  have rr : ∀ b, b ≠ a → am_ur R3 a 1 (some K2.2.1) b = R2 b := fun b hb => by rw [ur_ne 1 _ hb, hR3, ur_ne 0 _ hb]
  refine ⟨am_ur R3 a 1 (some K2.2.1), kN K2 60 60, ?_, c1, d2.tr c2, by rw [kN_n, r4], ?_, k3, isK_mono r6 (Nat.le_succ _), isK_mono r7 (Nat.le_succ _), ?_, ?_, ?_, ?_, ?_, ?_⟩
  · rw [← hn] at r1
    simp (disch := first | assumption | omega | exact ixN (by assumption) (by omega) (by omega) | exact ne_10 | exact ne_1000 | exact ne_4) only [s0_0, s0_0a, s0_1, s0_4, s0_4a, s0_5, s0_8, s0_9, s0_11, s0_14, s0_14a, s0_17, s0_17a, s0_18, s0_20, s0_22, s0_22a, s0_25, ↓reduceIte, eq_self, Option.bind_some, Option.bind_none, Option.toList_some, Option.toList_none, List.cons_append, List.nil_append, am_rf_s, am_rf_n, am_c1_i, am_c1_r, am_c1_n, List.all_cons, List.all_nil, Bool.and_self, Bool.and_true, Bool.true_and, List.length_cons, List.length_nil, Nat.reduceAdd, Nat.reduceSub, Nat.reduceMul, Nat.reduceLeDiff, Nat.reduceLT, Nat.zero_le, Nat.le_refl, ne_10, ne_1000, ne_4, not_false_eq_true, or_true, true_or, Nat.one_ne_zero, Nat.zero_ne_one, Nat.reduceEqDiff, Bool.true_eq_false, Bool.false_eq_true, n10, am_mk_k, p2, zi, zr, ← hK1, r1, ← hR3, zi2, zr2]
  · rw [kN_s, r5, hK1, kN_s]
  · rw [show a + 3 = a + 1 + 2 by omega, ← r4]; exact c3
  · rw [ur_ni _ (by omega), hR3, ur_eq, hn]
  · rw [rr _ (by omega)]; exact r8
  · rw [ur_eq, r4]
  · rw [c2.2.1 _ (by omega)]; exact r9
  · rw [show a + 3 = a + 1 + 2 by omega, ← r4]; exact c4
end DR
