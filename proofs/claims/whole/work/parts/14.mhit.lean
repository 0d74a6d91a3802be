/-! the reference: hits, frees, meets -/
def uf (f : Nat → Int32) (i : Nat) (x : Int32) : Nat → Int32 := fun k => if k = i then x else f k
def st (I : am_I) (a : Nat) (f : Nat → Int32) : am_I := fun b => if b = a then f else I b
theorem ui_st (I : am_I) (a i : Nat) (x : Int32) : am_ui I a i x = st I a (uf (I a) i x) := by
  funext b j
  unfold am_ui st uf
  by_cases h : b = a
  · subst h; simp
  · simp [h]
theorem st_st (I : am_I) (a : Nat) (f g : Nat → Int32) : st (st I a f) a g = st I a g := by
  funext b; unfold st; by_cases h : b = a <;> simp [h]
theorem st_eq (I : am_I) (a : Nat) (f : Nat → Int32) : st I a f a = f := by unfold st; simp
theorem st_ne (I : am_I) {a b : Nat} (f : Nat → Int32) (h : b ≠ a) : st I a f b = I b := by unfold st; rw [if_neg h]
theorem st_id (I : am_I) (a : Nat) : st I a (I a) = I := by
  funext b; unfold st; by_cases h : b = a
  · subst h; simp
  · simp [h]
theorem uf_eq (f : Nat → Int32) (i : Nat) (x : Int32) : uf f i x i = x := by unfold uf; simp
theorem uf_ne (f : Nat → Int32) {i j : Nat} (x : Int32) (h : j ≠ i) : uf f i x j = f j := by unfold uf; rw [if_neg h]
/-- now has become f, beside the working rows all else is as it was -/
def JF (I I' : am_I) (f : Nat → Int32) : Prop := I' 151 = f ∧ (∀ a, a ≠ 155 → a ≠ 147 → a ≠ 152 → a ≠ 154 → a ≠ 151 → I' a = I a) ∧ ∀ j, j ≠ 11 → I' 147 j = I 147 j
theorem JF.rf (I : am_I) : JF I I (I 151) := ⟨rfl, fun _ _ _ _ _ _ => rfl, fun _ _ => rfl⟩
theorem JF.of {I I' : am_I} (h : JN I I') : JF I I' (I 151) := ⟨h.1 151 (by omega) (by omega) (by omega) (by omega), fun a q1 q2 q3 q4 _ => h.1 a q1 q2 q3 q4, h.2⟩
theorem JF.tr {I I' I'' : am_I} {f f' : Nat → Int32} (h : JF I I' f) (h' : JF I' I'' f') : JF I I'' f' := ⟨h'.1, fun a q1 q2 q3 q4 q5 => (h'.2.1 a q1 q2 q3 q4 q5).trans (h.2.1 a q1 q2 q3 q4 q5), fun j hj => (h'.2.2 j hj).trans (h.2.2 j hj)⟩
theorem JF.st (I : am_I) (f : Nat → Int32) : JF I (st I 151 f) f := ⟨st_eq I 151 f, fun a _ _ _ _ q => st_ne I f q, fun j _ => by rw [st_ne I f (by omega)]⟩
/-- the ring of a processor whose numbers begin at t -/
def sShift (f : Nat → Int32) (t : Nat) : Nat → Int32 := fun k => if t + 18 ≤ k ∧ k < t + 27 then f (k + 3) else f k
def sPut (f : Nat → Int32) (t n : Nat) (p : Int32) : Nat → Int32 :=
  let f1 := uf f (t + 18 + 3 * n) p
  let f2 := uf f1 (t + 19 + 3 * n) (f1 t)
  let f3 := uf f2 (t + 20 + 3 * n) (f2 (t + 16))
  uf f3 (t + 17) (nI (n + 1))
def sRing (f : Nat → Int32) (t n : Nat) (p : Int32) : Nat → Int32 :=
  if n = 4 then (let f1 := sShift f t
    let f2 := uf f1 (t + 17) (nI 3)
    let f3 := uf f2 (t + 30) (f2 (t + 30) + nI 1)
    sPut f3 t 3 p) else sPut f t n p
/-- a hit: a the place of the probe's numbers, m the letters of its filter, n how many are in the ring -/
def sHit (f : Nat → Int32) (p c m n : Nat) : Nat → Int32 :=
  let f1 := uf f (70 + 208 * p + 3) (f (70 + 208 * p + 3) + nI 1)
  if m ≠ 0 ∧ askI (kask f1 (fun i => f1 (70 + 208 * p + 8 + i)) m (f1 (8 + 31 * c))) = nI 0 then uf f1 (70 + 208 * p + 4) (f1 (70 + 208 * p + 4) + nI 1)
  else sRing f1 (8 + 31 * c) n (nI p)
section MH
variable (I : am_I) (R : am_R) (K : am_K)
theorem m_shift (h : MK R K) (p c : Nat) (hp : p < 6) (hc : c < 2) (f : Nat → Int32) (l5 : Option Value) : ∀ (r k : Nat), k + r = 10 → 1 ≤ k → ev 130 95 [some (.ref 147), some (.int (nI p)), some (.int (nI c)), some (.int (nI (70 + 208 * p))), some (.int (nI (8 + 31 * c))), l5, some (.int (nI k))] [] (st I 151 (fun j => if 8 + 31 * c + 18 ≤ j ∧ j < 8 + 31 * c + 17 + k then f (j + 3) else f j), R, K) = ev 130 136 [some (.ref 147), some (.int (nI p)), some (.int (nI c)), some (.int (nI (70 + 208 * p))), some (.int (nI (8 + 31 * c))), l5, some (.int (nI 10))] [] (st I 151 (sShift f (8 + 31 * c)), R, K) := by
  obtain ⟨⟨h1, h2, h3, h4, h5, h6, h7, h8, h9⟩, ⟨g2, g3, g4, g5, g6, g7, g8, g9⟩, r1, r2, r3, r4, r5, r6, r7, r8⟩ := h
  intro r
  induction r with
  | zero =>
    intro k hk _
    have hk : k = 10 := by omega
    subst hk
    simp (disch := first | assumption | omega | exact ixN (by assumption) (by omega) (by omega) | exact ne_10 | exact ne_1000 | exact ne_4) only [s130_95, s130_97, s130_99, ↓reduceIte, eq_self, Option.bind_some, Option.bind_none, Option.toList_some, Option.toList_none, List.cons_append, List.nil_append, am_rf_s, am_rf_n, am_c1_i, am_c1_r, am_c1_n, List.all_cons, List.all_nil, Bool.and_self, Bool.and_true, Bool.true_and, List.length_cons, List.length_nil, Nat.reduceAdd, Nat.reduceSub, Nat.reduceMul, Nat.reduceLeDiff, Nat.reduceLT, Nat.zero_le, Nat.le_refl, ne_10, ne_1000, ne_4, not_false_eq_true, or_true, true_or, Nat.one_ne_zero, Nat.zero_ne_one, Nat.reduceEqDiff, Bool.true_eq_false, Bool.false_eq_true, n10, nI_add, pk_mul, pk_sub, nI_clamp, nI_ltI, nI_leI, nI_eq]
    rfl
  | succ r ih =>
    intro k hk hk1
    rw [← ih (k + 1) (by omega) (by omega)]
    have e1 : (8 + 31 * c + 18 ≤ 8 + 31 * c + 17 + k + 3 ∧ 8 + 31 * c + 17 + k + 3 < 8 + 31 * c + 17 + k) = False := by simp
    have e2 : uf (fun j => if 8 + 31 * c + 18 ≤ j ∧ j < 8 + 31 * c + 17 + k then f (j + 3) else f j) (8 + 31 * c + 17 + k) (f (8 + 31 * c + 17 + k + 3)) = fun j => if 8 + 31 * c + 18 ≤ j ∧ j < 8 + 31 * c + 17 + (k + 1) then f (j + 3) else f j := by
      funext j
      unfold uf
      by_cases q : j = 8 + 31 * c + 17 + k
      · subst q; rw [if_pos rfl, if_pos (by omega)]
      · rw [if_neg q]
        dsimp only
        by_cases q2 : 8 + 31 * c + 18 ≤ j ∧ j < 8 + 31 * c + 17 + k
        · rw [if_pos q2, if_pos (by omega)]
        · rw [if_neg q2, if_neg (by omega)]
    rw [s130_95]
    simp (disch := first | assumption | omega | exact ixN (by assumption) (by omega) (by omega) | exact ne_10 | exact ne_1000 | exact ne_4) only [s130_97, s130_99, s130_102, s130_102a, s130_103, s130_106, s130_108, s130_110, s130_111, s130_113, s130_114, s130_114a, s130_115, s130_118, s130_120, s130_122, s130_123, s130_125, s130_126, s130_127, s130_128, s130_129, s130_130, s130_133, ↓reduceIte, eq_self, Option.bind_some, Option.bind_none, Option.toList_some, Option.toList_none, List.cons_append, List.nil_append, am_rf_s, am_rf_n, am_c1_i, am_c1_r, am_c1_n, List.all_cons, List.all_nil, Bool.and_self, Bool.and_true, Bool.true_and, List.length_cons, List.length_nil, Nat.reduceAdd, Nat.reduceSub, Nat.reduceMul, Nat.reduceLeDiff, Nat.reduceLT, Nat.zero_le, Nat.le_refl, ne_10, ne_1000, ne_4, not_false_eq_true, or_true, true_or, Nat.one_ne_zero, Nat.zero_ne_one, Nat.reduceEqDiff, Bool.true_eq_false, Bool.false_eq_true, n10, nI_add, pk_mul, pk_sub, nI_clamp, nI_ltI, nI_leI, nI_eq, ui_st, st_st, st_eq, st_ne, uf_eq, uf_ne, r4, show ¬ 10 ≤ k by omega]
    rw [if_neg (by omega), e2]
theorem m_put (h : MK R K) (p c n : Nat) (hp : p < 6) (hc : c < 2) (hn : n < 4) (f : Nat → Int32) (hf : f (8 + 31 * c + 17) = nI n) (l5 l6 : Option Value) : ev 130 164 [some (.ref 147), some (.int (nI p)), some (.int (nI c)), some (.int (nI (70 + 208 * p))), some (.int (nI (8 + 31 * c))), l5, l6] [] (st I 151 f, R, K) = some (none, (st I 151 (sPut f (8 + 31 * c) n (nI p)), R, K)) := by
  obtain ⟨⟨h1, h2, h3, h4, h5, h6, h7, h8, h9⟩, ⟨g2, g3, g4, g5, g6, g7, g8, g9⟩, r1, r2, r3, r4, r5, r6, r7, r8⟩ := h
  have e1 : 8 + 31 * c + 17 + 1 + 3 * n = 8 + 31 * c + 18 + 3 * n := by omega
  have e2 : 8 + 31 * c + 18 + 3 * n + 1 = 8 + 31 * c + 19 + 3 * n := by omega
  have e3 : 8 + 31 * c + 18 + 3 * n + 2 = 8 + 31 * c + 20 + 3 * n := by omega
  simp (disch := first | assumption | omega | exact ixN (by assumption) (by omega) (by omega) | exact ne_10 | exact ne_1000 | exact ne_4) only [s130_164, s130_166, s130_168, s130_169, s130_170, s130_171, s130_172, s130_172a, s130_173, s130_176, s130_178, s130_180, s130_181, s130_182, s130_183, s130_184, s130_186, s130_186a, s130_187, s130_190, s130_192, s130_193, s130_194, s130_194a, s130_195, s130_198, s130_200, s130_201, s130_202, s130_202a, s130_203, s130_206, s130_208, s130_209, s130_210, s130_210a, s130_211, s130_214, s130_216, s130_217, s130_218, s130_218a, s130_219, s130_222, s130_224, s130_226, s130_227, s130_228, s130_229, s130_229a, s130_230, s130_233, s130_235, s130_237, s130_238, s130_239, s130_240, s130_241, s130_242, s130_243, ↓reduceIte, eq_self, Option.bind_some, Option.bind_none, Option.toList_some, Option.toList_none, List.cons_append, List.nil_append, am_rf_s, am_rf_n, am_c1_i, am_c1_r, am_c1_n, List.all_cons, List.all_nil, Bool.and_self, Bool.and_true, Bool.true_and, List.length_cons, List.length_nil, Nat.reduceAdd, Nat.reduceSub, Nat.reduceMul, Nat.reduceLeDiff, Nat.reduceLT, Nat.zero_le, Nat.le_refl, ne_10, ne_1000, ne_4, not_false_eq_true, or_true, true_or, Nat.one_ne_zero, Nat.zero_ne_one, Nat.reduceEqDiff, Bool.true_eq_false, Bool.false_eq_true, n10, nI_add, pk_mul, pk_sub, nI_clamp, nI_ltI, nI_leI, nI_eq, ui_st, st_st, st_eq, st_ne, uf_eq, uf_ne, r4, hf, e1, e2, e3, sPut]
theorem m_hits (h : MK R K) (p c m n : Nat) (hp : p < 6) (hc : c < 2) (hm : I 151 (70 + 208 * p + 7) = nI m) (hm2 : m ≤ 200) (hn : I 151 (8 + 31 * c + 17) = nI n) (hn2 : n ≤ 4) : ∃ I', ev 130 0 [some (.ref 147), some (.int (nI p)), some (.int (nI c)), none, none, none, none] [] (I, R, K) = some (none, (I', R, K)) ∧ JF I I' (sHit (I 151) p c m n) := by
  have hMK := h
  obtain ⟨⟨h1, h2, h3, h4, h5, h6, h7, h8, h9⟩, ⟨g2, g3, g4, g5, g6, g7, g8, g9⟩, r1, r2, r3, r4, r5, r6, r7, r8⟩ := h
  obtain ⟨f1, hf1⟩ : ∃ f1, f1 = uf (I 151) (70 + 208 * p + 3) (I 151 (70 + 208 * p + 3) + nI 1) := ⟨_, rfl⟩
  have a1 : f1 (70 + 208 * p + 7) = nI m := by rw [hf1, uf_ne _ _ (by omega)]; exact hm
  have a2 : f1 (8 + 31 * c + 17) = nI n := by rw [hf1, uf_ne _ _ (by omega)]; exact hn
  have ring : ∀ (I2 : am_I) (l5 l6 : Option Value), I2 151 = f1 → ev 130 78 [some (.ref 147), some (.int (nI p)), some (.int (nI c)), some (.int (nI (70 + 208 * p))), some (.int (nI (8 + 31 * c))), l5, l6] [] (I2, R, K) = some (none, (st I2 151 (sRing f1 (8 + 31 * c) n (nI p)), R, K)) := by
    intro I2 l5 l6 hI2
    by_cases q : n = 4
    · subst q
      have e0 : I2 = st I2 151 (fun j => if 8 + 31 * c + 18 ≤ j ∧ j < 8 + 31 * c + 17 + 1 then f1 (j + 3) else f1 j) := by
        have : (fun j => if 8 + 31 * c + 18 ≤ j ∧ j < 8 + 31 * c + 17 + 1 then f1 (j + 3) else f1 j) = I2 151 := by
          funext j; rw [if_neg (by omega), hI2]
        rw [this, st_id]
      have b1 : sShift f1 (8 + 31 * c) (8 + 31 * c + 17) = nI 4 := by unfold sShift; rw [if_neg (by omega)]; exact a2
      have e5 : ev 130 78 [some (.ref 147), some (.int (nI p)), some (.int (nI c)), some (.int (nI (70 + 208 * p))), some (.int (nI (8 + 31 * c))), l5, l6] [] (I2, R, K) = ev 130 136 [some (.ref 147), some (.int (nI p)), some (.int (nI c)), some (.int (nI (70 + 208 * p))), some (.int (nI (8 + 31 * c))), l5, some (.int (nI 10))] [] (st I2 151 (sShift f1 (8 + 31 * c)), R, K) := by
        rw [← m_shift I2 R K hMK p c hp hc f1 l5 9 1 rfl (by omega), ← e0]
        simp (disch := first | assumption | omega | exact ixN (by assumption) (by omega) (by omega) | exact ne_10 | exact ne_1000 | exact ne_4) only [s130_78, s130_78a, s130_79, s130_82, s130_84, s130_86, s130_87, s130_88, s130_89, s130_92, s130_93, ↓reduceIte, eq_self, Option.bind_some, Option.bind_none, Option.toList_some, Option.toList_none, List.cons_append, List.nil_append, am_rf_s, am_rf_n, am_c1_i, am_c1_r, am_c1_n, List.all_cons, List.all_nil, Bool.and_self, Bool.and_true, Bool.true_and, List.length_cons, List.length_nil, Nat.reduceAdd, Nat.reduceSub, Nat.reduceMul, Nat.reduceLeDiff, Nat.reduceLT, Nat.zero_le, Nat.le_refl, ne_10, ne_1000, ne_4, not_false_eq_true, or_true, true_or, Nat.one_ne_zero, Nat.zero_ne_one, Nat.reduceEqDiff, Bool.true_eq_false, Bool.false_eq_true, n10, nI_add, pk_mul, pk_sub, nI_clamp, nI_ltI, nI_leI, nI_eq, r4, hI2, a2]
      rw [e5]
      have b2 : uf (sShift f1 (8 + 31 * c)) (8 + 31 * c + 17) (nI 3) (8 + 31 * c + 17) = nI 3 := uf_eq _ _ _
      simp (disch := first | assumption | omega | exact ixN (by assumption) (by omega) (by omega) | exact ne_10 | exact ne_1000 | exact ne_4) only [s130_136, s130_136a, s130_137, s130_140, s130_142, s130_144, s130_145, s130_146, s130_147, s130_148, s130_149, s130_150, s130_150a, s130_151, s130_154, s130_156, s130_158, s130_159, s130_160, s130_161, s130_162, s130_163, ↓reduceIte, eq_self, Option.bind_some, Option.bind_none, Option.toList_some, Option.toList_none, List.cons_append, List.nil_append, am_rf_s, am_rf_n, am_c1_i, am_c1_r, am_c1_n, List.all_cons, List.all_nil, Bool.and_self, Bool.and_true, Bool.true_and, List.length_cons, List.length_nil, Nat.reduceAdd, Nat.reduceSub, Nat.reduceMul, Nat.reduceLeDiff, Nat.reduceLT, Nat.zero_le, Nat.le_refl, ne_10, ne_1000, ne_4, not_false_eq_true, or_true, true_or, Nat.one_ne_zero, Nat.zero_ne_one, Nat.reduceEqDiff, Bool.true_eq_false, Bool.false_eq_true, n10, nI_add, pk_mul, pk_sub, nI_clamp, nI_ltI, nI_leI, nI_eq, ui_st, st_st, st_eq, st_ne, uf_eq, uf_ne, r4, b1]
      rw [m_put I2 R K hMK p c 3 hp hc (by omega) _ (by rw [uf_ne _ _ (by omega), uf_eq])]
      unfold sRing
      rw [if_pos rfl]
      simp (disch := omega) only [uf_ne]
    · simp (disch := first | assumption | omega | exact ixN (by assumption) (by omega) (by omega) | exact ne_10 | exact ne_1000 | exact ne_4) only [s130_78, s130_78a, s130_79, s130_82, s130_84, s130_86, s130_87, s130_88, s130_89, ↓reduceIte, eq_self, Option.bind_some, Option.bind_none, Option.toList_some, Option.toList_none, List.cons_append, List.nil_append, am_rf_s, am_rf_n, am_c1_i, am_c1_r, am_c1_n, List.all_cons, List.all_nil, Bool.and_self, Bool.and_true, Bool.true_and, List.length_cons, List.length_nil, Nat.reduceAdd, Nat.reduceSub, Nat.reduceMul, Nat.reduceLeDiff, Nat.reduceLT, Nat.zero_le, Nat.le_refl, ne_10, ne_1000, ne_4, not_false_eq_true, or_true, true_or, Nat.one_ne_zero, Nat.zero_ne_one, Nat.reduceEqDiff, Bool.true_eq_false, Bool.false_eq_true, n10, nI_add, pk_mul, pk_sub, nI_clamp, nI_ltI, nI_leI, nI_eq, r4, hI2, a2, q]
      have e0 : I2 = st I2 151 f1 := by rw [← hI2, st_id]
      rw [e0, m_put I2 R K hMK p c n hp hc (by omega) f1 a2, st_st]
      unfold sRing
      rw [if_neg q]
  by_cases q0 : m = 0
  · refine ⟨_, ?_, JF.st I _⟩
    subst q0
    simp (disch := first | assumption | omega | exact ixN (by assumption) (by omega) (by omega) | exact ne_10 | exact ne_1000 | exact ne_4) only [s130_0, s130_1, s130_4, s130_5, s130_6, s130_9, s130_11, s130_11a, s130_12, s130_15, s130_16, s130_17, s130_18, s130_19, s130_20, s130_21, s130_22, s130_23, s130_23a, s130_24, s130_27, s130_28, s130_30, s130_31, s130_32, s130_34, s130_36, ↓reduceIte, eq_self, Option.bind_some, Option.bind_none, Option.toList_some, Option.toList_none, List.cons_append, List.nil_append, am_rf_s, am_rf_n, am_c1_i, am_c1_r, am_c1_n, List.all_cons, List.all_nil, Bool.and_self, Bool.and_true, Bool.true_and, List.length_cons, List.length_nil, Nat.reduceAdd, Nat.reduceSub, Nat.reduceMul, Nat.reduceLeDiff, Nat.reduceLT, Nat.zero_le, Nat.le_refl, ne_10, ne_1000, ne_4, not_false_eq_true, or_true, true_or, Nat.one_ne_zero, Nat.zero_ne_one, Nat.reduceEqDiff, Bool.true_eq_false, Bool.false_eq_true, n10, nI_add, pk_mul, pk_sub, nI_clamp, nI_ltI, nI_leI, nI_eq, ui_st, st_st, st_eq, st_ne, uf_eq, uf_ne, r4, m_probeAt, m_processorAt, ← hf1, a1]
    rw [ring (st I 151 f1) _ _ (st_eq _ _ _), st_st]
    unfold sHit
    simp [← hf1]
  · have e1 : 70 + 208 * p + 7 + 1 = 70 + 208 * p + 8 := rfl
    obtain ⟨I2, w1, w2⟩ := m_asks R K hMK (st I 151 f1) 151 (70 + 208 * p + 8) m 1318 (f1 (8 + 31 * c)) (fun i => f1 (70 + 208 * p + 8 + i)) f1 h5 g5 (by omega) (by omega) (by omega) (by omega) (fun i => by rw [st_eq]) (fun i _ => by rw [st_eq])
    have w3 : I2 151 = f1 := by rw [w2.1 151 (by omega) (by omega) (by omega) (by omega), st_eq]
    have w4 : JF I I2 f1 := by have := (JF.st I f1).tr (JF.of w2); rw [st_eq] at this; exact this
    by_cases q1 : askI (kask f1 (fun i => f1 (70 + 208 * p + 8 + i)) m (f1 (8 + 31 * c))) = nI 0
    · refine ⟨st I2 151 (uf f1 (70 + 208 * p + 4) (f1 (70 + 208 * p + 4) + nI 1)), ?_, ?_⟩
      · simp (disch := first | assumption | omega | exact ixN (by assumption) (by omega) (by omega) | exact ne_10 | exact ne_1000 | exact ne_4) only [s130_0, s130_1, s130_4, s130_5, s130_6, s130_9, s130_11, s130_11a, s130_12, s130_15, s130_16, s130_17, s130_18, s130_19, s130_20, s130_21, s130_22, s130_23, s130_23a, s130_24, s130_27, s130_28, s130_30, s130_31, s130_32, s130_34, s130_36, s130_39, s130_39a, s130_40, s130_40a, s130_41, s130_44, s130_45, s130_47, s130_48, s130_49, s130_50, s130_52, s130_52a, s130_53, s130_56, s130_58, s130_59, s130_62, s130_65, s130_65a, s130_66, s130_69, s130_70, s130_71, s130_72, s130_73, s130_74, s130_75, s130_76, s130_77, ↓reduceIte, eq_self, Option.bind_some, Option.bind_none, Option.toList_some, Option.toList_none, List.cons_append, List.nil_append, am_rf_s, am_rf_n, am_c1_i, am_c1_r, am_c1_n, List.all_cons, List.all_nil, Bool.and_self, Bool.and_true, Bool.true_and, List.length_cons, List.length_nil, Nat.reduceAdd, Nat.reduceSub, Nat.reduceMul, Nat.reduceLeDiff, Nat.reduceLT, Nat.zero_le, Nat.le_refl, ne_10, ne_1000, ne_4, not_false_eq_true, or_true, true_or, Nat.one_ne_zero, Nat.zero_ne_one, Nat.reduceEqDiff, Bool.true_eq_false, Bool.false_eq_true, n10, nI_add, pk_mul, pk_sub, nI_clamp, nI_ltI, nI_leI, nI_eq, ui_st, st_st, st_eq, st_ne, uf_eq, uf_ne, r4, m_probeAt, m_processorAt, ← hf1, a1, e1, w1, w3, q1, show ¬ m ≤ 0 by omega]
      · have := w4.tr (JF.st I2 (uf f1 (70 + 208 * p + 4) (f1 (70 + 208 * p + 4) + nI 1)))
        unfold sHit
        simp only [← hf1]
        rw [if_pos ⟨q0, q1⟩]
        exact this
    · refine ⟨st I2 151 (sRing f1 (8 + 31 * c) n (nI p)), ?_, ?_⟩
      · simp (disch := first | assumption | omega | exact ixN (by assumption) (by omega) (by omega) | exact ne_10 | exact ne_1000 | exact ne_4) only [s130_0, s130_1, s130_4, s130_5, s130_6, s130_9, s130_11, s130_11a, s130_12, s130_15, s130_16, s130_17, s130_18, s130_19, s130_20, s130_21, s130_22, s130_23, s130_23a, s130_24, s130_27, s130_28, s130_30, s130_31, s130_32, s130_34, s130_36, s130_39, s130_39a, s130_40, s130_40a, s130_41, s130_44, s130_45, s130_47, s130_48, s130_49, s130_50, s130_52, s130_52a, s130_53, s130_56, s130_58, s130_59, s130_62, ↓reduceIte, eq_self, Option.bind_some, Option.bind_none, Option.toList_some, Option.toList_none, List.cons_append, List.nil_append, am_rf_s, am_rf_n, am_c1_i, am_c1_r, am_c1_n, List.all_cons, List.all_nil, Bool.and_self, Bool.and_true, Bool.true_and, List.length_cons, List.length_nil, Nat.reduceAdd, Nat.reduceSub, Nat.reduceMul, Nat.reduceLeDiff, Nat.reduceLT, Nat.zero_le, Nat.le_refl, ne_10, ne_1000, ne_4, not_false_eq_true, or_true, true_or, Nat.one_ne_zero, Nat.zero_ne_one, Nat.reduceEqDiff, Bool.true_eq_false, Bool.false_eq_true, n10, nI_add, pk_mul, pk_sub, nI_clamp, nI_ltI, nI_leI, nI_eq, ui_st, st_st, st_eq, st_ne, uf_eq, uf_ne, r4, m_probeAt, m_processorAt, ← hf1, a1, e1, w1, w3, q1, show ¬ m ≤ 0 by omega]
        exact ring I2 _ _ w3
      · have := w4.tr (JF.st I2 (sRing f1 (8 + 31 * c) n (nI p)))
        unfold sHit
        simp only [← hf1]
        rw [if_neg (fun z => q1 z.2)]
        exact this
end MH
