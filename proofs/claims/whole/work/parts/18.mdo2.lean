/-! the reference: the second half of does, and does -/
theorem sI_99 {cd f : Nat → Int32} {t d x : Nat} (q : cd x = nI 99) : sI cd f t d x = (if d = 6 then (uf f (t + 15) (nI 1), nI x) else (uf (uf (uf f (t + 3 + d) (nI (x + 3))) (t + 9 + d) (nI 0)) (t + 2) (nI (d + 1)), dig2 cd x)) := by
  unfold sI
  rw [if_pos q]
theorem sI_104 {cd f : Nat → Int32} {t d x : Nat} (q : cd x = nI 104) : sI cd f t d x = (uf f (t + 15) (nI 1), nI x) := by
  unfold sI
  rw [if_neg (by rw [q]; decide), if_pos q]
theorem sI_114 {cd f : Nat → Int32} {t d x : Nat} (q : cd x = nI 114) : sI cd f t d x = (if d = 0 then (uf f (t + 15) (nI 1), nI x) else (uf f (t + 2) (nI (d - 1)), f (t + 2 + d))) := by
  unfold sI
  rw [if_neg (by rw [q]; decide), if_neg (by rw [q]; decide), if_pos q]
theorem sI_105 {cd f : Nat → Int32} {t d x : Nat} (q : cd x = nI 105) : sI cd f t d x = (uf f t (md (f t + nI 1)), nI (x + 1)) := by
  unfold sI
  rw [if_neg (by rw [q]; decide), if_neg (by rw [q]; decide), if_neg (by rw [q]; decide), if_pos q]
theorem sI_100 {cd f : Nat → Int32} {t d x : Nat} (q : cd x = nI 100) : sI cd f t d x = (uf f t (md (f t + nI 999)), nI (x + 1)) := by
  unfold sI
  rw [if_neg (by rw [q]; decide), if_neg (by rw [q]; decide), if_neg (by rw [q]; decide), if_neg (by rw [q]; decide), if_pos q]
theorem sI_108 {cd f : Nat → Int32} {t d x : Nat} (q : cd x = nI 108) : sI cd f t d x = (uf f t (f (dig1 cd x)), nI (x + 2)) := by
  unfold sI
  rw [if_neg (by rw [q]; decide), if_neg (by rw [q]; decide), if_neg (by rw [q]; decide), if_neg (by rw [q]; decide), if_neg (by rw [q]; decide), if_pos q]
theorem sI_115 {cd f : Nat → Int32} {t d x : Nat} (q : cd x = nI 115) : sI cd f t d x = (uf f (dig1 cd x) (f t), nI (x + 2)) := by
  unfold sI
  rw [if_neg (by rw [q]; decide), if_neg (by rw [q]; decide), if_neg (by rw [q]; decide), if_neg (by rw [q]; decide), if_neg (by rw [q]; decide), if_neg (by rw [q]; decide), if_pos q]
theorem sI_112 {cd f : Nat → Int32} {t d x : Nat} (q : cd x = nI 112) : sI cd f t d x = (uf f t (md (f t + f (dig1 cd x))), nI (x + 2)) := by
  unfold sI
  rw [if_neg (by rw [q]; decide), if_neg (by rw [q]; decide), if_neg (by rw [q]; decide), if_neg (by rw [q]; decide), if_neg (by rw [q]; decide), if_neg (by rw [q]; decide), if_neg (by rw [q]; decide), if_pos q]
theorem sI_122 {cd f : Nat → Int32} {t d x : Nat} (q : cd x = nI 122) : sI cd f t d x = (f, if f t = nI 0 then dig2 cd x else nI (x + 3)) := by
  unfold sI
  rw [if_neg (by rw [q]; decide), if_neg (by rw [q]; decide), if_neg (by rw [q]; decide), if_neg (by rw [q]; decide), if_neg (by rw [q]; decide), if_neg (by rw [q]; decide), if_neg (by rw [q]; decide), if_neg (by rw [q]; decide), if_pos q]
theorem sI_106 {cd f : Nat → Int32} {t d x : Nat} (q : cd x = nI 106) : sI cd f t d x = (f, dig2 cd x) := by
  unfold sI
  rw [if_neg (by rw [q]; decide), if_neg (by rw [q]; decide), if_neg (by rw [q]; decide), if_neg (by rw [q]; decide), if_neg (by rw [q]; decide), if_neg (by rw [q]; decide), if_neg (by rw [q]; decide), if_neg (by rw [q]; decide), if_neg (by rw [q]; decide)]
theorem dig1_eq {cd : Nat → Int32} {x k : Nat} (h : cd (x + 1) = nI (48 + k)) (hk : k ≤ 7) : dig1 cd x = k := by
  unfold dig1; rw [h, pk_sub (by omega), nI_clamp (by omega)]; omega
theorem sI_far {cd f : Nat → Int32} {t d x nc i : Nat} (hW : WL cd nc x) (h8 : 8 ≤ i) (hd : d ≤ 6) (h1 : i ≠ t) (h2 : ¬ (t + 2 ≤ i ∧ i ≤ t + 15)) : (sI cd f t d x).1 i = f i := by
  rcases hW with (q | q | q | q) | ⟨q | q | q, -, kk, hk, hk2⟩ | ⟨q | q | q, -⟩
  · rw [sI_105 q]; dsimp only; rw [uf_ne _ _ (by omega)]
  · rw [sI_100 q]; dsimp only; rw [uf_ne _ _ (by omega)]
  · rw [sI_114 q]; split <;> (dsimp only; rw [uf_ne _ _ (by omega)])
  · rw [sI_104 q]; dsimp only; rw [uf_ne _ _ (by omega)]
  · rw [sI_108 q]; dsimp only; rw [uf_ne _ _ (by omega)]
  · rw [sI_115 q, dig1_eq hk2 hk]; dsimp only; rw [uf_ne _ _ (by omega)]
  · rw [sI_112 q]; dsimp only; rw [uf_ne _ _ (by omega)]
  · rw [sI_106 q]
  · rw [sI_122 q]
  · rw [sI_99 q]
    split
    · dsimp only; rw [uf_ne _ _ (by omega)]
    · dsimp only; rw [uf_ne _ _ (by omega), uf_ne _ _ (by omega), uf_ne _ _ (by omega)]
/-- behind a step, what lies beyond the processor's own numbers is as it was -/
theorem sGo_far {cd bg f : Nat → Int32} {nc t d i : Nat} (hW : WC cd bg nc) (h8 : 8 ≤ i) (hd : d ≤ 6) (h1 : i < t ∨ t + 17 ≤ i) : (sGo cd bg nc f t d).2 i = f i := by
  have h60 := hW.2.1
  unfold sGo
  split
  · rfl
  · split
    · dsimp only; rw [uf_ne _ _ (by omega)]
    · rename_i q1
      have q1' : isB bg nc (f (t + 1)) = true := by simpa using q1
      obtain ⟨x, hx, hx2, hx3⟩ := isB_of q1' hW.1 hW.2.1
      dsimp only
      rw [uf_ne _ _ (by omega), sI_far (nc := nc) (by rw [hx2, nI_clamp (by omega)]; exact hW.2.2 x hx hx3) h8 hd (by omega) (by omega), uf_ne _ _ (by omega)]
/-- fewer returns behind a step: one was taken off, and its holder's number lies there still -/
theorem sGo_pop {cd bg f : Nat → Int32} {nc t d : Nat} (hW : WC cd bg nc) (ht : 8 ≤ t) (hd : d ≤ 6) (hf : f (t + 2) = nI d) (h : (sGo cd bg nc f t d).2 (t + 2) < nI d) : d ≠ 0 ∧ (sGo cd bg nc f t d).2 (t + 2) = nI (d - 1) ∧ ∀ i, t + 3 ≤ i → i < t + 15 → (sGo cd bg nc f t d).2 i = f i := by
  have h60 := hW.2.1
  have irr : ∀ a : Nat, a ≤ 7 → d ≤ a → ¬ nI a < nI d := fun a h1 h2 => nI_nlt h2 (by omega)
  have i0 := irr d (by omega) (Nat.le_refl _)
  unfold sGo at h ⊢
  by_cases q0 : f (t + 15) = nI 1
  · rw [if_pos q0] at h; dsimp only at h; rw [hf] at h; exact absurd h i0
  · rw [if_neg q0] at h ⊢
    by_cases q1 : isB bg nc (f (t + 1)) = false
    · rw [if_pos q1] at h; dsimp only at h; rw [uf_ne _ _ (by omega), hf] at h; exact absurd h i0
    · rw [if_neg q1] at h ⊢
      have q1' : isB bg nc (f (t + 1)) = true := by simpa using q1
      obtain ⟨x, hx, hx2, hx3⟩ := isB_of q1' hW.1 hW.2.1
      have hWL := hW.2.2 x hx hx3
      have ex : (f (t + 1)).toNatClampNeg = x := by rw [hx2, nI_clamp (by omega)]
      rw [ex] at h ⊢
      dsimp only at h ⊢
      rw [uf_ne _ _ (by omega)] at h
      have e0 : uf f (t + 16) (f (t + 16) + nI 1) (t + 2) = nI d := by rw [uf_ne _ _ (by omega)]; exact hf
      obtain ⟨f1, hf1⟩ : ∃ f1, f1 = uf f (t + 16) (f (t + 16) + nI 1) := ⟨_, rfl⟩
      rw [← hf1] at h e0 ⊢
      have no : (sI cd f1 t d x).1 (t + 2) = nI d → False := fun z => by
        rw [z] at h; exact i0 h
      rcases hWL with (q | q | q | q) | ⟨q | q | q, -, kk, hk, hk2⟩ | ⟨q | q | q, -⟩
      · exfalso; apply no; rw [sI_105 q]; dsimp only; rw [uf_ne _ _ (by omega)]; exact e0
      · exfalso; apply no; rw [sI_100 q]; dsimp only; rw [uf_ne _ _ (by omega)]; exact e0
      · rw [sI_114 q] at no h ⊢
        by_cases c4 : d = 0
        · exfalso; apply no; rw [if_pos c4]; dsimp only; rw [uf_ne _ _ (by omega)]; exact e0
        · rw [if_neg c4]
          dsimp only
          refine ⟨c4, by rw [uf_ne _ _ (by omega), uf_eq], fun i h1 h2 => ?_⟩
          rw [uf_ne _ _ (by omega), uf_ne _ _ (by omega), hf1, uf_ne _ _ (by omega)]
      · exfalso; apply no; rw [sI_104 q]; dsimp only; rw [uf_ne _ _ (by omega)]; exact e0
      · exfalso; apply no; rw [sI_108 q]; dsimp only; rw [uf_ne _ _ (by omega)]; exact e0
      · exfalso; apply no; rw [sI_115 q, dig1_eq hk2 hk]; dsimp only; rw [uf_ne _ _ (by omega)]; exact e0
      · exfalso; apply no; rw [sI_112 q]; dsimp only; rw [uf_ne _ _ (by omega)]; exact e0
      · exfalso; apply no; rw [sI_106 q]; exact e0
      · exfalso; apply no; rw [sI_122 q]; exact e0
      · exfalso
        rw [sI_99 q] at no h
        by_cases c2 : d = 6
        · apply no; rw [if_pos c2]; dsimp only; rw [uf_ne _ _ (by omega)]; exact e0
        · rw [if_neg c2] at h
          dsimp only at h
          rw [uf_eq] at h
          exact irr (d + 1) (by omega) (by omega) h
section ME
variable (I : am_I) (R : am_R) (K : am_K)
theorem m_does2 (h : MK R K) (c d : Nat) (b : Bool) (hc : c < 2) (hd : d ≤ 6) (hq : I 151 (8 + 31 * c + 2) < nI d → ∃ q, q ≤ 6 ∧ I 151 (8 + 31 * c + 8 + d) = nI q) (hm : ∀ p, p < 6 → ∃ m, m ≤ 200 ∧ I 151 (70 + 208 * p + 7) = nI m) (hn : ∃ n, n ≤ 4 ∧ I 151 (8 + 31 * c + 17) = nI n) (l3 : Option Value) : ∃ I', ev 137 115 [some (.ref 147), some (.int (nI c)), some (.int (nI (8 + 31 * c))), l3, some (.int (nI d)), some (.int (bI b)), none] [] (I, R, K) = some (some (.int (bI b)), (I', R, K)) ∧ JF I I' (sDo2 (I 151) c d) := by
  have hMK := h
  obtain ⟨⟨h1, h2, h3, h4, h5, h6, h7, h8, h9⟩, ⟨g2, g3, g4, g5, g6, g7, g8, g9⟩, r1, r2, r3, r4, r5, r6, r7, r8⟩ := h
  unfold sDo2
  by_cases q0 : I 151 (8 + 31 * c + 2) < nI d
  · rw [if_pos q0]
    have q0' := Int32.not_le.mpr q0
    obtain ⟨q, hq1, hq2⟩ := hq q0
    have e1 : 8 + 31 * c + 9 + d - 1 = 8 + 31 * c + 8 + d := by omega
    dsimp only
    rw [hq2, nt_nI (by omega)]
    by_cases q1 : q = 0
    · subst q1
      have f0 := m_frees I R K hMK 0 (by omega) none
      have e2 : sFree (I 151) 0 = I 151 := by unfold sFree; rw [if_pos rfl]
      rw [e2, st_id] at f0
      refine ⟨st I 151 (uf (I 151) (8 + 31 * c + 8 + d) (nI 0)), ?_, ?_⟩
      · simp (disch := first | assumption | omega | exact ixN (by assumption) (by omega) (by omega) | exact ne_10 | exact ne_1000 | exact ne_4) only [s137_115, s137_115a, s137_116, s137_119, s137_120, s137_121, s137_122, s137_123, s137_125, s137_128, s137_128a, s137_129, s137_132, s137_133, s137_135, s137_136, s137_138, s137_139, s137_140, s137_141, s137_142, s137_144, s137_146, s137_149, s137_149a, s137_150, s137_153, s137_155, s137_156, s137_157, s137_160, s137_161, s137_164, s137_164a, s137_165, s137_167, s137_168, s137_169, s137_170, s137_173, s137_173a, s137_174, s137_176, s137_179, s137_179a, s137_180, s137_183, s137_184, s137_186, s137_187, s137_189, s137_190, s137_191, s137_192, s137_193, s137_194, s137_196, s137_196a, s137_196b, s137_196c, ↓reduceIte, eq_self, Option.bind_some, Option.bind_none, Option.toList_some, Option.toList_none, List.cons_append, List.nil_append, am_rf_s, am_rf_n, am_c1_i, am_c1_r, am_c1_n, List.all_cons, List.all_nil, Bool.and_self, Bool.and_true, Bool.true_and, List.length_cons, List.length_nil, Nat.reduceAdd, Nat.reduceSub, Nat.reduceMul, Nat.reduceLeDiff, Nat.reduceLT, Nat.zero_le, Nat.le_refl, ne_10, ne_1000, ne_4, not_false_eq_true, or_true, true_or, Nat.one_ne_zero, Nat.zero_ne_one, Nat.reduceEqDiff, Bool.true_eq_false, Bool.false_eq_true, n10, nI_add, pk_mul, pk_sub, nI_clamp, nI_ltI, nI_leI, nI_eq, ui_st, st_st, st_eq, st_ne, uf_eq, uf_ne, r4, q0', e1, hq2, f0]
      · simp only [ne_eq, not_true_eq_false, false_and, if_false, e2]
        exact JF.st I _
    · have q1' : ¬ q ≤ 0 := by omega
      by_cases q2 : I 151 (70 + 208 * (q - 1)) = nI 0
      · rw [if_pos ⟨q1, q2⟩]
        obtain ⟨m, hm1, hm2⟩ := hm (q - 1) (by omega)
        obtain ⟨n, hn1, hn2⟩ := hn
        rw [hm2, hn2, nt_nI (by omega), nt_nI (by omega)]
        obtain ⟨I2, w1, w2⟩ := m_hits I R K hMK (q - 1) c m n (by omega) hc hm2 hm1 hn2 hn1
        have f0 := m_frees I2 R K hMK q hq1 none
        rw [w2.1] at f0
        refine ⟨st I2 151 (uf (sFree (sHit (I 151) (q - 1) c m n) q) (8 + 31 * c + 8 + d) (nI 0)), ?_, w2.tr (JF.st I2 _)⟩
        simp (disch := first | assumption | omega | exact ixN (by assumption) (by omega) (by omega) | exact ne_10 | exact ne_1000 | exact ne_4) only [s137_115, s137_115a, s137_116, s137_119, s137_120, s137_121, s137_122, s137_123, s137_125, s137_128, s137_128a, s137_129, s137_132, s137_133, s137_135, s137_136, s137_138, s137_139, s137_140, s137_141, s137_142, s137_144, s137_146, s137_149, s137_149a, s137_150, s137_153, s137_155, s137_156, s137_157, s137_160, s137_161, s137_164, s137_164a, s137_165, s137_167, s137_168, s137_169, s137_170, s137_173, s137_173a, s137_174, s137_176, s137_179, s137_179a, s137_180, s137_183, s137_184, s137_186, s137_187, s137_189, s137_190, s137_191, s137_192, s137_193, s137_194, s137_196, s137_196a, s137_196b, s137_196c, ↓reduceIte, eq_self, Option.bind_some, Option.bind_none, Option.toList_some, Option.toList_none, List.cons_append, List.nil_append, am_rf_s, am_rf_n, am_c1_i, am_c1_r, am_c1_n, List.all_cons, List.all_nil, Bool.and_self, Bool.and_true, Bool.true_and, List.length_cons, List.length_nil, Nat.reduceAdd, Nat.reduceSub, Nat.reduceMul, Nat.reduceLeDiff, Nat.reduceLT, Nat.zero_le, Nat.le_refl, ne_10, ne_1000, ne_4, not_false_eq_true, or_true, true_or, Nat.one_ne_zero, Nat.zero_ne_one, Nat.reduceEqDiff, Bool.true_eq_false, Bool.false_eq_true, n10, nI_add, pk_mul, pk_sub, nI_clamp, nI_ltI, nI_leI, nI_eq, ui_st, st_st, st_eq, st_ne, uf_eq, uf_ne, r4, q0', e1, hq2, f0, q1', m_probeAt, q2, w1]
      · rw [if_neg (fun z => q2 z.2)]
        have f0 := m_frees I R K hMK q hq1 none
        refine ⟨st I 151 (uf (sFree (I 151) q) (8 + 31 * c + 8 + d) (nI 0)), ?_, JF.st I _⟩
        simp (disch := first | assumption | omega | exact ixN (by assumption) (by omega) (by omega) | exact ne_10 | exact ne_1000 | exact ne_4) only [s137_115, s137_115a, s137_116, s137_119, s137_120, s137_121, s137_122, s137_123, s137_125, s137_128, s137_128a, s137_129, s137_132, s137_133, s137_135, s137_136, s137_138, s137_139, s137_140, s137_141, s137_142, s137_144, s137_146, s137_149, s137_149a, s137_150, s137_153, s137_155, s137_156, s137_157, s137_160, s137_161, s137_164, s137_164a, s137_165, s137_167, s137_168, s137_169, s137_170, s137_173, s137_173a, s137_174, s137_176, s137_179, s137_179a, s137_180, s137_183, s137_184, s137_186, s137_187, s137_189, s137_190, s137_191, s137_192, s137_193, s137_194, s137_196, s137_196a, s137_196b, s137_196c, ↓reduceIte, eq_self, Option.bind_some, Option.bind_none, Option.toList_some, Option.toList_none, List.cons_append, List.nil_append, am_rf_s, am_rf_n, am_c1_i, am_c1_r, am_c1_n, List.all_cons, List.all_nil, Bool.and_self, Bool.and_true, Bool.true_and, List.length_cons, List.length_nil, Nat.reduceAdd, Nat.reduceSub, Nat.reduceMul, Nat.reduceLeDiff, Nat.reduceLT, Nat.zero_le, Nat.le_refl, ne_10, ne_1000, ne_4, not_false_eq_true, or_true, true_or, Nat.one_ne_zero, Nat.zero_ne_one, Nat.reduceEqDiff, Bool.true_eq_false, Bool.false_eq_true, n10, nI_add, pk_mul, pk_sub, nI_clamp, nI_ltI, nI_leI, nI_eq, ui_st, st_st, st_eq, st_ne, uf_eq, uf_ne, r4, q0', e1, hq2, f0, q1', m_probeAt, q2]
  · rw [if_neg q0]
    have q0' := Int32.not_lt.mp q0
    refine ⟨I, ?_, JF.rf I⟩
    simp (disch := first | assumption | omega | exact ixN (by assumption) (by omega) (by omega) | exact ne_10 | exact ne_1000 | exact ne_4) only [s137_115, s137_115a, s137_116, s137_119, s137_120, s137_121, s137_122, s137_123, s137_125, s137_128, s137_128a, s137_129, s137_132, s137_133, s137_135, s137_136, s137_138, s137_139, s137_140, s137_141, s137_142, s137_144, s137_146, s137_149, s137_149a, s137_150, s137_153, s137_155, s137_156, s137_157, s137_160, s137_161, s137_164, s137_164a, s137_165, s137_167, s137_168, s137_169, s137_170, s137_173, s137_173a, s137_174, s137_176, s137_179, s137_179a, s137_180, s137_183, s137_184, s137_186, s137_187, s137_189, s137_190, s137_191, s137_192, s137_193, s137_194, s137_196, s137_196a, s137_196b, s137_196c, ↓reduceIte, eq_self, Option.bind_some, Option.bind_none, Option.toList_some, Option.toList_none, List.cons_append, List.nil_append, am_rf_s, am_rf_n, am_c1_i, am_c1_r, am_c1_n, List.all_cons, List.all_nil, Bool.and_self, Bool.and_true, Bool.true_and, List.length_cons, List.length_nil, Nat.reduceAdd, Nat.reduceSub, Nat.reduceMul, Nat.reduceLeDiff, Nat.reduceLT, Nat.zero_le, Nat.le_refl, ne_10, ne_1000, ne_4, not_false_eq_true, or_true, true_or, Nat.one_ne_zero, Nat.zero_ne_one, Nat.reduceEqDiff, Bool.true_eq_false, Bool.false_eq_true, n10, nI_add, pk_mul, pk_sub, nI_clamp, nI_ltI, nI_leI, nI_eq, ui_st, st_st, st_eq, st_ne, uf_eq, uf_ne, r4, q0']
theorem m_does (h : MK R K) (c nc : Nat) (hc : c < 2) (hn : I 147 2 = nI nc) (hW : WC (I 149) (I 150) nc) (hf : WF0 (I 151)) (hf1 : WF0 (sDo1 (I 150) nc (I 151) c)) : ∃ I', ev 137 0 [some (.ref 147), some (.int (nI c)), none, none, none, none, none] [] (I, R, K) = some (some (.int (bI (sDo (I 149) (I 150) nc (I 151) c).1)), (I', R, K)) ∧ JF I I' (sDo (I 149) (I 150) nc (I 151) c).2 := by
  have hMK := h
  obtain ⟨I1, l4, w1, w2⟩ := m_does1 I R K h c nc hc hn hW.1 hW.2.1 hf
  obtain ⟨⟨h1, h2, h3, h4, h5, h6, h7, h8, h9⟩, ⟨g2, g3, g4, g5, g6, g7, g8, g9⟩, r1, r2, r3, r4, r5, r6, r7, r8⟩ := h
  obtain ⟨f1, hf1e⟩ : ∃ f1, f1 = sDo1 (I 150) nc (I 151) c := ⟨_, rfl⟩
  rw [← hf1e] at w2 hf1
  obtain ⟨d, hd1, hd2, hd3⟩ := hf1.2.2 c hc
  have w3 := w2.1
  have i149 : I1 149 = I 149 := w2.2.1 149 (by omega) (by omega) (by omega) (by omega) (by omega)
  have i150 : I1 150 = I 150 := w2.2.1 150 (by omega) (by omega) (by omega) (by omega) (by omega)
  have i147 : I1 147 2 = nI nc := by rw [w2.2.2 2 (by omega)]; exact hn
  have g1 := m_goes I1 R K hMK 151 c d nc (Or.inl rfl) hc i147 (by rw [i149, i150]; exact hW) (by rw [w3]; exact hd2) hd1 (fun hd0 => by
    obtain ⟨⟨q, h1, h2⟩, -⟩ := hd3 (d - 1) (by omega)
    exact ⟨q, h1, by rw [w3, ← h2]; congr 1; omega⟩) none none
  rw [i149, i150, w3] at g1
  obtain ⟨g, hg⟩ : ∃ g, g = (sGo (I 149) (I 150) nc f1 (8 + 31 * c) d) := ⟨_, rfl⟩
  rw [← hg] at g1
  obtain ⟨I2, v1, v2⟩ := m_does2 (st I1 151 g.2) R K hMK c d g.1 hc hd1 (fun z => by
      rw [st_eq] at z ⊢
      obtain ⟨p1, p2, p3⟩ := sGo_pop hW (by omega) hd1 hd2 (by rw [← hg]; exact z)
      obtain ⟨-, q, h1, h2⟩ := hd3 (d - 1) (by omega)
      refine ⟨q, h1, ?_⟩
      rw [hg, p3 _ (by omega) (by omega), ← h2]
      congr 1
      omega) (fun p hp => by
      rw [st_eq, hg, sGo_far hW (by omega) hd1 (by omega)]
      exact hf1.1 p hp) (by
      rw [st_eq, hg, sGo_far hW (by omega) hd1 (by omega)]
      exact hf1.2.1 c hc) (some (.int (I 151 (8 + 31 * c + 1))))
  rw [st_eq] at v2
  refine ⟨I2, ?_, ?_⟩
  · rw [w1]
    have e : sDo (I 149) (I 150) nc (I 151) c = (g.1, sDo2 g.2 c d) := by
      unfold sDo
      dsimp only
      rw [← hf1e, hd2, nt_nI (by omega), ← hg]
    rw [e]
    simp (disch := first | assumption | omega | exact ixN (by assumption) (by omega) (by omega) | exact ne_10 | exact ne_1000 | exact ne_4) only [s137_94, s137_94a, s137_95, s137_98, s137_99, s137_100, s137_101, s137_102, s137_104, s137_104a, s137_105, s137_105a, s137_106, s137_109, s137_110, s137_113, ↓reduceIte, eq_self, Option.bind_some, Option.bind_none, Option.toList_some, Option.toList_none, List.cons_append, List.nil_append, am_rf_s, am_rf_n, am_c1_i, am_c1_r, am_c1_n, List.all_cons, List.all_nil, Bool.and_self, Bool.and_true, Bool.true_and, List.length_cons, List.length_nil, Nat.reduceAdd, Nat.reduceSub, Nat.reduceMul, Nat.reduceLeDiff, Nat.reduceLT, Nat.zero_le, Nat.le_refl, ne_10, ne_1000, ne_4, not_false_eq_true, or_true, true_or, Nat.one_ne_zero, Nat.zero_ne_one, Nat.reduceEqDiff, Bool.true_eq_false, Bool.false_eq_true, n10, nI_add, nI_clamp, r4, w3, hd2, g1, v1]
  · have e : sDo (I 149) (I 150) nc (I 151) c = (g.1, sDo2 g.2 c d) := by
      unfold sDo
      dsimp only
      rw [← hf1e, hd2, nt_nI (by omega), ← hg]
    rw [e]
    exact (w2.tr (JF.st I1 g.2)).tr v2
end ME
