/-! the reference: ever -/
def sGos (cd bg : Nat → Int32) (nc t : Nat) : Nat → (Nat → Int32) → (Nat → Int32)
  | 0, f => f
  | r + 1, f => sGos cd bg nc t r (sGo cd bg nc f t (nt (f (t + 2)))).2
/-- Q holds behind every instruction, and gives what one asks -/
def QS (Q : (Nat → Int32) → Prop) (cd bg : Nat → Int32) (nc t : Nat) : Prop := ∀ g, Q g → (∃ d, d ≤ 6 ∧ g (t + 2) = nI d ∧ (d ≠ 0 → ∃ q, q < 1000 ∧ g (t + 2 + d) = nI q)) ∧ Q (sGo cd bg nc g t (nt (g (t + 2)))).2
def sp_everV (g : Nat → Int32) (t : Nat) (w : Int32) : Int32 := if w = nI 0 then g (t + 1) else if w = nI 1 then g t else if w = nI 2 then g (t + 2) else if w = nI 3 then g (t + 15) else cu g 8 0 (nI 0)
def okEver (c k w : Int32) : Bool := inR c 0 1 && inR k 0 60 && inR w 0 4
def sp_ever (cd bg : Nat → Int32) (nc : Nat) (g : Nat → Int32) (c k w : Int32) : Int32 := if okEver c k w then sp_everV (sGos cd bg nc (8 + 31 * c.toNatClampNeg) k.toNatClampNeg g) (8 + 31 * c.toNatClampNeg) w else -1
theorem MR.aside {I : am_I} {n nc cs : Nat} {tx cd bg f wz : Nat → Int32} (hr : MR I n tx nc cd bg f cs wz) (g : Nat → Int32) : MR (st I 152 g) n tx nc cd bg f cs wz := by
  obtain ⟨h1, h2, h3, h4, h5, h6, h7, h8⟩ := hr
  refine ⟨?_, ?_, ?_, ?_, ?_, ?_, ?_, ?_⟩
  all_goals rw [st_ne _ _ (by omega)]; assumption
section MX
variable (I : am_I) (R : am_R) (K : am_K) (n nc cs : Nat) (tx cd bg f wz : Nat → Int32)
theorem m_ecopy (h : MK R K) (he : I 151 = f) (l1 l2 l3 : Option Value) (g : Nat → Int32) : ∀ (r k : Nat), k + r = 1318 → ev 148 31 [some (.ref 147), l1, l2, l3, some (.int (nI k)), none, none] [] (st I 152 (fun j => if j < k then f j else g j), R, K) = ev 148 59 [some (.ref 147), l1, l2, l3, some (.int (nI 1318)), none, none] [] (st I 152 (fun j => if j < 1318 then f j else g j), R, K) := by
  obtain ⟨⟨h1, h2, h3, h4, h5, h6, h7, h8, h9⟩, ⟨g2, g3, g4, g5, g6, g7, g8, g9⟩, r1, r2, r3, r4, r5, r6, r7, r8⟩ := h
  intro r
  induction r with
  | zero =>
    intro k hk
    have hk : k = 1318 := by omega
    subst hk
    simp (disch := first | assumption | omega | exact ixN (by assumption) (by omega) (by omega) | exact ne_10 | exact ne_1000 | exact ne_4) only [s148_31, s148_33, s148_36, ↓reduceIte, eq_self, Option.bind_some, Option.bind_none, Option.toList_some, Option.toList_none, List.cons_append, List.nil_append, am_rf_s, am_rf_n, am_c1_i, am_c1_r, am_c1_n, List.all_cons, List.all_nil, Bool.and_self, Bool.and_true, Bool.true_and, List.length_cons, List.length_nil, Nat.reduceAdd, Nat.reduceSub, Nat.reduceMul, Nat.reduceLeDiff, Nat.reduceLT, Nat.zero_le, Nat.le_refl, ne_10, ne_1000, ne_4, not_false_eq_true, or_true, true_or, Nat.one_ne_zero, Nat.zero_ne_one, Nat.reduceEqDiff, Bool.true_eq_false, Bool.false_eq_true, n10, nI_add, pk_mul, pk_sub, nI_clamp, nI_ltI, nI_leI, nI_eq]
  | succ r ih =>
    intro k hk
    rw [← ih (k + 1) (by omega)]
    have e2 : uf (fun j => if j < k then f j else g j) k (f k) = fun j => if j < k + 1 then f j else g j := by
      funext j
      unfold uf
      by_cases q : j = k
      · subst q; rw [if_pos rfl, if_pos (by omega)]
      · rw [if_neg q]
        dsimp only
        by_cases q2 : j < k
        · rw [if_pos q2, if_pos (by omega)]
        · rw [if_neg q2, if_neg (by omega)]
    rw [s148_31]
    simp (disch := first | assumption | omega | exact ixN (by assumption) (by omega) (by omega) | exact ne_10 | exact ne_1000 | exact ne_4) only [s148_33, s148_36, s148_39, s148_39a, s148_40, s148_43, s148_45, s148_45a, s148_46, s148_49, s148_51, s148_52, s148_53, s148_56, ↓reduceIte, eq_self, Option.bind_some, Option.bind_none, Option.toList_some, Option.toList_none, List.cons_append, List.nil_append, am_rf_s, am_rf_n, am_c1_i, am_c1_r, am_c1_n, List.all_cons, List.all_nil, Bool.and_self, Bool.and_true, Bool.true_and, List.length_cons, List.length_nil, Nat.reduceAdd, Nat.reduceSub, Nat.reduceMul, Nat.reduceLeDiff, Nat.reduceLT, Nat.zero_le, Nat.le_refl, ne_10, ne_1000, ne_4, not_false_eq_true, or_true, true_or, Nat.one_ne_zero, Nat.zero_ne_one, Nat.reduceEqDiff, Bool.true_eq_false, Bool.false_eq_true, n10, nI_add, nI_clamp, nI_leI, ui_st, st_st, st_eq, st_ne, uf_eq, uf_ne, r4, r5, he, show ¬ 1318 ≤ k by omega, e2]
theorem m_egos (h : MK R K) (hW : WC cd bg nc) (Q : (Nat → Int32) → Prop) (c k : Nat) (hQ : QS Q cd bg nc (8 + 31 * c)) (hc : c < 2) (hk : k ≤ 60) (l3 : Option Value) : ∀ (r i : Nat) (I : am_I), i + r = k → MR I n tx nc cd bg f cs wz → Q (I 152) → ev 148 62 [some (.ref 147), some (.int (nI c)), some (.int (nI k)), l3, some (.int (nI i)), none, none] [] (I, R, K) = ev 148 84 [some (.ref 147), some (.int (nI c)), some (.int (nI k)), l3, some (.int (nI k)), none, none] [] (st I 152 (sGos cd bg nc (8 + 31 * c) r (I 152)), R, K) := by
  have hMK := h
  obtain ⟨⟨h1, h2, h3, h4, h5, h6, h7, h8, h9⟩, ⟨g2, g3, g4, g5, g6, g7, g8, g9⟩, r1, r2, r3, r4, r5, r6, r7, r8⟩ := h
  intro r
  induction r with
  | zero =>
    intro i I hi hr hq
    have hi : i = k := by omega
    subst hi
    unfold sGos
    rw [st_id]
    simp (disch := first | assumption | omega | exact ixN (by assumption) (by omega) (by omega) | exact ne_10 | exact ne_1000 | exact ne_4) only [s148_62, s148_64, s148_65, ↓reduceIte, eq_self, Option.bind_some, Option.bind_none, Option.toList_some, Option.toList_none, List.cons_append, List.nil_append, am_rf_s, am_rf_n, am_c1_i, am_c1_r, am_c1_n, List.all_cons, List.all_nil, Bool.and_self, Bool.and_true, Bool.true_and, List.length_cons, List.length_nil, Nat.reduceAdd, Nat.reduceSub, Nat.reduceMul, Nat.reduceLeDiff, Nat.reduceLT, Nat.zero_le, Nat.le_refl, ne_10, ne_1000, ne_4, not_false_eq_true, or_true, true_or, Nat.one_ne_zero, Nat.zero_ne_one, Nat.reduceEqDiff, Bool.true_eq_false, Bool.false_eq_true, n10, nI_add, pk_mul, pk_sub, nI_clamp, nI_ltI, nI_leI, nI_eq]
  | succ r ih =>
    intro i I hi hr hq
    have hr0 := hr
    obtain ⟨e1, e2, e3, e4, e5, e6, e7, e8⟩ := hr
    obtain ⟨⟨d, hd1, hd2, hd3⟩, p3⟩ := hQ (I 152) hq
    have w1 := m_goes I R K hMK 152 c d nc (Or.inr rfl) hc e3 (by rw [e4, e5]; exact hW) hd2 hd1 hd3 none none
    rw [e4, e5] at w1
    rw [hd2, nt_nI (by omega)] at p3
    have v1 := ih (i + 1) (st I 152 (sGo cd bg nc (I 152) (8 + 31 * c) d).2) (by omega) (hr0.aside _) (by rw [st_eq]; exact p3)
    rw [st_eq, st_st] at v1
    unfold sGos
    rw [hd2, nt_nI (by omega), ← v1, s148_62]
    have kd : ¬ k ≤ i := by omega
    simp (disch := first | assumption | omega | exact ixN (by assumption) (by omega) (by omega) | exact ne_10 | exact ne_1000 | exact ne_4) only [s148_64, s148_65, s148_68, s148_68a, s148_69, s148_69a, s148_70, s148_73, s148_74, s148_77, s148_78, s148_81, ↓reduceIte, eq_self, Option.bind_some, Option.bind_none, Option.toList_some, Option.toList_none, List.cons_append, List.nil_append, am_rf_s, am_rf_n, am_c1_i, am_c1_r, am_c1_n, List.all_cons, List.all_nil, Bool.and_self, Bool.and_true, Bool.true_and, List.length_cons, List.length_nil, Nat.reduceAdd, Nat.reduceSub, Nat.reduceMul, Nat.reduceLeDiff, Nat.reduceLT, Nat.zero_le, Nat.le_refl, ne_10, ne_1000, ne_4, not_false_eq_true, or_true, true_or, Nat.one_ne_zero, Nat.zero_ne_one, Nat.reduceEqDiff, Bool.true_eq_false, Bool.false_eq_true, n10, nI_add, nI_leI, r5, kd, w1]
theorem m_esum (h : MK R K) (l1 l2 l3 l4 : Option Value) : ∀ (r k : Nat) (s : Int32), k + r = 8 → ev 148 160 [some (.ref 147), l1, l2, l3, l4, some (.int s), some (.int (nI k))] [] (I, R, K) = some (some (.int (cu (I 152) r k s)), (I, R, K)) := by
  obtain ⟨⟨h1, h2, h3, h4, h5, h6, h7, h8, h9⟩, ⟨g2, g3, g4, g5, g6, g7, g8, g9⟩, r1, r2, r3, r4, r5, r6, r7, r8⟩ := h
  intro r
  induction r with
  | zero =>
    intro k s hk
    have hk : k = 8 := by omega
    subst hk
    simp (disch := first | assumption | omega | exact ixN (by assumption) (by omega) (by omega) | exact ne_10 | exact ne_1000 | exact ne_4) only [s148_160, s148_162, s148_164, s148_167, s148_169, s148_169a, s148_170, s148_173, s148_175, s148_176, s148_177, s148_179, s148_182, s148_185, s148_187, ↓reduceIte, eq_self, Option.bind_some, Option.bind_none, Option.toList_some, Option.toList_none, List.cons_append, List.nil_append, am_rf_s, am_rf_n, am_c1_i, am_c1_r, am_c1_n, List.all_cons, List.all_nil, Bool.and_self, Bool.and_true, Bool.true_and, List.length_cons, List.length_nil, Nat.reduceAdd, Nat.reduceSub, Nat.reduceMul, Nat.reduceLeDiff, Nat.reduceLT, Nat.zero_le, Nat.le_refl, ne_10, ne_1000, ne_4, not_false_eq_true, or_true, true_or, Nat.one_ne_zero, Nat.zero_ne_one, Nat.reduceEqDiff, Bool.true_eq_false, Bool.false_eq_true, n10, nI_add, pk_mul, pk_sub, nI_clamp, nI_ltI, nI_leI, nI_eq, cu]
  | succ r ih =>
    intro k s hk
    unfold cu
    rw [← ih (k + 1) _ (by omega), s148_160]
    simp (disch := first | assumption | omega | exact ixN (by assumption) (by omega) (by omega) | exact ne_10 | exact ne_1000 | exact ne_4) only [s148_162, s148_164, s148_167, s148_169, s148_169a, s148_170, s148_173, s148_175, s148_176, s148_177, s148_179, s148_182, ↓reduceIte, eq_self, Option.bind_some, Option.bind_none, Option.toList_some, Option.toList_none, List.cons_append, List.nil_append, am_rf_s, am_rf_n, am_c1_i, am_c1_r, am_c1_n, List.all_cons, List.all_nil, Bool.and_self, Bool.and_true, Bool.true_and, List.length_cons, List.length_nil, Nat.reduceAdd, Nat.reduceSub, Nat.reduceMul, Nat.reduceLeDiff, Nat.reduceLT, Nat.zero_le, Nat.le_refl, ne_10, ne_1000, ne_4, not_false_eq_true, or_true, true_or, Nat.one_ne_zero, Nat.zero_ne_one, Nat.reduceEqDiff, Bool.true_eq_false, Bool.false_eq_true, n10, nI_add, nI_clamp, nI_leI, r5, show ¬ 8 ≤ k by omega]
theorem m_ever (h : MK R K) (hr : MR I n tx nc cd bg f cs wz) (hW : WC cd bg nc) (Q : (Nat → Int32) → Prop) (hQ : ∀ c, c < 2 → QS Q cd bg nc (8 + 31 * c)) (hf : ∀ g, (∀ j, j < 1318 → g j = f j) → Q g) (c k w : Int32) : ∃ I' g, (∀ j, j < 1318 → g j = f j) ∧ ev 148 0 [some (.ref 147), some (.int c), some (.int k), some (.int w), none, none, none] [] (I, R, K) = some (some (.int (sp_ever cd bg nc g c k w)), (I', R, K)) ∧ MR I' n tx nc cd bg f cs wz ∧ FM I I' := by
  have hMK := h
  have hr0 := hr
  obtain ⟨e1, e2, e3, e4, e5, e6, e7, e8⟩ := hr
  obtain ⟨⟨h1, h2, h3, h4, h5, h6, h7, h8, h9⟩, ⟨g2, g3, g4, g5, g6, g7, g8, g9⟩, r1, r2, r3, r4, r5, r6, r7, r8⟩ := h
  unfold sp_ever
  by_cases q0 : inR c 0 1 = false
  · have b : okEver c k w = false := by unfold okEver; rw [q0]; rfl
    rw [b]
    refine ⟨I, f, fun _ _ => rfl, ?_, hr0, FM.rf I⟩
    simp (disch := first | assumption | omega | exact ixN (by assumption) (by omega) (by omega) | exact ne_10 | exact ne_1000 | exact ne_4) only [s148_0, s148_1, s148_4, s148_7, s148_8, s148_9, s148_11, s148_14, s148_17, s148_18, s148_19, s148_20, s148_23, s148_26, s148_27, ↓reduceIte, eq_self, Option.bind_some, Option.bind_none, Option.toList_some, Option.toList_none, List.cons_append, List.nil_append, am_rf_s, am_rf_n, am_c1_i, am_c1_r, am_c1_n, List.all_cons, List.all_nil, Bool.and_self, Bool.and_true, Bool.true_and, List.length_cons, List.length_nil, Nat.reduceAdd, Nat.reduceSub, Nat.reduceMul, Nat.reduceLeDiff, Nat.reduceLT, Nat.zero_le, Nat.le_refl, ne_10, ne_1000, ne_4, not_false_eq_true, or_true, true_or, Nat.one_ne_zero, Nat.zero_ne_one, Nat.reduceEqDiff, Bool.true_eq_false, Bool.false_eq_true, n10, inR_e, m_isProcessor, bI_0, q0]
  by_cases q1 : inR k 0 60 = false
  · have b : okEver c k w = false := by unfold okEver; rw [q1]; simp
    rw [b]
    refine ⟨I, f, fun _ _ => rfl, ?_, hr0, FM.rf I⟩
    simp (disch := first | assumption | omega | exact ixN (by assumption) (by omega) (by omega) | exact ne_10 | exact ne_1000 | exact ne_4) only [s148_0, s148_1, s148_4, s148_7, s148_8, s148_9, s148_11, s148_14, s148_17, s148_18, s148_19, s148_20, s148_23, s148_26, s148_27, ↓reduceIte, eq_self, Option.bind_some, Option.bind_none, Option.toList_some, Option.toList_none, List.cons_append, List.nil_append, am_rf_s, am_rf_n, am_c1_i, am_c1_r, am_c1_n, List.all_cons, List.all_nil, Bool.and_self, Bool.and_true, Bool.true_and, List.length_cons, List.length_nil, Nat.reduceAdd, Nat.reduceSub, Nat.reduceMul, Nat.reduceLeDiff, Nat.reduceLT, Nat.zero_le, Nat.le_refl, ne_10, ne_1000, ne_4, not_false_eq_true, or_true, true_or, Nat.one_ne_zero, Nat.zero_ne_one, Nat.reduceEqDiff, Bool.true_eq_false, Bool.false_eq_true, n10, inR_e, m_isProcessor, c_isIn, bI_0, q0, q1]
  by_cases q2 : inR w 0 4 = false
  · have b : okEver c k w = false := by unfold okEver; rw [q2]; simp
    rw [b]
    refine ⟨I, f, fun _ _ => rfl, ?_, hr0, FM.rf I⟩
    simp (disch := first | assumption | omega | exact ixN (by assumption) (by omega) (by omega) | exact ne_10 | exact ne_1000 | exact ne_4) only [s148_0, s148_1, s148_4, s148_7, s148_8, s148_9, s148_11, s148_14, s148_17, s148_18, s148_19, s148_20, s148_23, s148_26, s148_27, ↓reduceIte, eq_self, Option.bind_some, Option.bind_none, Option.toList_some, Option.toList_none, List.cons_append, List.nil_append, am_rf_s, am_rf_n, am_c1_i, am_c1_r, am_c1_n, List.all_cons, List.all_nil, Bool.and_self, Bool.and_true, Bool.true_and, List.length_cons, List.length_nil, Nat.reduceAdd, Nat.reduceSub, Nat.reduceMul, Nat.reduceLeDiff, Nat.reduceLT, Nat.zero_le, Nat.le_refl, ne_10, ne_1000, ne_4, not_false_eq_true, or_true, true_or, Nat.one_ne_zero, Nat.zero_ne_one, Nat.reduceEqDiff, Bool.true_eq_false, Bool.false_eq_true, n10, inR_e, m_isProcessor, c_isIn, bI_0, q0, q1, q2]
  have b : okEver c k w = true := by unfold okEver; rw [nf q0, nf q1, nf q2]; rfl
  simp only [b, if_true]
  obtain ⟨c', -, hc, rfl⟩ := inR_of (nf q0) (by omega) (by omega)
  obtain ⟨k', -, hk, rfl⟩ := inR_of (nf q1) (by omega) (by omega)
  obtain ⟨w', -, hw, rfl⟩ := inR_of (nf q2) (by omega) (by omega)
  have ek : (nI c').toNatClampNeg = c' := nI_clamp (by omega)
  have ek2 : (nI k').toNatClampNeg = k' := nI_clamp (by omega)
  simp only [ek, ek2]
  obtain ⟨g, hg⟩ : ∃ g, g = fun j => if j < 1318 then f j else I 152 j := ⟨_, rfl⟩
  have hg1 : ∀ j, j < 1318 → g j = f j := fun j hj => by rw [hg]; exact if_pos hj
  have cp := m_ecopy I R K f hMK e6 (some (.int (nI c'))) (some (.int (nI k'))) (some (.int (nI w'))) (I 152) 1318 0 rfl
  have e0 : I = st I 152 (fun j => if j < 0 then f j else I 152 j) := by
    have : (fun j => if j < 0 then f j else I 152 j) = I 152 := by
      funext j; rw [if_neg (by omega)]
    rw [this, st_id]
  rw [← e0, ← hg] at cp
  have gs := m_egos R K n nc cs tx cd bg f wz hMK hW Q c' k' (hQ c' (by omega)) (by omega) hk (some (.int (nI w'))) k' 0 (st I 152 g) (by omega) (hr0.aside _) (by rw [st_eq]; exact hf g hg1)
  rw [st_eq, st_st] at gs
  obtain ⟨z, hz⟩ : ∃ z, z = sGos cd bg nc (8 + 31 * c') k' g := ⟨_, rfl⟩
  rw [← hz] at gs
  refine ⟨st I 152 z, g, hg1, ?_, hr0.aside _, FM.st I _ (by omega) (by omega)⟩
  simp (disch := first | assumption | omega | exact ixN (by assumption) (by omega) (by omega) | exact ne_10 | exact ne_1000 | exact ne_4) only [s148_0, s148_1, s148_4, s148_7, s148_8, s148_9, s148_11, s148_14, s148_17, s148_18, s148_19, s148_20, s148_23, s148_26, s148_27, s148_28, s148_29, ↓reduceIte, eq_self, Option.bind_some, Option.bind_none, Option.toList_some, Option.toList_none, List.cons_append, List.nil_append, am_rf_s, am_rf_n, am_c1_i, am_c1_r, am_c1_n, List.all_cons, List.all_nil, Bool.and_self, Bool.and_true, Bool.true_and, List.length_cons, List.length_nil, Nat.reduceAdd, Nat.reduceSub, Nat.reduceMul, Nat.reduceLeDiff, Nat.reduceLT, Nat.zero_le, Nat.le_refl, ne_10, ne_1000, ne_4, not_false_eq_true, or_true, true_or, Nat.one_ne_zero, Nat.zero_ne_one, Nat.reduceEqDiff, Bool.true_eq_false, Bool.false_eq_true, n10, inR_e, m_isProcessor, c_isIn, bI_0, q0, q1, q2, cp]
  simp (disch := first | assumption | omega | exact ixN (by assumption) (by omega) (by omega) | exact ne_10 | exact ne_1000 | exact ne_4) only [s148_59, s148_60, gs]
  rw [← hz]
  unfold sp_everV
  by_cases w0 : w' = 0
  · subst w0
    simp (disch := first | assumption | omega | exact ixN (by assumption) (by omega) (by omega) | exact ne_10 | exact ne_1000 | exact ne_4) only [s148_84, s148_85, s148_88, s148_90, s148_91, s148_92, s148_95, s148_96, s148_99, s148_99a, s148_100, s148_103, s148_105, s148_106, s148_107, s148_108, s148_111, s148_112, s148_113, s148_116, s148_116a, s148_117, s148_120, s148_122, s148_123, s148_126, s148_127, s148_128, s148_131, s148_131a, s148_132, s148_135, s148_137, s148_138, s148_139, s148_140, s148_143, s148_143a, s148_144, s148_147, s148_149, s148_151, s148_152, s148_153, ↓reduceIte, eq_self, Option.bind_some, Option.bind_none, Option.toList_some, Option.toList_none, List.cons_append, List.nil_append, am_rf_s, am_rf_n, am_c1_i, am_c1_r, am_c1_n, List.all_cons, List.all_nil, Bool.and_self, Bool.and_true, Bool.true_and, List.length_cons, List.length_nil, Nat.reduceAdd, Nat.reduceSub, Nat.reduceMul, Nat.reduceLeDiff, Nat.reduceLT, Nat.zero_le, Nat.le_refl, ne_10, ne_1000, ne_4, not_false_eq_true, or_true, true_or, Nat.one_ne_zero, Nat.zero_ne_one, Nat.reduceEqDiff, Bool.true_eq_false, Bool.false_eq_true, n10, nI_add, pk_mul, nI_clamp, nI_leI, nI_eq, ui_st, st_st, st_eq, st_ne, uf_eq, uf_ne, m_processorAt, r5]
  by_cases w1 : w' = 1
  · subst w1
    simp (disch := first | assumption | omega | exact ixN (by assumption) (by omega) (by omega) | exact ne_10 | exact ne_1000 | exact ne_4) only [s148_84, s148_85, s148_88, s148_90, s148_91, s148_92, s148_95, s148_96, s148_99, s148_99a, s148_100, s148_103, s148_105, s148_106, s148_107, s148_108, s148_111, s148_112, s148_113, s148_116, s148_116a, s148_117, s148_120, s148_122, s148_123, s148_126, s148_127, s148_128, s148_131, s148_131a, s148_132, s148_135, s148_137, s148_138, s148_139, s148_140, s148_143, s148_143a, s148_144, s148_147, s148_149, s148_151, s148_152, s148_153, ↓reduceIte, eq_self, Option.bind_some, Option.bind_none, Option.toList_some, Option.toList_none, List.cons_append, List.nil_append, am_rf_s, am_rf_n, am_c1_i, am_c1_r, am_c1_n, List.all_cons, List.all_nil, Bool.and_self, Bool.and_true, Bool.true_and, List.length_cons, List.length_nil, Nat.reduceAdd, Nat.reduceSub, Nat.reduceMul, Nat.reduceLeDiff, Nat.reduceLT, Nat.zero_le, Nat.le_refl, ne_10, ne_1000, ne_4, not_false_eq_true, or_true, true_or, Nat.one_ne_zero, Nat.zero_ne_one, Nat.reduceEqDiff, Bool.true_eq_false, Bool.false_eq_true, n10, nI_add, pk_mul, nI_clamp, nI_leI, nI_eq, ui_st, st_st, st_eq, st_ne, uf_eq, uf_ne, m_processorAt, r5]
  by_cases w2 : w' = 2
  · subst w2
    simp (disch := first | assumption | omega | exact ixN (by assumption) (by omega) (by omega) | exact ne_10 | exact ne_1000 | exact ne_4) only [s148_84, s148_85, s148_88, s148_90, s148_91, s148_92, s148_95, s148_96, s148_99, s148_99a, s148_100, s148_103, s148_105, s148_106, s148_107, s148_108, s148_111, s148_112, s148_113, s148_116, s148_116a, s148_117, s148_120, s148_122, s148_123, s148_126, s148_127, s148_128, s148_131, s148_131a, s148_132, s148_135, s148_137, s148_138, s148_139, s148_140, s148_143, s148_143a, s148_144, s148_147, s148_149, s148_151, s148_152, s148_153, ↓reduceIte, eq_self, Option.bind_some, Option.bind_none, Option.toList_some, Option.toList_none, List.cons_append, List.nil_append, am_rf_s, am_rf_n, am_c1_i, am_c1_r, am_c1_n, List.all_cons, List.all_nil, Bool.and_self, Bool.and_true, Bool.true_and, List.length_cons, List.length_nil, Nat.reduceAdd, Nat.reduceSub, Nat.reduceMul, Nat.reduceLeDiff, Nat.reduceLT, Nat.zero_le, Nat.le_refl, ne_10, ne_1000, ne_4, not_false_eq_true, or_true, true_or, Nat.one_ne_zero, Nat.zero_ne_one, Nat.reduceEqDiff, Bool.true_eq_false, Bool.false_eq_true, n10, nI_add, pk_mul, nI_clamp, nI_leI, nI_eq, ui_st, st_st, st_eq, st_ne, uf_eq, uf_ne, m_processorAt, r5]
  by_cases w3 : w' = 3
  · subst w3
    simp (disch := first | assumption | omega | exact ixN (by assumption) (by omega) (by omega) | exact ne_10 | exact ne_1000 | exact ne_4) only [s148_84, s148_85, s148_88, s148_90, s148_91, s148_92, s148_95, s148_96, s148_99, s148_99a, s148_100, s148_103, s148_105, s148_106, s148_107, s148_108, s148_111, s148_112, s148_113, s148_116, s148_116a, s148_117, s148_120, s148_122, s148_123, s148_126, s148_127, s148_128, s148_131, s148_131a, s148_132, s148_135, s148_137, s148_138, s148_139, s148_140, s148_143, s148_143a, s148_144, s148_147, s148_149, s148_151, s148_152, s148_153, ↓reduceIte, eq_self, Option.bind_some, Option.bind_none, Option.toList_some, Option.toList_none, List.cons_append, List.nil_append, am_rf_s, am_rf_n, am_c1_i, am_c1_r, am_c1_n, List.all_cons, List.all_nil, Bool.and_self, Bool.and_true, Bool.true_and, List.length_cons, List.length_nil, Nat.reduceAdd, Nat.reduceSub, Nat.reduceMul, Nat.reduceLeDiff, Nat.reduceLT, Nat.zero_le, Nat.le_refl, ne_10, ne_1000, ne_4, not_false_eq_true, or_true, true_or, Nat.one_ne_zero, Nat.zero_ne_one, Nat.reduceEqDiff, Bool.true_eq_false, Bool.false_eq_true, n10, nI_add, pk_mul, nI_clamp, nI_leI, nI_eq, ui_st, st_st, st_eq, st_ne, uf_eq, uf_ne, m_processorAt, r5]
  have w4 : w' = 4 := by omega
  subst w4
  have sm := m_esum (st I 152 z) R K hMK (some (.int (nI c'))) (some (.int (nI k'))) (some (.int (nI 4))) (some (.int (nI (8 + 31 * c')))) 8 0 (nI 0) rfl
  rw [st_eq] at sm
  simp (disch := first | assumption | omega | exact ixN (by assumption) (by omega) (by omega) | exact ne_10 | exact ne_1000 | exact ne_4) only [s148_84, s148_85, s148_88, s148_90, s148_91, s148_92, s148_95, s148_96, s148_99, s148_99a, s148_100, s148_103, s148_105, s148_106, s148_107, s148_108, s148_111, s148_112, s148_113, s148_116, s148_116a, s148_117, s148_120, s148_122, s148_123, s148_126, s148_127, s148_128, s148_131, s148_131a, s148_132, s148_135, s148_137, s148_138, s148_139, s148_140, s148_143, s148_143a, s148_144, s148_147, s148_149, s148_151, s148_152, s148_153, s148_154, s148_155, s148_157, s148_158, ↓reduceIte, eq_self, Option.bind_some, Option.bind_none, Option.toList_some, Option.toList_none, List.cons_append, List.nil_append, am_rf_s, am_rf_n, am_c1_i, am_c1_r, am_c1_n, List.all_cons, List.all_nil, Bool.and_self, Bool.and_true, Bool.true_and, List.length_cons, List.length_nil, Nat.reduceAdd, Nat.reduceSub, Nat.reduceMul, Nat.reduceLeDiff, Nat.reduceLT, Nat.zero_le, Nat.le_refl, ne_10, ne_1000, ne_4, not_false_eq_true, or_true, true_or, Nat.one_ne_zero, Nat.zero_ne_one, Nat.reduceEqDiff, Bool.true_eq_false, Bool.false_eq_true, n10, nI_add, pk_mul, nI_clamp, nI_leI, nI_eq, m_processorAt, sm]
end MX
