/-! the class: Text.copy, filter -/
theorem am_mk_e (I : am_I) (R : am_R) (K : am_K) (l s : Nat) : am_mk (I, R, K) l s = (am_zi I K.2.1, am_zr R K.2.1, (am_ul K.1 K.2.1 l, K.2.1 + 1, K.2.2 + s)) := rfl
/-- one cell more, of length l, with s slots -/
def kN (K : am_K) (l s : Nat) : am_K := (am_ul K.1 K.2.1 l, K.2.1 + 1, K.2.2 + s)
theorem am_mk_k (I : am_I) (R : am_R) (K : am_K) (l s : Nat) : am_mk (I, R, K) l s = (am_zi I K.2.1, am_zr R K.2.1, kN K l s) := rfl
theorem kN_xe (R : am_R) (K : am_K) (l s : Nat) : XE R K (am_zr R K.2.1) (kN K l s) := ⟨fun a i _ ha => by unfold am_zr; rw [if_neg (by omega)], fun a ha => by show am_ul K.1 K.2.1 l a = _; unfold am_ul; rw [if_neg (by omega)], Nat.le_succ _⟩
theorem kN_is {K : am_K} {l s t : Nat} (h3 : 3 ≤ K.2.1) (ht : am_tag K.2.1 = t) : am_isK (kN K l s) K.2.1 t = true := by
  unfold am_isK kN
  simp [h3, ht]
theorem kN_len (K : am_K) (l s : Nat) : (kN K l s).1 K.2.1 = l := by
  show am_ul K.1 K.2.1 l K.2.1 = l
  unfold am_ul; rw [if_pos rfl]
theorem tag_e {j : Nat} : am_tag (156 + 2 * j) = 8 := by
  unfold am_tag; rw [if_neg (by omega), if_pos (by omega)]
theorem tag_o {j : Nat} : am_tag (156 + 2 * j + 1) = 22 := by
  unfold am_tag; rw [if_neg (by omega), if_neg (by omega)]
section DP
variable (I : am_I) (R : am_R) (K : am_K)
theorem c_Tinit (x n : Nat) (h : am_isK K x 8 = true) (ht : am_tag K.2.1 = 22) (hn : n ≤ 200) : ev 64 0 [some (.ref x), some (.int (nI n))] [] (I, R, K) = some (none, (am_zi I K.2.1, am_ur (am_zr R K.2.1) x 0 (some K.2.1), kN K n n)) := by
  have k2 : am_isK (kN K n n) x 8 = true := isK_xe (kN_xe R K n n) h
  have mx := c_max I R K (nI 0) (nI n)
  have em : (if nI 0 < nI n then nI n else nI 0) = nI n := by
    by_cases z : n = 0
    · subst z; rfl
    · rw [if_pos (nI_lt (by omega) (by omega))]
  rw [em] at mx
  have p0 : ¬ nI n < 0 := nI_pos (by omega)
  have p1 : (nI n).toNatClampNeg ≤ 10000 := by rw [nI_clamp (by omega)]; omega
  have p2 : (nI n).toNatClampNeg = n := nI_clamp (by omega)
  simp (disch := first | assumption | omega | exact ixN (by assumption) (by omega) (by omega) | exact ne_10 | exact ne_1000 | exact ne_4) only [s64_0, s64_0a, s64_1, s64_4, s64_4a, s64_5, s64_6, s64_7, s64_10, s64_12, s64_12a, s64_15, ↓reduceIte, eq_self, Option.bind_some, Option.bind_none, Option.toList_some, Option.toList_none, List.cons_append, List.nil_append, am_rf_s, am_rf_n, am_c1_i, am_c1_r, am_c1_n, List.all_cons, List.all_nil, Bool.and_self, Bool.and_true, Bool.true_and, List.length_cons, List.length_nil, Nat.reduceAdd, Nat.reduceSub, Nat.reduceMul, Nat.reduceLeDiff, Nat.reduceLT, Nat.zero_le, Nat.le_refl, ne_10, ne_1000, ne_4, not_false_eq_true, or_true, true_or, Nat.one_ne_zero, Nat.zero_ne_one, Nat.reduceEqDiff, Bool.true_eq_false, Bool.false_eq_true, n10, mx, p2, am_mk_k]
theorem c_tcopy1 (a d m n x : Nat) (tx : Nat → Int32) (hx : a ≠ x ∧ a ≠ x + 1 ∧ d ≠ x ∧ d ≠ x + 1) : ∀ (r i : Nat) (I : am_I), i + r = n → RT I R K a d m n tx → RT I R K x (x + 1) n i tx → ∃ I', ev 69 14 [some (.ref a), some (.ref x), some (.int (nI i))] [] (I, R, K) = some (some (.ref x), (I', R, K)) ∧ RT I' R K x (x + 1) n n tx ∧ ∀ b, b ≠ x → b ≠ x + 1 → I' b = I b := by
  intro r
  induction r with
  | zero =>
    intro i I hi hT hU
    have hi : i = n := by omega
    subst hi
    obtain ⟨t1, t2, t3, t4, t5, t6, t7, t8⟩ := id hT
    refine ⟨I, ?_, hU, fun _ _ _ => rfl⟩
    simp (disch := first | assumption | omega | exact ixN (by assumption) (by omega) (by omega) | exact ne_10 | exact ne_1000 | exact ne_4) only [s69_14, s69_15, s69_15a, s69_16, s69_19, s69_22, s69_22a, s69_23, s69_23a, s69_24, s69_25, s69_28, s69_31, s69_32, s69_35, s69_38, s69_38a, s69_39, s69_39a, ↓reduceIte, eq_self, Option.bind_some, Option.bind_none, Option.toList_some, Option.toList_none, List.cons_append, List.nil_append, am_rf_s, am_rf_n, am_c1_i, am_c1_r, am_c1_n, List.all_cons, List.all_nil, Bool.and_self, Bool.and_true, Bool.true_and, List.length_cons, List.length_nil, Nat.reduceAdd, Nat.reduceSub, Nat.reduceMul, Nat.reduceLeDiff, Nat.reduceLT, Nat.zero_le, Nat.le_refl, ne_10, ne_1000, ne_4, not_false_eq_true, or_true, true_or, Nat.one_ne_zero, Nat.zero_ne_one, Nat.reduceEqDiff, Bool.true_eq_false, Bool.false_eq_true, n10, nI_leI, t5]
  | succ r ih =>
    intro i I hi hT hU
    obtain ⟨t1, t2, t3, t4, t5, t6, t7, t8⟩ := id hT
    have u1 := hU.1
    have q0 : ¬ n ≤ i := by omega
    have ca := c_at I R K a d m n tx hT i (by omega)
    have et : tN tx n i = tx i := by unfold tN; rw [if_pos (by omega)]
    rw [et] at ca
    have ad := c_add I R K x (x + 1) n i tx hU (tx i)
    rw [if_neg (by omega)] at ad
    have hh : am_h (tx i) = tx i := by rw [← t8 i (by omega), am_hh]
    have rt := RT.add I R K x (x + 1) n i tx hU (by omega) (tx i) hh
    rw [uf_id] at rt
    obtain ⟨J, hJ⟩ : ∃ J, J = st (st I (x + 1) (uf (I (x + 1)) i (tx i))) x (uf (I x) 1 (nI (i + 1))) := ⟨_, rfl⟩
    rw [← hJ] at ad rt
    have o : ∀ b, b ≠ x → b ≠ x + 1 → J b = I b := fun b z1 z2 => by rw [hJ, st_ne _ _ z1, st_ne _ _ z2]
    obtain ⟨J2, w1, w2, w3⟩ := ih (i + 1) J (by omega) (hT.fr (o a hx.1 hx.2.1) (o d hx.2.2.1 hx.2.2.2)) rt
    refine ⟨J2, ?_, w2, fun b z1 z2 => by rw [w3 b z1 z2, o b z1 z2]⟩
    rw [s69_14]
    simp (disch := first | assumption | omega | exact ixN (by assumption) (by omega) (by omega) | exact ne_10 | exact ne_1000 | exact ne_4) only [s69_15, s69_15a, s69_16, s69_19, s69_22, s69_22a, s69_23, s69_23a, s69_24, s69_25, s69_28, s69_31, s69_32, s69_35, ↓reduceIte, eq_self, Option.bind_some, Option.bind_none, Option.toList_some, Option.toList_none, List.cons_append, List.nil_append, am_rf_s, am_rf_n, am_c1_i, am_c1_r, am_c1_n, List.all_cons, List.all_nil, Bool.and_self, Bool.and_true, Bool.true_and, List.length_cons, List.length_nil, Nat.reduceAdd, Nat.reduceSub, Nat.reduceMul, Nat.reduceLeDiff, Nat.reduceLT, Nat.zero_le, Nat.le_refl, ne_10, ne_1000, ne_4, not_false_eq_true, or_true, true_or, Nat.one_ne_zero, Nat.zero_ne_one, Nat.reduceEqDiff, Bool.true_eq_false, Bool.false_eq_true, n10, nI_leI, nI_add, t5, q0, ca, ad, w1]
theorem c_tcopy (a d m n j : Nat) (tx : Nat → Int32) (hT : RT I R K a d m n tx) (hK : K.2.1 = 156 + 2 * j) : ∃ I' R' K', ev 69 0 [some (.ref a), none, none] [] (I, R, K) = some (some (.ref K.2.1), (I', R', K')) ∧ RT I' R' K' K.2.1 (K.2.1 + 1) n n tx ∧ (∀ b, b < K.2.1 → I' b = I b ∧ ∀ i, R' b i = R b i) ∧ XE R K R' K' ∧ K'.2.1 = K.2.1 + 2 ∧ K'.2.2 = K.2.2 + 2 + n := by
  obtain ⟨t1, t2, t3, t4, t5, t6, t7, t8⟩ := id hT
  have tg : am_tag K.2.1 = 8 := by rw [hK]; exact tag_e
  have la := isK_lt t1
  have ld := isK_lt t2
  have xe1 := kN_xe R K 0 2
  obtain ⟨K1, hK1⟩ : ∃ K1, K1 = kN K 0 2 := ⟨_, rfl⟩
  obtain ⟨R1, hR1⟩ : ∃ R1, R1 = am_zr R K.2.1 := ⟨_, rfl⟩
  obtain ⟨I1, hI1⟩ : ∃ I1, I1 = am_zi I K.2.1 := ⟨_, rfl⟩
  rw [← hK1, ← hR1] at xe1
  have k1 : am_isK K1 a 8 = true := isK_xe xe1 t1
  have kx : am_isK K1 K.2.1 8 = true := by rw [hK1]; exact kN_is (by omega) tg
  have n1 : K1.2.1 = K.2.1 + 1 := by rw [hK1]; rfl
  have s1 : K1.2.2 = K.2.2 + 2 := by rw [hK1]; rfl
  have tg1 : am_tag K1.2.1 = 22 := by rw [n1, hK]; exact tag_o
  have i1 : ∀ b, b ≠ K.2.1 → I1 b = I b := fun b hb => by funext i; rw [hI1]; unfold am_zi; rw [if_neg hb]
  have i1z : ∀ i, I1 K.2.1 i = nI 0 := fun i => by rw [hI1]; unfold am_zi; rw [if_pos rfl]; rfl
  have ia : I1 a 1 = nI n := by rw [i1 a (by omega)]; exact t5
  have ti := c_Tinit I1 R1 K1 K.2.1 n kx tg1 (by omega)
  have xe2 : XE R1 K1 (am_zr R1 K1.2.1) (kN K1 n n) := kN_xe R1 K1 n n
  obtain ⟨K2, hK2⟩ : ∃ K2, K2 = kN K1 n n := ⟨_, rfl⟩
  obtain ⟨R2, hR2⟩ : ∃ R2, R2 = am_ur (am_zr R1 K1.2.1) K.2.1 0 (some K1.2.1) := ⟨_, rfl⟩
  obtain ⟨I2, hI2⟩ : ∃ I2, I2 = am_zi I1 K1.2.1 := ⟨_, rfl⟩
  rw [← hK2, ← hR2, ← hI2] at ti
  rw [← hK2] at xe2
  have n2 : K2.2.1 = K.2.1 + 2 := by rw [hK2]; show K1.2.1 + 1 = _; rw [n1]
  have i2 : ∀ b, b ≠ K.2.1 + 1 → I2 b = I1 b := fun b hb => by funext i; rw [hI2]; unfold am_zi; rw [if_neg (by rw [n1]; exact hb)]
  have r2 : ∀ b, b < K.2.1 → ∀ i, R2 b i = R b i := fun b hb i => by
    rw [hR2]; unfold am_ur; rw [if_neg (by omega)]; unfold am_zr; rw [if_neg (by omega), hR1]; unfold am_zr; rw [if_neg (by omega)]
  have xe : XE R K R2 K2 := ⟨fun b i _ hb => r2 b hb i, fun b hb => by rw [xe2.2.1 b (by omega), xe1.2.1 b hb], by omega⟩
  have T2 : RT I2 R2 K2 a d m n tx := (hT.fr (by rw [i2 a (by omega), i1 a (by omega)]) (by rw [i2 d (by omega), i1 d (by omega)])).xe xe
  have U2 : RT I2 R2 K2 K.2.1 (K.2.1 + 1) n 0 tx := by
    refine ⟨isK_xe xe2 kx, ?_, ?_, ?_, ?_, by omega, by omega, fun i hi => by omega⟩
    · rw [hK2, ← n1]; exact kN_is (by omega) tg1
    · rw [hR2]; unfold am_ur; rw [if_pos ⟨rfl, rfl⟩, n1]
    · rw [hK2, ← n1]; exact kN_len K1 n n
    · rw [i2 _ (by omega)]; exact i1z 1
  obtain ⟨I3, w1, w2, w3⟩ := c_tcopy1 R2 K2 a d m n K.2.1 tx (by omega) n 0 I2 (by omega) T2 U2
  refine ⟨I3, R2, K2, ?_, w2, fun b hb => ⟨by rw [w3 b (by omega) (by omega), i2 b (by omega), i1 b (by omega)], r2 b hb⟩, xe, n2, by rw [hK2]; show K1.2.2 + n = _; rw [s1]⟩
  simp (disch := first | assumption | omega | exact ixN (by assumption) (by omega) (by omega) | exact ne_10 | exact ne_1000 | exact ne_4) only [s69_0, s69_3, s69_4, s69_4a, s69_5, s69_8, s69_11, s69_11a, s69_12, s69_13, ↓reduceIte, eq_self, Option.bind_some, Option.bind_none, Option.toList_some, Option.toList_none, List.cons_append, List.nil_append, am_rf_s, am_rf_n, am_c1_i, am_c1_r, am_c1_n, List.all_cons, List.all_nil, Bool.and_self, Bool.and_true, Bool.true_and, List.length_cons, List.length_nil, Nat.reduceAdd, Nat.reduceSub, Nat.reduceMul, Nat.reduceLeDiff, Nat.reduceLT, Nat.zero_le, Nat.le_refl, ne_10, ne_1000, ne_4, not_false_eq_true, or_true, true_or, Nat.one_ne_zero, Nat.zero_ne_one, Nat.reduceEqDiff, Bool.true_eq_false, Bool.false_eq_true, n10, am_mk_k, ← hI1, ← hR1, ← hK1, ia, ti, w1]
end DP
theorem RS.fil {I I' : am_I} {R R' : am_R} {K K' : am_K} {f : Nat → Int32} (h : RS I R K 14 f) {p n : Nat} {tx : Nat → Int32} (hp : p < 6) (h3 : ¬ f (70 + 208 * p) = nI 3) (hI : ∀ a, 14 ≤ a → a < 38 → I' a = I a) (hR : ∀ q, q < 6 → q ≠ p → R' (32 + q) 8 = R (32 + q) 8) (e : XE R K R' K') (hd : DY I K I') (hF : FL I' R' K' (32 + p) (70 + 208 * p) (sFil f tx n p)) : RS I' R' K' 14 (sFil f tx n p) := by
  obtain ⟨s1, s2, s3, s4⟩ := h
  have out : ∀ j, (j < 70 + 208 * p + 7 ∨ 70 + 208 * p + 208 ≤ j) → sFil f tx n p j = f j := fun j hj => by
    unfold sFil; rw [if_neg (by omega), uf_ne _ _ (by omega)]
  refine ⟨fun k hk => by rw [hI _ (by omega) (by omega), out _ (by omega)]; exact s1 k hk, s2.cg (fun j hj => hI _ (by omega) (by omega)) (fun j _ _ => out _ (by omega)), s3.cg (fun j hj => hI _ (by omega) (by omega)) (fun j _ _ => out _ (by omega)), fun q hq => ?_⟩
  by_cases z : q = p
  · subst z
    obtain ⟨p1, p2, p3, p4⟩ := s4 q hq
    obtain ⟨⟨a1, a2, a3, a4, a5, a6⟩, a7⟩ := p4 h3
    rw [show 14 + 18 + q = 32 + q by omega] at *
    have i := hI (32 + q) (by omega) (by omega)
    refine ⟨by rw [i]; exact p1, by rw [i, out _ (by omega)]; exact p2, by rw [out _ (by omega)]; exact p3, fun _ => ⟨⟨?_, ?_, ?_, ?_, ?_, ?_⟩, hF⟩⟩
    · rw [i, out _ (by omega)]; exact a1
    · rw [i, out _ (by omega)]; exact a2
    · rw [i, out _ (by omega)]; exact a3
    · rw [i, out _ (by omega)]; exact a4
    · rw [i, out _ (by omega)]; exact a5
    · rw [i, out _ (by omega)]; exact a6
  · refine (s4 q hq).fr (hI _ (by omega) (by omega)) ?_ e hd (fun j _ _ => out _ (by omega))
    rw [show 14 + 18 + q = 32 + q by omega]
    exact hR q hq z
/-- how room may grow in a call -/
def KG (K K' : am_K) : Prop := (K'.2.1 = K.2.1 ∨ K'.2.1 = K.2.1 + 2) ∧ K'.2.2 ≤ K.2.2 + 202
theorem KG.rf (K : am_K) : KG K K := ⟨Or.inl rfl, by omega⟩
section DQ
variable (I : am_I) (R : am_R) (K : am_K) (n nc cs : Nat) (tx cd bg f wz : Nat → Int32)
theorem k_filter (h : CH I R K n tx nc cd bg f cs wz) (hw : WF f e0) (j : Nat) (hK : K.2.1 = 156 + 2 * j) (p : Int32) : ∃ I' R' K', ev 78 0 [some (.ref 3), some (.int p), none] [] (I, R, K) = some (some (.int (sp_filter f tx n p)), (I', R', K')) ∧ CH I' R' K' n tx nc cd bg (sf_filter f tx n p) (kpC (okFil f tx n p) cs) (kpW (okFil f tx n p) wz f cs) ∧ FC I I' ∧ XE R K R' K' ∧ KG K K' := by
  obtain ⟨x1, xt, xl, xd, xn, xh, xs, -⟩ := id h.1.1
  have sb := h.1.2.2.2.1
  have kb := sb.1.1
  have kh := h.1.2.2.2.2.1.1
  have rm : R 14 0 = some 15 := sb.2.1.1
  have ks := h.1.2.2.2.2.2.1.1
  have k4 := h.2.1.1
  have i4 := h.2.1.2.2.2.2.1
  have hn := h.2.1.2.2.2.2.2.1
  have n0 : nI 0 = (0 : Int32) := rfl
  unfold sp_filter
  by_cases c0 : isPr f p = false
  · have e : okFil f tx n p = false := by unfold okFil; rw [c0]; rfl
    have pn := k_pgn I R K n nc cs tx cd bg f wz h p c0
    unfold sf_filter
    rw [e, if_pos c0]
    refine ⟨I, R, K, ?_, h, FC.rf I, XE.rf R K, KG.rf K⟩
    simp (disch := first | assumption | omega | exact ixN (by assumption) (by omega) (by omega) | exact ne_10 | exact ne_1000 | exact ne_4) only [s78_0, s78_0a, s78_1, s78_4, s78_5, s78_8, s78_8a, s78_9, s78_9a, s78_10, s78_10a, s78_13, s78_14, s78_15, s78_15a, s78_16, s78_19, s78_22, s78_25, s78_25a, s78_26, s78_29, s78_29a, s78_30, s78_33, s78_34, s78_34a, s78_35, s78_38, s78_41, s78_44, s78_46, s78_49, s78_51, s78_52, s78_52a, s78_53, s78_56, s78_56a, s78_57, s78_60, s78_63, s78_63a, s78_64, s78_64a, s78_65, s78_68, s78_71, s78_74, s78_74a, s78_75, s78_78, s78_81, s78_84, s78_85, s78_85a, s78_88, s78_88a, s78_89, s78_92, s78_95, ↓reduceIte, eq_self, Option.bind_some, Option.bind_none, Option.toList_some, Option.toList_none, List.cons_append, List.nil_append, am_rf_s, am_rf_n, am_c1_i, am_c1_r, am_c1_n, List.all_cons, List.all_nil, Bool.and_self, Bool.and_true, Bool.true_and, List.length_cons, List.length_nil, Nat.reduceAdd, Nat.reduceSub, Nat.reduceMul, Nat.reduceLeDiff, Nat.reduceLT, Nat.zero_le, Nat.le_refl, ne_10, ne_1000, ne_4, not_false_eq_true, or_true, true_or, Nat.one_ne_zero, Nat.zero_ne_one, Nat.reduceEqDiff, Bool.true_eq_false, Bool.false_eq_true, n10, xn, pn]
  · have c0' := nf c0
    rw [if_neg c0]
    obtain ⟨q, hq, rfl, h3a, h3⟩ := isPr_of c0'
    obtain ⟨pn, kp, i1⟩ := k_png I R K n nc cs tx cd bg f wz h q hq c0'
    have es : okFil f tx n (nI q) = true → sf_filter f tx n (nI q) = sFil f tx n q := fun e => by unfold sf_filter; rw [e, if_pos rfl, nI_clamp (show q < 2 ^ 31 by omega)]
    by_cases c1 : n = 0
    · subst c1
      have e : okFil f tx 0 (nI q) = true := by unfold okFil; rw [c0']; rfl
      rw [es e, e, if_neg (by decide)]
      obtain ⟨J, S, v1, v2, v3, v4, v5⟩ := k_keep I R K 0 nc cs tx cd bg f wz h hw.wb
      have xt' := v2.1.1.2.1
      have j4 := v2.2.1.2.2.2.2.1
      have xe2 : XE S K (am_ur S (32 + q) 8 none) K := XE.ur S K _ _
      have s3 : RS J (am_ur S (32 + q) 8 none) K 14 (sFil f tx 0 q) := v2.2.2.2.2.1.fil hq h3 (fun _ _ _ => rfl) (fun y _ hy => by unfold am_ur; rw [if_neg (by omega)]) xe2 (DY.rf J K) (Or.inl ⟨by unfold am_ur; rw [if_pos ⟨rfl, rfl⟩], by unfold sFil; rw [if_neg (by omega), uf_eq]⟩)
      refine ⟨J, am_ur S (32 + q) 8 none, K, ?_, v2.up xe2 (fun _ _ _ => rfl) s3 (v2.2.2.2.2.2.fr (fun _ _ _ => rfl) (fun a _ _ => by unfold am_ur; rw [if_neg (by omega)]) xe2 (DY.rf J K)), v3, v4.tr xe2, KG.rf K⟩
      have x3' : R 3 0 = some 4 := xt
      have r4 := (v5 3 (by omega)).2
      have l0 : nI 0 ≤ nI 0 := Int32.le_refl _
      have xu : am_ur S (32 + q) 8 none 3 0 = some 4 := by unfold am_ur; rw [if_neg (by omega)]; exact xt'
      simp (disch := first | assumption | omega | exact ixN (by assumption) (by omega) (by omega) | exact ne_10 | exact ne_1000 | exact ne_4) only [s78_0, s78_0a, s78_1, s78_4, s78_5, s78_8, s78_8a, s78_9, s78_9a, s78_10, s78_10a, s78_13, s78_14, s78_15, s78_15a, s78_16, s78_19, s78_22, s78_25, s78_25a, s78_26, s78_29, s78_29a, s78_30, s78_33, s78_34, s78_34a, s78_35, s78_38, s78_41, s78_44, s78_46, s78_49, s78_51, s78_52, s78_52a, s78_53, s78_56, s78_56a, s78_57, s78_60, s78_63, s78_63a, s78_64, s78_64a, s78_65, s78_68, s78_71, s78_74, s78_74a, s78_75, s78_78, s78_81, s78_84, s78_85, s78_85a, s78_88, s78_88a, s78_89, s78_92, s78_95, ↓reduceIte, eq_self, Option.bind_some, Option.bind_none, Option.toList_some, Option.toList_none, List.cons_append, List.nil_append, am_rf_s, am_rf_n, am_c1_i, am_c1_r, am_c1_n, List.all_cons, List.all_nil, Bool.and_self, Bool.and_true, Bool.true_and, List.length_cons, List.length_nil, Nat.reduceAdd, Nat.reduceSub, Nat.reduceMul, Nat.reduceLeDiff, Nat.reduceLT, Nat.zero_le, Nat.le_refl, ne_10, ne_1000, ne_4, not_false_eq_true, or_true, true_or, Nat.one_ne_zero, Nat.zero_ne_one, Nat.reduceEqDiff, Bool.true_eq_false, Bool.false_eq_true, n10, xn, xt, xh, pn, i4, l0, v1, xt', j4, xu]
    · have l0 : ¬ nI n ≤ nI 0 := by rw [nI_leI (by omega) (by omega)]; omega
      obtain ⟨J0, a1, a2⟩ := c_ask I R K h.1.2.2.2.2.2.1 15 4 5 200 n tx f (nI 0) (nb_nI (by omega)) sb.2.2.1 (by omega) (by omega) hw.1 h.2.1 h.2.2.2.2.1.1
      have ap := (ask_pos (g := tx) (n := n) hw.1 (nb_nI (show 0 < 1000 by omega))).2
      have h0 : CH J0 R K n tx nc cd bg f cs wz := h.sk (fun a ha => a2 a (by omega) (by omega))
      have fc0 : FC I J0 := fun a z1 z2 => a2 a (by omega) (by omega)
      by_cases c2 : nI 0 ≤ askI (kask f tx n (nI 0))
      · have e : okFil f tx n (nI q) = true := by unfold okFil; rw [c0']; simp [c2]
        have ca : ¬ askC (kask f tx n (nI 0)) = -2 := by rw [ap]; exact fun z => z c2
        rw [es e, e, if_neg (by decide)]
        obtain ⟨J, S, v1, v2, v3, v4, v5⟩ := k_keep J0 R K n nc cs tx cd bg f wz h0 hw.wb
        have xt' := v2.1.1.2.1
        have j4 := v2.2.1.2.2.2.2.1
        obtain ⟨J2, S2, K2, w1, w2, w3, w4, w5, w6⟩ := c_tcopy J S K 4 5 200 n j tx v2.2.1 hK
        have k3' : am_isK K2 3 9 = true := isK_xe w4 x1
        have kp2 : am_isK K2 (32 + q) 3 = true := isK_xe w4 kp
        have k42 : am_isK K2 4 8 = true := isK_xe w4 k4
        have xt2 : S2 3 0 = some 4 := by rw [(w3 3 (by omega)).2 0]; exact xt'
        have j42 : J2 4 1 = nI n := by rw [(w3 4 (by omega)).1]; exact j4
        have xe2 : XE S2 K2 (am_ur S2 (32 + q) 8 (some K.2.1)) K2 := XE.ur S2 K2 _ _
        have xe3 := w4.tr xe2
        have ru : ∀ a, a < K.2.1 → a ≠ 32 + q → am_ur S2 (32 + q) 8 (some K.2.1) a 8 = S a 8 := fun a ha hne => by
          unfold am_ur; rw [if_neg (fun z => hne z.1)]; exact (w3 a ha).2 8
        have dy : DY J K J2 := fun a _ ha => (w3 a ha).1
        have s3 : RS J2 (am_ur S2 (32 + q) 8 (some K.2.1)) K2 14 (sFil f tx n q) := by
          refine v2.2.2.2.2.1.fil hq h3 (fun a _ _ => (w3 a (by omega)).1) (fun y _ hy => ru _ (by omega) (by omega)) xe3 dy (Or.inr ⟨K.2.1, n, by unfold am_ur; rw [if_pos ⟨rfl, rfl⟩], by omega, by omega, by unfold sFil; rw [if_neg (by omega), uf_eq], ?_⟩)
          refine (w2.xe xe2).cg (fun i hi => ?_)
          unfold sFil
          rw [if_pos (by omega), if_pos (by omega)]
          congr 1
          omega
        refine ⟨J2, am_ur S2 (32 + q) 8 (some K.2.1), K2, ?_, v2.up xe3 (fun a _ _ => (w3 a (by omega)).1) s3 (v2.2.2.2.2.2.fr (fun a _ _ => (w3 a (by omega)).1) (fun a _ _ => ru a (by omega) (by omega)) xe3 dy), fc0.tr (v3.tr (fun a z1 z2 => (w3 a (by omega)).1)), v4.tr xe3, Or.inr w5, by omega⟩
        have xu : am_ur S2 (32 + q) 8 (some K.2.1) 3 0 = some 4 := by unfold am_ur; rw [if_neg (by omega)]; exact xt2
        simp (disch := first | assumption | omega | exact ixN (by assumption) (by omega) (by omega) | exact ne_10 | exact ne_1000 | exact ne_4) only [s78_0, s78_0a, s78_1, s78_4, s78_5, s78_8, s78_8a, s78_9, s78_9a, s78_10, s78_10a, s78_13, s78_14, s78_15, s78_15a, s78_16, s78_19, s78_22, s78_25, s78_25a, s78_26, s78_29, s78_29a, s78_30, s78_33, s78_34, s78_34a, s78_35, s78_38, s78_41, s78_44, s78_46, s78_49, s78_51, s78_52, s78_52a, s78_53, s78_56, s78_56a, s78_57, s78_60, s78_63, s78_63a, s78_64, s78_64a, s78_65, s78_68, s78_71, s78_74, s78_74a, s78_75, s78_78, s78_81, s78_84, s78_85, s78_85a, s78_88, s78_88a, s78_89, s78_92, s78_95, ↓reduceIte, eq_self, Option.bind_some, Option.bind_none, Option.toList_some, Option.toList_none, List.cons_append, List.nil_append, am_rf_s, am_rf_n, am_c1_i, am_c1_r, am_c1_n, List.all_cons, List.all_nil, Bool.and_self, Bool.and_true, Bool.true_and, List.length_cons, List.length_nil, Nat.reduceAdd, Nat.reduceSub, Nat.reduceMul, Nat.reduceLeDiff, Nat.reduceLT, Nat.zero_le, Nat.le_refl, ne_10, ne_1000, ne_4, not_false_eq_true, or_true, true_or, Nat.one_ne_zero, Nat.zero_ne_one, Nat.reduceEqDiff, Bool.true_eq_false, Bool.false_eq_true, n10, xn, xt, xh, xs, rm, pn, i4, l0, a1, ca, v1, xt', j4, w1, xu, j42]
      · have e : okFil f tx n (nI q) = false := by unfold okFil; simp [c1, c2]
        have ca : askC (kask f tx n (nI 0)) = -2 := by rw [ap]; exact c2
        rw [ca] at a1
        unfold sf_filter
        rw [e, if_pos rfl]
        refine ⟨J0, R, K, ?_, h0, fc0, XE.rf R K, KG.rf K⟩
        simp (disch := first | assumption | omega | exact ixN (by assumption) (by omega) (by omega) | exact ne_10 | exact ne_1000 | exact ne_4) only [s78_0, s78_0a, s78_1, s78_4, s78_5, s78_8, s78_8a, s78_9, s78_9a, s78_10, s78_10a, s78_13, s78_14, s78_15, s78_15a, s78_16, s78_19, s78_22, s78_25, s78_25a, s78_26, s78_29, s78_29a, s78_30, s78_33, s78_34, s78_34a, s78_35, s78_38, s78_41, s78_44, s78_46, s78_49, s78_51, s78_52, s78_52a, s78_53, s78_56, s78_56a, s78_57, s78_60, s78_63, s78_63a, s78_64, s78_64a, s78_65, s78_68, s78_71, s78_74, s78_74a, s78_75, s78_78, s78_81, s78_84, s78_85, s78_85a, s78_88, s78_88a, s78_89, s78_92, s78_95, ↓reduceIte, eq_self, Option.bind_some, Option.bind_none, Option.toList_some, Option.toList_none, List.cons_append, List.nil_append, am_rf_s, am_rf_n, am_c1_i, am_c1_r, am_c1_n, List.all_cons, List.all_nil, Bool.and_self, Bool.and_true, Bool.true_and, List.length_cons, List.length_nil, Nat.reduceAdd, Nat.reduceSub, Nat.reduceMul, Nat.reduceLeDiff, Nat.reduceLT, Nat.zero_le, Nat.le_refl, ne_10, ne_1000, ne_4, not_false_eq_true, or_true, true_or, Nat.one_ne_zero, Nat.zero_ne_one, Nat.reduceEqDiff, Bool.true_eq_false, Bool.false_eq_true, n10, xn, xt, xs, rm, pn, i4, l0, a1]
end DQ
