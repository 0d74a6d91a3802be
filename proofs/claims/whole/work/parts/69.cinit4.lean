/-! the class's constructor: the first code is read -/
def txA : Nat → Int32 := fun i => am_bytes.getD i 0
theorem i2c_h (x : Int32) : (x.toUInt32 % 65536).toInt32 = am_h x := rfl
theorem txA_l : ∀ k, k < 24 → am_h (am_bytes.getD k 0 &&& nI 255) = am_bytes.getD k 0 ∧ am_h (am_bytes.getD k 0) = am_bytes.getD k 0 := by decide +kernel
theorem rdA : rd txA 24 = none := by decide +kernel
theorem okA : okLay txA 24 = true := by decide +kernel
section DU
variable (R : am_R) (K : am_K)
theorem c_len1 (I : am_I) : ev 154 0 [some (.ref 1)] [] (I, R, K) = some (some (.int (nI 24)), (I, R, K)) := by
  have e : nI 24 >>> (nI 0 &&& 31) = nI 24 := by decide
  simp (disch := first | assumption | omega | exact ixN (by assumption) (by omega) (by omega) | exact ne_10 | exact ne_1000 | exact ne_4) only [s154_0, s154_0a, s154_1, s154_4, s154_5, s154_5a, s154_6, s154_9, s154_10, s156_0, s156_3, s156_6, s156_6a, s156_7, s156_10, s156_13, s156_14, ↓reduceIte, eq_self, Option.bind_some, Option.bind_none, Option.toList_some, Option.toList_none, List.cons_append, List.nil_append, am_rf_s, am_rf_n, am_c1_i, am_c1_r, am_c1_n, List.all_cons, List.all_nil, Bool.and_self, Bool.and_true, Bool.true_and, List.length_cons, List.length_nil, Nat.reduceAdd, Nat.reduceSub, Nat.reduceMul, Nat.reduceLeDiff, Nat.reduceLT, Nat.zero_le, Nat.le_refl, ne_10, ne_1000, ne_4, not_false_eq_true, or_true, true_or, Nat.one_ne_zero, Nat.zero_ne_one, Nat.reduceEqDiff, Bool.true_eq_false, Bool.false_eq_true, n10, e]
theorem c_chr1 (I : am_I) (k : Nat) (hk : k < 24) : ev 155 0 [some (.ref 1), some (.int (nI k))] [] (I, R, K) = some (some (.int (txA k)), (I, R, K)) := by
  have h0 : ¬ nI k < nI 0 := nI_pos (by omega)
  have h1 : nI k < nI 24 := nI_lt hk (by omega)
  have hx : am_ix (nI k) 24 = true := by
    unfold am_ix
    have h2 : ¬ nI k < 0 := nI_pos (by omega)
    rw [nI_clamp (by omega)]
    simp [h2]; omega
  have hl := (txA_l k hk).1
  have e : some (some (Value.int (txA k)), (I, R, K)) = some (some (Value.int (am_h (am_bytes.getD k 0 &&& nI 255))), (I, R, K)) := by rw [hl]; rfl
  rw [e]
  have lat : ev 157 0 [some (.ref 1)] [] (I, R, K) = some (some (.int (nI 1)), (I, R, K)) := by
    simp (disch := first | assumption | omega | exact ixN (by assumption) (by omega) (by omega) | exact ne_10 | exact ne_1000 | exact ne_4) only [s157_0, s157_3, s157_6, s157_6a, s157_7, s157_10, s157_13, s157_14, s157_17, s157_18, s157_18a, s157_18b, s157_18c, ↓reduceIte, eq_self, Option.bind_some, Option.bind_none, Option.toList_some, Option.toList_none, List.cons_append, List.nil_append, am_rf_s, am_rf_n, am_c1_i, am_c1_r, am_c1_n, List.all_cons, List.all_nil, Bool.and_self, Bool.and_true, Bool.true_and, List.length_cons, List.length_nil, Nat.reduceAdd, Nat.reduceSub, Nat.reduceMul, Nat.reduceLeDiff, Nat.reduceLT, Nat.zero_le, Nat.le_refl, ne_10, ne_1000, ne_4, not_false_eq_true, or_true, true_or, Nat.one_ne_zero, Nat.zero_ne_one, Nat.reduceEqDiff, Bool.true_eq_false, Bool.false_eq_true, n10]
  have ck3 : ev 160 0 [some (.int (nI k)), some (.int (nI 24)), some (.float 0)] [] (I, R, K) = some (some (.int (nI k)), (I, R, K)) := by
    simp (disch := first | assumption | omega | exact ixN (by assumption) (by omega) (by omega) | exact ne_10 | exact ne_1000 | exact ne_4) only [s160_0, s160_1, s160_4, s160_5, s160_6, s160_9, s160_9a, s160_10, s160_11, s160_16, s160_17, ↓reduceIte, eq_self, Option.bind_some, Option.bind_none, Option.toList_some, Option.toList_none, List.cons_append, List.nil_append, am_rf_s, am_rf_n, am_c1_i, am_c1_r, am_c1_n, List.all_cons, List.all_nil, Bool.and_self, Bool.and_true, Bool.true_and, List.length_cons, List.length_nil, Nat.reduceAdd, Nat.reduceSub, Nat.reduceMul, Nat.reduceLeDiff, Nat.reduceLT, Nat.zero_le, Nat.le_refl, ne_10, ne_1000, ne_4, not_false_eq_true, or_true, true_or, Nat.one_ne_zero, Nat.zero_ne_one, Nat.reduceEqDiff, Bool.true_eq_false, Bool.false_eq_true, n10, h0, h1]
  have ck : ev 158 0 [some (.int (nI k)), some (.int (nI 24))] [] (I, R, K) = some (none, (I, R, K)) := by
    simp (disch := first | assumption | omega | exact ixN (by assumption) (by omega) (by omega) | exact ne_10 | exact ne_1000 | exact ne_4) only [s158_0, s158_1, s158_2, s158_5, s158_8, s158_9, ↓reduceIte, eq_self, Option.bind_some, Option.bind_none, Option.toList_some, Option.toList_none, List.cons_append, List.nil_append, am_rf_s, am_rf_n, am_c1_i, am_c1_r, am_c1_n, List.all_cons, List.all_nil, Bool.and_self, Bool.and_true, Bool.true_and, List.length_cons, List.length_nil, Nat.reduceAdd, Nat.reduceSub, Nat.reduceMul, Nat.reduceLeDiff, Nat.reduceLT, Nat.zero_le, Nat.le_refl, ne_10, ne_1000, ne_4, not_false_eq_true, or_true, true_or, Nat.one_ne_zero, Nat.zero_ne_one, Nat.reduceEqDiff, Bool.true_eq_false, Bool.false_eq_true, n10, ck3]
  have ch : ev 159 0 [some (.ref 2), some (.int (nI k))] [] (I, R, K) = some (some (.int (am_h (am_bytes.getD k 0 &&& nI 255))), (I, R, K)) := by
    simp (disch := first | assumption | omega | exact ixN (by assumption) (by omega) (by omega) | exact ne_10 | exact ne_1000 | exact ne_4) only [s159_0, s159_1, s159_1a, s159_2, s159_3, s159_6, s159_6a, s159_7, s159_8, s159_9, s159_12, s159_13, s159_14, s159_14a, ↓reduceIte, eq_self, Option.bind_some, Option.bind_none, Option.toList_some, Option.toList_none, List.cons_append, List.nil_append, am_rf_s, am_rf_n, am_c1_i, am_c1_r, am_c1_n, List.all_cons, List.all_nil, Bool.and_self, Bool.and_true, Bool.true_and, List.length_cons, List.length_nil, Nat.reduceAdd, Nat.reduceSub, Nat.reduceMul, Nat.reduceLeDiff, Nat.reduceLT, Nat.zero_le, Nat.le_refl, ne_10, ne_1000, ne_4, not_false_eq_true, or_true, true_or, Nat.one_ne_zero, Nat.zero_ne_one, Nat.reduceEqDiff, Bool.true_eq_false, Bool.false_eq_true, n10, ck, nI_clamp, i2c_h]
  simp (disch := first | assumption | omega | exact ixN (by assumption) (by omega) (by omega) | exact ne_10 | exact ne_1000 | exact ne_4) only [s155_0, s155_0a, s155_1, s155_4, s155_7, s155_7a, s155_8, s155_11, s155_12, s155_15, s155_15a, s155_16, s155_16a, s155_17, s155_20, s155_24, s155_24a, ↓reduceIte, eq_self, Option.bind_some, Option.bind_none, Option.toList_some, Option.toList_none, List.cons_append, List.nil_append, am_rf_s, am_rf_n, am_c1_i, am_c1_r, am_c1_n, List.all_cons, List.all_nil, Bool.and_self, Bool.and_true, Bool.true_and, List.length_cons, List.length_nil, Nat.reduceAdd, Nat.reduceSub, Nat.reduceMul, Nat.reduceLeDiff, Nat.reduceLT, Nat.zero_le, Nat.le_refl, ne_10, ne_1000, ne_4, not_false_eq_true, or_true, true_or, Nat.one_ne_zero, Nat.zero_ne_one, Nat.reduceEqDiff, Bool.true_eq_false, Bool.false_eq_true, n10, lat, ch]
theorem i_letters (hX : XL R K) : ∀ (r i : Nat) (I : am_I), i + r = 24 → RT I R K 4 5 200 i txA → ∃ I', ev 70 97 [some (.ref 3), some (.int (nI i))] [] (I, R, K) = ev 70 126 [some (.ref 3), some (.int (nI 24))] [] (I', R, K) ∧ RT I' R K 4 5 200 24 txA ∧ ∀ a, a ≠ 4 → a ≠ 5 → I' a = I a := by
  have x1 := hX.1
  have xt := hX.2.1
  intro r
  induction r with
  | zero =>
    intro i I hi hT
    have hi : i = 24 := by omega
    subst hi
    refine ⟨I, ?_, hT, fun _ _ _ => rfl⟩
    simp (disch := first | assumption | omega | exact ixN (by assumption) (by omega) (by omega) | exact ne_10 | exact ne_1000 | exact ne_4) only [s70_97, s70_98, s70_100, s70_103, ↓reduceIte, eq_self, Option.bind_some, Option.bind_none, Option.toList_some, Option.toList_none, List.cons_append, List.nil_append, am_rf_s, am_rf_n, am_c1_i, am_c1_r, am_c1_n, List.all_cons, List.all_nil, Bool.and_self, Bool.and_true, Bool.true_and, List.length_cons, List.length_nil, Nat.reduceAdd, Nat.reduceSub, Nat.reduceMul, Nat.reduceLeDiff, Nat.reduceLT, Nat.zero_le, Nat.le_refl, ne_10, ne_1000, ne_4, not_false_eq_true, or_true, true_or, Nat.one_ne_zero, Nat.zero_ne_one, Nat.reduceEqDiff, Bool.true_eq_false, Bool.false_eq_true, n10, nI_leI, c_len1]
  | succ r ih =>
    intro i I hi hT
    have q0 : ¬ 24 ≤ i := by omega
    have k4 := hT.1
    have ch := c_chr1 R K I i (by omega)
    have ad := c_add I R K 4 5 200 i txA hT (txA i)
    rw [if_neg (by omega)] at ad
    have rt := RT.add I R K 4 5 200 i txA hT (by omega) (txA i) (txA_l i (by omega)).2
    rw [uf_id] at rt
    obtain ⟨J, hJ⟩ : ∃ J, J = st (st I 5 (uf (I 5) i (txA i))) 4 (uf (I 4) 1 (nI (i + 1))) := ⟨_, rfl⟩
    rw [← hJ] at ad rt
    have o : ∀ b, b ≠ 4 → b ≠ 5 → J b = I b := fun b z1 z2 => by rw [hJ, st_ne _ _ z1, st_ne _ _ z2]
    obtain ⟨J2, w1, w2, w3⟩ := ih (i + 1) J (by omega) rt
    refine ⟨J2, ?_, w2, fun b z1 z2 => by rw [w3 b z1 z2, o b z1 z2]⟩
    rw [s70_97]
    simp (disch := first | assumption | omega | exact ixN (by assumption) (by omega) (by omega) | exact ne_10 | exact ne_1000 | exact ne_4) only [s70_98, s70_100, s70_103, s70_106, s70_106a, s70_107, s70_110, s70_112, s70_113, s70_116, s70_119, s70_120, s70_123, ↓reduceIte, eq_self, Option.bind_some, Option.bind_none, Option.toList_some, Option.toList_none, List.cons_append, List.nil_append, am_rf_s, am_rf_n, am_c1_i, am_c1_r, am_c1_n, List.all_cons, List.all_nil, Bool.and_self, Bool.and_true, Bool.true_and, List.length_cons, List.length_nil, Nat.reduceAdd, Nat.reduceSub, Nat.reduceMul, Nat.reduceLeDiff, Nat.reduceLT, Nat.zero_le, Nat.le_refl, ne_10, ne_1000, ne_4, not_false_eq_true, or_true, true_or, Nat.one_ne_zero, Nat.zero_ne_one, Nat.reduceEqDiff, Bool.true_eq_false, Bool.false_eq_true, n10, nI_leI, nI_add, c_len1, q0, xt, ch, ad, w1]
theorem RQ.emp {J : am_I} {a t : Nat} (f : Nat → Int32) (ht : t + 30 < 70) (y1 : ∀ j, 3 ≤ j → j ≤ 7 → J a j = nI 0) (y2 : J (a + 3) 3 = nI 0) (y3 : J (a + 3) 4 = nI 0) : RQ J a (sEmp f) t := by
  refine ⟨⟨?_, ?_, ?_, ?_, ?_, ?_, ?_⟩, ⟨0, by omega, sEmp_0 f (by omega), fun k hk => by omega⟩, 0, by omega, sEmp_0 f (by omega), fun k hk => by omega⟩
  · rw [sEmp_0 f (by omega)]; exact y1 3 (by omega) (by omega)
  · rw [sEmp_0 f (by omega)]; exact y1 4 (by omega) (by omega)
  · rw [sEmp_0 f (by omega)]; exact y1 5 (by omega) (by omega)
  · rw [sEmp_0 f (by omega)]; exact y1 6 (by omega) (by omega)
  · rw [sEmp_0 f (by omega)]; exact y1 7 (by omega) (by omega)
  · rw [sEmp_0 f (by omega)]; exact y2
  · rw [sEmp_0 f (by omega)]; exact y3
def z0 : Nat → Int32 := fun _ => nI 0
/-- the class is made -/
theorem i_class (I : am_I) (R : am_R) (K : am_K) (hz : FZ I R K) (hk : am_isK K 3 9 = true) (hn : K.2.1 = 4) : ∃ I' R' K', ev 70 0 [some (.ref 3), none] [] (I, R, K) = some (none, (I', R', K')) ∧ CH I' R' K' 0 z0 24 (lyC txA 24 z0) (lyB txA 24 z0) (sEmp z0) 0 z0 ∧ FZ I' R' K' ∧ K'.2.1 = 147 ∧ K'.2.2 = K.2.2 + 1246 ∧ I' 0 = I 0 ∧ K'.1 0 = K.1 0 := by
  obtain ⟨I1, R1, K1, a1, a2, a3, a4, a5, a6, ⟨b1, b2, b3, b4⟩, a7, a8, a9⟩ := i_cells I R K hz hk hn
  have zer : ∀ c, 4 ≤ c → (c < 32 ∨ c = 38 ∨ c = 39 ∨ 136 ≤ c) → ∀ i, I1 c i = nI 0 := fun c h4 hc i => by rw [a9 c hc]; exact (hz.2 c (by omega)).1 i
  have T0 : RT I1 R1 K1 4 5 200 0 txA := ⟨b1, b2, b3, b4, zer 4 (by omega) (by omega) 1, by omega, by omega, fun i hi => by omega⟩
  obtain ⟨I2, c1, c2, c3⟩ := i_letters R1 K1 a6.1 24 0 I1 (by omega) T0
  obtain ⟨I3, d1, d2, d3⟩ := c_readFrom R1 K1 6 4 5 200 24 txA I2 a6.2.1 (by omega) (by omega) c2
  obtain ⟨d4, d5, d6⟩ := d3 rdA
  have cl := c_Text_clear I3 R1 K1 4 b1
  rw [ui_st] at cl
  obtain ⟨I4, hI4⟩ : ∃ I4, I4 = st I3 4 (uf (I3 4) 1 (nI 0)) := ⟨_, rfl⟩
  rw [← hI4] at cl
  have o4 : ∀ a, a ≠ 4 → I4 a = I3 a := fun a ha => by rw [hI4, st_ne _ _ ha]
  have o : ∀ a, (a < 4 ∨ 10 ≤ a) → I4 a = I1 a := fun a ha => by rw [o4 a (by omega), d1 a (by omega), c3 a (by omega) (by omega)]
  have x1 := a6.1.1
  have xt := a6.1.2.1
  have xl := a6.1.2.2.1
  have kl := a6.2.1.1
  have ro := rd_60 okA
  refine ⟨I4, R1, K1, ?_, ⟨a6, ⟨b1, b2, b3, b4, by rw [hI4, st_eq, uf_eq], by omega, by omega, fun i hi => by omega⟩, ⟨rdB txA 24, ⟨a6.2.1, (d4.fr (by rw [o4 _ (by omega)]) (by rw [o4 _ (by omega)])).cg (fun i hi => ?_), ?_⟩, fun j hj => ?_⟩, ?_, ⟨fun k hk => ?_, ?_, ?_, fun p hp => ?_⟩, ⟨0, by omega, ?_, ?_, by omega, fun j hj => by omega, fun i p hi hp => ?_⟩⟩, ⟨a2.1, fun b hb => ⟨fun i => ?_, (a2.2 b hb).2⟩⟩, a4, a5, ?_, ?_⟩
  · rw [a1]
    simp (disch := first | assumption | omega | exact ixN (by assumption) (by omega) (by omega) | exact ne_10 | exact ne_1000 | exact ne_4) only [s70_95, s70_96, ↓reduceIte, eq_self, Option.bind_some, Option.bind_none, Option.toList_some, Option.toList_none, List.cons_append, List.nil_append, am_rf_s, am_rf_n, am_c1_i, am_c1_r, am_c1_n, List.all_cons, List.all_nil, Bool.and_self, Bool.and_true, Bool.true_and, List.length_cons, List.length_nil, Nat.reduceAdd, Nat.reduceSub, Nat.reduceMul, Nat.reduceLeDiff, Nat.reduceLT, Nat.zero_le, Nat.le_refl, ne_10, ne_1000, ne_4, not_false_eq_true, or_true, true_or, Nat.one_ne_zero, Nat.zero_ne_one, Nat.reduceEqDiff, Bool.true_eq_false, Bool.false_eq_true, n10, c1]
    simp (disch := first | assumption | omega | exact ixN (by assumption) (by omega) (by omega) | exact ne_10 | exact ne_1000 | exact ne_4) only [s70_126, s70_126a, s70_127, s70_130, s70_130a, s70_131, s70_134, s70_137, s70_138, s70_138a, s70_139, s70_142, s70_145, ↓reduceIte, eq_self, Option.bind_some, Option.bind_none, Option.toList_some, Option.toList_none, List.cons_append, List.nil_append, am_rf_s, am_rf_n, am_c1_i, am_c1_r, am_c1_n, List.all_cons, List.all_nil, Bool.and_self, Bool.and_true, Bool.true_and, List.length_cons, List.length_nil, Nat.reduceAdd, Nat.reduceSub, Nat.reduceMul, Nat.reduceLeDiff, Nat.reduceLT, Nat.zero_le, Nat.le_refl, ne_10, ne_1000, ne_4, not_false_eq_true, or_true, true_or, Nat.one_ne_zero, Nat.zero_ne_one, Nat.reduceEqDiff, Bool.true_eq_false, Bool.false_eq_true, n10, xl, xt, d2, cl]
  · unfold lyC; rw [if_pos (by omega), if_pos hi]
  · rw [o4 _ (by omega)]; exact d5
  · simp only [lyB_b (tx := txA) (bg := z0) (n := 24) hj]
    cases rdB txA 24 j <;> rfl
  · rw [o4 _ (by omega), d6, lyB_cu (by omega)]
  · rw [o _ (by omega), sEmp_0 z0 (by omega)]; exact zer _ (by omega) (by omega) k
  · exact RQ.emp z0 (by omega) (fun j _ _ => by rw [o _ (by omega)]; exact zer _ (by omega) (by omega) j) (by rw [o _ (by omega)]; exact zer _ (by omega) (by omega) 3) (by rw [o _ (by omega)]; exact zer _ (by omega) (by omega) 4)
  · exact RQ.emp z0 (by omega) (fun j _ _ => by rw [o _ (by omega)]; exact zer _ (by omega) (by omega) j) (by rw [o _ (by omega)]; exact zer _ (by omega) (by omega) 3) (by rw [o _ (by omega)]; exact zer _ (by omega) (by omega) 4)
  · rw [show 14 + 18 + p = 32 + p by omega]
    exact ⟨by rw [o _ (by omega)]; exact (a7 p hp).1, by rw [o _ (by omega), sEmp_3 z0 hp]; exact (a7 p hp).2, ⟨3, by omega, sEmp_3 z0 hp⟩, fun z => absurd (sEmp_3 z0 hp) z⟩
  · rw [o _ (by omega)]; exact zer 38 (by omega) (by omega) 1
  · rw [o _ (by omega)]; exact zer 38 (by omega) (by omega) 2
  · rw [o _ (by omega)]; exact a8 i p hi hp
  · rw [o b (by omega)]; exact (a2.2 b hb).1 i
  · rw [o 0 (by omega), a9 0 (by omega)]
  · exact a3.2.1 0 (by omega)
end DU
