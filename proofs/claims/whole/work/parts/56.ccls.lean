/-! the class as a whole: what it holds; told: write, wipe, fault, lay -/
def LY (R : am_R) (K : am_K) : Prop := XL R K ∧ CL R K 6 ∧ CL R K 10 ∧ SB R K 14 ∧ HL R K ∧ SL R K ∧ PL R K 138 ∧ ML R K 145
theorem LY.xe {R R' : am_R} {K K' : am_K} (h : LY R K) (e : XE R K R' K') : LY R' K' := ⟨h.1.xe e, h.2.1.xe e, h.2.2.1.xe e, h.2.2.2.1.xe e, h.2.2.2.2.1.xe e, h.2.2.2.2.2.1.xe e, h.2.2.2.2.2.2.1.xe e, h.2.2.2.2.2.2.2.xe e⟩
/-- how many begin -/
def cuB (bg : Nat → Int32) (nc : Nat) : Int32 := cu (fun k => if am_b (bg k) = nI 0 then nI 0 else nI 1) nc 0 (nI 0)
def CH (I : am_I) (R : am_R) (K : am_K) (n : Nat) (tx : Nat → Int32) (nc : Nat) (cd bg f : Nat → Int32) (cs : Nat) (wz : Nat → Int32) : Prop := LY R K ∧ RT I R K 4 5 200 n tx ∧ (∃ b, RC I R K 6 nc cd b ∧ BE bg b) ∧ I 6 2 = cuB bg nc ∧ RS I R K 14 f ∧ HR I R K cs wz
/-- what the class leaves alone -/
def FC (I I' : am_I) : Prop := ∀ a, (a < 3 ∨ 147 ≤ a) → a ≤ 155 → I' a = I a
theorem FC.rf (I : am_I) : FC I I := fun _ _ _ => rfl
theorem FC.tr {I I' I'' : am_I} (h : FC I I') (h' : FC I' I'') : FC I I'' := fun a q1 q2 => (h' a q1 q2).trans (h a q1 q2)
theorem FC.fn {I I' : am_I} (h : FN I I') : FC I I' := fun a q1 q2 => h a (by omega) (by omega) (by omega)
theorem MR.fc {I I' : am_I} {n nc cs : Nat} {tx cd bg f wz : Nat → Int32} (h : MR I n tx nc cd bg f cs wz) (e : FC I I') : MR I' n tx nc cd bg f cs wz := by
  obtain ⟨h1, h2, h3, h4, h5, h6, h7, h8⟩ := h
  refine ⟨?_, ?_, ?_, ?_, ?_, ?_, ?_, ?_⟩
  all_goals (rw [e _ (by omega) (by omega)]; assumption)
theorem HR.fr {I I' : am_I} {R R' : am_R} {K K' : am_K} {cs : Nat} {wz : Nat → Int32} (h : HR I R K cs wz) (hI : ∀ a, 38 ≤ a → a < 136 → I' a = I a) (hR : ∀ a, 38 ≤ a → a < 136 → R' a 8 = R a 8) (e : XE R K R' K') (hd : DY I K I') : HR I' R' K' cs wz := by
  obtain ⟨l, l1, l2, l3, l4, l5, l6⟩ := h
  refine ⟨l, l1, by rw [hI _ (by omega) (by omega)]; exact l2, by rw [hI _ (by omega) (by omega)]; exact l3, l4, fun j hj => ?_, fun i p hi hp => by rw [hI _ (by omega) (by omega)]; exact l6 i p hi hp⟩
  have hm : (l + 4 - j) % 4 < 4 := Nat.mod_lt _ (by omega)
  exact (l5 j hj).fr (fun a a1 a2 => hI a (by omega) (by omega)) (fun p hp => hR _ (by omega) (by omega)) e hd
theorem RC.up {I I' : am_I} {R R' : am_R} {K K' : am_K} {nc : Nat} {cd : Nat → Int32} {b : Nat → Bool} (h : RC I R K 6 nc cd b) (e : XE R K R' K') (h7 : I' 7 = I 7) (h8 : I' 8 = I 8) (h9 : I' 9 = I 9) : RC I' R' K' 6 nc cd b := ⟨h.1.xe e, (h.2.1.fr h7 h8).xe e, by rw [show (6 : Nat) + 3 = 9 from rfl, h9]; exact h.2.2⟩
theorem CH.up {I I' : am_I} {R R' : am_R} {K K' : am_K} {n nc cs cs' : Nat} {tx cd bg f f' wz wz' : Nat → Int32} (h : CH I R K n tx nc cd bg f cs wz) (e : XE R K R' K') (hI : ∀ a, 3 ≤ a → a < 10 → I' a = I a) (hs : RS I' R' K' 14 f') (hh : HR I' R' K' cs' wz') : CH I' R' K' n tx nc cd bg f' cs' wz' := by
  obtain ⟨c1, c2, ⟨b, c3, c4⟩, c5, -, -⟩ := h
  exact ⟨c1.xe e, (c2.fr (hI 4 (by omega) (by omega)) (hI 5 (by omega) (by omega))).xe e, ⟨b, c3.up e (hI 7 (by omega) (by omega)) (hI 8 (by omega) (by omega)) (hI 9 (by omega) (by omega)), c4⟩, by rw [hI 6 (by omega) (by omega)]; exact c5, hs, hh⟩
theorem CH.fm {I I' : am_I} {R : am_R} {K : am_K} {n nc cs : Nat} {tx cd bg f wz : Nat → Int32} (h : CH I R K n tx nc cd bg f cs wz) (e : FM I I') : CH I' R K n tx nc cd bg f cs wz := by
  have dy : DY I K I' := fun a h1 _ => e a (by omega)
  exact h.up (XE.rf R K) (fun a _ _ => e a (by omega)) (h.2.2.2.2.1.fr (fun a _ _ => e a (by omega)) (fun _ _ => rfl) (XE.rf R K) dy) (h.2.2.2.2.2.fr (fun a _ _ => e a (by omega)) (fun _ _ _ => rfl) (XE.rf R K) dy)
/-- only now changes -/
theorem CH.now {I I' : am_I} {R : am_R} {K : am_K} {n nc cs : Nat} {tx cd bg f f' wz : Nat → Int32} (h : CH I R K n tx nc cd bg f cs wz) (hI : FN I I') (hs : RS I' R K 14 f') : CH I' R K n tx nc cd bg f' cs wz :=
  h.up (XE.rf R K) (fun a _ _ => hI a (by omega) (by omega) (by omega)) hs (h.2.2.2.2.2.fr (fun a _ _ => hI a (by omega) (by omega) (by omega)) (fun _ _ _ => rfl) (XE.rf R K) (hI.dy K))
/-- only what isn't looked at changes: draft, stack, what is aside -/
theorem CH.sk {I I' : am_I} {R : am_R} {K : am_K} {n nc cs : Nat} {tx cd bg f wz : Nat → Int32} (h : CH I R K n tx nc cd bg f cs wz) (hI : ∀ a, (a < 10 ∨ (14 ≤ a ∧ a < 136) ∨ 156 ≤ a) → I' a = I a) : CH I' R K n tx nc cd bg f cs wz := by
  have dy : DY I K I' := fun a h1 _ => hI a (by omega)
  exact h.up (XE.rf R K) (fun a _ _ => hI a (by omega)) (h.2.2.2.2.1.fr (fun a _ _ => hI a (by omega)) (fun _ _ => rfl) (XE.rf R K) dy) (h.2.2.2.2.2.fr (fun a _ _ => hI a (by omega)) (fun _ _ _ => rfl) (XE.rf R K) dy)
theorem CH.tx {I I' : am_I} {R : am_R} {K : am_K} {n nc cs n' : Nat} {tx cd bg f wz tx' : Nat → Int32} (h : CH I R K n tx nc cd bg f cs wz) (hI : ∀ a, a ≠ 4 → a ≠ 5 → I' a = I a) (ht : RT I' R K 4 5 200 n' tx') : CH I' R K n' tx' nc cd bg f cs wz := by
  obtain ⟨c1, c2, ⟨b, c3, c4⟩, c5, c6, c7⟩ := h
  have dy : DY I K I' := fun a h1 _ => hI a (by omega) (by omega)
  exact ⟨c1, ht, ⟨b, c3.up (XE.rf R K) (hI 7 (by omega) (by omega)) (hI 8 (by omega) (by omega)) (hI 9 (by omega) (by omega)), c4⟩, by rw [hI 6 (by omega) (by omega)]; exact c5, c6.fr (fun a _ _ => hI a (by omega) (by omega)) (fun _ _ => rfl) (XE.rf R K) dy, c7.fr (fun a _ _ => hI a (by omega) (by omega)) (fun _ _ _ => rfl) (XE.rf R K) dy⟩
/-- counting what begins -/
def cb (b : Nat → Bool) : Nat → Nat → Nat
  | 0, _ => 0
  | r + 1, p => (if b p = true then 1 else 0) + cb b r (p + 1)
theorem cu_cb {g : Nat → Int32} {b : Nat → Bool} : ∀ {r p s : Nat}, (∀ k, p ≤ k → k < p + r → g k = if b k = true then nI 1 else nI 0) → cu g r p (nI s) = nI (s + cb b r p)
  | 0, _, _, _ => rfl
  | r + 1, p, s, h => by
    unfold cu cb
    rw [h p (by omega) (by omega)]
    by_cases q : b p = true
    · rw [if_pos q, if_pos q, nI_add, cu_cb (fun k h1 h2 => h k (by omega) (by omega))]
      congr 1; omega
    · rw [if_neg q, if_neg q, nI_add, cu_cb (fun k h1 h2 => h k (by omega) (by omega))]
      congr 1; omega
theorem cb_cg {b b' : Nat → Bool} : ∀ {r p : Nat}, (∀ k, p ≤ k → k < p + r → b' k = b k) → cb b' r p = cb b r p
  | 0, _, _ => rfl
  | r + 1, p, h => by
    unfold cb
    rw [h p (by omega) (by omega), cb_cg (fun k h1 h2 => h k (by omega) (by omega))]
theorem cb_ub {b : Nat → Bool} {i : Nat} (hi : b i = false) : ∀ {r p : Nat}, p ≤ i → i < p + r → cb (ub b i) r p = cb b r p + 1
  | 0, _, h1, h2 => by omega
  | r + 1, p, h1, h2 => by
    unfold cb
    by_cases q : i = p
    · subst q
      have e1 : ub b i i = true := by unfold ub; rw [if_pos rfl]
      rw [e1, hi, cb_cg (b := b) (fun k h3 h4 => by unfold ub; rw [if_neg (by omega)])]
      simp
      omega
    · have e1 : ub b i p = b p := by unfold ub; rw [if_neg (by omega)]
      rw [e1, cb_ub hi (by omega) (by omega)]
      omega
theorem rd1_cb {tx : Nat → Int32} {n : Nat} : ∀ {r i : Nat} {b : Nat → Bool}, (∀ k, i ≤ k → b k = false) → cb (rd1 tx n r i b).2 n 0 = cb b n 0 + rdn tx n r i
  | 0, _, _, _ => rfl
  | r + 1, i, b, h => by
    unfold rd1 rdn
    by_cases q : n ≤ i
    · rw [if_pos q, if_pos q]; rfl
    · rw [if_neg q, if_neg q]
      by_cases q2 : wd tx n i = 0 ∨ 60 < i + wd tx n i
      · rw [if_pos q2, if_pos q2]; rfl
      · rw [if_neg q2, if_neg q2]
        have w0 : ¬ wd tx n i = 0 := fun z => q2 (Or.inl z)
        rw [rd1_cb (fun k hk => by unfold ub; rw [if_neg (by omega)]; exact h k (by omega)), cb_ub (h i (Nat.le_refl _)) (by omega) (by omega)]
        omega
theorem cb_f {b : Nat → Bool} : ∀ {r p : Nat}, (∀ k, b k = false) → cb b r p = 0
  | 0, _, _ => rfl
  | r + 1, p, h => by unfold cb; rw [h p, cb_f h]; rfl
theorem rdB_lt {tx : Nat → Int32} {n k : Nat} (h : rdB tx n k = true) : k < n := (rd1_b (tx := tx) (n := n) (r := n) (i := 0) (b := fun _ => false) (fun k hk => by cases hk) k h).2
theorem lyB_b {tx bg : Nat → Int32} {n j : Nat} (hj : j < 60) : (am_b (lyB tx n bg j) = nI 0) = (rdB tx n j = false) := by
  unfold lyB
  rw [if_pos hj]
  by_cases q : rdB tx n j = true
  · rw [if_pos ⟨rdB_lt q, q⟩, am_b_1, q]; simp; decide
  · have q' : rdB tx n j = false := by simpa using q
    rw [if_neg (fun z => q z.2), am_b_0, q']; simp
theorem lyB_cu {tx bg : Nat → Int32} {n : Nat} (hn : n ≤ 60) : cuB (lyB tx n bg) n = nI (rdn tx n n 0) := by
  unfold cuB
  rw [cu_cb (b := rdB tx n) (fun k _ hk => by
    simp only [lyB_b (tx := tx) (bg := bg) (n := n) (show k < 60 by omega)]
    cases rdB tx n k <;> rfl)]
  unfold rdB
  rw [rd1_cb (fun _ _ => rfl), cb_f (fun _ => rfl)]
  congr 1; omega
section DH
variable (I : am_I) (R : am_R) (K : am_K) (n nc cs : Nat) (tx cd bg f wz : Nat → Int32)
theorem k_write (h : CH I R K n tx nc cd bg f cs wz) (x : Int32) : ∃ I', ev 71 0 [some (.ref 3), some (.int x)] [] (I, R, K) = some (some (.int (sp_write n x)), (I', R, K)) ∧ CH I' R K (sp_writeN n x) (sp_writeT n tx x) nc cd bg f cs wz ∧ FC I I' := by
  have x1 := h.1.1.1
  have xt := h.1.1.2.1
  have ht := h.2.1
  have k4 := ht.1
  have hn := ht.2.2.2.2.2.1
  unfold sp_write sp_writeN sp_writeT
  by_cases c0 : inR x 32 126 = false
  · rw [if_pos c0, if_pos c0, if_pos c0]
    refine ⟨I, ?_, h, FC.rf I⟩
    simp (disch := first | assumption | omega | exact ixN (by assumption) (by omega) (by omega) | exact ne_10 | exact ne_1000 | exact ne_4) only [s71_0, s71_1, s71_3, s71_5, s71_8, s71_11, s71_12, s71_13, s71_13a, s71_14, s71_17, s71_18, s71_19, s71_22, s71_25, s71_25a, s71_26, s71_29, s71_32, s71_35, s71_37, ↓reduceIte, eq_self, Option.bind_some, Option.bind_none, Option.toList_some, Option.toList_none, List.cons_append, List.nil_append, am_rf_s, am_rf_n, am_c1_i, am_c1_r, am_c1_n, List.all_cons, List.all_nil, Bool.and_self, Bool.and_true, Bool.true_and, List.length_cons, List.length_nil, Nat.reduceAdd, Nat.reduceSub, Nat.reduceMul, Nat.reduceLeDiff, Nat.reduceLT, Nat.zero_le, Nat.le_refl, ne_10, ne_1000, ne_4, not_false_eq_true, or_true, true_or, Nat.one_ne_zero, Nat.zero_ne_one, Nat.reduceEqDiff, Bool.true_eq_false, Bool.false_eq_true, n10, c_within, inR_e, c0, bI_f]
  · have c0' := nf c0
    rw [if_neg c0, if_neg c0, if_neg c0]
    obtain ⟨q, q1, q2, rfl⟩ := inR_of c0' (by omega) (by omega)
    have e2 : ((nI q).toUInt32 % 65536).toInt32 = nI q := i2c_nI (by omega)
    have ad := c_add I R K 4 5 200 n tx ht (nI q)
    by_cases c1 : n = 200
    · rw [if_pos c1] at ad ⊢
      rw [if_pos c1, if_pos c1]
      refine ⟨I, ?_, h, FC.rf I⟩
      simp (disch := first | assumption | omega | exact ixN (by assumption) (by omega) (by omega) | exact ne_10 | exact ne_1000 | exact ne_4) only [s71_0, s71_1, s71_3, s71_5, s71_8, s71_11, s71_12, s71_13, s71_13a, s71_14, s71_17, s71_18, s71_19, s71_22, s71_25, s71_25a, s71_26, s71_29, s71_32, s71_35, s71_37, ↓reduceIte, eq_self, Option.bind_some, Option.bind_none, Option.toList_some, Option.toList_none, List.cons_append, List.nil_append, am_rf_s, am_rf_n, am_c1_i, am_c1_r, am_c1_n, List.all_cons, List.all_nil, Bool.and_self, Bool.and_true, Bool.true_and, List.length_cons, List.length_nil, Nat.reduceAdd, Nat.reduceSub, Nat.reduceMul, Nat.reduceLeDiff, Nat.reduceLT, Nat.zero_le, Nat.le_refl, ne_10, ne_1000, ne_4, not_false_eq_true, or_true, true_or, Nat.one_ne_zero, Nat.zero_ne_one, Nat.reduceEqDiff, Bool.true_eq_false, Bool.false_eq_true, n10, c_within, inR_e, c0', bI_t, xt, e2, ad]
    · rw [if_neg c1] at ad ⊢
      rw [if_neg c1, if_neg c1]
      have rt := RT.add I R K 4 5 200 n tx ht (by omega) (nI q) (am_h_nI (by omega))
      obtain ⟨J, hJ⟩ : ∃ J, J = st (st I 5 (uf (I 5) n (nI q))) 4 (uf (I 4) 1 (nI (n + 1))) := ⟨_, rfl⟩
      rw [← hJ] at ad rt
      have j1 : J 4 1 = nI (n + 1) := by rw [hJ, st_eq, uf_eq]
      have jo : ∀ a, a ≠ 4 → a ≠ 5 → J a = I a := fun a z1 z2 => by rw [hJ, st_ne _ _ z1, st_ne _ _ z2]
      refine ⟨J, ?_, h.tx jo rt, fun a z1 z2 => jo a (by omega) (by omega)⟩
      simp (disch := first | assumption | omega | exact ixN (by assumption) (by omega) (by omega) | exact ne_10 | exact ne_1000 | exact ne_4) only [s71_0, s71_1, s71_3, s71_5, s71_8, s71_11, s71_12, s71_13, s71_13a, s71_14, s71_17, s71_18, s71_19, s71_22, s71_25, s71_25a, s71_26, s71_29, s71_32, s71_35, s71_37, ↓reduceIte, eq_self, Option.bind_some, Option.bind_none, Option.toList_some, Option.toList_none, List.cons_append, List.nil_append, am_rf_s, am_rf_n, am_c1_i, am_c1_r, am_c1_n, List.all_cons, List.all_nil, Bool.and_self, Bool.and_true, Bool.true_and, List.length_cons, List.length_nil, Nat.reduceAdd, Nat.reduceSub, Nat.reduceMul, Nat.reduceLeDiff, Nat.reduceLT, Nat.zero_le, Nat.le_refl, ne_10, ne_1000, ne_4, not_false_eq_true, or_true, true_or, Nat.one_ne_zero, Nat.zero_ne_one, Nat.reduceEqDiff, Bool.true_eq_false, Bool.false_eq_true, n10, c_within, inR_e, c0', bI_t, xt, e2, ad, j1]
theorem k_wipe (h : CH I R K n tx nc cd bg f cs wz) : ∃ I', ev 72 0 [some (.ref 3), none] [] (I, R, K) = some (some (.int (nI n)), (I', R, K)) ∧ CH I' R K 0 tx nc cd bg f cs wz ∧ FC I I' := by
  have x1 := h.1.1.1
  have xt := h.1.1.2.1
  obtain ⟨t1, t2, t3, t4, t5, t6, t7, t8⟩ := id h.2.1
  have cl := c_Text_clear I R K 4 t1
  rw [ui_st] at cl
  obtain ⟨J, hJ⟩ : ∃ J, J = st I 4 (uf (I 4) 1 (nI 0)) := ⟨_, rfl⟩
  rw [← hJ] at cl
  have jo : ∀ a, a ≠ 4 → J a = I a := fun a z1 => by rw [hJ, st_ne _ _ z1]
  refine ⟨J, ?_, h.tx (fun a z1 _ => jo a z1) ⟨t1, t2, t3, t4, by rw [hJ, st_eq, uf_eq], by omega, t7, fun i hi => by omega⟩, fun a z1 z2 => jo a (by omega)⟩
  simp (disch := first | assumption | omega | exact ixN (by assumption) (by omega) (by omega) | exact ne_10 | exact ne_1000 | exact ne_4) only [s72_0, s72_0a, s72_1, s72_4, s72_7, s72_8, s72_8a, s72_9, s72_12, s72_15, s72_16, ↓reduceIte, eq_self, Option.bind_some, Option.bind_none, Option.toList_some, Option.toList_none, List.cons_append, List.nil_append, am_rf_s, am_rf_n, am_c1_i, am_c1_r, am_c1_n, List.all_cons, List.all_nil, Bool.and_self, Bool.and_true, Bool.true_and, List.length_cons, List.length_nil, Nat.reduceAdd, Nat.reduceSub, Nat.reduceMul, Nat.reduceLeDiff, Nat.reduceLT, Nat.zero_le, Nat.le_refl, ne_10, ne_1000, ne_4, not_false_eq_true, or_true, true_or, Nat.one_ne_zero, Nat.zero_ne_one, Nat.reduceEqDiff, Bool.true_eq_false, Bool.false_eq_true, n10, xt, t5, cl]
theorem k_fault (h : CH I R K n tx nc cd bg f cs wz) : ∃ I', ev 73 0 [some (.ref 3)] [] (I, R, K) = some (some (.int (fsI (rd tx n))), (I', R, K)) ∧ CH I' R K n tx nc cd bg f cs wz ∧ FC I I' := by
  have x1 := h.1.1.1
  have xt := h.1.1.2.1
  have xd := h.1.1.2.2.2.1
  have kd := h.1.2.2.1.1
  obtain ⟨J, j1, j2, j3⟩ := c_readFrom R K 10 4 5 200 n tx I h.1.2.2.1 (by omega) (by omega) h.2.1
  refine ⟨J, ?_, h.sk (fun a ha => j1 a (by omega)), fun a z1 z2 => j1 a (by omega)⟩
  simp (disch := first | assumption | omega | exact ixN (by assumption) (by omega) (by omega) | exact ne_10 | exact ne_1000 | exact ne_4) only [s73_0, s73_0a, s73_1, s73_4, s73_4a, s73_5, s73_8, s73_11, ↓reduceIte, eq_self, Option.bind_some, Option.bind_none, Option.toList_some, Option.toList_none, List.cons_append, List.nil_append, am_rf_s, am_rf_n, am_c1_i, am_c1_r, am_c1_n, List.all_cons, List.all_nil, Bool.and_self, Bool.and_true, Bool.true_and, List.length_cons, List.length_nil, Nat.reduceAdd, Nat.reduceSub, Nat.reduceMul, Nat.reduceLeDiff, Nat.reduceLT, Nat.zero_le, Nat.le_refl, ne_10, ne_1000, ne_4, not_false_eq_true, or_true, true_or, Nat.one_ne_zero, Nat.zero_ne_one, Nat.reduceEqDiff, Bool.true_eq_false, Bool.false_eq_true, n10, xt, xd, j2]
theorem k_lay (h : CH I R K n tx nc cd bg f cs wz) : ∃ I', ev 74 0 [some (.ref 3)] [] (I, R, K) = some (some (.int (sp_lay tx n)), (I', R, K)) ∧ (if okLay tx n then CH I' R K n tx n (lyC tx n cd) (lyB tx n bg) (sEmp f) 0 wz else CH I' R K n tx nc cd bg f cs wz) ∧ FC I I' := by
  obtain ⟨x1, xt, xl, xd, xn, xh, -⟩ := id h.1.1
  have kd := h.1.2.2.1.1
  have kl := h.1.2.1.1
  have kn := h.1.2.2.2.1.1.1
  have kh := h.1.2.2.2.2.1.1
  have rl : R 6 0 = some 7 := h.1.2.1.2.2.2.2.1
  have k7 : am_isK K 7 8 = true := h.1.2.1.2.1
  have k4 := h.2.1.1
  have t5 := h.2.1.2.2.2.2.1
  have hn := h.2.1.2.2.2.2.2.1
  unfold sp_lay
  by_cases c0 : n = 0
  · have e : okLay tx n = false := by unfold okLay; simp [c0]
    rw [e]
    refine ⟨I, ?_, h, FC.rf I⟩
    simp (disch := first | assumption | omega | exact ixN (by assumption) (by omega) (by omega) | exact ne_10 | exact ne_1000 | exact ne_4) only [s74_0, s74_0a, s74_1, s74_4, s74_7, s74_10, s74_10a, s74_11, s74_14, s74_14a, s74_15, s74_18, s74_21, s74_23, s74_26, s74_28, s74_29, s74_29a, s74_30, s74_33, s74_33a, s74_34, s74_37, s74_40, s74_41, s74_41a, s74_42, s74_45, s74_48, s74_48a, s74_49, s74_52, s74_55, s74_55a, s74_56, s74_59, s74_62, s74_65, ↓reduceIte, eq_self, Option.bind_some, Option.bind_none, Option.toList_some, Option.toList_none, List.cons_append, List.nil_append, am_rf_s, am_rf_n, am_c1_i, am_c1_r, am_c1_n, List.all_cons, List.all_nil, Bool.and_self, Bool.and_true, Bool.true_and, List.length_cons, List.length_nil, Nat.reduceAdd, Nat.reduceSub, Nat.reduceMul, Nat.reduceLeDiff, Nat.reduceLT, Nat.zero_le, Nat.le_refl, ne_10, ne_1000, ne_4, not_false_eq_true, or_true, true_or, Nat.one_ne_zero, Nat.zero_ne_one, Nat.reduceEqDiff, Bool.true_eq_false, Bool.false_eq_true, n10, nI_eq, xt, t5, c0]
  · obtain ⟨J, j1, j2, j3⟩ := c_readFrom R K 10 4 5 200 n tx I h.1.2.2.1 (by omega) (by omega) h.2.1
    have h1 : CH J R K n tx nc cd bg f cs wz := h.sk (fun a ha => j1 a (by omega))
    have fc1 : FC I J := fun a z1 z2 => j1 a (by omega)
    cases q : rd tx n with
    | some p =>
      have e : okLay tx n = false := by unfold okLay; simp [q]
      rw [e]
      rw [q] at j2
      have hp : p < 2 ^ 31 := by
        unfold rd at q
        split at q
        · rename_i i hi
          cases q
          have : ∀ (r i : Nat) (b : Nat → Bool) (k : Nat), i ≤ 200 → (rd1 tx n r i b).1 = some k → k ≤ 200 := by
            intro r
            induction r with
            | zero => intro i b k _ z; cases z
            | succ r ih =>
              intro i b k hi z
              unfold rd1 at z
              split at z
              · cases z
              · split at z
                · cases z; exact hi
                · rename_i q1 q2
                  exact ih _ _ _ (by omega) z
          have := this n 0 _ p (by omega) hi
          omega
        · have := (fs_lt q).2.1
          omega
      have n4 := neg4 p hp
      refine ⟨J, ?_, h1, fc1⟩
      simp (disch := first | assumption | omega | exact ixN (by assumption) (by omega) (by omega) | exact ne_10 | exact ne_1000 | exact ne_4) only [s74_0, s74_0a, s74_1, s74_4, s74_7, s74_10, s74_10a, s74_11, s74_14, s74_14a, s74_15, s74_18, s74_21, s74_23, s74_26, s74_28, s74_29, s74_29a, s74_30, s74_33, s74_33a, s74_34, s74_37, s74_40, s74_41, s74_41a, s74_42, s74_45, s74_48, s74_48a, s74_49, s74_52, s74_55, s74_55a, s74_56, s74_59, s74_62, s74_65, ↓reduceIte, eq_self, Option.bind_some, Option.bind_none, Option.toList_some, Option.toList_none, List.cons_append, List.nil_append, am_rf_s, am_rf_n, am_c1_i, am_c1_r, am_c1_n, List.all_cons, List.all_nil, Bool.and_self, Bool.and_true, Bool.true_and, List.length_cons, List.length_nil, Nat.reduceAdd, Nat.reduceSub, Nat.reduceMul, Nat.reduceLeDiff, Nat.reduceLT, Nat.zero_le, Nat.le_refl, ne_10, ne_1000, ne_4, not_false_eq_true, or_true, true_or, Nat.one_ne_zero, Nat.zero_ne_one, Nat.reduceEqDiff, Bool.true_eq_false, Bool.false_eq_true, n10, nI_eq, xt, xd, t5, c0, j2, fsI, n4, Bool.false_eq_true]
    | none =>
      have e : okLay tx n = true := by unfold okLay; simp [q, c0]
      rw [e]
      obtain ⟨h1n, h60⟩ := rd_60 e
      rw [q] at j2
      obtain ⟨J2, u1, u2, u3⟩ := c_readFrom R K 6 4 5 200 n tx J h.1.2.1 (by omega) (by omega) h1.2.1
      obtain ⟨u4, u5, u6⟩ := u3 q
      have rs2 : RS J2 R K 14 f := h1.2.2.2.2.1.fr (fun a _ _ => u1 a (by omega)) (fun _ _ => rfl) (XE.rf R K) (fun a h1 _ => u1 a (by omega))
      obtain ⟨J3, v1, v2, v3⟩ := c_sclear R K J2 h.1.2.2.2.1 f rs2
      have hc := c_hclear R K J3 h.1.2.2.2.2.1
      obtain ⟨J4, hJ4⟩ : ∃ J4, J4 = st J3 38 (uf (J3 38) 2 (nI 0)) := ⟨_, rfl⟩
      rw [← hJ4] at hc
      have o4 : ∀ a, a ≠ 38 → J4 a = J3 a := fun a z => by rw [hJ4, st_ne _ _ z]
      have o2 : ∀ a, (a < 6 ∨ 39 ≤ a) → J4 a = J a := fun a z => by rw [o4 a (by omega), v3 a (by omega), u1 a (by omega)]
      have i71 : J4 7 1 = nI n := by rw [o4 _ (by omega), v3 _ (by omega)]; exact u4.2.2.2.2.1
      refine ⟨J4, ?_, ?_, fc1.tr (fun a z1 z2 => o2 a (by omega))⟩
      · have t5' : J 4 1 = nI n := h1.2.1.2.2.2.2.1
        simp (disch := first | assumption | omega | exact ixN (by assumption) (by omega) (by omega) | exact ne_10 | exact ne_1000 | exact ne_4) only [s74_0, s74_0a, s74_1, s74_4, s74_7, s74_10, s74_10a, s74_11, s74_14, s74_14a, s74_15, s74_18, s74_21, s74_23, s74_26, s74_28, s74_29, s74_29a, s74_30, s74_33, s74_33a, s74_34, s74_37, s74_40, s74_41, s74_41a, s74_42, s74_45, s74_48, s74_48a, s74_49, s74_52, s74_55, s74_55a, s74_56, s74_59, s74_62, s74_65, ↓reduceIte, eq_self, Option.bind_some, Option.bind_none, Option.toList_some, Option.toList_none, List.cons_append, List.nil_append, am_rf_s, am_rf_n, am_c1_i, am_c1_r, am_c1_n, List.all_cons, List.all_nil, Bool.and_self, Bool.and_true, Bool.true_and, List.length_cons, List.length_nil, Nat.reduceAdd, Nat.reduceSub, Nat.reduceMul, Nat.reduceLeDiff, Nat.reduceLT, Nat.zero_le, Nat.le_refl, ne_10, ne_1000, ne_4, not_false_eq_true, or_true, true_or, Nat.one_ne_zero, Nat.zero_ne_one, Nat.reduceEqDiff, Bool.true_eq_false, Bool.false_eq_true, n10, nI_eq, xt, xd, xl, xn, xh, rl, t5, c0, j2, fsI, u2, v1, hc, i71]
      · rw [if_pos rfl]
        refine ⟨h.1, h1.2.1.fr (o2 4 (by omega)) (o2 5 (by omega)), ⟨rdB tx n, ⟨h.1.2.1, (u4.fr (by rw [o4 _ (by omega), v3 _ (by omega)]) (by rw [o4 _ (by omega), v3 _ (by omega)])).cg (fun i hi => ?_), ?_⟩, fun j hj => ?_⟩, ?_, ?_, ?_⟩
        · unfold lyC; rw [if_pos (by omega), if_pos hi]
        · rw [o4 _ (by omega), v3 _ (by omega)]; exact u5
        · simp only [lyB_b (tx := tx) (bg := bg) (n := n) hj]
          cases rdB tx n j <;> rfl
        · rw [o4 _ (by omega), v3 _ (by omega), u6, lyB_cu h60]
        · exact v2.fr (fun a _ _ => o4 a (by omega)) (fun _ _ => rfl) (XE.rf R K) (fun a h1 _ => o4 a (by omega))
        · obtain ⟨l, l1, l2, l3, l4, l5, l6⟩ := h1.2.2.2.2.2
          have i38 : J3 38 = J 38 := by rw [v3 _ (by omega), u1 _ (by omega)]
          refine ⟨l, l1, ?_, ?_, by omega, fun j hj => by omega, fun i p hi hp => ?_⟩
          · rw [hJ4, st_eq, uf_ne _ _ (by omega), i38]; exact l2
          · rw [hJ4, st_eq, uf_eq]
          · rw [o2 _ (by omega)]; exact l6 i p hi hp
end DH
