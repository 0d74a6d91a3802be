/-! the class: a step with what lies there -/
theorem RS.own {I : am_I} {R : am_R} {K : am_K} {f : Nat → Int32} (h : RS I R K 14 f) {c i j : Nat} (hc : c < 2) (hij : (i = 4 ∧ j = 1) ∨ (i = 5 ∧ j = 0) ∨ (i = 6 ∧ j = 15) ∨ (i = 7 ∧ j = 16)) (v : Int32) : RS (st I (17 + 7 * c) (uf (I (17 + 7 * c)) i v)) R K 14 (uf f (8 + 31 * c + j) v) := by
  refine h.pro hc (fun a h1 _ _ => st_ne _ _ (by omega)) (fun k hk => uf_ne _ _ (by omega)) ?_
  obtain ⟨⟨g1, g2, g3, g4, g5, g6, g7⟩, ⟨d, d1, d2, d3⟩, n, n1, n2, n3⟩ := h.q hc
  have ne : ∀ (b k : Nat), b ≠ 17 + 7 * c → st I (17 + 7 * c) (uf (I (17 + 7 * c)) i v) b k = I b k := fun b k hb => by rw [st_ne _ _ hb]
  refine ⟨?_, ⟨d, d1, by rw [uf_ne _ _ (by omega)]; exact d2, fun k hk => by rw [ne _ _ (by omega), ne _ _ (by omega), uf_ne _ _ (by omega), uf_ne _ _ (by omega)]; exact d3 k hk⟩, n, n1, by rw [uf_ne _ _ (by omega)]; exact n2, fun k hk => by rw [ne _ _ (by omega), ne _ _ (by omega), ne _ _ (by omega), uf_ne _ _ (by omega), uf_ne _ _ (by omega), uf_ne _ _ (by omega)]; exact n3 k hk⟩
  rcases hij with ⟨rfl, rfl⟩ | ⟨rfl, rfl⟩ | ⟨rfl, rfl⟩ | ⟨rfl, rfl⟩
  · exact ⟨by first | assumption | (simp (disch := omega) only [st_eq, st_ne, uf_eq, uf_ne]; done) | (simp (disch := omega) only [st_eq, st_ne, uf_eq, uf_ne]; assumption), by first | assumption | (simp (disch := omega) only [st_eq, st_ne, uf_eq, uf_ne]; done) | (simp (disch := omega) only [st_eq, st_ne, uf_eq, uf_ne]; assumption), by first | assumption | (simp (disch := omega) only [st_eq, st_ne, uf_eq, uf_ne]; done) | (simp (disch := omega) only [st_eq, st_ne, uf_eq, uf_ne]; assumption), by first | assumption | (simp (disch := omega) only [st_eq, st_ne, uf_eq, uf_ne]; done) | (simp (disch := omega) only [st_eq, st_ne, uf_eq, uf_ne]; assumption), by first | assumption | (simp (disch := omega) only [st_eq, st_ne, uf_eq, uf_ne]; done) | (simp (disch := omega) only [st_eq, st_ne, uf_eq, uf_ne]; assumption), by first | assumption | (simp (disch := omega) only [st_eq, st_ne, uf_eq, uf_ne]; done) | (simp (disch := omega) only [st_eq, st_ne, uf_eq, uf_ne]; assumption), by first | assumption | (simp (disch := omega) only [st_eq, st_ne, uf_eq, uf_ne]; done) | (simp (disch := omega) only [st_eq, st_ne, uf_eq, uf_ne]; assumption)⟩
  · rw [Nat.add_zero]
    exact ⟨by first | assumption | (simp (disch := omega) only [st_eq, st_ne, uf_eq, uf_ne]; done) | (simp (disch := omega) only [st_eq, st_ne, uf_eq, uf_ne]; assumption), by first | assumption | (simp (disch := omega) only [st_eq, st_ne, uf_eq, uf_ne]; done) | (simp (disch := omega) only [st_eq, st_ne, uf_eq, uf_ne]; assumption), by first | assumption | (simp (disch := omega) only [st_eq, st_ne, uf_eq, uf_ne]; done) | (simp (disch := omega) only [st_eq, st_ne, uf_eq, uf_ne]; assumption), by first | assumption | (simp (disch := omega) only [st_eq, st_ne, uf_eq, uf_ne]; done) | (simp (disch := omega) only [st_eq, st_ne, uf_eq, uf_ne]; assumption), by first | assumption | (simp (disch := omega) only [st_eq, st_ne, uf_eq, uf_ne]; done) | (simp (disch := omega) only [st_eq, st_ne, uf_eq, uf_ne]; assumption), by first | assumption | (simp (disch := omega) only [st_eq, st_ne, uf_eq, uf_ne]; done) | (simp (disch := omega) only [st_eq, st_ne, uf_eq, uf_ne]; assumption), by first | assumption | (simp (disch := omega) only [st_eq, st_ne, uf_eq, uf_ne]; done) | (simp (disch := omega) only [st_eq, st_ne, uf_eq, uf_ne]; assumption)⟩
  · exact ⟨by first | assumption | (simp (disch := omega) only [st_eq, st_ne, uf_eq, uf_ne]; done) | (simp (disch := omega) only [st_eq, st_ne, uf_eq, uf_ne]; assumption), by first | assumption | (simp (disch := omega) only [st_eq, st_ne, uf_eq, uf_ne]; done) | (simp (disch := omega) only [st_eq, st_ne, uf_eq, uf_ne]; assumption), by first | assumption | (simp (disch := omega) only [st_eq, st_ne, uf_eq, uf_ne]; done) | (simp (disch := omega) only [st_eq, st_ne, uf_eq, uf_ne]; assumption), by first | assumption | (simp (disch := omega) only [st_eq, st_ne, uf_eq, uf_ne]; done) | (simp (disch := omega) only [st_eq, st_ne, uf_eq, uf_ne]; assumption), by first | assumption | (simp (disch := omega) only [st_eq, st_ne, uf_eq, uf_ne]; done) | (simp (disch := omega) only [st_eq, st_ne, uf_eq, uf_ne]; assumption), by first | assumption | (simp (disch := omega) only [st_eq, st_ne, uf_eq, uf_ne]; done) | (simp (disch := omega) only [st_eq, st_ne, uf_eq, uf_ne]; assumption), by first | assumption | (simp (disch := omega) only [st_eq, st_ne, uf_eq, uf_ne]; done) | (simp (disch := omega) only [st_eq, st_ne, uf_eq, uf_ne]; assumption)⟩
  · exact ⟨by first | assumption | (simp (disch := omega) only [st_eq, st_ne, uf_eq, uf_ne]; done) | (simp (disch := omega) only [st_eq, st_ne, uf_eq, uf_ne]; assumption), by first | assumption | (simp (disch := omega) only [st_eq, st_ne, uf_eq, uf_ne]; done) | (simp (disch := omega) only [st_eq, st_ne, uf_eq, uf_ne]; assumption), by first | assumption | (simp (disch := omega) only [st_eq, st_ne, uf_eq, uf_ne]; done) | (simp (disch := omega) only [st_eq, st_ne, uf_eq, uf_ne]; assumption), by first | assumption | (simp (disch := omega) only [st_eq, st_ne, uf_eq, uf_ne]; done) | (simp (disch := omega) only [st_eq, st_ne, uf_eq, uf_ne]; assumption), by first | assumption | (simp (disch := omega) only [st_eq, st_ne, uf_eq, uf_ne]; done) | (simp (disch := omega) only [st_eq, st_ne, uf_eq, uf_ne]; assumption), by first | assumption | (simp (disch := omega) only [st_eq, st_ne, uf_eq, uf_ne]; done) | (simp (disch := omega) only [st_eq, st_ne, uf_eq, uf_ne]; assumption), by first | assumption | (simp (disch := omega) only [st_eq, st_ne, uf_eq, uf_ne]; done) | (simp (disch := omega) only [st_eq, st_ne, uf_eq, uf_ne]; assumption)⟩
theorem RS.bey {I : am_I} {R : am_R} {K : am_K} {f : Nat → Int32} (h : RS I R K 14 f) {c k d : Nat} (hc : c < 2) (hd : f (8 + 31 * c + 2) = nI d) (hk : d ≤ k) (hk6 : k < 6) (v : Int32) : RS I R K 14 (uf f (8 + 31 * c + 9 + k) v) := by
  refine h.pro hc (fun a h1 _ _ => rfl) (fun k hk => uf_ne _ _ (by omega)) ?_
  obtain ⟨⟨g1, g2, g3, g4, g5, g6, g7⟩, ⟨d', d1, d2, d3⟩, n, n1, n2, n3⟩ := h.q hc
  have ed : d' = d := by rw [hd, nI_eq (by omega) (by omega)] at d2; exact d2.symm
  subst ed
  exact ⟨⟨by rw [uf_ne _ _ (by omega)]; exact g1, by rw [uf_ne _ _ (by omega)]; exact g2, by rw [uf_ne _ _ (by omega)]; exact g3, by rw [uf_ne _ _ (by omega)]; exact g4, by rw [uf_ne _ _ (by omega)]; exact g5, by rw [uf_ne _ _ (by omega)]; exact g6, by rw [uf_ne _ _ (by omega)]; exact g7⟩, ⟨d', d1, by rw [uf_ne _ _ (by omega)]; exact d2, fun j hj => by rw [uf_ne _ _ (by omega), uf_ne _ _ (by omega)]; exact d3 j hj⟩, n, n1, by rw [uf_ne _ _ (by omega)]; exact n2, fun j hj => by rw [uf_ne _ _ (by omega), uf_ne _ _ (by omega), uf_ne _ _ (by omega)]; exact n3 j hj⟩
theorem RS.ins {I I' : am_I} {R : am_R} {K : am_K} {f f' : Nat → Int32} (h : RS I R K 14 f) {c : Nat} (hc : c < 2) (hI : ∀ a, a ≠ 17 + 7 * c → a ≠ 17 + 7 * c + 1 → a ≠ 17 + 7 * c + 2 → a ≠ 15 + 1 → I' a = I a) (hf : ∀ j, 8 ≤ j → (j < 8 + 31 * c ∨ 8 + 31 * c + 31 ≤ j) → f' j = f j) (hm : ∀ k, k < 8 → I' (15 + 1) k = f' k) (hQ : RQ I' (17 + 7 * c) f' (8 + 31 * c)) : RS I' R K 14 f' := by
  obtain ⟨s1, s2, s3, s4⟩ := h
  have dy : DY I K I' := fun a h1 _ => hI a (by omega) (by omega) (by omega) (by omega)
  refine ⟨hm, ?_, ?_, fun p hp => (s4 p hp).fr (hI _ (by omega) (by omega) (by omega) (by omega)) rfl (XE.rf R K) dy (fun j _ _ => hf j (by omega) (by omega))⟩
  · have : c = 0 ∨ c = 1 := by omega
    rcases this with rfl | rfl
    · exact hQ
    · exact s2.cg (fun j hj => hI _ (by omega) (by omega) (by omega) (by omega)) (fun j _ _ => hf j (by omega) (by omega))
  · have : c = 0 ∨ c = 1 := by omega
    rcases this with rfl | rfl
    · exact s3.cg (fun j hj => hI _ (by omega) (by omega) (by omega) (by omega)) (fun j _ _ => hf j (by omega) (by omega))
    · exact hQ
/-- the two rows of begins are one -/
def BE (bg : Nat → Int32) (b : Nat → Bool) : Prop := ∀ j, j < 60 → b j = !decide (am_b (bg j) = nI 0)
theorem isC_hs {nc : Nat} (h1 : 1 ≤ nc) (h2 : nc ≤ 60) (x : Int32) : isC nc x = hs nc x := by
  unfold isC hs
  rw [pk_sub h1]
  by_cases c0 : nI 0 ≤ x
  · obtain ⟨q, hq, rfl⟩ := nI_of (x := x) (Int32.not_lt.mpr c0)
    congr 1
    simp only [decide_eq_decide]
    rw [nI_leI hq (by omega), nI_ltI hq (by omega)]
    omega
  · simp [c0]
theorem isB_bA {bg : Nat → Int32} {b : Nat → Bool} {nc : Nat} (h : BE bg b) (h1 : 1 ≤ nc) (h2 : nc ≤ 60) (x : Int32) : isB bg nc x = bA nc b x := by
  unfold isB bA
  rw [isC_e, isC_hs h1 h2]
  cases q : hs nc x with
  | false => rfl
  | true =>
    obtain ⟨k, hk, rfl⟩ := hs_of q (by omega)
    rw [nI_clamp (by omega), h k (by omega)]
theorem pOn_cg {f f' : Nat → Int32} (h : ∀ p, p < 6 → f' (70 + 208 * p) = f (70 + 208 * p) ∧ f' (72 + 208 * p) = f (72 + 208 * p)) (x : Int32) : pOn f' x = pOn f x := by
  have : ∀ r p : Nat, p + r = 6 → fs (fun p => decide (f' (70 + 208 * p) < nI 3) && decide (f' (72 + 208 * p) = x)) r p = fs (fun p => decide (f (70 + 208 * p) < nI 3) && decide (f (72 + 208 * p) = x)) r p := by
    intro r
    induction r with
    | zero => intro p _; rfl
    | succ r ih =>
      intro p hp
      unfold fs
      rw [ih (p + 1) (by omega), (h p (by omega)).1, (h p (by omega)).2]
  exact this 6 0 rfl
section DG
variable (I : am_I) (R : am_R) (K : am_K)
theorem c_swp (hX : XL R K) (hb : SB R K 14) (hS : SL R K) (nc c : Nat) (cd bg f : Nat → Int32) (b : Nat → Bool) (hC : RC I R K 6 nc cd b) (hbe : BE bg b) (hW : WC cd bg nc) (hs : RS I R K 14 f) (hw : WF f e0) (hc : c < 2) (h0 : f (8 + 31 * c + 15) = nI 0) : ∃ I', ev 92 0 [some (.ref 3), some (.ref (17 + 7 * c)), none, none, none] [] (I, R, K) = some (none, (I', R, K)) ∧ RS I' R K 14 (sDo cd bg nc f c).2 ∧ FN I I' := by
  have x1 := hX.1
  have xl := hX.2.2.1
  have xn := hX.2.2.2.2.1
  have pl := hb.q hc
  have kq := pl.1.1
  have kb := hb.1.1
  have kc := hC.1.1
  have w60 := hW.2.1
  have rb0 : R 14 0 = some 15 := hb.2.1.1
  have mb : ML R K 15 := hb.2.2.1
  have sq := hs.q hc
  have i6 : I (17 + 7 * c) 6 = nI 0 := by rw [sq.1.2.2.2.1]; exact h0
  have i4 : I (17 + 7 * c) 4 = f (8 + 31 * c + 1) := sq.1.2.1
  have i7 : I (17 + 7 * c) 7 = f (8 + 31 * c + 16) := sq.1.2.2.2.2.1
  have at' := c_isAt I R K (17 + 7 * c) 6 nc cd b pl hC i6
  rw [i4, ← isB_bA hbe hW.1 hW.2.1] at at'
  by_cases hB : isB bg nc (f (8 + 31 * c + 1)) = true
  · have hB' : ¬ isB bg nc (f (8 + 31 * c + 1)) = false := by rw [hB]; decide
    rw [if_neg hB', hB] at at'
    obtain ⟨x, hx, hx2, hx3⟩ := isB_of hB hW.1 hW.2.1
    have hWL := hW.2.2 x hx hx3
    obtain ⟨d, d1, d2, -⟩ := (hw.2.1 c hc).2.2.2.1
    rw [sDo_in hw hc h0 hB hx2 (by omega) d2 d1]
    obtain ⟨w, wf⟩ := hw.cm (bg := bg) (nc := nc) hc
    obtain ⟨I1, hI1⟩ : ∃ I1, I1 = st I (17 + 7 * c) (uf (I (17 + 7 * c)) 7 (f (8 + 31 * c + 16) + nI 1)) := ⟨_, rfl⟩
    obtain ⟨f1, hf1⟩ : ∃ f1, f1 = uf f (8 + 31 * c + 16) (f (8 + 31 * c + 16) + nI 1) := ⟨_, rfl⟩
    have s1 : RS I1 R K 14 f1 := by rw [hI1, hf1]; exact hs.own hc (Or.inr (Or.inr (Or.inr ⟨rfl, rfl⟩))) _
    have fn1 : FN I I1 := by rw [hI1]; exact FN.st I _ (by omega) (by omega)
    have w1 : WF f1 e0 := by rw [hf1]; exact hw.sk hc (i := 16) (Or.inl rfl) _
    have j4 : I1 (17 + 7 * c) 4 = nI x := by rw [(s1.q hc).1.2.1, hf1, uf_ne _ _ (by omega)]; exact hx2
    have po := c_probeOn I1 R K 14 f1 hb s1 (nI x)
    have ep : pOn f1 (nI x) = pOn f (f (8 + 31 * c + 1)) := by
      rw [hx2]; exact pOn_cg (fun p hp => by rw [hf1, uf_ne _ _ (by omega), uf_ne _ _ (by omega)]; exact ⟨rfl, rfl⟩) _
    rw [ep] at po
    -- as far as the instruction itself
    have half : ∃ (I2 : am_I) (l2 : Option Value), ev 92 0 [some (.ref 3), some (.ref (17 + 7 * c)), none, none, none] [] (I, R, K) = ev 92 51 [some (.ref 3), some (.ref (17 + 7 * c)), l2, none, none] [] (I2, R, K) ∧ RS I2 R K 14 (sCm bg nc f c) ∧ FN I I2 := by
      unfold sCm sBy
      rw [if_pos h0, if_neg hB']
      cases q : pOn f (f (8 + 31 * c + 1)) with
      | none =>
        rw [q] at po
        refine ⟨I1, some .null, ?_, by rw [← hf1]; exact s1, fn1⟩
        simp (disch := first | assumption | omega | exact ixN (by assumption) (by omega) (by omega) | exact ne_10 | exact ne_1000 | exact ne_4) only [s92_0, s92_0a, s92_1, s92_1a, s92_2, s92_5, s92_8, s92_11, s92_12, s92_12a, s92_13, s92_14, s92_17, s92_18, s92_19, s92_22, s92_22a, s92_23, s92_26, s92_26a, s92_27, s92_30, s92_33, s92_33a, s92_34, s92_34a, s92_35, s92_35a, s92_38, s92_38a, s92_39, s92_42, s92_45, s92_45a, s92_46, s92_46a, s92_47, s92_47a, s92_48, ↓reduceIte, eq_self, Option.bind_some, Option.bind_none, Option.toList_some, Option.toList_none, List.cons_append, List.nil_append, am_rf_s, am_rf_n, am_c1_i, am_c1_r, am_c1_n, List.all_cons, List.all_nil, Bool.and_self, Bool.and_true, Bool.true_and, List.length_cons, List.length_nil, Nat.reduceAdd, Nat.reduceSub, Nat.reduceMul, Nat.reduceLeDiff, Nat.reduceLT, Nat.zero_le, Nat.le_refl, ne_10, ne_1000, ne_4, not_false_eq_true, or_true, true_or, Nat.one_ne_zero, Nat.zero_ne_one, Nat.reduceEqDiff, Bool.true_eq_false, Bool.false_eq_true, n10, ui_st, xl, xn, at', bI_t, i7, ← hI1, j4, po, pRef]
      | some p =>
        rw [q] at po
        have hp : p < 6 := by have := (fs_lt q).2.1; omega
        have h3 : ¬ f (70 + 208 * p) = nI 3 := by
          have := (fs_lt q).2.2
          simp only [Bool.and_eq_true, decide_eq_true_eq] at this
          intro z
          rw [z] at this
          exact absurd this.1 (by decide)
        have kp : am_isK K (32 + p) 3 = true := by
          have := (hb.2.2.2.2.2 p hp).2
          rwa [show 14 + 18 + p = 32 + p by omega] at this
        have e32 : 14 + 18 + p = 32 + p := by omega
        have ip : I1 (32 + p) 1 = f (70 + 208 * p) := by
          have := (s1.2.2.2 p hp).2.1
          rw [e32] at this
          rw [this, hf1, uf_ne _ _ (by omega)]
        dsimp only
        by_cases c0 : f (70 + 208 * p) = nI 0
        · rw [if_pos c0]
          dsimp only
          rw [← hf1]
          obtain ⟨m, m1, m2⟩ := (w1.2.2 p hp).2.1
          obtain ⟨n, n1, n2⟩ := (w1.2.1 c hc).2.2.2.2
          have d2' : f1 (8 + 31 * c + 2) = nI d := by rw [hf1, uf_ne _ _ (by omega)]; exact d2
          rw [m2, n2, d2', nt_nI (by omega), nt_nI (by omega), nt_nI (by omega)]
          obtain ⟨-, -, hb3, hb4, -⟩ := w1.2.2 p hp
          obtain ⟨I2, v1, v2, v3⟩ := c_comeBy I1 R K hX hb hS f1 s1 c p m n d hc hp (by rw [hf1, uf_ne _ _ (by omega)]; exact h3) m2 m1 n2 n1 (w1.2.1 c hc).1 w1.1 d2' d1 ⟨_, hb4, hb3⟩ (fun hd0 => by
            obtain ⟨-, k, k1, k2⟩ := w1.hl hc d2' d1 (k := d - 1) (by omega)
            rw [show 8 + 31 * c + 9 + (d - 1) = 8 + 31 * c + 8 + d by omega] at k2
            exact ⟨k, k1, k2⟩)
          refine ⟨I2, some (.ref (32 + p)), ?_, v2, fn1.tr v3⟩
          simp (disch := first | assumption | omega | exact ixN (by assumption) (by omega) (by omega) | exact ne_10 | exact ne_1000 | exact ne_4) only [s92_0, s92_0a, s92_1, s92_1a, s92_2, s92_5, s92_8, s92_11, s92_12, s92_12a, s92_13, s92_14, s92_17, s92_18, s92_19, s92_22, s92_22a, s92_23, s92_26, s92_26a, s92_27, s92_30, s92_33, s92_33a, s92_34, s92_34a, s92_35, s92_35a, s92_38, s92_38a, s92_39, s92_42, s92_45, s92_45a, s92_46, s92_46a, s92_47, s92_47a, s92_48, ↓reduceIte, eq_self, Option.bind_some, Option.bind_none, Option.toList_some, Option.toList_none, List.cons_append, List.nil_append, am_rf_s, am_rf_n, am_c1_i, am_c1_r, am_c1_n, List.all_cons, List.all_nil, Bool.and_self, Bool.and_true, Bool.true_and, List.length_cons, List.length_nil, Nat.reduceAdd, Nat.reduceSub, Nat.reduceMul, Nat.reduceLeDiff, Nat.reduceLT, Nat.zero_le, Nat.le_refl, ne_10, ne_1000, ne_4, not_false_eq_true, or_true, true_or, Nat.one_ne_zero, Nat.zero_ne_one, Nat.reduceEqDiff, Bool.true_eq_false, Bool.false_eq_true, n10, ui_st, xl, xn, at', bI_t, i7, ← hI1, j4, po, pRef, e32, ip, c0, v1]
        · rw [if_neg c0]
          refine ⟨I1, some (.ref (32 + p)), ?_, by rw [← hf1]; exact s1, fn1⟩
          simp (disch := first | assumption | omega | exact ixN (by assumption) (by omega) (by omega) | exact ne_10 | exact ne_1000 | exact ne_4) only [s92_0, s92_0a, s92_1, s92_1a, s92_2, s92_5, s92_8, s92_11, s92_12, s92_12a, s92_13, s92_14, s92_17, s92_18, s92_19, s92_22, s92_22a, s92_23, s92_26, s92_26a, s92_27, s92_30, s92_33, s92_33a, s92_34, s92_34a, s92_35, s92_35a, s92_38, s92_38a, s92_39, s92_42, s92_45, s92_45a, s92_46, s92_46a, s92_47, s92_47a, s92_48, ↓reduceIte, eq_self, Option.bind_some, Option.bind_none, Option.toList_some, Option.toList_none, List.cons_append, List.nil_append, am_rf_s, am_rf_n, am_c1_i, am_c1_r, am_c1_n, List.all_cons, List.all_nil, Bool.and_self, Bool.and_true, Bool.true_and, List.length_cons, List.length_nil, Nat.reduceAdd, Nat.reduceSub, Nat.reduceMul, Nat.reduceLeDiff, Nat.reduceLT, Nat.zero_le, Nat.le_refl, ne_10, ne_1000, ne_4, not_false_eq_true, or_true, true_or, Nat.one_ne_zero, Nat.zero_ne_one, Nat.reduceEqDiff, Bool.true_eq_false, Bool.false_eq_true, n10, ui_st, xl, xn, at', bI_t, i7, ← hI1, j4, po, pRef, e32, ip, c0]
    obtain ⟨I2, l2, u1, u2, u3⟩ := half
    rw [u1]
    obtain ⟨f2, hf2⟩ : ∃ f2, f2 = sCm bg nc f c := ⟨_, rfl⟩
    rw [← hf2] at u2 w wf ⊢
    have sq2 := u2.q hc
    have x2 : f2 (8 + 31 * c + 1) = nI x := by rw [wf _ (by omega) (by omega)]; exact hx2
    have d2' : f2 (8 + 31 * c + 2) = nI d := by rw [wf _ (by omega) (by omega)]; exact d2
    have k4 : I2 (17 + 7 * c) 4 = nI x := by rw [sq2.1.2.1]; exact x2
    have k3 : I2 (17 + 7 * c) 3 = nI d := by rw [sq2.1.1]; exact d2'
    have C2 : RC I2 R K 6 nc cd b := ⟨hC.1, hC.2.1.fr (u3 7 (by omega) (by omega) (by omega)) (u3 8 (by omega) (by omega) (by omega)), by rw [show (6 : Nat) + 3 = 9 from rfl, u3 9 (by omega) (by omega) (by omega)]; exact hC.2.2⟩
    have la := c_letterAt I2 R K 6 nc cd C2.1 C2.2.1 x (by omega)
    have et : tN cd nc x = cd x := by unfold tN; rw [if_pos hx]
    rw [et] at la
    have th := c_topHolder I2 R K (17 + 7 * c) d pl k3 d1
    obtain ⟨I3, p1, p2, p3, p4⟩ := c_perform I2 R K (17 + 7 * c) 15 6 (8 + 31 * c) nc x d cd f2 b pl mb C2 (by omega) (by omega) sq2 u2.1 x2 hx hWL d2' d1 (by omega) (w.2.1 c hc).1
    obtain ⟨k, k6, v1, v2⟩ := w.ins hc hWL hx hW.2.1 d2' d1
    obtain ⟨g, hg⟩ : ∃ g, g = uf (sI cd f2 (8 + 31 * c) d x).1 (8 + 31 * c + 1) (sI cd f2 (8 + 31 * c) d x).2 := ⟨_, rfl⟩
    rw [← hg] at p2 p3 v1 ⊢
    have s3 : RS I3 R K 14 g := u2.ins hc p4 (fun j j8 hj => by
      rw [hg, uf_ne _ _ (by omega), sI_far hWL j8 d1 (by omega) (by omega)]) p3 p2
    have fn3 : FN I I3 := u3.tr (fun a h1 h2 h3 => p4 a (by omega) (by omega) (by omega) (by omega))
    have none' : ∀ v : Int32, inR v 0 5 = false → ev 54 0 [some (.ref 14), some (.int v)] [] (I3, R, K) = some (some .null, (I3, R, K)) := fun v hv => by
      have := c_probeOrNull I3 R K 14 hb v
      rw [hv] at this
      exact this
    have nm := none' (-1) (by decide)
    dsimp only
    split at v2
    · rename_i q
      obtain ⟨q1, q2⟩ := q
      obtain ⟨y1, y2⟩ := v2
      have g2 : g (8 + 31 * c + 2) = nI (d - 1) := by rw [hg, y2]; dsimp only; rw [uf_ne _ _ (by omega), uf_eq]
      have gd : g (8 + 31 * c + 8 + d) = nI k := by rw [hg, y2]; dsimp only; rw [uf_ne _ _ (by omega), uf_ne _ _ (by omega)]; exact y1
      rw [sDo2_yes (by rw [g2]; exact nI_lt (by omega) (by omega)) gd k6]
      obtain ⟨z1, z2⟩ := v1.lv hc k6
      have be : ∀ J : am_I, RS J R K 14 (sLv g c k) → RS J R K 14 (uf (sLv g c k) (8 + 31 * c + 8 + d) (nI 0)) := fun J hJ => by
        have := hJ.bey hc (k := d - 1) (d := d - 1) (by rw [z2 _ (by omega) (by omega)]; exact g2) (by omega) (by omega) (nI 0)
        rwa [show 8 + 31 * c + 9 + (d - 1) = 8 + 31 * c + 8 + d by omega] at this
      have hol : I2 (17 + 7 * c + 2) (d - 1) = nI k - nI 1 := by
        obtain ⟨d', y1', y2', y3'⟩ := sq2.2.1
        have ed : d' = d := by rw [d2', nI_eq (by omega) (by omega)] at y2'; exact y2'.symm
        subst ed
        have := (y3' (d' - 1) (by omega)).2
        rw [show 8 + 31 * c + 9 + (d' - 1) = 8 + 31 * c + 8 + d' by omega, y1] at this
        exact this
      rw [if_neg q2, hol] at th
      by_cases k0 : k = 0
      · subst k0
        have em : nI 0 - nI 1 = -1 := by decide
        rw [em] at th
        have e : sLv g c 0 = g := by unfold sLv; rw [if_neg (fun z => z.1 rfl)]; unfold sFree; rw [if_pos rfl]
        refine ⟨I3, ?_, be I3 (by rw [e]; exact s3), fn3⟩
        simp (disch := first | assumption | omega | exact ixN (by assumption) (by omega) (by omega) | exact ne_10 | exact ne_1000 | exact ne_4) only [s92_51, s92_51a, s92_52, s92_55, s92_55a, s92_56, s92_59, s92_62, s92_64, s92_67, s92_67a, s92_68, s92_71, s92_74, s92_75, s92_76, s92_76a, s92_77, s92_77a, s92_78, s92_81, s92_81a, s92_82, s92_85, s92_88, s92_91, s92_91a, s92_92, s92_95, s92_96, s92_99, s92_99a, s92_101, s92_101a, s92_103, s92_103a, s92_106, s92_106a, s92_107, s92_107a, s92_108, s92_108a, s92_110, s92_113, ↓reduceIte, eq_self, Option.bind_some, Option.bind_none, Option.toList_some, Option.toList_none, List.cons_append, List.nil_append, am_rf_s, am_rf_n, am_c1_i, am_c1_r, am_c1_n, List.all_cons, List.all_nil, Bool.and_self, Bool.and_true, Bool.true_and, List.length_cons, List.length_nil, Nat.reduceAdd, Nat.reduceSub, Nat.reduceMul, Nat.reduceLeDiff, Nat.reduceLT, Nat.zero_le, Nat.le_refl, ne_10, ne_1000, ne_4, not_false_eq_true, or_true, true_or, Nat.one_ne_zero, Nat.zero_ne_one, Nat.reduceEqDiff, Bool.true_eq_false, Bool.false_eq_true, n10, xl, xn, rb0, k4, la, q1, th, p1, nm]
      · have ek : nI k - nI 1 = nI (k - 1) := pk_sub (by omega)
        rw [ek] at th
        have pn := c_probeOrNull I3 R K 14 hb (nI (k - 1))
        have ei : inR (nI (k - 1)) 0 5 = true := by
          have e0 : nI 0 ≤ nI (k - 1) := nI_le (by omega) (by omega)
          have e1 : nI (k - 1) ≤ nI 5 := nI_le (by omega) (by omega)
          unfold inR; simp [e0, e1]
        simp only [ei, if_true, pRef, nI_clamp (show k - 1 < 2 ^ 31 by omega), show 14 + 18 + (k - 1) = 32 + (k - 1) by omega] at pn
        obtain ⟨bb1, ⟨m, m1, m2⟩, bb3, bb4, bb5⟩ := v1.2.2 (k - 1) (by omega)
        have ih : ih1 k (k - 1) = 1 := by unfold ih1; rw [if_pos (by omega)]
        rw [ih] at bb3 bb4 bb5
        obtain ⟨n, n1, n2⟩ := (v1.2.1 c hc).2.2.2.2
        obtain ⟨I4, r1, r2, r3⟩ := c_leave I3 R K hX hb hS g s3 c (k - 1) m n (cnt g (k - 1)) hc (by omega) (fun z => by have := bb5 z; omega) m2 m1 n2 n1 (v1.2.1 c hc).1 v1.1 bb3 (by omega)
        have kp : am_isK K (32 + (k - 1)) 3 = true := by
          have := (hb.2.2.2.2.2 (k - 1) (by omega)).2
          rwa [show 14 + 18 + (k - 1) = 32 + (k - 1) by omega] at this
        refine ⟨I4, ?_, be I4 ?_, fn3.tr r3⟩
        · simp (disch := first | assumption | omega | exact ixN (by assumption) (by omega) (by omega) | exact ne_10 | exact ne_1000 | exact ne_4) only [s92_51, s92_51a, s92_52, s92_55, s92_55a, s92_56, s92_59, s92_62, s92_64, s92_67, s92_67a, s92_68, s92_71, s92_74, s92_75, s92_76, s92_76a, s92_77, s92_77a, s92_78, s92_81, s92_81a, s92_82, s92_85, s92_88, s92_91, s92_91a, s92_92, s92_95, s92_96, s92_99, s92_99a, s92_101, s92_101a, s92_103, s92_103a, s92_106, s92_106a, s92_107, s92_107a, s92_108, s92_108a, s92_110, s92_113, ↓reduceIte, eq_self, Option.bind_some, Option.bind_none, Option.toList_some, Option.toList_none, List.cons_append, List.nil_append, am_rf_s, am_rf_n, am_c1_i, am_c1_r, am_c1_n, List.all_cons, List.all_nil, Bool.and_self, Bool.and_true, Bool.true_and, List.length_cons, List.length_nil, Nat.reduceAdd, Nat.reduceSub, Nat.reduceMul, Nat.reduceLeDiff, Nat.reduceLT, Nat.zero_le, Nat.le_refl, ne_10, ne_1000, ne_4, not_false_eq_true, or_true, true_or, Nat.one_ne_zero, Nat.zero_ne_one, Nat.reduceEqDiff, Bool.true_eq_false, Bool.false_eq_true, n10, xl, xn, rb0, k4, la, q1, th, p1, pn, r1]
        · unfold sLv
          rw [m2, n2, nt_nI (by omega), nt_nI (by omega)]
          rw [show k - 1 + 1 = k by omega] at r2
          by_cases c0 : g (70 + 208 * (k - 1)) = nI 0
          · rw [if_pos ⟨k0, c0⟩]; rw [if_pos c0] at r2; exact r2
          · rw [if_neg (fun z => c0 z.2)]; rw [if_neg c0] at r2; exact r2
    · rename_i q
      obtain ⟨y1, y2⟩ := v2
      rw [sDo2_no (by rw [hg, uf_ne _ _ (by omega)]; exact y2)]
      refine ⟨I3, ?_, s3, fn3⟩
      by_cases q1 : cd x = nI 114
      · have d0 : d = 0 := by
          by_cases z : d = 0
          · exact z
          · exact absurd ⟨q1, z⟩ q
        rw [if_pos d0] at th
        simp (disch := first | assumption | omega | exact ixN (by assumption) (by omega) (by omega) | exact ne_10 | exact ne_1000 | exact ne_4) only [s92_51, s92_51a, s92_52, s92_55, s92_55a, s92_56, s92_59, s92_62, s92_64, s92_67, s92_67a, s92_68, s92_71, s92_74, s92_75, s92_76, s92_76a, s92_77, s92_77a, s92_78, s92_81, s92_81a, s92_82, s92_85, s92_88, s92_91, s92_91a, s92_92, s92_95, s92_96, s92_99, s92_99a, s92_101, s92_101a, s92_103, s92_103a, s92_106, s92_106a, s92_107, s92_107a, s92_108, s92_108a, s92_110, s92_113, ↓reduceIte, eq_self, Option.bind_some, Option.bind_none, Option.toList_some, Option.toList_none, List.cons_append, List.nil_append, am_rf_s, am_rf_n, am_c1_i, am_c1_r, am_c1_n, List.all_cons, List.all_nil, Bool.and_self, Bool.and_true, Bool.true_and, List.length_cons, List.length_nil, Nat.reduceAdd, Nat.reduceSub, Nat.reduceMul, Nat.reduceLeDiff, Nat.reduceLT, Nat.zero_le, Nat.le_refl, ne_10, ne_1000, ne_4, not_false_eq_true, or_true, true_or, Nat.one_ne_zero, Nat.zero_ne_one, Nat.reduceEqDiff, Bool.true_eq_false, Bool.false_eq_true, n10, xl, xn, rb0, k4, la, q1, th, p1, nm]
      · simp (disch := first | assumption | omega | exact ixN (by assumption) (by omega) (by omega) | exact ne_10 | exact ne_1000 | exact ne_4) only [s92_51, s92_51a, s92_52, s92_55, s92_55a, s92_56, s92_59, s92_62, s92_64, s92_67, s92_67a, s92_68, s92_71, s92_74, s92_75, s92_76, s92_76a, s92_77, s92_77a, s92_78, s92_81, s92_81a, s92_82, s92_85, s92_88, s92_91, s92_91a, s92_92, s92_95, s92_96, s92_99, s92_99a, s92_101, s92_101a, s92_103, s92_103a, s92_106, s92_106a, s92_107, s92_107a, s92_108, s92_108a, s92_110, s92_113, ↓reduceIte, eq_self, Option.bind_some, Option.bind_none, Option.toList_some, Option.toList_none, List.cons_append, List.nil_append, am_rf_s, am_rf_n, am_c1_i, am_c1_r, am_c1_n, List.all_cons, List.all_nil, Bool.and_self, Bool.and_true, Bool.true_and, List.length_cons, List.length_nil, Nat.reduceAdd, Nat.reduceSub, Nat.reduceMul, Nat.reduceLeDiff, Nat.reduceLT, Nat.zero_le, Nat.le_refl, ne_10, ne_1000, ne_4, not_false_eq_true, or_true, true_or, Nat.one_ne_zero, Nat.zero_ne_one, Nat.reduceEqDiff, Bool.true_eq_false, Bool.false_eq_true, n10, xl, xn, rb0, k4, la, q1, p1, nm]
  · have hB' : isB bg nc (f (8 + 31 * c + 1)) = false := by simpa using hB
    rw [if_pos hB', hB'] at at'
    rw [sDo_out hw hc h0 hB']
    refine ⟨_, ?_, hs.own hc (i := 6) (j := 15) (Or.inr (Or.inr (Or.inl ⟨rfl, rfl⟩))) (nI 1), FN.st I _ (by omega) (by omega)⟩
    simp (disch := first | assumption | omega | exact ixN (by assumption) (by omega) (by omega) | exact ne_10 | exact ne_1000 | exact ne_4) only [s92_0, s92_0a, s92_1, s92_1a, s92_2, s92_5, s92_8, s92_11, ↓reduceIte, eq_self, Option.bind_some, Option.bind_none, Option.toList_some, Option.toList_none, List.cons_append, List.nil_append, am_rf_s, am_rf_n, am_c1_i, am_c1_r, am_c1_n, List.all_cons, List.all_nil, Bool.and_self, Bool.and_true, Bool.true_and, List.length_cons, List.length_nil, Nat.reduceAdd, Nat.reduceSub, Nat.reduceMul, Nat.reduceLeDiff, Nat.reduceLT, Nat.zero_le, Nat.le_refl, ne_10, ne_1000, ne_4, not_false_eq_true, or_true, true_or, Nat.one_ne_zero, Nat.zero_ne_one, Nat.reduceEqDiff, Bool.true_eq_false, Bool.false_eq_true, n10, xl, at', bI_f]
end DG
