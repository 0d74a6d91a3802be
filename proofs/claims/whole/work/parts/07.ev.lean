/-! equations of ev, an instruction each -/
theorem am_act_of {m pc : Nat} {cc : ByteArray} {i : Instr} {n : Nat} (hc : am_c m = cc) (hd : decode cc pc = .ok (i, n)) (ls : am_L) (st : List Value) (M : am_M) : am_act m pc ls st M = am_do m pc ls st M i n := by
  unfold am_act; rw [hc, hd]
section EV
variable {m pc pc' : Nat} {cc : ByteArray} {i : Instr} {n : Nat} {ls ls' : am_L} {st st' : List Value} {I : am_I} {R : am_R} {K : am_K}
theorem e1 (hc : am_c m = cc) (hd : decode cc pc = .ok (i, n)) (h : am_g1 pc ls st i n = some (pc', ls', st')) : ev m pc ls st (I, R, K) = ev m pc' ls' st' (I, R, K) := by
  apply ev_next; rw [am_act_of hc hd]; unfold am_do; rw [h]
theorem e2 (hc : am_c m = cc) (hd : decode cc pc = .ok (i, n)) (h1 : am_g1 pc ls st i n = none) (h : am_g2 pc st i n = some (pc', st')) : ev m pc ls st (I, R, K) = ev m pc' ls st' (I, R, K) := by
  apply ev_next; rw [am_act_of hc hd]; unfold am_do; rw [h1]; dsimp only; rw [h]
theorem e2p {o : Int} {r : List Value} {t : Nat} {P : Prop} {dP : Decidable P} (hc : am_c m = cc) (hd : decode cc pc = .ok (i, n)) (h1 : am_g1 pc ls st i n = none) (h : am_g2 pc st i n = am_br (@decide P dP) pc o r) (ht : (pc : Int) + o = (t : Int)) : ev m pc ls st (I, R, K) = @ite _ P dP (ev m t ls r (I, R, K)) (ev m (pc + 3) ls r (I, R, K)) := by
  have hb : am_br (@decide P dP) pc o r = some (if @decide P dP then (t, r) else (pc + 3, r)) := by
    unfold am_br am_tg; rw [ht]; simp
  by_cases q : P
  · rw [if_pos q]; exact e2 hc hd h1 (by rw [h, hb]; simp [q])
  · rw [if_neg q]; exact e2 hc hd h1 (by rw [h, hb]; simp [q])
theorem e2n {o : Int} {r : List Value} {t : Nat} {P : Prop} {dP : Decidable P} (hc : am_c m = cc) (hd : decode cc pc = .ok (i, n)) (h1 : am_g1 pc ls st i n = none) (h : am_g2 pc st i n = am_br (!@decide P dP) pc o r) (ht : (pc : Int) + o = (t : Int)) : ev m pc ls st (I, R, K) = @ite _ P dP (ev m (pc + 3) ls r (I, R, K)) (ev m t ls r (I, R, K)) := by
  have hb : am_br (!@decide P dP) pc o r = some (if @decide P dP then (pc + 3, r) else (t, r)) := by
    unfold am_br am_tg; rw [ht]; by_cases q : P <;> simp [q]
  by_cases q : P
  · rw [if_pos q]; exact e2 hc hd h1 (by rw [h, hb]; simp [q])
  · rw [if_neg q]; exact e2 hc hd h1 (by rw [h, hb]; simp [q])
theorem e3 {I' : am_I} {R' : am_R} (hc : am_c m = cc) (hd : decode cc pc = .ok (i, n)) (h1 : am_g1 pc ls st i n = none) (h2 : am_g2 pc st i n = none) (h : am_g3 (am_own m) (am_lev m) (am_ini m) pc st (I, R, K) i n = some (pc', st', I', R')) : ev m pc ls st (I, R, K) = ev m pc' ls st' (I', R', K) := by
  apply ev_next; rw [am_act_of hc hd]; unfold am_do; rw [h1]; dsimp only; rw [h2]; dsimp only; rw [h]
theorem e6 {M' : am_M} (hc : am_c m = cc) (hd : decode cc pc = .ok (i, n)) (h1 : am_g1 pc ls st i n = none) (h2 : am_g2 pc st i n = none) (h3 : am_g3 (am_own m) (am_lev m) (am_ini m) pc st (I, R, K) i n = none) (h : am_g6 (am_own m) pc st (I, R, K) i n = some (pc', st', M')) : ev m pc ls st (I, R, K) = ev m pc' ls st' M' := by
  apply ev_next; rw [am_act_of hc hd]; unfold am_do; rw [h1]; dsimp only; rw [h2]; dsimp only; rw [h3]; dsimp only; rw [h]
theorem e4 {j : Nat} {as r : List Value} (hc : am_c m = cc) (hd : decode cc pc = .ok (i, n)) (h1 : am_g1 pc ls st i n = none) (h2 : am_g2 pc st i n = none) (h3 : am_g3 (am_own m) (am_lev m) (am_ini m) pc st (I, R, K) i n = none) (h6 : am_g6 (am_own m) pc st (I, R, K) i n = none) (h : am_g4 (am_own m) (am_lev m) st (I, R, K) i n = some (j, as, r)) : ev m pc ls st (I, R, K) = (ev j 0 (am_ent j as) [] (I, R, K)).bind (fun q => ev m (pc + 3) ls (q.1.toList ++ r) q.2) := by
  apply ev_call; rw [am_act_of hc hd]; unfold am_do; rw [h1]; dsimp only; rw [h2]; dsimp only; rw [h3]; dsimp only; rw [h6]; dsimp only; rw [h]
theorem e5 {v : Option Value} (hc : am_c m = cc) (hd : decode cc pc = .ok (i, n)) (h1 : am_g1 pc ls st i n = none) (h2 : am_g2 pc st i n = none) (h3 : am_g3 (am_own m) (am_lev m) (am_ini m) pc st (I, R, K) i n = none) (h6 : am_g6 (am_own m) pc st (I, R, K) i n = none) (h4 : am_g4 (am_own m) (am_lev m) st (I, R, K) i n = none) (h : am_g5 (am_rt m) st i n = some v) : ev m pc ls st (I, R, K) = some (v, (I, R, K)) := by
  apply ev_ret; rw [am_act_of hc hd]; unfold am_do; rw [h1]; dsimp only; rw [h2]; dsimp only; rw [h3]; dsimp only; rw [h6]; dsimp only; rw [h4]; dsimp only; rw [h]
end EV
section EM
variable {m pc ix ci j a b d : Nat} {cc : ByteArray} {ls : am_L} {st r : List Value} {I : am_I} {R : am_R} {K : am_K} {x i : Int32} {o : Nat}
theorem am_isK_of {a t : Nat} (h : am_isK K a t = true) : 3 ≤ a ∧ a < K.2.1 ∧ am_tag a = t := am_is_of (M := (fun _ _ => 0, fun _ _ => none, K)) h
theorem e_getI (hc : am_c m = cc) (hd : decode cc pc = .ok (.getfield ix, 3)) (ho : am_own m = o) (hf : am_fld o ix = some (ci, j)) (hi : am_isI ci j = true) (h : am_isK K a ci = true) : ev m pc ls (.ref a :: r) (I, R, K) = ev m (pc + 3) ls (.int (I a j) :: r) (I, R, K) := by
  refine e3 hc hd rfl rfl ?_
  have h3 := (am_isK_of h).1
  simp [am_g3, ho, hf, hi, am_is, h, show a ≠ 1 by omega]
theorem e_getR (hc : am_c m = cc) (hd : decode cc pc = .ok (.getfield ix, 3)) (ho : am_own m = o) (hf : am_fld o ix = some (ci, j)) (hi : am_isI ci j = false) (h : am_isK K a ci = true) : ev m pc ls (.ref a :: r) (I, R, K) = ev m (pc + 3) ls (am_rf (R a j) :: r) (I, R, K) := by
  refine e3 hc hd rfl rfl ?_
  have h3 := (am_isK_of h).1
  simp [am_g3, ho, hf, hi, am_is, h, show a ≠ 1 by omega]
theorem e_putI (hc : am_c m = cc) (hd : decode cc pc = .ok (.putfield ix, 3)) (ho : am_own m = o) (hf : am_fld o ix = some (ci, j)) (hi : am_isI ci j = true) (hz : (!(am_fT ci j).2.2.2 || (am_ini m && ci == o)) = true) (ht : am_ty ci j = .int) (h : am_isK K a ci = true) : ev m pc ls (.int x :: .ref a :: r) (I, R, K) = ev m (pc + 3) ls r (am_ui I a j x, R, K) := by
  refine e3 hc hd rfl rfl ?_
  simp only [am_g3, ho, hf, hi, am_is, h, hz, ht]
  simp [narrow, fits]
theorem e_putZ (hc : am_c m = cc) (hd : decode cc pc = .ok (.putfield ix, 3)) (ho : am_own m = o) (hf : am_fld o ix = some (ci, j)) (hi : am_isI ci j = true) (hz : (!(am_fT ci j).2.2.2 || (am_ini m && ci == o)) = true) (ht : am_ty ci j = .boolean) (hx : x = 0 ∨ x = 1) (h : am_isK K a ci = true) : ev m pc ls (.int x :: .ref a :: r) (I, R, K) = ev m (pc + 3) ls r (am_ui I a j x, R, K) := by
  refine e3 hc hd rfl rfl ?_
  simp only [am_g3, ho, hf, hi, am_is, h, hz, ht]
  rcases hx with rfl | rfl <;> simp [narrow, fits]
theorem e_putR (hc : am_c m = cc) (hd : decode cc pc = .ok (.putfield ix, 3)) (ho : am_own m = o) (hf : am_fld o ix = some (ci, j)) (hi : am_isI ci j = false) (hz : (!(am_fT ci j).2.2.2 || (am_ini m && ci == o)) = true) (h : am_isK K a ci = true) : ev m pc ls (.ref b :: .ref a :: r) (I, R, K) = ev m (pc + 3) ls r (I, am_ur R a j (some b), K) := by
  refine e3 hc hd rfl rfl ?_
  simp only [am_g3, ho, hf, hi, am_is, h, hz]
  simp
theorem e_putN (hc : am_c m = cc) (hd : decode cc pc = .ok (.putfield ix, 3)) (ho : am_own m = o) (hf : am_fld o ix = some (ci, j)) (hi : am_isI ci j = false) (hz : (!(am_fT ci j).2.2.2 || (am_ini m && ci == o)) = true) (h : am_isK K a ci = true) : ev m pc ls (.null :: .ref a :: r) (I, R, K) = ev m (pc + 3) ls r (I, am_ur R a j none, K) := by
  refine e3 hc hd rfl rfl ?_
  simp only [am_g3, ho, hf, hi, am_is, h, hz]
  simp
theorem e_iald (hc : am_c m = cc) (hd : decode cc pc = .ok (.iaload, 1)) (h : am_isK K a 20 = true) (hx : am_ix i (K.1 a) = true) : ev m pc ls (.int i :: .ref a :: r) (I, R, K) = ev m (pc + 1) ls (.int (I a i.toNatClampNeg) :: r) (I, R, K) := by
  refine e3 hc hd rfl rfl ?_
  simp [am_g3, am_is, h, hx]
theorem e_sald (hc : am_c m = cc) (hd : decode cc pc = .ok (.iaload, 1)) (hx : am_ix i (K.1 0) = true) : ev m pc ls (.int i :: .ref 0 :: r) (I, R, K) = ev m (pc + 1) ls (.int (I 0 i.toNatClampNeg) :: r) (I, R, K) := by
  refine e3 hc hd rfl rfl ?_
  simp [am_g3, hx]
theorem e_zald (hc : am_c m = cc) (hd : decode cc pc = .ok (.baload, 1)) (h : am_isK K a 21 = true) (hx : am_ix i (K.1 a) = true) : ev m pc ls (.int i :: .ref a :: r) (I, R, K) = ev m (pc + 1) ls (.int (am_b (I a i.toNatClampNeg)) :: r) (I, R, K) := by
  refine e3 hc hd rfl rfl ?_
  have h3 := (am_isK_of h).1
  simp [am_g3, am_is, h, hx, show a ≠ 2 by omega]
theorem e_cald (hc : am_c m = cc) (hd : decode cc pc = .ok (.caload, 1)) (h : am_isK K a 22 = true) (hx : am_ix i (K.1 a) = true) : ev m pc ls (.int i :: .ref a :: r) (I, R, K) = ev m (pc + 1) ls (.int (am_h (I a i.toNatClampNeg)) :: r) (I, R, K) := by
  refine e3 hc hd rfl rfl ?_
  simp [am_g3, am_is, h, hx]
theorem e_aald (hc : am_c m = cc) (hd : decode cc pc = .ok (.aaload, 1)) (h : (am_isK K a 23 || am_isK K a 24) = true) (hx : am_ix i (K.1 a) = true) : ev m pc ls (.int i :: .ref a :: r) (I, R, K) = ev m (pc + 1) ls (am_rf (R a i.toNatClampNeg) :: r) (I, R, K) := by
  refine e3 hc hd rfl rfl ?_
  simp only [am_g3, am_is, h, hx]
  simp
theorem e_iast (hc : am_c m = cc) (hd : decode cc pc = .ok (.iastore, 1)) (h : am_isK K a 20 = true) (hx : am_ix i (K.1 a) = true) : ev m pc ls (.int x :: .int i :: .ref a :: r) (I, R, K) = ev m (pc + 1) ls r (am_ui I a i.toNatClampNeg x, R, K) := by
  refine e3 hc hd rfl rfl ?_
  simp [am_g3, am_is, h, hx]
theorem e_zast (hc : am_c m = cc) (hd : decode cc pc = .ok (.bastore, 1)) (h : am_isK K a 21 = true) (hx : am_ix i (K.1 a) = true) : ev m pc ls (.int x :: .int i :: .ref a :: r) (I, R, K) = ev m (pc + 1) ls r (am_ui I a i.toNatClampNeg x, R, K) := by
  refine e3 hc hd rfl rfl ?_
  simp [am_g3, am_is, h, hx]
theorem e_cast (hc : am_c m = cc) (hd : decode cc pc = .ok (.castore, 1)) (h : am_isK K a 22 = true) (hx : am_ix i (K.1 a) = true) : ev m pc ls (.int x :: .int i :: .ref a :: r) (I, R, K) = ev m (pc + 1) ls r (am_ui I a i.toNatClampNeg x, R, K) := by
  refine e3 hc hd rfl rfl ?_
  simp [am_g3, am_is, h, hx]
theorem e_aast (hc : am_c m = cc) (hd : decode cc pc = .ok (.aastore, 1)) (h : ((am_isK K a 23 && am_isK K b 3) || (am_isK K a 24 && am_isK K b 7)) = true) (hx : am_ix i (K.1 a) = true) : ev m pc ls (.ref b :: .int i :: .ref a :: r) (I, R, K) = ev m (pc + 1) ls r (I, am_ur R a i.toNatClampNeg (some b), K) := by
  refine e3 hc hd rfl rfl ?_
  simp only [am_g3, am_is, h, hx]
  simp
theorem e_alen (hc : am_c m = cc) (hd : decode cc pc = .ok (.arraylength, 1)) (h : (a == 0 || am_isK K a 20 || am_isK K a 21 || am_isK K a 22 || am_isK K a 23) = true) (h2 : a ≠ 2) : ev m pc ls (.ref a :: r) (I, R, K) = ev m (pc + 1) ls (.int (nI (K.1 a)) :: r) (I, R, K) := by
  refine e3 hc hd rfl rfl ?_
  simp only [am_g3, am_is, h, if_neg h2]
  simp [nI]
theorem e_new (hc : am_c m = cc) (hd : decode cc pc = .ok (.new ix, 3)) (ho : am_own m = o) (hn : am_new o ix = some ci) (h : am_tag K.2.1 = ci) : ev m pc ls st (I, R, K) = ev m (pc + 3) ls (.ref K.2.1 :: st) (am_mk (I, R, K) 0 (am_cN ci)) := by
  refine e6 hc hd rfl rfl rfl ?_
  simp [am_g6, ho, hn, h]
theorem e_objI (hc : am_c m = cc) (hd : decode cc pc = .ok (.invokespecial ix, 3)) (ho : am_own m = o) (hf : am_call o ix = some (3, j)) (hl : 0 < am_lev m) (hr : r.length ≤ 8) (hr2 : r.all am_c1 = true) : ev m pc ls (.ref a :: r) (I, R, K) = ev m (pc + 3) ls r (I, R, K) := by
  refine e3 hc hd rfl rfl ?_
  simp only [am_g3, ho, hf, hl, hr, hr2]
  simp
theorem e_copy {n sp dp : Int32} (hc : am_c m = cc) (hd : decode cc pc = .ok (.invokestatic ix, 3)) (ho : am_own m = o) (hf : am_call o ix = some (4, j)) (hl : 0 < am_lev m) (hr : r.length ≤ 8) (hr2 : r.all am_c1 = true) (h1 : am_isK K a 20 = true) (h2 : am_isK K d 20 = true) (h3 : ¬ sp < 0) (h4 : ¬ dp < 0) (h5 : ¬ n < 0) (h6 : sp.toNatClampNeg + n.toNatClampNeg ≤ K.1 a) (h7 : dp.toNatClampNeg + n.toNatClampNeg ≤ K.1 d) : ev m pc ls (.int n :: .int dp :: .ref d :: .int sp :: .ref a :: r) (I, R, K) = ev m (pc + 3) ls r (am_cp I a sp.toNatClampNeg d dp.toNatClampNeg n.toNatClampNeg, R, K) := by
  refine e3 hc hd rfl rfl ?_
  simp only [am_g3, ho, hf, hl, hr, hr2, am_is, h1, h2, h3, h4, h5, h6, h7]
  simp
end EM
section EC
variable {m pc ix j a b d nl oj : Nat} {cc : ByteArray} {ls : am_L} {st r as : List Value} {I : am_I} {R : am_R} {K : am_K} {x i : Int32} {o : Nat}
theorem e_callV (as : List Value) (hc : am_c m = cc) (hd : decode cc pc = .ok (.invokevirtual ix, 3)) (ho : am_own m = o) (hf : am_call o ix = some (0, j)) (hnp : am_np j = as.length) (hoj : am_own j = oj) (hlev : am_lev j < am_lev m) (hnl : am_nl j = nl) (hn : as.length + 1 ≤ nl) (ha : as.all am_c1 = true) (hr : r.all am_c1 = true) (hr8 : r.length ≤ 8) (h : am_isK K b oj = true) :
    ev m pc ls (as.reverse ++ .ref b :: r) (I, R, K) = (ev j 0 ((Value.ref b :: as).map some ++ List.replicate (nl - (as.length + 1)) none) [] (I, R, K)).bind (fun q => ev m (pc + 3) ls (q.1.toList ++ r) q.2) := by
  have e : am_ent j (.ref b :: as) = (Value.ref b :: as).map some ++ List.replicate (nl - (as.length + 1)) none := by
    unfold am_ent; rw [hnl]; rfl
  rw [← e]
  refine e4 hc hd rfl rfl rfl rfl ?_
  have h1 : (List.take (am_np j + 1) (as.reverse ++ Value.ref b :: r)).reverse = Value.ref b :: as := by
    rw [hnp, List.take_append, List.length_reverse]
    simp [List.take_of_length_le]
  have h2 : List.drop (am_np j + 1) (as.reverse ++ Value.ref b :: r) = r := by
    rw [hnp, List.drop_append, List.length_reverse]
    simp
  simp only [am_g4, ho, hf, h1, h2, hoj, hnl, am_is, h, ha, hr]
  simp [hnp, hlev, hr8, hn]
theorem e_callI (as : List Value) (hc : am_c m = cc) (hd : decode cc pc = .ok (.invokespecial ix, 3)) (ho : am_own m = o) (hf : am_call o ix = some (2, j)) (hnp : am_np j = as.length) (hlev : am_lev j < am_lev m) (hnl : am_nl j = nl) (hn : as.length + 1 ≤ nl) (ha : as.all am_c1 = true) (hr : r.all am_c1 = true) (hr8 : r.length ≤ 8) :
    ev m pc ls (as.reverse ++ .ref b :: r) (I, R, K) = (ev j 0 ((Value.ref b :: as).map some ++ List.replicate (nl - (as.length + 1)) none) [] (I, R, K)).bind (fun q => ev m (pc + 3) ls (q.1.toList ++ r) q.2) := by
  have e : am_ent j (.ref b :: as) = (Value.ref b :: as).map some ++ List.replicate (nl - (as.length + 1)) none := by
    unfold am_ent; rw [hnl]; rfl
  rw [← e]
  have h1 : (List.take (am_np j + 1) (as.reverse ++ Value.ref b :: r)).reverse = Value.ref b :: as := by
    rw [hnp, List.take_append, List.length_reverse]
    simp [List.take_of_length_le]
  have h2 : List.drop (am_np j + 1) (as.reverse ++ Value.ref b :: r) = r := by
    rw [hnp, List.drop_append, List.length_reverse]
    simp
  refine e4 hc hd rfl rfl ?_ rfl ?_
  · simp only [am_g3, ho, hf]
  · simp only [am_g4, ho, hf, h1, h2, hnl, ha, hr]
    simp [hnp, hlev, hr8, hn]
theorem e_callS (as : List Value) (hc : am_c m = cc) (hd : decode cc pc = .ok (.invokestatic ix, 3)) (ho : am_own m = o) (hf : am_call o ix = some (1, j)) (hnp : am_np j = as.length) (hlev : am_lev j < am_lev m) (hnl : am_nl j = nl) (hn : as.length ≤ nl) (ha : as.all am_c1 = true) (hr : r.all am_c1 = true) (hr8 : r.length ≤ 8) :
    ev m pc ls (as.reverse ++ r) (I, R, K) = (ev j 0 (as.map some ++ List.replicate (nl - as.length) none) [] (I, R, K)).bind (fun q => ev m (pc + 3) ls (q.1.toList ++ r) q.2) := by
  have e : am_ent j as = as.map some ++ List.replicate (nl - as.length) none := by
    unfold am_ent; rw [hnl]
  rw [← e]
  have h1 : List.take (am_np j) (as.reverse ++ r) = as.reverse := by
    rw [hnp, List.take_append, List.length_reverse]
    simp [List.take_of_length_le]
  have h2 : List.drop (am_np j) (as.reverse ++ r) = r := by
    rw [hnp, List.drop_append, List.length_reverse]
    simp
  refine e4 hc hd rfl rfl ?_ rfl ?_
  · simp only [am_g3, ho, hf]
  · simp only [am_g4, ho, hf, h1, h2, hnl, ha, hr, List.reverse_reverse, List.all_reverse, List.length_reverse]
    simp [hnp, hlev, hr8, hn]
theorem e_callT (as : List Value) (hc : am_c m = cc) (hd : decode cc pc = .ok (.invokevirtual ix, 3)) (ho : am_own m = o) (hf : am_call o ix = some (0, j)) (hnp : am_np j = as.length) (hoj : am_own j = 13) (hlev : am_lev j < am_lev m) (hnl : am_nl j = nl) (hn : as.length + 1 ≤ nl) (ha : as.all am_c1 = true) (hr : r.all am_c1 = true) (hr8 : r.length ≤ 8) :
    ev m pc ls (as.reverse ++ .ref 1 :: r) (I, R, K) = (ev j 0 ((Value.ref 1 :: as).map some ++ List.replicate (nl - (as.length + 1)) none) [] (I, R, K)).bind (fun q => ev m (pc + 3) ls (q.1.toList ++ r) q.2) := by
  have e : am_ent j (.ref 1 :: as) = (Value.ref 1 :: as).map some ++ List.replicate (nl - (as.length + 1)) none := by
    unfold am_ent; rw [hnl]; rfl
  rw [← e]
  refine e4 hc hd rfl rfl rfl rfl ?_
  have h1 : (List.take (am_np j + 1) (as.reverse ++ Value.ref 1 :: r)).reverse = Value.ref 1 :: as := by
    rw [hnp, List.take_append, List.length_reverse]
    simp [List.take_of_length_le]
  have h2 : List.drop (am_np j + 1) (as.reverse ++ Value.ref 1 :: r) = r := by
    rw [hnp, List.drop_append, List.length_reverse]
    simp
  simp only [am_g4, ho, hf, h1, h2, hoj, hnl, am_is, ha, hr]
  simp [hnp, hlev, hr8, hn]
theorem e_ireti {v : Int32} (hc : am_c m = cc) (hd : decode cc pc = .ok (.ireturn, 1)) (hr : am_rt m = some .int) : ev m pc ls [.int v] (I, R, K) = some (some (.int v), (I, R, K)) := by
  refine e5 hc hd rfl rfl rfl rfl rfl ?_
  simp [am_g5, hr, narrow]
theorem e_iretn {v : Int32} {ty : FieldType} (hc : am_c m = cc) (hd : decode cc pc = .ok (.ireturn, 1)) (hr : am_rt m = some ty) (hn : narrow ty (.int v) = .int v) : ev m pc ls [.int v] (I, R, K) = some (some (.int v), (I, R, K)) := by
  refine e5 hc hd rfl rfl rfl rfl rfl ?_
  simp [am_g5, hr, hn]
theorem e_aretR {C : String} (hc : am_c m = cc) (hd : decode cc pc = .ok (.areturn, 1)) (hr : am_rt m = some (.object C)) : ev m pc ls [.ref a] (I, R, K) = some (some (.ref a), (I, R, K)) := by
  refine e5 hc hd rfl rfl rfl rfl rfl ?_
  simp [am_g5, hr]
theorem e_aretN {C : String} (hc : am_c m = cc) (hd : decode cc pc = .ok (.areturn, 1)) (hr : am_rt m = some (.object C)) : ev m pc ls [.null] (I, R, K) = some (some .null, (I, R, K)) := by
  refine e5 hc hd rfl rfl rfl rfl rfl ?_
  simp [am_g5, hr]
theorem e_vret (hc : am_c m = cc) (hd : decode cc pc = .ok (.return_, 1)) (hr : am_rt m = none) : ev m pc ls [] (I, R, K) = some (none, (I, R, K)) := by
  refine e5 hc hd rfl rfl rfl rfl rfl ?_
  simp [am_g5, hr]
theorem e_newa {t : ArrayType} {tg : Nat} (ht : (t = .int ∧ tg = 20) ∨ (t = .boolean ∧ tg = 21) ∨ (t = .char ∧ tg = 22)) (hc : am_c m = cc) (hd : decode cc pc = .ok (.newarray t, 2)) (h0 : ¬ i < 0) (h1 : i.toNatClampNeg ≤ 10000) (h : am_tag K.2.1 = tg) : ev m pc ls (.int i :: r) (I, R, K) = ev m (pc + 2) ls (.ref K.2.1 :: r) (am_mk (I, R, K) i.toNatClampNeg i.toNatClampNeg) := by
  rcases ht with ⟨rfl, rfl⟩ | ⟨rfl, rfl⟩ | ⟨rfl, rfl⟩
  all_goals
    refine e6 hc hd rfl rfl rfl ?_
    simp only [am_g6, h0, h1, h]
    simp
theorem e_newq {ci tg : Nat} (ht : (ci = 3 ∧ tg = 23) ∨ (ci = 7 ∧ tg = 24)) (hc : am_c m = cc) (hd : decode cc pc = .ok (.anewarray ix, 3)) (ho : am_own m = o) (hf : am_anew o ix = some ci) (h0 : ¬ i < 0) (h1 : i.toNatClampNeg ≤ 10000) (h : am_tag K.2.1 = tg) : ev m pc ls (.int i :: r) (I, R, K) = ev m (pc + 3) ls (.ref K.2.1 :: r) (am_mk (I, R, K) i.toNatClampNeg i.toNatClampNeg) := by
  rcases ht with ⟨rfl, rfl⟩ | ⟨rfl, rfl⟩
  all_goals
    refine e6 hc hd rfl rfl rfl ?_
    simp only [am_g6, ho, hf, h0, h1, h]
    simp
end EC
theorem e_look {m pc len t : Nat} {cc : ByteArray} {ls : am_L} {st : List Value} {I : am_I} {R : am_R} {K : am_K} {x : Int32} {d o : Int} {ps : Array (Int × Int)} (hc : am_c m = cc) (hd : decode cc pc = .ok (.lookupswitch d ps, len)) (hs : (ps.toList.zip (ps.toList.drop 1)).all (fun (a, next) => a.1 < next.1) = true) (ho : Op.lookupswitch.offset ps.toList d x.toInt = o) (ht : (pc : Int) + o = (t : Int)) : ev m pc ls (.int x :: st) (I, R, K) = ev m t ls st (I, R, K) := by
  refine e2 hc hd rfl ?_
  simp only [am_g2, hs, ho, am_tg, ht]
  simp
theorem nar_0 : narrow .boolean (.int 0) = .int 0 := rfl
theorem nar_1 : narrow .boolean (.int 1) = .int 1 := rfl
theorem nar_b (x : Int32) : narrow .boolean (.int (am_b x)) = .int (am_b x) := by
  show Value.int ((x &&& 1) &&& 1) = .int (x &&& 1)
  rw [Int32.and_assoc]; rfl
theorem am_h_eq (x : Int32) : am_h x = (x.toUInt32 % 65536).toInt32 := by
  unfold am_h
  rw [vp_nar_char]
  simp
theorem nar_h (x : Int32) : narrow .char (.int (am_h x)) = .int (am_h x) := by
  rw [am_h_eq]
  exact pk_nc x
/-- a truth as an int -/
def bI (b : Bool) : Int32 := if b then nI 1 else nI 0
theorem nar_bI (b : Bool) : narrow .boolean (.int (bI b)) = .int (bI b) := by cases b <;> rfl
theorem am_alI {K : am_K} {a : Nat} (h : am_isK K a 20 = true) : (a == 0 || am_isK K a 20 || am_isK K a 21 || am_isK K a 22 || am_isK K a 23) = true := by rw [h]; simp
theorem am_alZ {K : am_K} {a : Nat} (h : am_isK K a 21 = true) : (a == 0 || am_isK K a 20 || am_isK K a 21 || am_isK K a 22 || am_isK K a 23) = true := by rw [h]; simp
theorem am_alC {K : am_K} {a : Nat} (h : am_isK K a 22 = true) : (a == 0 || am_isK K a 20 || am_isK K a 21 || am_isK K a 22 || am_isK K a 23) = true := by rw [h]; simp
theorem am_alP {K : am_K} {a : Nat} (h : am_isK K a 23 = true) : (a == 0 || am_isK K a 20 || am_isK K a 21 || am_isK K a 22 || am_isK K a 23) = true := by rw [h]; simp
theorem ne_2 {K : am_K} {a t : Nat} (h : am_isK K a t = true) : a ≠ 2 := by have := (am_isK_of h).1; omega
