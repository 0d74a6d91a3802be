section AME
variable {p : Program} {l : Launch} {e : Env} {R : Room} {s : State} {m : MethodId} {args : Array Value} {below : List Frame} {meth : Method} {c : Code} {H : Heap} {locs : List Loc} {cells slots : Nat} {Q : State → Prop}
variable {k pc pc' : Nat} {G : am_Gt} {L : Array Slot} {rest st st' : List Value} {M M' : am_M} {i : Instr} {n : Nat}
theorem am_S_push {H1 : Heap} (hP : am_RP G M H) (hS : va_S (gA G) s.heap H locs) (z1 : H1.size = H.size + 1) (o1 : ∀ q, q < H.size → H1[q]? = H[q]?) : va_S (gA G) s.heap H1 locs :=
  ⟨Nat.le_trans hS.1 (by omega), fun x h1 h2 => (o1 x (Nat.lt_of_lt_of_le h1 hS.1)).trans (hS.2.1 x h1 h2), hS.2.2⟩
theorem am_ab_n (hP : am_RP G M H) : am_ab G M.2.2.2.1 = H.size := by rw [am_ab_3 G hP.2.1, hP.1]
theorem am_zi_n (I : am_I) (a j : Nat) : am_zi I a a j = 0 := by unfold am_zi; rw [if_pos rfl]
theorem am_zr_n (R : am_R) (a j : Nat) : am_zr R a a j = none := by unfold am_zr; rw [if_pos rfl]
theorem am_ul_n (f : Nat → Nat) (a n : Nat) : am_ul f a n a = n := by unfold am_ul; rw [if_pos rfl]
theorem am_newo (hX : am_X G k p R s m args meth c) (hP : am_RP G M H) (hS : va_S (gA G) s.heap H locs) {ix ci : Nat} (hn : am_new (am_own k) ix = some ci) (htag : am_tag M.2.2.2.1 = ci) (hc : cells + 1 ≤ R.cells) (hs : slots + am_cN ci ≤ R.slots) (hdg : decode (am_c k) pc = .ok (.new ix, 3))
    (kk : ∀ (H1 : Heap) (locs1 : List Loc), am_RP G (am_mk M 0 (am_cN ci)) H1 → va_S (gA G) s.heap H1 locs1 → W p l e R s m args below meth c H1 locs1 (cells + 1) (slots + am_cN ci) Q (F0 m (pc + 3) L (.ref (am_ab G M.2.2.2.1) :: rest))) : W p l e R s m args below meth c H locs cells slots Q (F0 m pc L rest) := by
  obtain ⟨hx, hb, -, -, hown, hts, -, -, -, -, hT⟩ := hX
  obtain ⟨h1, h2, h3, hci⟩ := am_new_of hn
  obtain ⟨hin, hty, -⟩ := am_K_of hci
  have hKn := hT.1.1 ci _ (am_vw hci)
  have hab := am_ab_n hP
  refine W.newcK hx hb hown (hts _ h1) (hts _ h2) (hts _ h3) rfl hdg hc hs hKn.2.1 rfl fun H1 kC hkC e1 z1 o1 => ?_
  rw [hab] at kk
  refine kk H1 locs (hP.mk z1 o1 ?_) (am_S_push hP hS z1 o1)
  rw [hab, am_E_o G _ htag hci]
  refine ⟨_, am_vw hci, (u_born (am_ty ci) hts hin hKn hkC e1 hty).to fun j hj => ?_⟩
  rw [am_fs_V G _ _ ci hj, am_okD ci (by omega) j hj]
  show _ = if am_isI ci j = true then Value.int (am_zi M.1 M.2.2.2.1 M.2.2.2.1 j) else am_sh G (am_rf (am_zr M.2.1 M.2.2.2.1 M.2.2.2.1 j))
  rw [am_zi_n, am_zr_n]
  split <;> rfl
theorem am_newa (hX : am_X G k p R s m args meth c) (hP : am_RP G M H) (hS : va_S (gA G) s.heap H locs) {t : ArrayType} {K : Int32} (hw : Cond.arrayClass (newarray.typeOf t) ∈ am_gw) {cA : ClassId} (hcA : s.vm.findClass ("[" ++ (newarray.typeOf t).toString) = some cA) (hbt : componentBytes (newarray.typeOf t) ≤ 8)
    (hE : va_at (gD G) vwCl (H.size, am_E G (am_mk M K.toNatClampNeg K.toNatClampNeg) M.2.2.2.1) = va_at (gD G) vwCl (H.size, .inl (cA, K.toNatClampNeg, .inl (fun _ => 0)))) (hdv : defaultValue (newarray.typeOf t) = .int 0) (hk0 : ¬ K < 0) (hk1 : K.toNatClampNeg ≤ 10000) (hc : cells + 1 ≤ R.cells) (hs : slots + K.toNatClampNeg ≤ R.slots) (hdg : decode (am_c k) pc = .ok (.newarray t, 2))
    (kk : ∀ (H1 : Heap) (locs1 : List Loc), am_RP G (am_mk M K.toNatClampNeg K.toNatClampNeg) H1 → va_S (gA G) s.heap H1 locs1 → W p l e R s m args below meth c H1 locs1 (cells + 1) (slots + K.toNatClampNeg) Q (F0 m (pc + 2) L (.ref (am_ab G M.2.2.2.1) :: rest))) : W p l e R s m args below meth c H locs cells slots Q (F0 m pc L (.int K :: rest)) := by
  obtain ⟨hx, hb, -, -, hown, hts, -, -, -, -, hT⟩ := hX
  have hab := am_ab_n hP
  rw [hab] at kk
  refine va_newaK hx hb (hts _ hw) rfl hdg rfl hk0 rfl (Nat.le_trans (Nat.mul_le_mul hk1 hbt) (by decide)) hc hs rfl fun H1 cB e1 z1 o1 hAr hNm => ?_
  refine kk H1 locs (hP.mk z1 o1 ?_) (am_S_push hP hS z1 o1)
  rw [hab, hE]
  have : cB = cA := Option.some.inj (hNm.symm.trans hcA)
  subst this
  show H1[H.size]? = some (vp_cell _ _)
  rw [e1, hdv]
  rfl
theorem am_newq (hX : am_X G k p R s m args meth c) (hP : am_RP G M H) (hS : va_S (gA G) s.heap H locs) {ix : Nat} {C : String} {K : Int32} (hw : Cond.classLink (am_cn (am_own k)) ix C ∈ am_gw) (hO : va_AO C s) {cA : ClassId} (hcA : s.vm.findClass ("[" ++ (FieldType.object C).toString) = some cA)
    (hE : va_at (gD G) vwCl (H.size, am_E G (am_mk M K.toNatClampNeg K.toNatClampNeg) M.2.2.2.1) = va_at (gD G) vwCl (H.size, .inl (cA, K.toNatClampNeg, .inr (.inr (.inr (.inr (fun _ => none))))))) (hk0 : ¬ K < 0) (hk1 : K.toNatClampNeg ≤ 10000) (hc : cells + 1 ≤ R.cells) (hs : slots + K.toNatClampNeg ≤ R.slots) (hdg : decode (am_c k) pc = .ok (.anewarray ix, 3))
    (kk : ∀ (H1 : Heap) (locs1 : List Loc), am_RP G (am_mk M K.toNatClampNeg K.toNatClampNeg) H1 → va_S (gA G) s.heap H1 locs1 → W p l e R s m args below meth c H1 locs1 (cells + 1) (slots + K.toNatClampNeg) Q (F0 m (pc + 3) L (.ref (am_ab G M.2.2.2.1) :: rest))) : W p l e R s m args below meth c H locs cells slots Q (F0 m pc L (.int K :: rest)) := by
  obtain ⟨hx, hb, -, -, hown, hts, -, -, -, -, hT⟩ := hX
  have hab := am_ab_n hP
  rw [hab] at kk
  refine W.anew hx hb hown (hts _ hw) (va_AO.use hO) rfl hdg rfl hk0 (Nat.le_trans (Nat.mul_le_mul hk1 (Nat.le_refl 4)) (by decide)) hc hs fun cB kA comp f1 f2 f3 f4 => ?_
  have : cB = cA := Option.some.inj (f1.symm.trans hcA)
  subst this
  generalize hH1 : H.push ({ cls := cB, slots := Array.replicate K.toNatClampNeg .null, vm := .none } : Cell) = H1
  have z1 : H1.size = H.size + 1 := by rw [← hH1, Array.size_push]
  have e1 : H1[H.size]? = some (arrV cB K.toNatClampNeg (fun _ => .null)) := by rw [← hH1, Array.getElem?_push_size, ← arrV_new]
  have o1 : ∀ q : Nat, q < H.size → H1[q]? = H[q]? := fun q hq => by rw [← hH1, Array.getElem?_push, if_neg (Nat.ne_of_lt hq)]
  refine kk H1 locs (hP.mk z1 o1 ?_) (am_S_push hP hS z1 o1)
  rw [hab, hE]
  show H1[H.size]? = some (vp_cell _ _)
  rw [vp_cell_q]
  exact e1
theorem am_mk_I (M : am_M) (a b : Nat) : (am_mk M a b).1 M.2.2.2.1 = fun _ => 0 := funext fun j => am_zi_n _ _ j
theorem am_mk_R (M : am_M) (a b : Nat) : (am_mk M a b).2.1 M.2.2.2.1 = fun _ => none := funext fun j => am_zr_n _ _ j
theorem am_mk_L (M : am_M) (a b : Nat) : (am_mk M a b).2.2.1 M.2.2.2.1 = a := am_ul_n _ _ _
theorem am_nar0 (ty : FieldType) (h : narrow ty (.int 0) = .int 0) : vp_nar ty 0 = 0 := by unfold vp_nar; rw [h]
theorem am_b0 : am_b 0 = 0 := am_nar0 .boolean rfl
theorem am_h0 : am_h 0 = 0 := am_nar0 .char rfl
set_option maxHeartbeats 4000000 in
theorem am_s6 (hX : am_X G k p R s m args meth c) (hd : decode (am_c k) pc = .ok (i, n)) (h : am_g6 (am_own k) pc st M i n = some (pc', st', M')) (hP : am_RP G M H) (hS : va_S (gA G) s.heap H locs) :
    ∃ sl, M'.2.2.2.1 = M.2.2.2.1 + 1 ∧ M'.2.2.2.2 = M.2.2.2.2 + sl ∧ (cells + 1 ≤ R.cells → slots + sl ≤ R.slots → (∀ (H1 : Heap) (locs1 : List Loc), am_RP G M' H1 → va_S (gA G) s.heap H1 locs1 → W p l e R s m args below meth c H1 locs1 (cells + 1) (slots + sl) Q (F0 m pc' L (st'.map (am_sh G)))) → W p l e R s m args below meth c H locs cells slots Q (F0 m pc L (st.map (am_sh G)))) := by
  have hT : am_TB G s := hX.2.2.2.2.2.2.2.2.2.2
  unfold am_g6 at h
  split at h
  · split at h
    · rename_i ix _ ci hn
      split at h
      · rename_i ht; cases h
        exact ⟨am_cN ci, rfl, rfl, fun hc hs kk => am_newo hX hP hS hn ht hc hs hd kk⟩
      · cases h
    · cases h
  · split at h
    · rename_i K r
      split at h
      · rename_i q; cases h
        simp only [Bool.and_eq_true, Bool.not_eq_true', decide_eq_false_iff_not, decide_eq_true_eq, beq_iff_eq] at q
        refine ⟨K.toNatClampNeg, rfl, rfl, fun hc hs kk => am_newa (t := .int) hX hP hS (am_at_in am_wAI) (hT.1.2 0 _ rfl).2 (by decide) ?_ rfl q.1.1 q.1.2 hc hs hd kk⟩
        rw [am_E_20 G _ q.2]
        rw [am_mk_I, am_mk_L]
      · cases h
    · cases h
  · split at h
    · rename_i K r
      split at h
      · rename_i q; cases h
        simp only [Bool.and_eq_true, Bool.not_eq_true', decide_eq_false_iff_not, decide_eq_true_eq, beq_iff_eq] at q
        refine ⟨K.toNatClampNeg, rfl, rfl, fun hc hs kk => am_newa (t := .boolean) hX hP hS (am_at_in am_wAZ) (hT.1.2 1 _ rfl).2 (by decide) ?_ rfl q.1.1 q.1.2 hc hs hd kk⟩
        rw [am_E_21 G _ q.2]
        rw [am_mk_I, am_mk_L]
        simp only [am_b0]
      · cases h
    · cases h
  · split at h
    · rename_i K r
      split at h
      · rename_i q; cases h
        simp only [Bool.and_eq_true, Bool.not_eq_true', decide_eq_false_iff_not, decide_eq_true_eq, beq_iff_eq] at q
        refine ⟨K.toNatClampNeg, rfl, rfl, fun hc hs kk => am_newa (t := .char) hX hP hS (am_at_in am_wAC) (hT.1.2 2 _ rfl).2 (by decide) ?_ rfl q.1.1 q.1.2 hc hs hd kk⟩
        rw [am_E_22 G _ q.2]
        rw [am_mk_I, am_mk_L]
        simp only [am_h0]
      · cases h
    · cases h
  · split at h
    · rename_i ix _ K r
      split at h
      · rename_i q; cases h
        simp only [Bool.and_eq_true, Bool.or_eq_true, Bool.not_eq_true', decide_eq_false_iff_not, decide_eq_true_eq, beq_iff_eq] at q
        obtain ⟨⟨q1, q2⟩, q3⟩ := q
        rcases q3 with ⟨q3, q4⟩ | ⟨q3, q4⟩
        · refine ⟨K.toNatClampNeg, rfl, rfl, fun hc hs kk => am_newq hX hP hS (am_anew_of q3) hT.2.2.1.1 (hT.1.2 3 _ rfl).2.choose_spec.choose_spec.2.2.2 ?_ q1 q2 hc hs hd kk⟩
          rw [am_E_23 G _ q4]
          rw [am_mk_R, am_mk_L]; rfl
        · refine ⟨K.toNatClampNeg, rfl, rfl, fun hc hs kk => am_newq hX hP hS (am_anew_of q3) hT.2.2.1.2 (hT.1.2 4 _ rfl).2.choose_spec.choose_spec.2.2.2 ?_ q1 q2 hc hs hd kk⟩
          rw [am_E_24 G _ q4]
          rw [am_mk_R, am_mk_L]; rfl
      · cases h
    · cases h
  · cases h
end AME
