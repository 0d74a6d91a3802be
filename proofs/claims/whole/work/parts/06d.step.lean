theorem am_okD : ∀ ci, ci < 11 → ∀ j, j < am_cN ci → defaultValue (am_ty ci j) = (if am_isI ci j then .int 0 else .null) := by decide +kernel
theorem am_call_of {o ix kd j : Nat} (h : am_call o ix = some (kd, j)) : ∃ lk p2 se ini, am_okC (o, ix, kd, j, lk, p2, se, ini) = true := by
  unfold am_call at h
  obtain ⟨⟨o', ix', kd', j', lk, p2, se, ini⟩, h1, h2⟩ := Option.map_eq_some_iff.mp h
  have hm := List.mem_of_find?_eq_some h1
  have hp := List.find?_some h1
  have hk := List.all_eq_true.mp am_okC_all _ hm
  simp only [Bool.and_eq_true, beq_iff_eq] at hp
  obtain ⟨rfl, rfl⟩ := hp
  cases h2
  exact ⟨lk, p2, se, ini, hk⟩
theorem am_new_of {o ix ci : Nat} (h : am_new o ix = some ci) : Cond.classLink (am_cn o) ix (am_cn ci) ∈ am_gw ∧ Cond.instantiable (am_cn ci) (am_cN ci) ∈ am_gw ∧ Cond.initialized (am_cn ci) ∈ am_gw ∧ ci ≤ 10 := by
  unfold am_new at h
  obtain ⟨⟨o', ix', ci', p1, p2, p3⟩, h1, h2⟩ := Option.map_eq_some_iff.mp h
  have hm := List.mem_of_find?_eq_some h1
  have hp := List.find?_some h1
  have hk := List.all_eq_true.mp am_okN_all _ hm
  simp only [Bool.and_eq_true, beq_iff_eq] at hp
  obtain ⟨rfl, rfl⟩ := hp
  cases h2
  unfold am_okN at hk
  simp only [Bool.and_eq_true, decide_eq_true_eq] at hk
  exact ⟨am_at_in hk.1.1.1, am_at_in hk.1.1.2, am_at_in hk.1.2, hk.2⟩
theorem am_anew_of {o ix ci : Nat} (h : am_anew o ix = some ci) : Cond.classLink (am_cn o) ix (am_cn ci) ∈ am_gw := by
  unfold am_anew at h
  obtain ⟨⟨o', ix', ci', p1⟩, h1, h2⟩ := Option.map_eq_some_iff.mp h
  have hm := List.mem_of_find?_eq_some h1
  have hp := List.find?_some h1
  have hk := List.all_eq_true.mp am_okA_all _ hm
  simp only [Bool.and_eq_true, beq_iff_eq] at hp
  obtain ⟨rfl, rfl⟩ := hp
  cases h2
  unfold am_okA at hk
  simp only [Bool.and_eq_true] at hk
  exact am_at_in hk.1
theorem am_sum {G : am_Gt} (hV : (gV G).category = 1) : ∀ {r : List Value}, r.all am_c1 = true → ((r.map (am_sh G)).map fun v => v.category).sum = r.length
  | [], _ => rfl
  | v :: r, h => by
    simp only [List.all_cons, Bool.and_eq_true] at h
    have := am_sum hV h.2
    simp only [List.map_cons, List.sum_cons, List.length_cons, am_cat hV h.1, this]
    omega
section AMD
variable {p : Program} {l : Launch} {e : Env} {R : Room} {s : State} {m : MethodId} {args : Array Value} {below : List Frame} {meth : Method} {c : Code} {H : Heap} {locs : List Loc} {cells slots : Nat} {Q : State → Prop}
variable {k pc pc' : Nat} {G : am_Gt} {L : Array Slot} {rest st st' : List Value} {M M' : am_M} {i : Instr} {n : Nat}
theorem am_copy (hX : am_X G k p R s m args meth c) (hL : L.size = am_nl k) (hP : am_RP G M H) (hS : va_S (gA G) s.heap H locs) {ix a d : Nat} {kd : Nat} (hcall : am_call (am_own k) ix = some (4, kd)) (hlv : 0 < am_lev k) (ha : am_is M a 20 = true) (hd : am_is M d 20 = true) {sp dp n : Int32} (h1 : ¬ sp < 0) (h2 : ¬ dp < 0) (h3 : ¬ n < 0) (h4 : sp.toNatClampNeg + n.toNatClampNeg ≤ M.2.2.1 a) (h5 : dp.toNatClampNeg + n.toNatClampNeg ≤ M.2.2.1 d) (hrest : (rest.map fun v => v.category).sum ≤ 8) (hdg : decode (am_c k) pc = .ok (.invokestatic ix, 3))
    (kk : ∀ (H1 : Heap) (locs1 : List Loc), am_RP G (am_cp M.1 a sp.toNatClampNeg d dp.toNatClampNeg n.toNatClampNeg, M.2) H1 → va_S (gA G) s.heap H1 locs1 → W p l e R s m args below meth c H1 locs1 cells slots Q (F0 m (pc + 3) L rest)) : W p l e R s m args below meth c H locs cells slots Q (F0 m pc L (.int n :: .int dp :: .ref (am_ab G d) :: .int sp :: .ref (am_ab G a) :: rest)) := by
  obtain ⟨hx, hb, -, hml, hown, hts, hfr, hlo, -, -, hT⟩ := hX
  obtain ⟨lk, p2, se, ini, hok⟩ := am_call_of hcall
  unfold am_okC at hok
  simp only [Bool.and_eq_true] at hok
  have hlink := hts _ (am_at_in hok.1.1)
  have hstat := hts _ (am_at_in hok.1.2)
  have hini := hts _ (am_at_in hok.2)
  have hnat := hts _ (am_at_in am_wNat)
  obtain ⟨a3, alt, atag⟩ := am_is_of ha
  obtain ⟨d3, dlt, dtag⟩ := am_is_of hd
  have nn : ∀ z : Int32, ¬ z < 0 → z.toInt = (z.toNatClampNeg : Int) := by
    intro z hz
    have hz0 : (0 : Int) ≤ z.toInt := by
      have := Int32.not_lt.mp hz
      simpa using Int32.le_iff_toInt_le.mp this
    show z.toInt = ((z.toInt.toNat : Nat) : Int)
    omega
  have hnw : nativeFrameWords "java/lang/System" "arraycopy" 5 + 11 = 18 := by decide
  intro T hTh X
  have hc0 : H[am_ab G a]? = some (vp_cell (gI G) (M.2.2.1 a, .inl (M.1 a))) := by have := am_arI hP ha; rw [am_E_20 G M atag] at this; exact this
  have hc1 : H[am_ab G d]? = some (vp_cell (gI G) (M.2.2.1 d, .inl (M.1 d))) := by have := am_arI hP hd; rw [am_E_20 G M dtag] at this; exact this
  obtain ⟨-, k0, hk0, cm0, hkk0⟩ := (hT.1.2 0 _ rfl).1 (M.2.2.1 a) (fun j => .int (M.1 a j))
  obtain ⟨-, k1, hk1, cm1, hkk1⟩ := (hT.1.2 0 _ rfl).1 (M.2.2.1 d) (fun j => .int (M.1 d j))
  obtain ⟨vm', X', step⟩ := X.arraycopy hx hown hlink hnat hstat hini (src := am_ab G a) (dst := am_ab G d) (cs := vp_cell (gI G) (M.2.2.1 a, .inl (M.1 a))) (cd := vp_cell (gI G) (M.2.2.1 d, .inl (M.1 d))) (srcPos := sp) (destPos := dp) (n := n) (by rw [hTh]; exact hc0) (by rw [hTh]; exact hc1)
    (fun _ h => by cases h) (fun _ h => by cases h) (fun h => by cases h) (fun h => by cases h) hk0 hk1 hkk0 hkk1 (by simp [refKind]) h1 h2 h3
    (by rw [nn sp h1, nn n h3]; show ¬ _ > ((arrV (gI G) (M.2.2.1 a) (fun j => .int (M.1 a j))).slots.size : Int); rw [arrV_size]; omega)
    (by rw [nn dp h2, nn n h3]; show ¬ _ > ((arrV (gI G) (M.2.2.1 d) (fun j => .int (M.1 d j))).slots.size : Int); rw [arrV_size]; omega)
    (fun vm₁ _ i hi => by
      have e : (vp_cell (gI G) (M.2.2.1 a, .inl (M.1 a))).slots.getD (sp.toNatClampNeg + i) .null = .int (M.1 a (sp.toNatClampNeg + i)) := by
        show (arrV (gI G) (M.2.2.1 a) (fun j => .int (M.1 a j))).slots.getD _ _ = _
        rw [Array.getD_eq_getD_getElem?, arrV_read _ _ (by omega)]
        rfl
      refine ⟨?_, ?_⟩
      · rw [e]; rfl
      · rw [e]; exact trivial)
    (g := F0 m pc L (.int n :: .int dp :: .ref (am_ab G d) :: .int sp :: .ref (am_ab G a) :: rest)) rfl (by rw [hml]; exact hL) (rest := rest) rfl (by rw [hb]; exact hdg) (by omega) (by show 2 * 0 + _ + _ ≤ _; rw [hnw]; omega)
  have e1 : copied (vp_cell (gI G) (M.2.2.1 a, .inl (M.1 a))) (vp_cell (gI G) (M.2.2.1 d, .inl (M.1 d))) sp dp n = vp_cell (gI G) (M.2.2.1 d, .inl (va_cpy (M.1 a) (M.1 d) sp.toNatClampNeg dp.toNatClampNeg n.toNatClampNeg)) := va_copied (fun z => .int z) (gI G) (gI G) (M.1 a) (M.1 d) h4
  rw [e1] at X' step
  have hl : am_ab G d < H.size := (Array.getElem?_eq_some_iff.mp hc1).1
  have hheap : ((T.setVm vm').setCell (am_ab G d) (vp_cell (gI G) (M.2.2.1 d, .inl (va_cpy (M.1 a) (M.1 d) sp.toNatClampNeg dp.toNatClampNeg n.toNatClampNeg)))).heap = H.setIfInBounds (am_ab G d) (vp_cell (gI G) (M.2.2.1 d, .inl (va_cpy (M.1 a) (M.1 d) sp.toNatClampNeg dp.toNatClampNeg n.toNatClampNeg))) := by rw [← hTh]; rfl
  have oq : ∀ q : Nat, q ≠ am_ab G d → (H.setIfInBounds (am_ab G d) (vp_cell (gI G) (M.2.2.1 d, .inl (va_cpy (M.1 a) (M.1 d) sp.toNatClampNeg dp.toNatClampNeg n.toNatClampNeg))))[q]? = H[q]? := fun q hq => by simp [Array.getElem?_setIfInBounds, Ne.symm hq]
  have hrp : am_RP G (am_cp M.1 a sp.toNatClampNeg d dp.toNatClampNeg n.toNatClampNeg, M.2) (H.setIfInBounds (am_ab G d) (vp_cell (gI G) (M.2.2.1 d, .inl (va_cpy (M.1 a) (M.1 d) sp.toNatClampNeg dp.toNatClampNeg n.toNatClampNeg)))) := by
    refine hP.upd d3 rfl (fun q hq => ?_) (fun q hq => rfl) rfl (by simp) oq ?_
    · funext j; show am_cp M.1 a _ d _ _ q j = _; unfold am_cp; rw [if_neg (fun h => hq h.1)]
    · rw [am_E_20 G _ dtag]
      show (H.setIfInBounds (am_ab G d) _)[am_ab G d]? = some (vp_cell (gI G) (M.2.2.1 d, .inl (am_cp M.1 a _ d _ _ d)))
      have : am_cp M.1 a sp.toNatClampNeg d dp.toNatClampNeg n.toNatClampNeg d = va_cpy (M.1 a) (M.1 d) sp.toNatClampNeg dp.toNatClampNeg n.toNatClampNeg := by
        funext j; simp [am_cp, va_cpy]
      rw [this]
      simp [Array.getElem?_setIfInBounds, hl]
  obtain ⟨t, a1, b1⟩ := kk _ _ hrp ⟨by simp; exact hS.1, fun q g1 g2 => by
      rw [oq q (fun e => g2 (by rw [e]; exact am_ab_A G d3))]
      exact hS.2.1 q g1 g2, fun q hq => by
      rcases List.mem_append.mp hq with h | h
      · exact hS.2.2 q h
      · obtain ⟨z, -, hz⟩ := List.mem_map.mp h
        rw [← hz]
        exact am_ab_A G d3⟩ _ hheap X'
  exact ⟨t, step t a1, b1⟩
set_option maxHeartbeats 4000000 in
theorem am_s3 (hX : am_X G k p R s m args meth c) (hL : L.size = am_nl k) (hd : decode (am_c k) pc = .ok (i, n)) {I' : am_I} {R' : am_R} (h : am_g3 (am_own k) (am_lev k) (am_ini k) pc st M i n = some (pc', st', I', R')) (hP : am_RP G M H) (hS : va_S (gA G) s.heap H locs)
    (kk : ∀ (H1 : Heap) (locs1 : List Loc), am_RP G (I', R', M.2.2) H1 → va_S (gA G) s.heap H1 locs1 → W p l e R s m args below meth c H1 locs1 cells slots Q (F0 m pc' L (st'.map (am_sh G)))) : W p l e R s m args below meth c H locs cells slots Q (F0 m pc L (st.map (am_sh G))) := by
  have hX0 := hX
  obtain ⟨hx, hb, hrt, hml, hown, hts, hfr, hlo, hini, hlk, hT⟩ := hX
  have hV := hT.2.2.2.2.2.2.1
  unfold am_g3 at h
  split at h
  · -- getfield
    split at h
    · rename_i ix _ a r
      split at h
      · rename_i ha; subst ha
        split at h
        · rename_i q; cases h
          have hown' : s.vm.findClass RJ0 = some m.cls := by rw [q.1] at hown; exact hown
          rw [q.2] at hd
          exact vk_getf hx hb hT.2.2.2.2.1.2.2.1 hS hown' (hts _ (am_at_in am_wCod)) (fun _ h => h) hd (kk H locs hP hS)
        · split at h
          · rename_i q; cases h
            have hown' : s.vm.findClass RJ0 = some m.cls := by rw [q.1] at hown; exact hown
            rw [q.2] at hd
            exact vk_getf hx hb hT.2.2.2.2.1.2.2.2.1 hS hown' (hts _ (am_at_in am_wVal)) (fun _ h => h) hd (kk H locs hP hS)
          · cases h
      · split at h
        · rename_i ci j hf
          split at h
          · rename_i ha; cases h
            obtain ⟨hfl, hci, hj, hdecl⟩ := am_fld_of hf
            obtain ⟨a3, alt, atag⟩ := am_is_of ha
            have hat := am_arI hP ha
            rw [am_E_o G M atag hci] at hat
            have kk := kk H locs hP hS
            refine va_get hx hb hts (am_K_of hci).1 hown hT.1 (am_one hat) 0 rfl (am_vw hci) j hj (hts _ hfl) (fun _ h => h) (am_fs_get G M a ci hj) hd ?_
            have e : am_sh G (if am_isI ci j = true then Value.int (M.1 a j) else am_rf (M.2.1 a j)) = (if am_isI ci j = true then Value.int (M.1 a j) else am_sh G (am_rf (M.2.1 a j))) := by
              split <;> rfl
            rw [List.map_cons, e] at kk
            exact kk
          · cases h
        · cases h
    · cases h
  · -- putfield
    split at h
    · rename_i ix _ ci j hf
      split at h
      · rename_i x a r
        split at h
        · rename_i q; cases h
          simp only [Bool.and_eq_true, Bool.or_eq_true, Bool.not_eq_true', decide_eq_true_eq, beq_iff_eq] at q
          obtain ⟨⟨⟨⟨q1, q2⟩, q3⟩, q4⟩, q5⟩ := q
          refine am_putf hX0 hP hS hf q1 q3 q4 q5 (fun z hz => ?_) (fun z hz => rfl) (fun z hz => ?_) hd kk
          · funext y; unfold am_ui; rw [if_neg (fun h => hz h.1)]
          · rw [am_fs_V G _ a ci hz]
            unfold updV
            by_cases e : z = j
            · rw [if_pos e, e, if_pos q2]; simp [am_ui, am_sh]
            · rw [if_neg e, am_fs_V G M a ci hz]; simp [am_ui, e]
        · cases h
      · rename_i b a r
        split at h
        · rename_i q; cases h
          simp only [Bool.and_eq_true, Bool.or_eq_true, Bool.not_eq_true', beq_iff_eq] at q
          obtain ⟨⟨q1, q2⟩, q3⟩ := q
          refine am_putf hX0 hP hS hf q1 q3 (am_narI (Or.inr ⟨_, rfl⟩)) (am_fitR q2 (Or.inr ⟨_, rfl⟩)) (fun z hz => rfl) (fun z hz => ?_) (fun z hz => ?_) hd kk
          · funext y; unfold am_ur; rw [if_neg (fun h => hz h.1)]
          · rw [am_fs_V G _ a ci hz]
            unfold updV
            by_cases e : z = j
            · rw [if_pos e, e, q2]; simp [am_ur, am_rf, am_sh]
            · rw [if_neg e, am_fs_V G M a ci hz]; simp [am_ur, e]
        · cases h
      · rename_i a r
        split at h
        · rename_i q; cases h
          simp only [Bool.and_eq_true, Bool.or_eq_true, Bool.not_eq_true', beq_iff_eq] at q
          obtain ⟨⟨q1, q2⟩, q3⟩ := q
          refine am_putf hX0 hP hS hf q1 q3 (am_narI (Or.inl rfl)) (am_fitR q2 (Or.inl rfl)) (fun z hz => rfl) (fun z hz => ?_) (fun z hz => ?_) hd kk
          · funext y; unfold am_ur; rw [if_neg (fun h => hz h.1)]
          · rw [am_fs_V G _ a ci hz]
            unfold updV
            by_cases e : z = j
            · rw [if_pos e, e, q2]; simp [am_ur, am_rf, am_sh]
            · rw [if_neg e, am_fs_V G M a ci hz]; simp [am_ur, e]
        · cases h
      · cases h
    · cases h
  · -- iaload
    split at h
    · rename_i ii a r
      split at h
      · rename_i q; cases h
        simp only [Bool.and_eq_true, Bool.or_eq_true, beq_iff_eq] at q
        obtain ⟨q1, q2⟩ := q
        rcases q1 with rfl | q1
        · have kk := kk H locs hP hS
          have e1 := hP.2.2.1
          have e2 := hP.2.2.2.1
          rw [e1] at kk
          rw [e2] at q2
          exact va_sld hx hb hT.2.2.2.1.1 (Nat.lt_of_lt_of_le hT.2.2.2.1.2 hT.2.2.2.2.2.2.2) (Nat.not_le.mpr hT.2.2.2.1.2) hS (am_ix_of q2) hd kk
        · have hat := am_arI hP q1
          rw [am_E_20 G M (am_is_of q1).2.2] at hat
          exact va_iald hx hb hT.1 (am_one hat) 0 0 rfl rfl (am_ix_of q2) hd (kk H locs hP hS)
      · cases h
    · cases h
  · -- baload
    split at h
    · rename_i ii a r
      split at h
      · rename_i ha; subst ha
        split at h
        · rename_i q; cases h
          exact va_tb hx hb hT.2.2.2.2.1.2.2.2.2 hS (am_ix_of q) rfl hd (kk H locs hP hS)
        · cases h
      · split at h
        · rename_i q; cases h
          simp only [Bool.and_eq_true] at q
          have hat := am_arI hP q.1
          rw [am_E_21 G M (am_is_of q.1).2.2] at hat
          exact va_zald hx hb hT.1 (am_one hat) 0 1 rfl rfl (am_ix_of q.2) hd (kk H locs hP hS)
        · cases h
    · cases h
  · -- caload
    split at h
    · rename_i ii a r
      split at h
      · rename_i q; cases h
        simp only [Bool.and_eq_true] at q
        have hat := am_arI hP q.1
        rw [am_E_22 G M (am_is_of q.1).2.2] at hat
        exact va_cald hx hb hT.1 (am_one hat) 0 2 rfl rfl (am_ix_of q.2) hd (kk H locs hP hS)
      · cases h
    · cases h
  · -- aaload
    split at h
    · rename_i ii a r
      split at h
      · rename_i q; cases h
        simp only [Bool.and_eq_true, Bool.or_eq_true] at q
        have kk := kk H locs hP hS
        rw [List.map_cons, ← am_rf_sh] at kk
        rcases q.1 with q1 | q1
        · have hat := am_arI hP q1
          rw [am_E_23 G M (am_is_of q1).2.2] at hat
          exact va_aldq hx hb hT.1 (am_one hat) 0 3 rfl rfl (am_ix_of q.2) hd kk
        · have hat := am_arI hP q1
          rw [am_E_24 G M (am_is_of q1).2.2] at hat
          exact va_aldq hx hb hT.1 (am_one hat) 0 4 rfl rfl (am_ix_of q.2) hd kk
      · cases h
    · cases h
  · split at h
    · split at h
      · rename_i q; cases h
        simp only [Bool.and_eq_true] at q
        exact am_iast hX0 hP hS q.1 (am_ix_of q.2) hd kk
      · cases h
    · cases h
  · split at h
    · split at h
      · rename_i q; cases h
        simp only [Bool.and_eq_true] at q
        exact am_zast hX0 hP hS q.1 (am_ix_of q.2) hd kk
      · cases h
    · cases h
  · split at h
    · split at h
      · rename_i q; cases h
        simp only [Bool.and_eq_true] at q
        exact am_cast hX0 hP hS q.1 (am_ix_of q.2) hd kk
      · cases h
    · cases h
  · split at h
    · split at h
      · rename_i q; cases h
        simp only [Bool.and_eq_true, Bool.or_eq_true] at q
        exact am_aast hX0 hP hS q.1 (am_ix_of q.2) hd kk
      · cases h
    · cases h
  · -- arraylength
    split at h
    · rename_i a r
      split at h
      · rename_i ha; subst ha; cases h
        exact va_tlen hx hb hT.2.2.2.2.1.2.2.2.2 hS rfl hd (kk H locs hP hS)
      · split at h
        · rename_i q; cases h
          have kk := kk H locs hP hS
          simp only [Bool.or_eq_true, beq_iff_eq] at q
          rcases q with (((rfl | q) | q) | q) | q
          · rw [hP.2.2.2.1] at kk
            exact va_slen hx hb hT.2.2.2.1.1 (Nat.lt_of_lt_of_le hT.2.2.2.1.2 hT.2.2.2.2.2.2.2) (Nat.not_le.mpr hT.2.2.2.1.2) hS hd kk
          · have hat := am_arI hP q
            rw [am_E_20 G M (am_is_of q).2.2] at hat
            exact va_alen hx hb hT.1 (am_one hat) 0 0 rfl rfl rfl hd kk
          · have hat := am_arI hP q
            rw [am_E_21 G M (am_is_of q).2.2] at hat
            exact va_alen hx hb hT.1 (am_one hat) 0 1 rfl rfl rfl hd kk
          · have hat := am_arI hP q
            rw [am_E_22 G M (am_is_of q).2.2] at hat
            exact va_alen hx hb hT.1 (am_one hat) 0 2 rfl rfl rfl hd kk
          · have hat := am_arI hP q
            rw [am_E_23 G M (am_is_of q).2.2] at hat
            exact va_alen hx hb hT.1 (am_one hat) 0 3 rfl rfl rfl hd kk
        · cases h
    · cases h
  · -- ldc
    split at h
    · rename_i q; cases h
      have hown' : s.vm.findClass "CodeProbes" = some m.cls := by rw [q.1] at hown; exact hown
      rw [q.2] at hd
      exact va_ldcS hx hb hown' hT.2.2.2.2.1.1 hd (kk H locs hP hS)
    · cases h
  · -- getstatic
    split at h
    · rename_i q; cases h
      have hown' : s.vm.findClass RJ0 = some m.cls := by rw [q.1] at hown; exact hown
      rw [q.2] at hd
      exact va_gets hx hb hT.2.2.2.2.2.1.1 hS hown' (hts _ (am_at_in am_wCmp)) (fun _ h => h) hd (kk H locs hP hS)
    · split at h
      · rename_i q; cases h
        have hown' : s.vm.findClass RJ0 = some m.cls := by rw [q.1] at hown; exact hown
        rw [q.2] at hd
        exact va_gets hx hb hT.2.2.2.2.2.1.2 hS hown' (hts _ (am_at_in am_wFmt)) (fun _ h => h) hd (kk H locs hP hS)
      · cases h
  · -- Object.<init>
    split at h
    · rename_i hc
      split at h
      · split at h
        · rename_i q; cases h
          simp only [Bool.and_eq_true, decide_eq_true_eq] at q
          obtain ⟨lk, p2, se, ini, hok⟩ := am_call_of hc
          unfold am_okC at hok
          simp only [Bool.and_eq_true] at hok
          have hs := am_sum hV q.2
          exact W.objInit hx hb hown (hts _ (am_at_in hok.1)) (hts _ (am_at_in hok.2)) (hts _ (am_at_in am_wObj)) rfl (hL.trans hml.symm) rfl hd (by omega) (by show 2 * 0 + _ + 12 ≤ _; rw [hs]; omega) (kk H locs hP hS)
        · cases h
      · cases h
    · cases h
  · -- arraycopy
    split at h
    · rename_i hc
      split at h
      · split at h
        · rename_i q; cases h
          simp only [Bool.and_eq_true, decide_eq_true_eq, Bool.not_eq_true', decide_eq_false_iff_not] at q
          obtain ⟨⟨⟨⟨⟨⟨⟨⟨⟨q1, q2⟩, q3⟩, q4⟩, q5⟩, q6⟩, q7⟩, q8⟩, q9⟩, q10⟩ := q
          exact am_copy hX0 hL hP hS hc q1 q4 q5 q6 q7 q8 q9 q10 (by rw [am_sum hV q3]; exact q2) hd kk
        · cases h
      · cases h
    · cases h
  · cases h
end AMD
