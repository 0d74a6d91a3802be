theorem am_link_of {o ix lk : Nat} {y : MethodName} (h : am_okL o ix lk y = true) : Cond.methodLink (am_cn o) ix y ∈ am_gw ∨ Cond.methodLinkNest (am_cn o) ix y "CodeProbes" ∈ am_nest := by
  unfold am_okL at h
  simp only [Bool.or_eq_true, Bool.and_eq_true, decide_eq_true_eq] at h
  rcases h with h | h
  · exact Or.inl (am_at_in h)
  · exact Or.inr (List.mem_of_getElem? h.2)
theorem am_good {j : Nat} (hj : j < 161) : GoodIn am_gw (am_ws j) := by
  intro w hw
  have hm : w ∈ am_gw := by
    rcases List.mem_cons.mp hw with rfl | h
    · exact (am_code_in hj).1
    · exact h
  exact ⟨hm, good_of_word (List.mem_filter.mp hm).2⟩
theorem am_split {G : am_Gt} {st as : List Value} {b np : Nat} (h : (st.take (np + 1)).reverse = .ref b :: as) : st.map (am_sh G) = (as.map (am_sh G)).reverse ++ .ref (am_ab G b) :: (st.drop (np + 1)).map (am_sh G) := by
  have e2 : st.take (np + 1) = as.reverse ++ [.ref b] := by
    have := congrArg List.reverse h
    rw [List.reverse_reverse] at this
    rw [this]; simp
  have e3 : st.map (am_sh G) = (st.take (np + 1)).map (am_sh G) ++ (st.drop (np + 1)).map (am_sh G) := by rw [← List.map_append, List.take_append_drop]
  rw [e3, e2]
  simp [am_sh]
section AMG
variable {p : Program} {l : Launch} {e : Env} {R : Room} {s : State} {m : MethodId} {args : Array Value} {below : List Frame} {meth : Method} {c : Code} {H : Heap} {locs : List Loc} {cells slots : Nat} {Q : State → Prop}
variable {k pc pc' : Nat} {G : am_Gt} {L : Array Slot} {rest st st' : List Value} {M M' : am_M} {i : Instr} {n : Nat}
theorem am_cont {v : Option Value} {mc ms : Nat} {st0 : List Value} {Qa : State → Outcome → State → Prop} (hr : va_Run p l e R s m args below meth c H locs cells slots mc ms (F0 m pc L st0) rest Qa (gA G)) (hQa : ∀ st oc t, Qa st oc t → oc = .returned (v.map (am_sh G)) ∧ am_RP G M' t.heap ∧ va_F (gA G) st t) (hS : va_S (gA G) s.heap H locs)
    (kk : ∀ (H1 : Heap) (locs1 : List Loc), am_RP G M' H1 → va_S (gA G) s.heap H1 locs1 → W p l e R s m args below meth c H1 locs1 (cells + mc) (slots + ms) Q (F0 m (pc + 3) L ((v.map (am_sh G)).toList ++ rest))) : W p l e R s m args below meth c H locs cells slots Q (F0 m pc L st0) := by
  intro T hT X
  obtain ⟨w, st₀, t, T', L', h0, X', hL, e1, e2, hq, st⟩ := hr T hT X
  obtain ⟨hv, hrp, hz, hk⟩ := hQa _ _ _ hq
  cases hv
  rw [h0] at hz hk
  obtain ⟨t2, a1, b1⟩ := kk T'.heap (locs ++ L') (by rw [e1]; exact hrp) ⟨Nat.le_trans hS.1 (by rw [e1]; exact hz), fun q h1 h2 => by rw [e1, hk q (Nat.lt_of_lt_of_le h1 hS.1) h2]; exact hS.2.1 q h1 h2, fun q hq => by
      rcases List.mem_append.mp hq with h | h
      · exact hS.2.2 q h
      · exact hL q h⟩ T' rfl X'
  exact ⟨t2, st t2 a1, b1⟩
/-- a call -/
theorem am_s4 (hX : am_X G k p R s m args meth c) (hL : L.size = am_nl k) (hd : decode (am_c k) pc = .ok (i, n)) {j : Nat} {as r : List Value} (h : am_g4 (am_own k) (am_lev k) st M i n = some (j, as, r)) (hP : am_RP G M H) (hS : va_S (gA G) s.heap H locs) {v : Option Value} (hsn : am_Snd G j 0 (am_ent j as) [] M v M') (hc : cells + (M'.2.2.2.1 - M.2.2.2.1) ≤ R.cells) (hs : slots + (M'.2.2.2.2 - M.2.2.2.2) ≤ R.slots)
    (kk : ∀ (H1 : Heap) (locs1 : List Loc), am_RP G M' H1 → va_S (gA G) s.heap H1 locs1 → W p l e R s m args below meth c H1 locs1 (cells + (M'.2.2.2.1 - M.2.2.2.1)) (slots + (M'.2.2.2.2 - M.2.2.2.2)) Q (F0 m (pc + 3) L ((v.toList ++ r).map (am_sh G)))) : W p l e R s m args below meth c H locs cells slots Q (F0 m pc L (st.map (am_sh G))) := by
  obtain ⟨hx, hb, hrt, hml, hown, hts, hfr, hlo, hini, hlk, hT⟩ := hX
  have hV := hT.2.2.2.2.2.2.1
  have hmap : ((v.toList ++ r).map (am_sh G)) = (v.map (am_sh G)).toList ++ r.map (am_sh G) := by cases v <;> simp
  rw [hmap] at kk
  have hblind : FrameBlind (va_Pc (as.map (am_sh G)) (fun U => am_TB G U ∧ am_RP G M U.heap)) := fun a U g mk q => ⟨q.1, am_TB.blind g mk a q.2.1, q.2.2⟩
  have hpre : ∀ U : State, U.heap = H → s.WarmedH U.vm → va_Pc (as.map (am_sh G)) (fun U => am_TB G U ∧ am_RP G M U.heap) (as.map (am_sh G)).toArray U := fun U hU hW => ⟨rfl, hT.go hW hS hU, by rw [hU]; exact hP⟩
  have hfix : CallFix p m c (am_c k) (am_nl k) s args am_gw (am_cn (am_own k)) := ⟨hx, hb, hml, hown, hts⟩
  have hroom : am_lev j < am_lev k → (am_rm j (M'.2.2.2.1 - M.2.2.2.1) (M'.2.2.2.2 - M.2.2.2.2)).frames + 1 ≤ R.frames ∧ (am_nl j ≤ 19 → 8 + (am_nl j + 11) + (am_rm j (M'.2.2.2.1 - M.2.2.2.1) (M'.2.2.2.2 - M.2.2.2.2)).locals ≤ R.locals) := by
    intro hlt
    refine ⟨Nat.le_trans hlt hfr, fun h19 => ?_⟩
    show 8 + (am_nl j + 11) + 38 * am_lev j ≤ R.locals
    omega
  have facts : j < 161 → (Cond.code (am_y j) (am_c j) (am_nl j) (am_rt j)).before args s = true ∧ ((am_y j).cls ≠ "java/lang/invoke/MethodHandle" ∧ (am_y j).cls ≠ "java/lang/invoke/VarHandle" ∧ (parseMethodDescriptor (am_y j).desc).map (fun d => d.parameters.length) = some (am_np j)) ∧ (am_y j).cls = am_cn (am_own j) ∧ am_nl j ≤ 19 := by
    intro hj
    obtain ⟨hcd, hok⟩ := am_code_in hj
    unfold am_okM at hok
    simp only [Bool.and_eq_true, decide_eq_true_eq] at hok
    exact ⟨hts _ hcd, ⟨hok.1.1.1.1.2, hok.1.1.1.2, hok.1.1.2⟩, hok.1.2, hok.2⟩
  unfold am_g4 at h
  split at h
  · -- virtual
    split at h
    · rename_i ix _ j' hcall
      split at h
      · rename_i b as' hst
        split at h
        · rename_i q; cases h
          simp only [Bool.and_eq_true, decide_eq_true_eq, Bool.or_eq_true, beq_iff_eq] at q
          obtain ⟨⟨⟨⟨⟨⟨q1, q2⟩, q3⟩, q4⟩, q5⟩, q6⟩, q7⟩ := q
          obtain ⟨lk, p2, se, ini, hok⟩ := am_call_of hcall
          unfold am_okC at hok
          simp only [Bool.and_eq_true, decide_eq_true_eq] at hok
          obtain ⟨⟨⟨⟨hj, hlnk⟩, hin⟩, hsel⟩, hini⟩ := hok
          obtain ⟨hcode, hdd, hcn, h19⟩ := facts hj
          have hM := am_met (l := l) hj hsn hV (by simp only [List.all_cons, Bool.and_eq_true]; exact ⟨rfl, q3⟩) (by rw [List.length_cons, q1]; exact q6)
          have hrecv : ∃ cellB : Cell, H[am_ab G b]? = some cellB ∧ cellB.vm.isStatics = false ∧ s.vm.findClass (am_y j).cls = some cellB.cls := by
            rcases q7 with q7 | ⟨rfl, q7⟩
            · have h10 : am_own j ≤ 10 ∨ ¬ am_own j ≤ 10 := Decidable.em _
              rcases h10 with h10 | h10
              · have hat := am_arI hP q7
                rw [am_E_o G M (am_is_of q7).2.2 h10] at hat
                obtain ⟨r', hr', cellV, g1, g2, g3, -⟩ := hat
                exact ⟨cellV, g1, by rw [g3]; rfl, by rw [g2, hcn]; exact (hT.1.1 _ _ (am_vw h10)).2.1⟩
              · exfalso
                have h20 : am_own j = 20 ∨ am_own j = 21 ∨ am_own j = 22 ∨ am_own j = 23 ∨ am_own j = 24 ∨ 10 < am_own j := by omega
                have hall : (List.range 161).all (fun z => decide (am_own z ≤ 15)) = true := by decide +kernel
                have hj15 := List.all_eq_true.mp hall j (List.mem_range.mpr hj)
                simp only [decide_eq_true_eq] at hj15
                have htg := (am_is_of q7).2.2
                have htags : am_tags.all (fun z => decide (z ≤ 10 ∨ 16 ≤ z)) = true := by decide +kernel
                unfold am_tag at htg
                split at htg
                · rename_i hlt
                  have hm : am_tags.getD b 99 ∈ am_tags := by
                    rw [List.getD_eq_getElem?_getD, List.getElem?_eq_getElem (by have : am_tags.length = 156 := by decide +kernel
                                                                                 omega)]
                    exact List.getElem_mem _
                  have := List.all_eq_true.mp htags _ hm
                  simp only [decide_eq_true_eq] at this
                  omega
                · split at htg <;> omega
            · obtain ⟨cell, h1, h2, h3, -⟩ := hT.2.2.2.2.1.2.1.kept hS.2.1
              exact ⟨cell, h1, h2, by rw [hcn, q7]; exact h3⟩
          have hsplit : st.map (am_sh G) = (as'.map (am_sh G)).reverse ++ .ref (am_ab G b) :: (st.drop (am_np j + 1)).map (am_sh G) := am_split hst
          rw [hsplit]
          have hR := hroom q5
          have hsum : (((st.drop (am_np j + 1)).map (am_sh G)).map fun v => v.category).sum ≤ 8 := by rw [am_sum hV q2]; exact q4
          rcases am_link_of hlnk with hl1 | hl1
          · exact am_cont (va_runV (C := (am_y j).cls) (bytes := am_c j) (maxL := am_nl j) (ret := am_rt j) (n := am_np j) (b := am_ab G b) (As := as'.map (am_sh G)) (rest := (st.drop (am_np j + 1)).map (am_sh G)) hfix hM ⟨callB_of (ws' := am_gw) (am_np j) hts (am_good hj) rfl rfl rfl (hts _ (am_at_in hini)) (hts _ hl1) hdd ⟨hR.1, hR.2 h19⟩, hts _ (am_at_in hin), hts _ (am_at_in hsel)⟩ ⟨hblind, hrecv, hpre⟩ rfl (by rw [List.length_map]; exact q1) hL rfl (lv_room hsum) hd ⟨hc, hs⟩) (fun _ _ _ hq => hq) hS kk
          · exact am_cont (va_runVN (C := (am_y j).cls) (host := "CodeProbes") (bytes := am_c j) (maxL := am_nl j) (ret := am_rt j) (n := am_np j) (b := am_ab G b) (As := as'.map (am_sh G)) (rest := (st.drop (am_np j + 1)).map (am_sh G)) hfix hM ⟨va_cnB (ws' := am_gw) (am_np j) hts (am_good hj) rfl rfl rfl (hT.2.1 _ hl1) (hts _ (am_at_in hini)) hdd ⟨hR.1, hR.2 h19⟩, hts _ (am_at_in hin), hts _ (am_at_in hsel)⟩ ⟨hblind, hrecv, hpre⟩ rfl (by rw [List.length_map]; exact q1) hL rfl (lv_room hsum) hd ⟨hc, hs⟩) (fun _ _ _ hq => hq) hS kk
        · cases h
      · cases h
    · cases h
  · -- constructors
    split at h
    · rename_i ix _ j' hcall
      split at h
      · rename_i b as' hst
        split at h
        · rename_i q; cases h
          simp only [Bool.and_eq_true, decide_eq_true_eq] at q
          obtain ⟨⟨⟨⟨⟨q1, q2⟩, q3⟩, q4⟩, q5⟩, q6⟩ := q
          obtain ⟨lk, p2, se, ini, hok⟩ := am_call_of hcall
          unfold am_okC at hok
          simp only [Bool.and_eq_true, decide_eq_true_eq] at hok
          obtain ⟨⟨⟨⟨⟨hj, hlnk⟩, hin⟩, hini⟩, hnm⟩, hrn⟩ := hok
          obtain ⟨hcode, hdd, hcn, h19⟩ := facts hj
          have hM := am_met (l := l) hj hsn hV (by simp only [List.all_cons, Bool.and_eq_true]; exact ⟨rfl, q3⟩) (by rw [List.length_cons, q1]; exact q6)
          have hsplit : st.map (am_sh G) = (as'.map (am_sh G)).reverse ++ .ref (am_ab G b) :: (st.drop (am_np j + 1)).map (am_sh G) := am_split hst
          rw [hsplit]
          have hR := hroom q5
          have hsum : (((st.drop (am_np j + 1)).map (am_sh G)).map fun v => v.category).sum ≤ 8 := by rw [am_sum hV q2]; exact q4
          have hws : am_ws j = Cond.code (am_y j) (am_c j) (am_nl j) none :: am_gw := by unfold am_ws; rw [hrn]
          rcases am_link_of hlnk with hl1 | hl1
          · exact am_cont (va_runI (bytes := am_c j) (maxL := am_nl j) (n := am_np j) (b := am_ab G b) (As := as'.map (am_sh G)) (rest := (st.drop (am_np j + 1)).map (am_sh G)) hfix hM ⟨callB_of (ws' := am_gw) (am_np j) hts (am_good hj) hws rfl rfl (hts _ (am_at_in hini)) (hts _ hl1) hdd ⟨hR.1, hR.2 h19⟩, hnm, hts _ (am_at_in hin)⟩ ⟨hblind, hpre⟩ rfl (by rw [List.length_map]; exact q1) hL rfl (lv_room hsum) hd ⟨hc, hs⟩) (fun _ _ _ hq => hq) hS kk
          · exact am_cont (va_runIN (host := "CodeProbes") (bytes := am_c j) (maxL := am_nl j) (n := am_np j) (b := am_ab G b) (As := as'.map (am_sh G)) (rest := (st.drop (am_np j + 1)).map (am_sh G)) hfix hM ⟨va_cnB (ws' := am_gw) (am_np j) hts (am_good hj) hws rfl rfl (hT.2.1 _ hl1) (hts _ (am_at_in hini)) hdd ⟨hR.1, hR.2 h19⟩, hnm, hts _ (am_at_in hin)⟩ ⟨hblind, hpre⟩ rfl (by rw [List.length_map]; exact q1) hL rfl (lv_room hsum) hd ⟨hc, hs⟩) (fun _ _ _ hq => hq) hS kk
        · cases h
      · cases h
    · cases h
  · -- static
    split at h
    · rename_i ix _ j' hcall
      split at h
      · rename_i q; cases h
        simp only [Bool.and_eq_true, decide_eq_true_eq] at q
        obtain ⟨⟨⟨⟨⟨q1, q2⟩, q3⟩, q4⟩, q5⟩, q6⟩ := q
        obtain ⟨lk, p2, se, ini, hok⟩ := am_call_of hcall
        unfold am_okC at hok
        simp only [Bool.and_eq_true, decide_eq_true_eq] at hok
        obtain ⟨⟨⟨hj, hlnk⟩, hin⟩, hini⟩ := hok
        obtain ⟨hcode, hdd, hcn, h19⟩ := facts hj
        have hM := am_met (l := l) hj hsn hV (by rw [List.all_reverse]; exact q3) (by rw [List.length_reverse, q1]; exact q6)
        have hsplit : st.map (am_sh G) = (((st.take (am_np j)).reverse).map (am_sh G)).reverse ++ (st.drop (am_np j)).map (am_sh G) := by
          rw [List.map_reverse, List.reverse_reverse, ← List.map_append, List.take_append_drop]
        rw [hsplit]
        have hR := hroom q5
        have hsum : (((st.drop (am_np j)).map (am_sh G)).map fun v => v.category).sum ≤ 8 := by rw [am_sum hV q2]; exact q4
        rcases am_link_of hlnk with hl1 | hl1
        · exact am_cont (va_runS (bytes := am_c j) (maxL := am_nl j) (ret := am_rt j) (n := am_np j) (As := ((st.take (am_np j)).reverse).map (am_sh G)) (rest := (st.drop (am_np j)).map (am_sh G)) hfix hM ⟨callB_of (ws' := am_gw) (am_np j) hts (am_good hj) rfl rfl rfl (hts _ (am_at_in hini)) (hts _ hl1) hdd ⟨hR.1, hR.2 h19⟩, hts _ (am_at_in hin)⟩ ⟨hblind, hpre⟩ rfl (by rw [List.length_map, List.length_reverse]; exact q1) hL rfl (lv_room hsum) hd ⟨hc, hs⟩) (fun _ _ _ hq => hq) hS kk
        · exact am_cont (va_runSN (host := "CodeProbes") (bytes := am_c j) (maxL := am_nl j) (ret := am_rt j) (n := am_np j) (As := ((st.take (am_np j)).reverse).map (am_sh G)) (rest := (st.drop (am_np j)).map (am_sh G)) hfix hM ⟨va_cnB (ws' := am_gw) (am_np j) hts (am_good hj) rfl rfl rfl (hT.2.1 _ hl1) (hts _ (am_at_in hini)) hdd ⟨hR.1, hR.2 h19⟩, hts _ (am_at_in hin), trivial⟩ ⟨hblind, hpre⟩ rfl (by rw [List.length_map, List.length_reverse]; exact q1) hL rfl (lv_room hsum) hd ⟨hc, hs⟩) (fun _ _ _ hq => hq) hS kk
      · cases h
    · cases h
  · cases h
end AMG
/-- THE SMALL MACHINE IS THE REAL ONE -/
theorem am_sound (G : am_Gt) : ∀ (N k pc : Nat) (ls : am_L) (st : List Value) (M : am_M) (v : Option Value) (M' : am_M), am_run N k pc ls st M = some (v, M') → am_Snd G k pc ls st M v M' := by
  intro N
  induction N with
  | zero => intro k pc ls st M v M' h; cases h
  | succ N ih =>
    intro k pc ls st M v M' h
    rw [am_run] at h
    unfold am_act at h
    cases hd : decode (am_c k) pc with
    | error z => rw [hd] at h; cases h
    | ok q =>
      obtain ⟨i, n⟩ := q
      rw [hd] at h
      dsimp only at h
      unfold am_do at h
      cases h1 : am_g1 pc ls st i n with
      | some q =>
        obtain ⟨pc1, ls1, st1⟩ := q
        rw [h1] at h
        obtain ⟨hm, hw⟩ := ih _ _ _ _ _ _ _ h
        refine ⟨hm, fun p l e R s m args below meth c H locs cells slots fc fs Q L hX hP hl hS hc hs hc2 hs2 hret => ?_⟩
        exact am_s1 hX.1 hX.2.1 hX.2.2.2.2.2.2.2.2.2.2.2.2.2.2.2.2.1 hd h1 hl (fun L' hl' => hw p l e R s m args below meth c H locs cells slots fc fs Q L' hX hP hl' hS hc hs hc2 hs2 hret)
      | none =>
        rw [h1] at h
        dsimp only at h
        cases h2 : am_g2 pc st i n with
        | some q =>
          obtain ⟨pc1, st1⟩ := q
          rw [h2] at h
          obtain ⟨hm, hw⟩ := ih _ _ _ _ _ _ _ h
          refine ⟨hm, fun p l e R s m args below meth c H locs cells slots fc fs Q L hX hP hl hS hc hs hc2 hs2 hret => ?_⟩
          exact am_s2 hX.1 hX.2.1 hd h2 (hw p l e R s m args below meth c H locs cells slots fc fs Q L hX hP hl hS hc hs hc2 hs2 hret)
        | none =>
          rw [h2] at h
          dsimp only at h
          cases h3 : am_g3 (am_own k) (am_lev k) (am_ini k) pc st M i n with
          | some q =>
            obtain ⟨pc1, st1, I1, R1⟩ := q
            rw [h3] at h
            obtain ⟨hm, hw⟩ := ih _ _ _ _ _ _ _ h
            refine ⟨hm, fun p l e R s m args below meth c H locs cells slots fc fs Q L hX hP hl hS hc hs hc2 hs2 hret => ?_⟩
            exact am_s3 hX hl.2.2.1 hd h3 hP hS (fun H1 locs1 hP1 hS1 => hw p l e R s m args below meth c H1 locs1 cells slots fc fs Q L hX hP1 hl hS1 hc hs hc2 hs2 hret)
          | none =>
            rw [h3] at h
            dsimp only at h
            cases h6 : am_g6 (am_own k) pc st M i n with
            | some q =>
              obtain ⟨pc1, st1, M1⟩ := q
              rw [h6] at h
              obtain ⟨hm, hw⟩ := ih _ _ _ _ _ _ _ h
              have hgrow : M1.2.2.2.1 = M.2.2.2.1 + 1 ∧ M.2.2.2.2 ≤ M1.2.2.2.2 := by
                have h6' := h6
                unfold am_g6 at h6'
                repeat' split at h6'
                all_goals first | (cases h6'; done) | (cases h6'; exact ⟨rfl, Nat.le_add_right _ _⟩)
              refine ⟨⟨by omega, by omega⟩, fun p l e R s m args below meth c H locs cells slots fc fs Q L hX hP hl hS hc hs hc2 hs2 hret => ?_⟩
              obtain ⟨sl, e1, e2, hstep⟩ := am_s6 (p := p) (l := l) (e := e) (below := below) (Q := Q) (L := L) (cells := cells) (slots := slots) hX hd h6 hP hS
              refine hstep (by omega) (by omega) (fun H1 locs1 hP1 hS1 => hw p l e R s m args below meth c H1 locs1 (cells + 1) (slots + sl) fc fs Q L hX hP1 hl hS1 (by omega) (by omega) hc2 hs2 hret)
            | none =>
              rw [h6] at h
              dsimp only at h
              cases h4 : am_g4 (am_own k) (am_lev k) st M i n with
              | some q =>
                obtain ⟨j, as, r⟩ := q
                rw [h4] at h
                dsimp only at h
                cases hc : am_run N j 0 (am_ent j as) [] M with
                | none => rw [hc] at h; cases h
                | some q =>
                  obtain ⟨v1, M1⟩ := q
                  rw [hc] at h
                  have hs1 := ih _ _ _ _ _ _ _ hc
                  obtain ⟨hm, hw⟩ := ih _ _ _ _ _ _ _ h
                  have hm1 := hs1.1
                  refine ⟨⟨by omega, by omega⟩, fun p l e R s m args below meth c H locs cells slots fc fs Q L hX hP hl hS hc hs hc2 hs2 hret => ?_⟩
                  exact am_s4 hX hl.2.2.1 hd h4 hP hS hs1 (by omega) (by omega) (fun H1 locs1 hP1 hS1 => hw p l e R s m args below meth c H1 locs1 _ _ fc fs Q L hX hP1 hl hS1 (by omega) (by omega) hc2 hs2 hret)
              | none =>
                rw [h4] at h
                dsimp only at h
                cases h5 : am_g5 (am_rt k) st i n with
                | none => rw [h5] at h; cases h
                | some v1 =>
                  rw [h5] at h
                  cases h
                  refine ⟨⟨Nat.le_refl _, Nat.le_refl _⟩, fun p l e R s m args below meth c H locs cells slots fc fs Q L hX hP hl hS hc hs hc2 hs2 hret => ?_⟩
                  rw [Nat.sub_self, Nat.add_zero] at hc hs
                  subst hc; subst hs
                  exact hret H locs pc L st i n hd h5 hP hS
