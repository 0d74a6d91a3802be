def am_X (G : am_Gt) (k : Nat) (p : Program) (R : Room) (s : State) (m : MethodId) (args : Array Value) (meth : Method) (c : Code) : Prop :=
  p.tables.exec = Jvm.exec ∧ c.code = am_c k ∧ meth.sig.returnType = am_rt k ∧ c.maxLocals = am_nl k ∧ s.vm.findClass (am_cn (am_own k)) = some m.cls ∧ (∀ w ∈ am_gw, w.before args s = true) ∧ am_lev k ≤ R.frames ∧ 38 * am_lev k ≤ R.locals ∧ (am_ini k = true → meth.name = "<init>") ∧ meth.locks = false ∧ am_TB G s
theorem am_is_of {M : am_M} {a t : Nat} (h : am_is M a t = true) : 3 ≤ a ∧ a < M.2.2.2.1 ∧ am_tag a = t := by
  unfold am_is am_isK at h
  simp only [Bool.and_eq_true, decide_eq_true_eq, beq_iff_eq] at h
  exact ⟨h.1.1, h.1.2, h.2⟩
theorem am_ix_of {i : Int32} {n : Nat} (h : am_ix i n = true) : vp_in i n := by
  unfold am_ix at h
  unfold vp_in
  simp only [Bool.not_eq_true', Bool.or_eq_false_iff, decide_eq_false_iff_not] at h
  exact fun q => q.elim h.1 h.2
theorem am_fld_of {o ix ci j : Nat} (h : am_fld o ix = some (ci, j)) : Cond.fieldLink (am_cn o) ix (am_fT ci j).1 (am_fT ci j).2.1 (am_fT ci j).2.2.1 ∈ am_gw ∧ ci ≤ 10 ∧ j < am_cN ci ∧ (am_fT ci j).1 = am_cn ci := by
  unfold am_fld at h
  obtain ⟨⟨o', ix', ci', j', pl⟩, h1, h2⟩ := Option.map_eq_some_iff.mp h
  have hm := List.mem_of_find?_eq_some h1
  have hp := List.find?_some h1
  have hk := List.all_eq_true.mp am_okF_all _ hm
  simp only [Bool.and_eq_true, beq_iff_eq] at hp
  obtain ⟨rfl, rfl⟩ := hp
  cases h2
  unfold am_okF at hk
  simp only [Bool.and_eq_true, decide_eq_true_eq] at hk
  exact ⟨am_at_in hk.1.1.1, hk.1.1.2, hk.1.2, hk.2⟩
theorem am_K_of {ci : Nat} (h : ci ≤ 10) : (∀ w ∈ u_ws (am_cn ci) (am_fT ci) (am_cN ci), w ∈ am_gw) ∧ (∀ k, k < am_cN ci → parseFieldDescriptor (am_fT ci k).2.2.1 = some (am_ty ci k)) ∧ (∀ a, a < am_cN ci → ∀ b, b < am_cN ci → a ≠ b → (am_fT ci a).2.1 ≠ (am_fT ci b).2.1) := by
  have hk := List.all_eq_true.mp am_okK_all ci (List.mem_range.mpr (by omega))
  unfold am_okK at hk
  have hk := List.all_eq_true.mp hk
  refine ⟨fun w hw => ?_, fun k h1 => ?_, fun a ha b hb hab => ?_⟩
  · obtain ⟨k, h1, rfl⟩ := List.mem_map.mp hw
    have := hk k h1
    simp only [Bool.and_eq_true] at this
    exact am_at_in this.1.1
  · have := hk k (List.mem_range.mpr h1)
    simp only [Bool.and_eq_true, decide_eq_true_eq] at this
    exact this.1.2
  · have := hk b (List.mem_range.mpr hb)
    simp only [Bool.and_eq_true] at this
    have := List.all_eq_true.mp this.2 a (List.mem_range.mpr ha)
    simp only [Bool.or_eq_true, decide_eq_true_eq] at this
    exact this.resolve_left hab
theorem am_fs_V (G : am_Gt) (M : am_M) (a t : Nat) {j : Nat} (h : j < am_cN t) : vp_V (am_fs G M a t) j = (if am_isI t j then .int (M.1 a j) else am_sh G (am_rf (M.2.1 a j))) := by
  unfold vp_V am_fs
  simp [h]
theorem am_fs_get (G : am_Gt) (M : am_M) (a t : Nat) {j : Nat} (h : j < am_cN t) : (am_fs G M a t)[j]? = some (if am_isI t j then .int (M.1 a j) else am_sh G (am_rf (M.2.1 a j))) := by
  unfold am_fs
  simp [h]
theorem am_one {D : va_G} {cl : List vw_C} {q : Nat × va_E} {H : Heap} (h : va_at D cl q H) : va_P D cl [q] H := by
  intro k x hx
  match k, hx with
  | 0, hx => cases hx; exact h
  | k + 1, hx => simp at hx
theorem am_rf_sh (G : am_Gt) (r : Option Nat) : va_rf (r.map (am_ab G)) = am_sh G (am_rf r) := by cases r <;> rfl
theorem am_narI {ty : FieldType} {v : Value} (hv : v = .null ∨ ∃ a, v = .ref a) : narrow ty v = v := by
  rcases hv with rfl | ⟨a, rfl⟩ <;> cases ty <;> rfl
theorem am_fitR {ci j : Nat} {v : Value} (h : am_isI ci j = false) (hv : v = .null ∨ ∃ a, v = .ref a) : fits (am_ty ci j) v = true := by
  unfold am_isI at h
  split at h
  · rename_i q; rw [q]; rcases hv with rfl | ⟨a, rfl⟩ <;> rfl
  · rename_i q; rw [q]; rcases hv with rfl | ⟨a, rfl⟩ <;> rfl
  · cases h
section AMC
variable {p : Program} {l : Launch} {e : Env} {R : Room} {s : State} {m : MethodId} {args : Array Value} {below : List Frame} {meth : Method} {c : Code} {H : Heap} {locs : List Loc} {cells slots : Nat} {Q : State → Prop}
variable {k pc : Nat} {G : am_Gt} {L : Array Slot} {rest : List Value} {M : am_M}
/-- a field is written: what the class file says of it, final or not -/
theorem am_putf (hX : am_X G k p R s m args meth c) (hP : am_RP G M H) (hS : va_S (gA G) s.heap H locs) {ix ci j a : Nat} (hf : am_fld (am_own k) ix = some (ci, j)) (ha : am_is M a ci = true) (hfin : (am_fT ci j).2.2.2 = false ∨ (am_ini k = true ∧ ci = am_own k)) {v : Value} (hn : narrow (am_ty ci j) v = v) (hfit : fits (am_ty ci j) v = true) {I' : am_I} {R' : am_R}
    (hI : ∀ q, q ≠ a → I' q = M.1 q) (hR : ∀ q, q ≠ a → R' q = M.2.1 q) (hv : ∀ x, x < am_cN ci → updV (vp_V (am_fs G M a ci)) j v x = vp_V (am_fs G (I', R', M.2.2) a ci) x) (hdg : decode (am_c k) pc = .ok (.putfield ix, 3))
    (kk : ∀ (H1 : Heap) (locs1 : List Loc), am_RP G (I', R', M.2.2) H1 → va_S (gA G) s.heap H1 locs1 → W p l e R s m args below meth c H1 locs1 cells slots Q (F0 m (pc + 3) L rest)) : W p l e R s m args below meth c H locs cells slots Q (F0 m pc L (v :: .ref (am_ab G a) :: rest)) := by
  obtain ⟨hx, hb, -, -, hown, hts, -, -, hin2, -, hT⟩ := hX
  obtain ⟨hfl, hci, hj, hdecl⟩ := am_fld_of hf
  obtain ⟨h3, hlt, htag⟩ := am_is_of ha
  obtain ⟨hin, hty, hnm⟩ := am_K_of hci
  have hK := hT.1
  have hc := am_vw hci
  have hat := hP.2.2.2.2 a h3 hlt
  rw [am_E_o G M htag hci] at hat
  have hap := va_apart (own := am_cn (am_own k)) hts hin (am_ty ci) hty hnm hK hc
  obtain ⟨r, h1, cell, q1, q2, q3, q4⟩ := hat
  have hr : r = (am_cn ci, am_fT ci, am_cN ci) := Option.some.inj (h1.symm.trans hc)
  subst hr
  obtain ⟨hSl, hfc, kC, hkC, hkind⟩ := hK.1 ci _ hc
  obtain ⟨cf, kf, fi, f, hi, hsl⟩ := hSl j hj
  have hlay := hts _ (hin _ (u_in_lay hj))
  have hst := (u_facts hfc hkC (u_lays hts hin hj) hi).1
  have fin : ∀ H' : Heap, H'[am_ab G a]? = some (cell.setSlot f.slot v) → H'.size = H.size → (∀ q, q ≠ am_ab G a → H'[q]? = H[q]?) → W p l e R s m args below meth c H' (locs ++ [⟨am_ab G a, f.slot⟩]) cells slots Q (F0 m (pc + 3) L rest) := by
    intro H' e1 e2 e3
    rw [hsl] at e1 ⊢
    refine kk H' _ (hP.upd h3 rfl hI hR rfl e2 e3 ?_) (hS.put e2 e3 (am_ab_A G h3))
    rw [am_E_o G (I', R', M.2.2) htag hci]
    exact ⟨_, hc, t_OB.to (V := updV (vp_V (am_fs G M a ci)) j v) ⟨_, e1, q2, q3, t_set q4 hap hj v⟩ hv⟩
  rcases hfin with hfin | ⟨hini, hco⟩
  · unfold u_lay at hlay
    rw [if_neg (by rw [hfin]; decide)] at hlay
    have h6 := u_store hfc hkC hkind hlay hi (hty j hj) hn hfit
    exact W.putK hx hb (f := f) ⟨hown, hts _ hfl, ⟨_, _, _, hi⟩, hst⟩ (by rw [q2]; exact h6) q1 q3 (by rw [hsl]; exact k2_hasslot (q4 j hj)) rfl rfl hdg fin
  · by_cases hfin : (am_fT ci j).2.2.2 = true
    · unfold u_lay at hlay
      rw [if_pos hfin] at hlay
      have hcf : m.cls = cf := by
        obtain ⟨_, _, c', _, _, _, -, -, hf', -, -, -, hown2, -⟩ := Cond.laysFinal_spec hlay
        have e1 : c' = cf := by have := hi.symm.trans hf'; simp at this; exact this.1.symm
        rw [hdecl, hco] at hown2
        rw [← e1]; exact Option.some.inj (hown.symm.trans hown2)
      have h6 := u_fits hfc hkC hkind (Or.inr hlay) hi (hty j hj) hn hfit
      exact W.putFinK hx hb hown (hts _ hfl) hi hst hcf (hin2 hini) (by rw [q2]; exact h6) q1 q3 (by rw [hsl]; exact k2_hasslot (q4 j hj)) rfl rfl hdg fin
    · unfold u_lay at hlay
      rw [if_neg hfin] at hlay
      have h6 := u_store hfc hkC hkind hlay hi (hty j hj) hn hfit
      exact W.putK hx hb (f := f) ⟨hown, hts _ hfl, ⟨_, _, _, hi⟩, hst⟩ (by rw [q2]; exact h6) q1 q3 (by rw [hsl]; exact k2_hasslot (q4 j hj)) rfl rfl hdg fin
theorem am_arI {M : am_M} {a t : Nat} (hP : am_RP G M H) (ha : am_is M a t = true) : va_at (gD G) vwCl (am_ab G a, am_E G M a) H := hP.2.2.2.2 a (am_is_of ha).1 (am_is_of ha).2.1
/-- int, boolean and char arrays are written -/
theorem am_iast (hX : am_X G k p R s m args meth c) (hP : am_RP G M H) (hS : va_S (gA G) s.heap H locs) {a : Nat} (ha : am_is M a 20 = true) {i x : Int32} (hin : vp_in i (M.2.2.1 a)) (hdg : decode (am_c k) pc = .ok (.iastore, 1))
    (kk : ∀ (H1 : Heap) (locs1 : List Loc), am_RP G (am_ui M.1 a i.toNatClampNeg x, M.2) H1 → va_S (gA G) s.heap H1 locs1 → W p l e R s m args below meth c H1 locs1 cells slots Q (F0 m (pc + 1) L rest)) : W p l e R s m args below meth c H locs cells slots Q (F0 m pc L (.int x :: .int i :: .ref (am_ab G a) :: rest)) := by
  obtain ⟨hx, hb, -, -, -, -, -, -, -, -, hT⟩ := hX
  obtain ⟨h3, hlt, htag⟩ := am_is_of ha
  have hat := am_arI hP ha
  rw [am_E_20 G M htag] at hat
  have hA := (hT.1.2 0 _ rfl).1 (M.2.2.1 a) (fun j => .int (M.1 a j))
  refine W.iast hx hb hat hA (fun q => by cases q) (by show ¬ (i < 0 ∨ (arrV _ _ _).slots.size ≤ _); rw [arrV_size]; exact hin) rfl rfl hdg fun H1 e z oq => ?_
  refine kk H1 _ (hP.upd h3 rfl (fun q hq => ?_) (fun q hq => rfl) rfl z oq ?_) (hS.put z oq (am_ab_A G h3))
  · funext j; show am_ui M.1 a _ x q j = _; unfold am_ui; rw [if_neg (fun h => hq h.1)]
  · rw [am_E_20 G _ htag]
    show H1[am_ab G a]? = some (vp_cell _ _)
    rw [e, vp_cell_i, vp_cell_i, arrV_store]
    congr 2
    funext q
    by_cases hq : q = i.toNatClampNeg
    · subst hq
      simp [updV, am_ui]
    · simp [updV, am_ui, hq]
theorem am_zast (hX : am_X G k p R s m args meth c) (hP : am_RP G M H) (hS : va_S (gA G) s.heap H locs) {a : Nat} (ha : am_is M a 21 = true) {i x : Int32} (hin : vp_in i (M.2.2.1 a)) (hdg : decode (am_c k) pc = .ok (.bastore, 1))
    (kk : ∀ (H1 : Heap) (locs1 : List Loc), am_RP G (am_ui M.1 a i.toNatClampNeg x, M.2) H1 → va_S (gA G) s.heap H1 locs1 → W p l e R s m args below meth c H1 locs1 cells slots Q (F0 m (pc + 1) L rest)) : W p l e R s m args below meth c H locs cells slots Q (F0 m pc L (.int x :: .int i :: .ref (am_ab G a) :: rest)) := by
  obtain ⟨hx, hb, -, -, -, -, -, -, -, -, hT⟩ := hX
  obtain ⟨h3, hlt, htag⟩ := am_is_of ha
  have hat := am_arI hP ha
  rw [am_E_21 G M htag] at hat
  have hA := (hT.1.2 1 _ rfl).1 (M.2.2.1 a) (fun j => .int (am_b (M.1 a j)))
  refine W.zast hx hb hat hA (fun q => by cases q) (by show ¬ (i < 0 ∨ (arrV _ _ _).slots.size ≤ _); rw [arrV_size]; exact hin) rfl rfl hdg fun H1 e z oq => ?_
  refine kk H1 _ (hP.upd h3 rfl (fun q hq => ?_) (fun q hq => rfl) rfl z oq ?_) (hS.put z oq (am_ab_A G h3))
  · funext j; show am_ui M.1 a _ x q j = _; unfold am_ui; rw [if_neg (fun h => hq h.1)]
  · rw [am_E_21 G _ htag]
    show H1[am_ab G a]? = some (vp_cell _ _)
    rw [e, vp_cell_i, vp_cell_i, arrV_store]
    congr 2
    funext q
    by_cases hq : q = i.toNatClampNeg
    · subst hq
      simp [updV, am_ui, am_b, vp_nar]
      try rfl
    · simp [updV, am_ui, hq]
theorem am_cast (hX : am_X G k p R s m args meth c) (hP : am_RP G M H) (hS : va_S (gA G) s.heap H locs) {a : Nat} (ha : am_is M a 22 = true) {i x : Int32} (hin : vp_in i (M.2.2.1 a)) (hdg : decode (am_c k) pc = .ok (.castore, 1))
    (kk : ∀ (H1 : Heap) (locs1 : List Loc), am_RP G (am_ui M.1 a i.toNatClampNeg x, M.2) H1 → va_S (gA G) s.heap H1 locs1 → W p l e R s m args below meth c H1 locs1 cells slots Q (F0 m (pc + 1) L rest)) : W p l e R s m args below meth c H locs cells slots Q (F0 m pc L (.int x :: .int i :: .ref (am_ab G a) :: rest)) := by
  obtain ⟨hx, hb, -, -, -, -, -, -, -, -, hT⟩ := hX
  obtain ⟨h3, hlt, htag⟩ := am_is_of ha
  have hat := am_arI hP ha
  rw [am_E_22 G M htag] at hat
  have hA := (hT.1.2 2 _ rfl).1 (M.2.2.1 a) (fun j => .int (am_h (M.1 a j)))
  refine W.cast hx hb hat hA (fun q => by cases q) (by show ¬ (i < 0 ∨ (arrV _ _ _).slots.size ≤ _); rw [arrV_size]; exact hin) rfl rfl hdg fun H1 e z oq => ?_
  refine kk H1 _ (hP.upd h3 rfl (fun q hq => ?_) (fun q hq => rfl) rfl z oq ?_) (hS.put z oq (am_ab_A G h3))
  · funext j; show am_ui M.1 a _ x q j = _; unfold am_ui; rw [if_neg (fun h => hq h.1)]
  · rw [am_E_22 G _ htag]
    show H1[am_ab G a]? = some (vp_cell _ _)
    rw [e, vp_cell_i, vp_cell_i, arrV_store]
    congr 2
    funext q
    by_cases hq : q = i.toNatClampNeg
    · subst hq
      simp [updV, am_ui, am_h, vp_nar]
      try rfl
    · simp [updV, am_ui, hq]
/-- arrays of references are written -/
theorem am_aast (hX : am_X G k p R s m args meth c) (hP : am_RP G M H) (hS : va_S (gA G) s.heap H locs) {a b : Nat} (hab : (am_is M a 23 = true ∧ am_is M b 3 = true) ∨ (am_is M a 24 = true ∧ am_is M b 7 = true)) {i : Int32} (hin : vp_in i (M.2.2.1 a)) (hdg : decode (am_c k) pc = .ok (.aastore, 1))
    (kk : ∀ (H1 : Heap) (locs1 : List Loc), am_RP G (M.1, am_ur M.2.1 a i.toNatClampNeg (some b), M.2.2) H1 → va_S (gA G) s.heap H1 locs1 → W p l e R s m args below meth c H1 locs1 cells slots Q (F0 m (pc + 1) L rest)) : W p l e R s m args below meth c H locs cells slots Q (F0 m pc L (.ref (am_ab G b) :: .int i :: .ref (am_ab G a) :: rest)) := by
  obtain ⟨hx, hb, -, -, -, -, -, -, -, -, hT⟩ := hX
  have key : ∀ (t tv : Nat) (cA : ClassId) (C : String), am_is M a t = true → am_is M b tv = true → tv ≤ 10 → am_cn tv = C → (∀ M' : am_M, am_E G M' a = .inl (cA, M'.2.2.1 a, .inr (.inr (.inr (.inr (fun j => (M'.2.1 a j).map (am_ab G))))))) → va_RA s cA (.object C) → W p l e R s m args below meth c H locs cells slots Q (F0 m pc L (.ref (am_ab G b) :: .int i :: .ref (am_ab G a) :: rest)) := by
    intro t tv cA C ha hb2 htv hC hE hRA
    obtain ⟨h3, hlt, htag⟩ := am_is_of ha
    obtain ⟨h3b, hltb, htagb⟩ := am_is_of hb2
    have hat := am_arI hP ha
    rw [hE M] at hat
    have hbt := am_arI hP hb2
    rw [am_E_o G M htagb htv] at hbt
    obtain ⟨r', hr', cellV, g1, g2, g3, -⟩ := hbt
    have hcls := (hT.1.1 tv _ (am_vw htv)).2
    obtain ⟨kA, comp, k1, k2, k3, -⟩ := hRA
    have hcomp : comp = (gD G).1 tv := Option.some.inj (k3.symm.trans (by rw [← hC]; exact hcls.1))
    subst hcomp
    obtain ⟨kC, hkC, -⟩ := hcls.2
    have h0 : ¬ i < 0 := fun q => hin (Or.inl q)
    have hlt2 : i.toNatClampNeg < M.2.2.1 a := Nat.not_le.mp fun q => hin (Or.inr q)
    refine W.aast hx hb hat (fun q h => by cases h) (fun h => by cases h) k1 k2 rfl hkC ⟨h0, by show _ < (arrV _ _ _).slots.size; rw [arrV_size]; exact hlt2⟩ g1 (fun q h => by rw [g3] at h; cases h) (by rw [g2]; exact hkC) (by rw [g2]; exact va_assign hcls) rfl rfl hdg fun H1 e z oq => ?_
    refine kk H1 _ (hP.upd h3 rfl (fun q hq => rfl) (fun q hq => ?_) rfl z oq ?_) (hS.put z oq (am_ab_A G h3))
    · funext j; show am_ur M.2.1 a _ _ q j = _; unfold am_ur; rw [if_neg (fun h => hq h.1)]
    · rw [hE]
      show H1[am_ab G a]? = some (vp_cell _ _)
      rw [e, vp_cell_q, vp_cell_q, arrV_store]
      congr 2
      funext q
      by_cases hq : q = i.toNatClampNeg
      · subst hq
        simp [updV, am_ur, va_rf]
      · simp [updV, am_ur, hq]
  rcases hab with ⟨h1, h2⟩ | ⟨h1, h2⟩
  · exact key 23 3 (gP G) RX3 h1 h2 (by decide) rfl (fun M' => am_E_23 G M' (am_is_of h1).2.2) (hT.1.2 3 _ rfl).2
  · exact key 24 7 (gS G) RX7 h1 h2 (by decide) rfl (fun M' => am_E_24 G M' (am_is_of h1).2.2) (hT.1.2 4 _ rfl).2
end AMC
