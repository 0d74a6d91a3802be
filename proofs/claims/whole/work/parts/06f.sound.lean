/-- what a return is, as a row: the end of the walk -/
def am_Snd (G : am_Gt) (k pc : Nat) (ls : am_L) (st : List Value) (M : am_M) (v : Option Value) (M' : am_M) : Prop :=
  (M.2.2.2.1 ≤ M'.2.2.2.1 ∧ M.2.2.2.2 ≤ M'.2.2.2.2) ∧ ∀ (p : Program) (l : Launch) (e : Env) (R : Room) (s : State) (m : MethodId) (args : Array Value) (below : List Frame) (meth : Method) (c : Code) (H : Heap) (locs : List Loc) (cells slots fc fs : Nat) (Q : State → Prop) (L : Array Slot),
    am_X G k p R s m args meth c → am_RP G M H → am_lr G L (am_nl k) ls → va_S (gA G) s.heap H locs → cells + (M'.2.2.2.1 - M.2.2.2.1) = fc → slots + (M'.2.2.2.2 - M.2.2.2.2) = fs → fc ≤ R.cells → fs ≤ R.slots →
    (∀ (H' : Heap) (locs' : List Loc) (pc' : Nat) (L' : Array Slot) (st' : List Value) (i : Instr) (n : Nat), decode (am_c k) pc' = .ok (i, n) → am_g5 (am_rt k) st' i n = some v → am_RP G M' H' → va_S (gA G) s.heap H' locs' → W p l e R s m args below meth c H' locs' fc fs Q (F0 m pc' L' (st'.map (am_sh G)))) →
    W p l e R s m args below meth c H locs cells slots Q (F0 m pc L (st.map (am_sh G)))
def am_Q (G : am_Gt) (v : Option Value) (M' : am_M) : Array Value → State → Outcome → State → Prop := fun _ st oc t => oc = .returned (v.map (am_sh G)) ∧ am_RP G M' t.heap ∧ va_F (gA G) st t
def am_rm (j mc ms : Nat) : Room := { frames := am_lev j, cells := mc, slots := ms, locals := 38 * am_lev j }
theorem am_lvargs {i : Nat} {v : Value} : ∀ {vs : List Value} (o : Nat), (∀ w ∈ vs, w.category = 1) → vs[i]? = some v → (o + i, v) ∈ lv_args o vs := by
  induction i with
  | zero =>
    intro vs o h1 h2
    cases vs with
    | nil => cases h2
    | cons w ws => cases h2; unfold lv_args; exact List.mem_cons_self
  | succ i ih =>
    intro vs o h1 h2
    cases vs with
    | nil => cases h2
    | cons w ws =>
      unfold lv_args
      rw [if_neg (by rw [h1 w List.mem_cons_self]; decide)]
      refine List.mem_cons_of_mem _ ?_
      have := ih (o + 1) (fun w hw => h1 w (List.mem_cons_of_mem _ hw)) h2
      rw [show o + (i + 1) = o + 1 + i by omega]
      exact this
theorem am_sllen : ∀ {vs : List Value}, (∀ w ∈ vs, w.category = 1) → (lg_sl vs).length = vs.length
  | [], _ => rfl
  | v :: vs, h => by
    have h1 := am_sllen (vs := vs) (fun w hw => h w (List.mem_cons_of_mem _ hw))
    unfold lg_sl at h1 ⊢
    rw [List.flatMap_cons, if_neg (by rw [h v List.mem_cons_self]; decide), List.length_append, h1]
    simp [Nat.add_comm]
theorem am_code_in {j : Nat} (hj : j < 161) : Cond.code (am_y j) (am_c j) (am_nl j) (am_rt j) ∈ am_gw ∧ am_okM j = true := by
  have hk := List.all_eq_true.mp am_okM_all j (List.mem_range.mpr hj)
  refine ⟨?_, hk⟩
  unfold am_okM at hk
  simp only [Bool.and_eq_true, decide_eq_true_eq] at hk
  have hlen : am_tab.length = 162 := by decide +kernel
  have hmem : am_row j ∈ am_tab := by
    unfold am_row
    rw [List.getD_eq_getElem?_getD, List.getElem?_eq_getElem (by omega)]
    exact List.getElem_mem _
  have h := (am_mcs _ hmem).resolve_left hk.1.1.1.1.1.1
  exact List.mem_filter.mpr ⟨List.mem_of_getElem? h, rfl⟩
theorem am_met {G : am_Gt} {l : Launch} {j : Nat} {as : List Value} {M M' : am_M} {v : Option Value} (hj : j < 161) (h : am_Snd G j 0 (am_ent j as) [] M v M') (hV : (gV G).category = 1) (hc : as.all am_c1 = true) (hn : as.length ≤ am_nl j) :
    Met l (am_y j) (am_ws j) (am_rm j (M'.2.2.2.1 - M.2.2.2.1) (M'.2.2.2.2 - M.2.2.2.2)) (va_Pc (as.map (am_sh G)) (fun U => am_TB G U ∧ am_RP G M U.heap)) (am_Q G v M') (M'.2.2.2.1 - M.2.2.2.1) (M'.2.2.2.2 - M.2.2.2.2) (gA G) := by
  obtain ⟨hcd, hok⟩ := am_code_in hj
  unfold am_okM at hok
  simp only [Bool.and_eq_true, decide_eq_true_eq] at hok
  obtain ⟨⟨⟨⟨⟨⟨-, hpl⟩, -⟩, -⟩, -⟩, hcn⟩, -⟩ := hok
  refine va_MetF (cc := am_c j) (maxL := am_nl j) (ret := am_rt j) hpl rfl ?_
  intro p e s m args below meth c s₁ B hml hv
  obtain ⟨rfl, hTB, hRP⟩ := hv
  have hts := atoms_spec (ws := am_ws j) B.pre
  have hown : s.vm.findClass (am_y j).cls = some m.cls := findClass_of_methodNamed B.named
  rw [hcn] at hown
  have hcat : ∀ w ∈ as.map (am_sh G), w.category = 1 := by
    intro w hw
    obtain ⟨u, hu, rfl⟩ := List.mem_map.mp hw
    exact am_cat hV (List.all_eq_true.mp hc u hu)
  have hl := lv_entry (as.map (am_sh G)) (n := am_nl j) (by rw [am_sllen hcat, List.length_map]; exact hn)
  rw [lg_entry_eq]
  generalize (lg_sl (as.map (am_sh G)) ++ List.replicate (am_nl j - (lg_sl (as.map (am_sh G))).length) Slot.unset).toArray = L at hl ⊢
  have hent : ∀ (i : Nat) (u : Value), (am_ent j as)[i]? = some (some u) → as[i]? = some u := by
    intro i u hu
    unfold am_ent at hu
    rcases Nat.lt_or_ge i as.length with q | q
    · rw [List.getElem?_append_left (by rw [List.length_map]; exact q), List.getElem?_map] at hu
      cases ha : as[i]? with
      | none => rw [ha] at hu; cases hu
      | some w => rw [ha] at hu; cases hu; rfl
    · rw [List.getElem?_append_right (by rw [List.length_map]; exact q), List.getElem?_replicate] at hu
      split at hu <;> cases hu
  have hlr : am_lr G L (am_nl j) (am_ent j as) := by
    refine ⟨by unfold am_ent; rw [List.length_append, List.length_map, List.length_replicate]; omega, fun i u hu => List.all_eq_true.mp hc u (List.mem_of_getElem? (hent i u hu)), hl.1, hl.2.1, fun q hq => ?_⟩
    obtain ⟨u, h1, h2⟩ := am_lv_of hq
    have h3 := am_lvargs (i := q.1) (v := am_sh G u) (vs := as.map (am_sh G)) 0 hcat (by rw [List.getElem?_map, hent _ _ h1]; rfl)
    rw [Nat.zero_add, ← h2] at h3
    exact hl.2.2 _ h3
  have hx : am_X G j p (headSpec (am_ws j) (am_rm j (M'.2.2.2.1 - M.2.2.2.1) (M'.2.2.2.2 - M.2.2.2.2))).room s m (as.map (am_sh G)).toArray meth c :=
    ⟨B.exec, B.bytes, B.returns, hml, hown, fun w hw => hts w (List.mem_cons_of_mem _ hw), Nat.le_refl _, Nat.le_refl _, fun hi => by
      rw [(name_of_methodNamed B.named B.method).1]
      unfold am_ini at hi
      exact beq_iff_eq.mp hi, B.notSynchronized, hTB⟩
  refine h.2 p l e _ s m _ below meth c s.heap [] 0 0 _ _ _ L hx hRP hlr va_S.rf (Nat.zero_add _) (Nat.zero_add _) (Nat.le_refl _) (Nat.le_refl _) ?_
  intro H' locs' pc' L' st' i n hd h5 hRP' hS'
  unfold am_g5 at h5
  split at h5
  · split at h5
    · rename_i t x hrt
      split at h5
      · rename_i hn5; cases h5
        exact W.zret B.exec B.bytes (B.returns.trans hrt) hn5 (fun t ht hW => ⟨rfl, by rw [ht]; exact hRP', hS'.F ht⟩) hS'.2.2 hd B.notSynchronized
      · cases h5
    · cases h5
  · split at h5
    · rename_i t a hrt; cases h5
      exact W.aret B.exec B.bytes (B.returns.trans hrt) (Or.inl ⟨_, rfl⟩) (Or.inr ⟨_, rfl⟩) (fun t ht hW => ⟨rfl, by rw [ht]; exact hRP', hS'.F ht⟩) hS'.2.2 hd B.notSynchronized
    · rename_i t hrt; cases h5
      exact W.aret B.exec B.bytes (B.returns.trans hrt) (Or.inl ⟨_, rfl⟩) (Or.inl rfl) (fun t ht hW => ⟨rfl, by rw [ht]; exact hRP', hS'.F ht⟩) hS'.2.2 hd B.notSynchronized
    · cases h5
  · split at h5
    · rename_i hrt; cases h5
      exact W.vret B.exec B.bytes (B.returns.trans hrt) (fun t ht hW => ⟨rfl, by rw [ht]; exact hRP', hS'.F ht⟩) hS'.2.2 hd B.notSynchronized
    · cases h5
  · cases h5
