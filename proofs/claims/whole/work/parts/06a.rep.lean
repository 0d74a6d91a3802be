/-! how the small machine's memory lies in the real heap -/
abbrev am_Gt : Type := Nat × Nat × Nat × Nat × Nat × (Nat → Int32) × Value × va_G × ClassId × ClassId × ClassId × ClassId × ClassId
def gB (G : am_Gt) : Nat := G.1
def gb (G : am_Gt) : Nat := G.2.1
def gsa (G : am_Gt) : Nat := G.2.2.1
def gsb (G : am_Gt) : Nat := G.2.2.2.1
def gL (G : am_Gt) : Nat := G.2.2.2.2.1
def gxs (G : am_Gt) : Nat → Int32 := G.2.2.2.2.2.1
def gV (G : am_Gt) : Value := G.2.2.2.2.2.2.1
def gD (G : am_Gt) : va_G := G.2.2.2.2.2.2.2.1
def gI (G : am_Gt) : ClassId := G.2.2.2.2.2.2.2.2.1
def gZ (G : am_Gt) : ClassId := G.2.2.2.2.2.2.2.2.2.1
def gC (G : am_Gt) : ClassId := G.2.2.2.2.2.2.2.2.2.2.1
def gP (G : am_Gt) : ClassId := G.2.2.2.2.2.2.2.2.2.2.2.1
def gS (G : am_Gt) : ClassId := G.2.2.2.2.2.2.2.2.2.2.2.2
def gA (G : am_Gt) : Nat → Prop := fun q => gB G ≤ q
def am_ab (G : am_Gt) (k : Nat) : Nat := if k = 0 then gb G else if k = 1 then gsa G else if k = 2 then gsb G else gB G + (k - 3)
def am_sh (G : am_Gt) : Value → Value
  | .ref k => .ref (am_ab G k)
  | .float _ => gV G
  | v => v
theorem am_sh_i (G : am_Gt) (x : Int32) : am_sh G (.int x) = .int x := rfl
theorem am_sh_r (G : am_Gt) (k : Nat) : am_sh G (.ref k) = .ref (am_ab G k) := rfl
theorem am_sh_n (G : am_Gt) : am_sh G .null = .null := rfl
theorem am_sh_f (G : am_Gt) (x : UInt32) : am_sh G (.float x) = gV G := rfl
theorem am_ab_0 (G : am_Gt) : am_ab G 0 = gb G := rfl
theorem am_ab_1 (G : am_Gt) : am_ab G 1 = gsa G := rfl
theorem am_ab_2 (G : am_Gt) : am_ab G 2 = gsb G := rfl
theorem am_ab_3 (G : am_Gt) {k : Nat} (h : 3 ≤ k) : am_ab G k = gB G + (k - 3) := by
  unfold am_ab
  rw [if_neg (by omega), if_neg (by omega), if_neg (by omega)]
theorem am_ab_inj (G : am_Gt) {a b : Nat} (ha : 3 ≤ a) (hb : 3 ≤ b) (h : am_ab G a = am_ab G b) : a = b := by
  rw [am_ab_3 G ha, am_ab_3 G hb] at h
  omega
theorem am_ab_A (G : am_Gt) {a : Nat} (ha : 3 ≤ a) : gA G (am_ab G a) := by
  rw [am_ab_3 G ha]
  exact Nat.le_add_right _ _
def am_fs (G : am_Gt) (M : am_M) (a t : Nat) : List Value := (List.range (am_cN t)).map (fun j => if am_isI t j then .int (M.1 a j) else am_sh G (am_rf (M.2.1 a j)))
def am_E (G : am_Gt) (M : am_M) (a : Nat) : va_E := match am_tag a with
  | 20 => .inl (gI G, M.2.2.1 a, .inl (M.1 a))
  | 21 => .inl (gZ G, M.2.2.1 a, .inl (fun j => am_b (M.1 a j)))
  | 22 => .inl (gC G, M.2.2.1 a, .inl (fun j => am_h (M.1 a j)))
  | 23 => .inl (gP G, M.2.2.1 a, .inr (.inr (.inr (.inr (fun j => (M.2.1 a j).map (am_ab G))))))
  | 24 => .inl (gS G, M.2.2.1 a, .inr (.inr (.inr (.inr (fun j => (M.2.1 a j).map (am_ab G))))))
  | t => .inr (t, am_fs G M a t)
theorem am_E_o (G : am_Gt) (M : am_M) {a ci : Nat} (h : am_tag a = ci) (hc : ci ≤ 10) : am_E G M a = .inr (ci, am_fs G M a ci) := by
  unfold am_E
  rw [h]
  match ci, hc with
  | 0, _ => rfl
  | 1, _ => rfl
  | 2, _ => rfl
  | 3, _ => rfl
  | 4, _ => rfl
  | 5, _ => rfl
  | 6, _ => rfl
  | 7, _ => rfl
  | 8, _ => rfl
  | 9, _ => rfl
  | 10, _ => rfl
theorem am_E_20 (G : am_Gt) (M : am_M) {a : Nat} (h : am_tag a = 20) : am_E G M a = .inl (gI G, M.2.2.1 a, .inl (M.1 a)) := by unfold am_E; rw [h]; rfl
theorem am_E_21 (G : am_Gt) (M : am_M) {a : Nat} (h : am_tag a = 21) : am_E G M a = .inl (gZ G, M.2.2.1 a, .inl (fun j => am_b (M.1 a j))) := by unfold am_E; rw [h]; rfl
theorem am_E_22 (G : am_Gt) (M : am_M) {a : Nat} (h : am_tag a = 22) : am_E G M a = .inl (gC G, M.2.2.1 a, .inl (fun j => am_h (M.1 a j))) := by unfold am_E; rw [h]; rfl
theorem am_E_23 (G : am_Gt) (M : am_M) {a : Nat} (h : am_tag a = 23) : am_E G M a = .inl (gP G, M.2.2.1 a, .inr (.inr (.inr (.inr (fun j => (M.2.1 a j).map (am_ab G)))))) := by unfold am_E; rw [h]; rfl
theorem am_E_24 (G : am_Gt) (M : am_M) {a : Nat} (h : am_tag a = 24) : am_E G M a = .inl (gS G, M.2.2.1 a, .inr (.inr (.inr (.inr (fun j => (M.2.1 a j).map (am_ab G)))))) := by unfold am_E; rw [h]; rfl
theorem am_E_eq (G : am_Gt) {M M' : am_M} {a : Nat} (h1 : M'.1 a = M.1 a) (h2 : M'.2.1 a = M.2.1 a) (h3 : M'.2.2.1 a = M.2.2.1 a) : am_E G M' a = am_E G M a := by
  unfold am_E am_fs
  rw [h1, h2, h3]
def am_RP (G : am_Gt) (M : am_M) (H : Heap) : Prop := H.size = gB G + (M.2.2.2.1 - 3) ∧ 3 ≤ M.2.2.2.1 ∧ M.1 0 = gxs G ∧ M.2.2.1 0 = gL G ∧ ∀ a, 3 ≤ a → a < M.2.2.2.1 → va_at (gD G) vwCl (am_ab G a, am_E G M a) H
theorem am_RP.upd {G : am_Gt} {M M' : am_M} {H H1 : Heap} (hP : am_RP G M H) {a : Nat} (ha : 3 ≤ a) (hn : M'.2.2.2.1 = M.2.2.2.1) (hI : ∀ q, q ≠ a → M'.1 q = M.1 q) (hR : ∀ q, q ≠ a → M'.2.1 q = M.2.1 q) (hL : M'.2.2.1 = M.2.2.1) (hz : H1.size = H.size) (oq : ∀ q, q ≠ am_ab G a → H1[q]? = H[q]?) (he : va_at (gD G) vwCl (am_ab G a, am_E G M' a) H1) : am_RP G M' H1 := by
  obtain ⟨h1, h2, h3, h4, h5⟩ := hP
  refine ⟨by rw [hz, hn]; exact h1, by rw [hn]; exact h2, by rw [hI 0 (by omega)]; exact h3, by rw [hL]; exact h4, fun q hq hq2 => ?_⟩
  by_cases e : q = a
  · subst e; exact he
  · rw [am_E_eq G (hI q e) (hR q e) (by rw [hL])]
    rw [hn] at hq2
    exact (h5 q hq hq2).kept (oq _ (fun z => e (am_ab_inj G hq ha z)))
theorem am_RP.mk {G : am_Gt} {M : am_M} {H H1 : Heap} (hP : am_RP G M H) {len sl : Nat} (hz : H1.size = H.size + 1) (oq : ∀ q, q < H.size → H1[q]? = H[q]?) (he : va_at (gD G) vwCl (am_ab G M.2.2.2.1, am_E G (am_mk M len sl) M.2.2.2.1) H1) : am_RP G (am_mk M len sl) H1 := by
  obtain ⟨h1, h2, h3, h4, h5⟩ := hP
  refine ⟨?_, ?_, ?_, ?_, fun q hq hq2 => ?_⟩
  · show H1.size = gB G + (M.2.2.2.1 + 1 - 3)
    omega
  · show 3 ≤ M.2.2.2.1 + 1
    omega
  · show am_zi M.1 M.2.2.2.1 0 = gxs G
    rw [← h3]
    funext j
    unfold am_zi
    rw [if_neg (by omega)]
  · show am_ul M.2.2.1 M.2.2.2.1 len 0 = gL G
    rw [← h4]
    unfold am_ul
    rw [if_neg (by omega)]
  · have hq3 : q < M.2.2.2.1 + 1 := hq2
    by_cases e : q = M.2.2.2.1
    · subst e; exact he
    · have e1 : am_E G (am_mk M len sl) q = am_E G M q := by
        refine am_E_eq G ?_ ?_ ?_
        · funext j; show am_zi M.1 M.2.2.2.1 q j = _; unfold am_zi; rw [if_neg e]
        · funext j; show am_zr M.2.1 M.2.2.2.1 q j = _; unfold am_zr; rw [if_neg e]
        · show am_ul M.2.2.1 M.2.2.2.1 len q = _; unfold am_ul; rw [if_neg e]
      rw [e1]
      have hv := h5 q hq (by omega)
      exact hv.kept (oq _ hv.lt)
def am_tys (G : am_Gt) : List (ClassId × FieldType) := [(gI G, .int), (gZ G, .boolean), (gC G, .char), (gP G, .object RX3), (gS G, .object RX7)]
def am_TB (G : am_Gt) (U : State) : Prop := va_K (gD G) vwCl (am_tys G) U ∧ (∀ w ∈ am_nest, va_Nw w U) ∧ (va_AO RX3 U ∧ va_AO RX7 U) ∧ (va_X (gb G) (gL G) (gxs G) U U.heap ∧ gb G < gB G) ∧
  (vk_R "CodeProbes" 63 "l0z13c14s0j00hl1p2s1l0d\x72" (gsa G) U ∧ va_O "java/lang/String" (gsa G) (gA G) U U.heap ∧ va_OF "java/lang/String" "coder" "B" (.int 0) (gsa G) (gA G) U U.heap ∧ va_OF "java/lang/String" "value" "[B" (.ref (gsb G)) (gsa G) (gA G) U U.heap ∧ va_T .byte (gsb G) 24 (fun j => .int (am_bytes.getD j 0)) (gA G) U U.heap) ∧
  (va_Z "java/lang/String" "COMPACT_STRINGS" "Z" (.int 1) (gA G) U U.heap ∧ va_Z "jdk/internal/util/Preconditions" "SIOOBE_FORMATTER" "Ljava/util/function/BiFunction;" (gV G) (gA G) U U.heap) ∧ (gV G).category = 1 ∧ gB G ≤ U.heap.size
theorem am_nest_M {w : Cond} (h : w ∈ am_nest) : ∃ a i x h, w = .methodLinkNest a i x h := by
  unfold am_nest at h
  simp only [List.mem_cons, List.not_mem_nil, or_false] at h
  rcases h with h | h | h | h | h | h | h | h | h | h <;> exact ⟨_, _, _, _, h⟩
theorem am_Zkept {C n d : String} {v : Value} {A : Nat → Prop} {U : State} {H H1 : Heap} (h : va_Z C n d v A U H) (hq : ∀ a : Nat, a < H.size → ¬ A a → H1[a]? = H[a]?) : va_Z C n d v A U H1 := by
  obtain ⟨cf, kf, fi, f, a, cell, h1, h2, h3, h4, h5, h6, h7, h8⟩ := h
  exact ⟨cf, kf, fi, f, a, cell, h1, h2, h3, h4, by rw [hq a (Array.getElem?_eq_some_iff.mp h5).1 h8]; exact h5, h6, h7, h8⟩
theorem am_TB.go {G : am_Gt} {s U : State} {H : Heap} {locs : List Loc} (hT : am_TB G s) (hW : s.WarmedH U.vm) (hS : va_S (gA G) s.heap H locs) (hH : U.heap = H) : am_TB G U := by
  obtain ⟨h1, h2, ⟨h3, h4⟩, ⟨h5, h6⟩, ⟨h7, h8, h9, h10, h11⟩, ⟨h12, h13⟩, h14, h15⟩ := hT
  have ha := hW.alike
  have hq : ∀ a : Nat, a < s.heap.size → ¬ gA G a → U.heap[a]? = s.heap[a]? := fun a q1 q2 => by rw [hH]; exact hS.2.1 a q1 q2
  refine ⟨h1.moved ha, fun w hw => ?_, ⟨h3.moved ha, h4.moved ha⟩, ⟨(h5.moved ha).kept (hq _ (by omega) (Nat.not_le.mpr h6)), h6⟩, ⟨h7.warm hW, (h8.moved ha).kept hq, (h9.moved ha).kept hq, (h10.moved ha).kept hq, (h11.moved ha).kept hq⟩, ⟨am_Zkept (h12.moved ha) hq, am_Zkept (h13.moved ha) hq⟩, h14, ?_⟩
  · obtain ⟨a, i, x, h, rfl⟩ := am_nest_M hw
    exact (h2 _ hw).warmM hW
  · rw [hH]; exact Nat.le_trans h15 hS.1
theorem am_TB.blind {G : am_Gt} {U : State} (g : JFrame) (mk : MethodId) (a : Array Value) (hT : am_TB G U) : am_TB G (U.calling g mk a) := by
  obtain ⟨h1, h2, ⟨h3, h4⟩, ⟨h5, h6⟩, ⟨h7, h8, h9, h10, h11⟩, ⟨h12, h13⟩, h14, h15⟩ := hT
  have ha : U.vm.Alike (U.calling g mk a).vm := Vm.Alike.refl U.vm
  refine ⟨h1.moved ha, fun w hw => ?_, ⟨h3.moved ha, h4.moved ha⟩, ⟨h5.moved ha, h6⟩, ⟨vk_R.same rfl h7, h8.moved ha, h9.moved ha, h10.moved ha, h11.moved ha⟩, ⟨h12.moved ha, h13.moved ha⟩, h14, h15⟩
  obtain ⟨a, i, x, h, rfl⟩ := am_nest_M hw
  exact (h2 _ hw).same rfl rfl
/-- locals -/
def am_lv (G : am_Gt) (ls : am_L) : List (Nat × Value) := (List.range ls.length).filterMap (fun i => match ls[i]? with
  | some (some v) => some (i, am_sh G v)
  | _ => none)
theorem am_lv_in {G : am_Gt} {ls : am_L} {i : Nat} {v : Value} (h : ls[i]? = some (some v)) : (i, am_sh G v) ∈ am_lv G ls := by
  refine List.mem_filterMap.mpr ⟨i, List.mem_range.mpr (List.getElem?_eq_some_iff.mp h).1, ?_⟩
  rw [h]
theorem am_lv_of {G : am_Gt} {ls : am_L} {q : Nat × Value} (h : q ∈ am_lv G ls) : ∃ v, ls[q.1]? = some (some v) ∧ q.2 = am_sh G v := by
  obtain ⟨i, -, h2⟩ := List.mem_filterMap.mp h
  split at h2
  · cases h2; exact ⟨_, by assumption, rfl⟩
  · cases h2
def am_lr (G : am_Gt) (L : Array Slot) (nL : Nat) (ls : am_L) : Prop := ls.length = nL ∧ (∀ (i : Nat) (v : Value), ls[i]? = some (some v) → am_c1 v = true) ∧ lv_has L nL (am_lv G ls)
theorem am_lr.at {G : am_Gt} {L : Array Slot} {nL : Nat} {ls : am_L} (h : am_lr G L nL ls) {i : Nat} {v : Value} (hi : ls[i]? = some (some v)) : L[i]? = some (.val (am_sh G v)) := h.2.2.2.2 _ (am_lv_in hi)
theorem am_cat {G : am_Gt} (hV : (gV G).category = 1) {v : Value} (h : am_c1 v = true) : (am_sh G v).category = 1 := by
  cases v <;> first | rfl | exact hV | cases h
theorem am_lr.st {G : am_Gt} (hV : (gV G).category = 1) {L L' : Array Slot} {nL : Nat} {ls : am_L} (h : am_lr G L nL ls) {k : Nat} {v : Value} (hk : k < ls.length) (hv : am_c1 v = true) (h' : lv_has L' nL ((k, am_sh G v) :: (am_lv G ls).filter (fun q => !(q.1 == k) && !(q.1 + 1 == k && q.2.category == 2)))) : am_lr G L' nL (ls.set k (some v)) := by
  refine ⟨by rw [List.length_set]; exact h.1, fun i w hw => ?_, h'.1, h'.2.1, fun q hq => ?_⟩
  · rw [List.getElem?_set] at hw
    by_cases e : k = i
    · rw [if_pos e, if_pos (e ▸ hk)] at hw
      cases hw; exact hv
    · rw [if_neg e] at hw
      exact h.2.1 i w hw
  · obtain ⟨w, h1, h2⟩ := am_lv_of hq
    refine h'.2.2 q ?_
    rw [List.getElem?_set] at h1
    by_cases e : k = q.1
    · rw [if_pos e, if_pos (e ▸ hk)] at h1
      cases h1
      have : q = (k, am_sh G v) := Prod.ext e.symm h2
      rw [this]
      exact List.mem_cons_self
    · rw [if_neg e] at h1
      refine List.mem_cons_of_mem _ (List.mem_filter.mpr ⟨?_, ?_⟩)
      · have := am_lv_in (G := G) h1
        rw [← h2] at this
        exact this
      · have hc : q.2.category = 1 := by rw [h2]; exact am_cat hV (h.2.1 _ _ h1)
        rw [hc]
        simp [Ne.symm e]
