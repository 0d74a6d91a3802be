/-! the world at the law's entry -/
def am_ii : List Nat := [86, 246, 113, 187, 124, 130, 266, 107, 65, 57, 750]
theorem am_inst_all : ∀ ci, ci < 11 → am_at (am_ii.getD ci 0) (.instantiable (am_cn ci) (am_cN ci)) = true := by decide +kernel
def am_ni : List Nat := [87, 267, 279, 281, 350, 358, 131, 652, 114, 125]
theorem am_nest_all : ∀ k, k < 10 → lw_tbl[am_ni.getD k 0]? = am_nest[k]? := by decide +kernel
theorem am_w186 : lw_tbl[186]? = some (.arrayOver (.object RX3)) := by decide +kernel
theorem am_w252 : lw_tbl[252]? = some (.arrayOver (.object RX7)) := by decide +kernel
theorem am_w282 : lw_tbl[282]? = some (.stringRef "CodeProbes" 63 "l0z13c14s0j00hl1p2s1l0d\x72") := by decide +kernel
theorem am_w292 : lw_tbl[292]? = some (.laysStatic "java/lang/String" "COMPACT_STRINGS" "Z") := by decide +kernel
theorem am_w308 : lw_tbl[308]? = some (.laysStatic "jdk/internal/util/Preconditions" "SIOOBE_FORMATTER" "Ljava/util/function/BiFunction;") := by decide +kernel
theorem am_w50 : lw_tbl[50]? = some (.initialized "java/lang/String") := by decide +kernel
theorem am_w52 : lw_tbl[52]? = some (.initialized "jdk/internal/util/Preconditions") := by decide +kernel
theorem am_n1 : Cond.eq (.static "java/lang/String" "COMPACT_STRINGS" "Z") (.int 1) ∈ flatC (Cond.and given_1 narrow_1) := by decide +kernel
theorem am_n2 : Cond.isRef (.static "jdk/internal/util/Preconditions" "SIOOBE_FORMATTER" "Ljava/util/function/BiFunction;") ∈ flatC (Cond.and given_1 narrow_1) := by decide +kernel
theorem am_n3 : Cond.exactly (.string "CodeProbes" 63) "java/lang/String" ∈ flatC (Cond.and given_1 narrow_1) := by decide +kernel
theorem am_n4 : Cond.eq (.field (.string "CodeProbes" 63) "java/lang/String" "coder" "B") (.int 0) ∈ flatC (Cond.and given_1 narrow_1) := by decide +kernel
theorem am_n5 : Cond.arrayOf (.field (.string "CodeProbes" 63) "java/lang/String" "value" "[B") .byte ∈ flatC (Cond.and given_1 narrow_1) := by decide +kernel
theorem am_n6 : Cond.eq (.length (.field (.string "CodeProbes" 63) "java/lang/String" "value" "[B")) (.int (Int32.ofNat 24)) ∈ flatC (Cond.and given_1 narrow_1) := by decide +kernel
theorem am_n7 : ∀ j, j < 24 → Cond.eq (.elem (.field (.string "CodeProbes" 63) "java/lang/String" "value" "[B") (.int (Int32.ofNat j))) (.int (am_bytes.getD j 0)) ∈ flatC (Cond.and given_1 narrow_1) := by decide +kernel
theorem am_arr {s : State} {args : Array Value} {ty : FieldType} (h : (Cond.arrayClass ty).before args s = true) : ∃ cA, ArrOfT s cA ty ∧ s.vm.findClass ("[" ++ ty.toString) = some cA := by
  obtain ⟨cA, kA, comp, h1, h2, h3⟩ := Cond.arrayClass_spec (args := args) (first := s) (o := none) (s := s) (idx := []) h
  exact ⟨cA, fun n z => ⟨fun k h => (by cases h), kA, h2, comp, h3⟩, h1⟩
theorem am_arq {s : State} {args : Array Value} {C : String} (h : (Cond.arrayOver (.object C)).before args s = true) : ∃ cA, ArrOfT s cA (.object C) ∧ va_RA s cA (.object C) := by
  obtain ⟨comp, cA, kA, h1, -, h2, h3, h4⟩ := Cond.arrayOver_spec (args := args) (first := s) (o := none) (s := s) (idx := []) h
  exact ⟨cA, fun n z => ⟨fun k h => (by cases h), kA, h2, comp, h3⟩, kA, comp, h2, h3, h1, h4⟩
theorem am_begin {s : State} {b L : Nat} {xs : Nat → Int32} (hts : ∀ w ∈ lw_tbl, w.before #[Value.ref b] s = true) (hX : va_X b L xs s s.heap) (hbl : b < s.heap.size) (hgv : (Cond.and given_1 narrow_1).before #[Value.ref b] s = true) : ∃ G : am_Gt, gB G = s.heap.size ∧ gb G = b ∧ gL G = L ∧ gxs G = xs ∧ am_TB G s := by
  have hq := flat_of_before _ hgv
  have hg : ∀ w ∈ am_gw, w.before #[Value.ref b] s = true := fun w hw => hts w (List.mem_filter.mp hw).1
  have hat : ∀ {i : Nat} {w : Cond}, lw_tbl[i]? = some w → w.before #[Value.ref b] s = true := fun h => hts _ (List.mem_of_getElem? h)
  have hA : ∀ a : Nat, a < s.heap.size → ¬ (fun q : Nat => s.heap.size ≤ q) a := fun a h => Nat.not_le.mpr h
  have hkn : ∀ ci : Nat, ∃ q : ClassId × (Nat → Nat), ci ≤ 10 → u_Kn s (am_cn ci) (am_fT ci) (am_cN ci) q.1 q.2 := by
    intro ci
    by_cases h : ci ≤ 10
    · obtain ⟨cC, iS, h1⟩ := u_known (ws := am_gw) (n := am_cN ci) hg (am_K_of h).1 (hg _ (am_at_in (am_inst_all ci (by omega))))
      exact ⟨(cC, iS), fun _ => h1⟩
    · exact ⟨((0 : Nat), fun _ => 0), fun z => absurd z h⟩
  obtain ⟨ad, had⟩ := Classical.axiomOfChoice hkn
  obtain ⟨cI, i1, i2⟩ := am_arr (hg _ (am_at_in am_wAI))
  obtain ⟨cZ, z1, z2⟩ := am_arr (hg _ (am_at_in am_wAZ))
  obtain ⟨cC, c1, c2⟩ := am_arr (hg _ (am_at_in am_wAC))
  obtain ⟨cP, p1, p2⟩ := am_arq (hat am_w186)
  obtain ⟨cS, s1, s2⟩ := am_arq (hat am_w252)
  have hZ1 : va_Z "java/lang/String" "COMPACT_STRINGS" "Z" (.int 1) (fun q : Nat => s.heap.size ≤ q) s s.heap := va_Zof (hat am_w292) (hat am_w50) (va_eqi (hq _ am_n1)) hA
  have hZ2 : ∃ V : Value, V.category = 1 ∧ va_Z "jdk/internal/util/Preconditions" "SIOOBE_FORMATTER" "Ljava/util/function/BiFunction;" V (fun q : Nat => s.heap.size ≤ q) s s.heap := by
    rcases va_Zqof (A := fun q : Nat => s.heap.size ≤ q) (hat am_w308) (hat am_w52) (hq _ am_n2) hA with h | ⟨t, h⟩
    · exact ⟨.null, rfl, h⟩
    · exact ⟨.ref t, rfl, h⟩
  obtain ⟨V, v1, v2⟩ := hZ2
  obtain ⟨adK, adV, hS, hE⟩ := vk_Sof (args := #[Value.ref b]) (s := s) (N := 1) (tm := fun _ => .string "CodeProbes" 63) (len := [24]) (byt := [am_bytes]) (A := fun q : Nat => s.heap.size ≤ q) (fun i hi => by
      have : i = 0 := by omega
      subst this; decide) (fun i _ => hq _ am_n3) (fun i _ => hq _ am_n4) (fun i _ => hq _ am_n5) (fun i hi => by
      have : i = 0 := by omega
      subst this; exact hq _ am_n6) (fun i hi j hj => by
      have : i = 0 := by omega
      subst this; exact hq _ (am_n7 j hj)) (fun i j hi hj hne => by omega) hA
  obtain ⟨o1, o2, o3, o4⟩ := hS.1 0 (by omega)
  refine ⟨(s.heap.size, b, adK 0, adV 0, L, xs, V, (fun k => (ad k).1, fun k => (ad k).2), cI, cZ, cC, cP, cS), rfl, rfl, rfl, rfl, ⟨fun c q h => ?_, fun k q h => ?_⟩, fun w hw => ?_, ⟨va_AO.of (hat am_w186), va_AO.of (hat am_w252)⟩, ⟨hX, hbl⟩, ⟨vk_R.of (hat am_w282) (hE 0 (by omega)), o1, o2, o3, o4⟩, ⟨hZ1, v2⟩, v1, Nat.le_refl _⟩
  · have hl : c < 11 := (List.getElem?_eq_some_iff.mp h).1
    have e := am_vw (ci := c) (by omega)
    rw [h] at e
    cases e
    exact had c (by omega)
  · match k, h with
    | 0, h => cases h; exact ⟨i1, i2⟩
    | 1, h => cases h; exact ⟨z1, z2⟩
    | 2, h => cases h; exact ⟨c1, c2⟩
    | 3, h => cases h; exact ⟨p1, p2⟩
    | 4, h => cases h; exact ⟨s1, s2⟩
    | k + 5, h => cases h
  · obtain ⟨k, hk⟩ := List.getElem?_of_mem hw
    have hl : k < 10 := (List.getElem?_eq_some_iff.mp hk).1
    have h1 := am_nest_all k hl
    rw [hk] at h1
    obtain ⟨a, i, x, h, e⟩ := am_nest_M hw
    have ht : w.onTables = true := by rw [e]; rfl
    exact va_Nw.of ht (hat h1)
