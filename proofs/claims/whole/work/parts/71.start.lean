/-! the law from its beginning -/
def I00 (xs : Nat → Int32) : am_I := fun a i => if a = 0 then xs i else nI 0
def R00 : am_R := fun _ _ => none
def K00 (L : Nat) : am_K := (fun a => if a = 0 then L else 0, 3, 0)
theorem l_all (L : Nat) (hL : L ≤ 2048) (xs : Nat → Int32) : ∃ M' : am_M, ev 161 0 [some (.ref 0), none, none, none] [] (I00 xs, R00, K00 L) = some (some (.int (nI 1)), M') ∧ M'.2.2.2.1 ≤ 3000 ∧ M'.2.2.2.2 ≤ 200000 := by
  have hz : FZ (I00 xs) R00 (K00 L) := ⟨Nat.le_refl _, fun b hb => ⟨fun i => by
    have : 3 ≤ b := hb
    unfold I00; rw [if_neg (by omega)], fun i => rfl⟩⟩
  have zi := hz.zi
  have zr := hz.zr
  have t0 : am_tag (K00 L).2.1 = 9 := by show am_tag 3 = 9; decide +kernel
  obtain ⟨K1, hK1⟩ : ∃ K1, K1 = kN (K00 L) 0 8 := ⟨_, rfl⟩
  have k1 : am_isK K1 3 9 = true := by rw [hK1]; exact kN_is (K := K00 L) hz.1 t0
  have n1 : K1.2.1 = 4 := by rw [hK1]; rfl
  have s1 : K1.2.2 = 8 := by rw [hK1]; rfl
  have l1 : K1.1 0 = L := by rw [hK1]; rfl
  obtain ⟨I2, R2, K2, a1, a2, a3, a4, a5, a6, a7⟩ := i_class (I00 xs) R00 K1 (by rw [hK1]; exact hz.kN 0 8) k1 n1
  have zi2 := a3.zi
  have zr2 := a3.zr
  have t2 : am_tag K2.2.1 = 10 := by rw [a4]; decide +kernel
  obtain ⟨K3, hK3⟩ : ∃ K3, K3 = kN K2 0 12 := ⟨_, rfl⟩
  have k3 : am_isK K3 147 10 = true := by rw [hK3, ← a4]; exact kN_is a3.1 t2
  have n3 : K3.2.1 = 148 := by rw [hK3, kN_n, a4]
  have s3 : K3.2.2 = K2.2.2 + 12 := by rw [hK3, kN_s]
  have l3 : ∀ b, b < 147 → K3.1 b = K2.1 b := fun b hb => by rw [hK3]; show am_ul K2.1 K2.2.1 0 b = _; unfold am_ul; rw [if_neg (by omega)]
  obtain ⟨R4, K4, b1, b2, b3, b4, b5, b6⟩ := i_rows I2 R2 K3 (by rw [hK3]; exact a3.kN 0 12) k3 n3
  have fz : ∀ c, 147 ≤ c → I2 c = z0 := fun c hc => by funext i; exact (a3.2 c (by omega)).1 i
  have mr : MR I2 0 z0 0 z0 z0 z0 0 z0 := ⟨by rw [fz _ (by omega)]; rfl, fz _ (by omega), by rw [fz _ (by omega)]; rfl, fz _ (by omega), fz _ (by omega), fz _ (by omega), by rw [fz _ (by omega)]; rfl, fz _ (by omega)⟩
  obtain ⟨I5, c1, c2, c3⟩ := m_code0 R4 K4 0 0 z0 z0 z0 b6 I2 mr
  have xe : XE R2 K2 R4 K4 := ⟨fun a i _ ha => by rw [b3.1 a (by omega) (by omega)], fun a ha => by rw [b3.2.1 a (by omega), l3 a (by omega)], by omega⟩
  have dy : DY I2 K2 I2 := DY.rf I2 K2
  have ch : CH I2 R4 K4 0 z0 24 (lyC txA 24 z0) (lyB txA 24 z0) (sEmp z0) 0 z0 := a2.up xe (fun _ _ _ => rfl) (a2.2.2.2.2.1.fr (fun _ _ _ => rfl) (fun p hp => by rw [b3.1 _ (by omega) (by omega)]) xe dy) (a2.2.2.2.2.2.fr (fun _ _ _ => rfl) (fun a _ _ => by rw [b3.1 a (by omega) (by omega)]) xe dy)
  have al : AL I5 R4 K4 := ⟨0, z0, 24, lyC txA 24 z0, lyB txA 24 z0, sEmp z0, 0, z0, b6, c2, ch.fm c3, lay_WC okA, WF.emp z0, ⟨by omega, fun j hj => by omega⟩, 0, b4⟩
  have l4 : K4.1 0 = L := by rw [b3.2.1 0 (by omega), l3 0 (by omega), a7]; exact l1
  obtain ⟨I6, R6, K6, d1, d2, d3⟩ := l_loop L hL 512 0 I5 R4 K4 (by omega) (by omega) al l4
  refine ⟨(I6, R6, K6), ?_, ?_, ?_⟩
  · have e3 : (K00 L).2.1 = 3 := rfl
    rw [← a4] at b1 c1
    have d1' : ev 161 18 [some (.ref 0), some (.ref (K00 L).2.1), some (.ref K2.2.1), some (.int (nI 0))] [] (I5, R4, K4) = some (some (.int (nI 1)), (I6, R6, K6)) := by rw [a4]; exact d1
    have a1' : ev 70 0 [some (.ref (K00 L).2.1), none] [] (I00 xs, R00, K1) = some (none, (I2, R2, K2)) := a1
    have b1' : ev 99 0 [some (.ref K2.2.1)] [] (I2, R2, K3) = some (none, (I5, R4, K4)) := b1.trans c1
    simp (disch := first | assumption | omega | exact ixN (by assumption) (by omega) (by omega) | exact ne_10 | exact ne_1000 | exact ne_4) only [s161_0, s161_3, s161_4, s161_7, s161_7a, s161_8, s161_11, s161_12, s161_15, s161_15a, s161_16, s161_17, ↓reduceIte, eq_self, Option.bind_some, Option.bind_none, Option.toList_some, Option.toList_none, List.cons_append, List.nil_append, am_rf_s, am_rf_n, am_c1_i, am_c1_r, am_c1_n, List.all_cons, List.all_nil, Bool.and_self, Bool.and_true, Bool.true_and, List.length_cons, List.length_nil, Nat.reduceAdd, Nat.reduceSub, Nat.reduceMul, Nat.reduceLeDiff, Nat.reduceLT, Nat.zero_le, Nat.le_refl, ne_10, ne_1000, ne_4, not_false_eq_true, or_true, true_or, Nat.one_ne_zero, Nat.zero_ne_one, Nat.reduceEqDiff, Bool.true_eq_false, Bool.false_eq_true, n10, am_mk_k, zi, zr, ← hK1, a1', zi2, zr2, ← hK3, b1', d1']
  · show K6.2.1 ≤ 3000
    omega
  · show K6.2.2 ≤ 200000
    omega
