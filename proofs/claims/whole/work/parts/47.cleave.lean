/-! the class: leave -/
theorem kgo_cg {mem mem' g : Nat → Int32} {n : Nat} {acc : Int32} (h : ∀ k, k < 8 → mem k = mem' k) : ∀ (r k : Nat) (s : List Int32), kgo mem g n acc r k s = kgo mem' g n acc r k s
  | 0, _, _ => rfl
  | r + 1, k, s => by
    unfold kgo
    by_cases q0 : n ≤ k
    · rw [if_pos q0, if_pos q0]
    · rw [if_neg q0, if_neg q0]
      by_cases q1 : g k = nI 109
      · rw [if_pos q1, if_pos q1]
        by_cases q2 : n ≤ k + 1
        · rw [if_pos q2, if_pos q2]
        · rw [if_neg q2, if_neg q2]
          by_cases q3 : (decide (nI 48 ≤ g (k + 1)) && decide (g (k + 1) ≤ nI 55)) = false
          · rw [if_pos q3, if_pos q3]
          · rw [if_neg q3, if_neg q3]
            have q4 : nI 48 ≤ g (k + 1) ∧ g (k + 1) ≤ nI 55 := by simpa using q3
            obtain ⟨q, a1, a2, a3⟩ := rng (by omega) q4.1 q4.2 (by omega)
            have e : (g (k + 1) - nI 48).toNatClampNeg = q - 48 := by rw [a3, pk_sub (by omega), nI_clamp (by omega)]
            rw [e, h _ (by omega)]
            congr 1; funext s'; exact kgo_cg h r (k + 2) s'
      · rw [if_neg q1, if_neg q1]
        by_cases q2 : g k = nI 97
        · rw [if_pos q2, if_pos q2]
          congr 1; funext s'; exact kgo_cg h r (k + 1) s'
        · rw [if_neg q2, if_neg q2]
          by_cases q3 : (decide (nI 48 ≤ g k) && decide (g k ≤ nI 57)) = false
          · rw [if_pos q3, if_pos q3]
            congr 1; funext s'; exact kgo_cg h r (k + 1) s'
          · rw [if_neg q3, if_neg q3]
            congr 1; funext s'; exact kgo_cg h r (k + 1) s'
theorem uf_sw (f : Nat → Int32) {i j : Nat} (x y : Int32) (h : i ≠ j) : uf (uf f i x) j y = uf (uf f j y) i x := by
  funext k; unfold uf
  by_cases q1 : k = j
  · by_cases q2 : k = i
    · omega
    · rw [if_pos q1, if_neg q2, if_pos q1]
  · by_cases q2 : k = i
    · rw [if_neg q1, if_pos q2, if_pos q2]
    · rw [if_neg q1, if_neg q2, if_neg q2, if_neg q1]
theorem sPut_up (f : Nat → Int32) (t n : Nat) (p v : Int32) {j : Nat} (hj : t + 30 < j) (hn : n ≤ 3) : sPut (uf f j v) t n p = uf (sPut f t n p) j v := by
  unfold sPut
  simp (disch := omega) only [uf_ne]
  rw [uf_sw f v _ (show j ≠ t + 18 + 3 * n by omega), uf_sw _ v _ (show j ≠ t + 19 + 3 * n by omega), uf_sw _ v _ (show j ≠ t + 20 + 3 * n by omega), uf_sw _ v _ (show j ≠ t + 17 by omega)]
theorem sShift_up (f : Nat → Int32) (t : Nat) (v : Int32) {j : Nat} (hj : t + 30 < j) : sShift (uf f j v) t = uf (sShift f t) j v := by
  funext k
  unfold sShift uf
  by_cases q : k = j
  · subst q
    rw [if_neg (by omega), if_pos rfl, if_pos rfl]
  · rw [if_neg q, if_neg q]
    dsimp only
    by_cases q2 : t + 18 ≤ k ∧ k < t + 27
    · rw [if_pos q2, if_pos q2, if_neg (by omega)]
    · rw [if_neg q2, if_neg q2]
theorem sRing_up (f : Nat → Int32) (t n : Nat) (p v : Int32) {j : Nat} (hj : t + 30 < j) (hn : n ≤ 4) : sRing (uf f j v) t n p = uf (sRing f t n p) j v := by
  unfold sRing
  by_cases q : n = 4
  · rw [if_pos q, if_pos q]
    simp only [sShift_up f t v hj]
    rw [uf_sw _ v _ (show j ≠ t + 17 by omega), uf_ne _ _ (show t + 30 ≠ j by omega), uf_sw _ v _ (show j ≠ t + 30 by omega), sPut_up _ _ _ _ _ hj (by omega)]
  · rw [if_neg q, if_neg q, sPut_up _ _ _ _ _ hj (by omega)]
theorem sHit_up (f : Nat → Int32) (p c m n : Nat) (v : Int32) (hc : c < 2) (hn : n ≤ 4) : sHit (uf f (70 + 208 * p + 6) v) p c m n = uf (sHit f p c m n) (70 + 208 * p + 6) v := by
  unfold sHit
  rw [uf_ne _ _ (show 70 + 208 * p + 3 ≠ 70 + 208 * p + 6 by omega), uf_sw f v _ (show 70 + 208 * p + 6 ≠ 70 + 208 * p + 3 by omega)]
  generalize uf f (70 + 208 * p + 3) (f (70 + 208 * p + 3) + nI 1) = f1
  dsimp only
  have e1 : (fun i => uf f1 (70 + 208 * p + 6) v (70 + 208 * p + 8 + i)) = fun i => f1 (70 + 208 * p + 8 + i) := by
    funext i; exact uf_ne _ _ (by omega)
  have e2 : uf f1 (70 + 208 * p + 6) v (8 + 31 * c) = f1 (8 + 31 * c) := uf_ne _ _ (by omega)
  have e3 : kask (uf f1 (70 + 208 * p + 6) v) (fun i => f1 (70 + 208 * p + 8 + i)) m (f1 (8 + 31 * c)) = kask f1 (fun i => f1 (70 + 208 * p + 8 + i)) m (f1 (8 + 31 * c)) := kgo_cg (fun k hk => uf_ne _ _ (by omega)) _ _ _
  rw [e1, e2, e3]
  by_cases q : m ≠ 0 ∧ askI (kask f1 (fun i => f1 (70 + 208 * p + 8 + i)) m (f1 (8 + 31 * c))) = nI 0
  · rw [if_pos q, if_pos q, uf_ne _ _ (show 70 + 208 * p + 4 ≠ 70 + 208 * p + 6 by omega), uf_sw _ v _ (show 70 + 208 * p + 6 ≠ 70 + 208 * p + 4 by omega)]
  · rw [if_neg q, if_neg q, sRing_up _ _ _ _ _ (by omega) hn]
