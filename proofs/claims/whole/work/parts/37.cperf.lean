/-! the class: perform over numbers f at t -/
/-- the processor at a is the one whose numbers begin at t -/
def RQ (I : am_I) (a : Nat) (f : Nat → Int32) (t : Nat) : Prop := (I a 3 = f (t + 2) ∧ I a 4 = f (t + 1) ∧ I a 5 = f t ∧ I a 6 = f (t + 15) ∧ I a 7 = f (t + 16) ∧ I (a + 3) 3 = f (t + 17) ∧ I (a + 3) 4 = f (t + 30)) ∧ (∃ d, d ≤ 6 ∧ f (t + 2) = nI d ∧ ∀ k, k < d → I (a + 1) k = f (t + 3 + k) ∧ I (a + 2) k = f (t + 9 + k) - nI 1) ∧ (∃ n, n ≤ 4 ∧ f (t + 17) = nI n ∧ ∀ k, k < n → I (a + 4) k = f (t + 18 + 3 * k) ∧ I (a + 5) k = f (t + 19 + 3 * k) ∧ I (a + 6) k = f (t + 20 + 3 * k))
/-- Code q is the laid one -/
def RC (I : am_I) (R : am_R) (K : am_K) (q nc : Nat) (cd : Nat → Int32) (b : Nat → Bool) : Prop := CL R K q ∧ RT I R K (q + 1) (q + 2) 60 nc cd ∧ RB6 (I (q + 3)) b
/-- RQ looks at no other place -/
theorem RQ.cg {I I' : am_I} {a t : Nat} {f f' : Nat → Int32} (h : RQ I a f t) (hI : ∀ j, j ≤ 6 → I' (a + j) = I (a + j)) (hf : ∀ j, t ≤ j → j ≤ t + 30 → f' j = f j) : RQ I' a f' t := by
  obtain ⟨⟨h1, h2, h3, h4, h5, h6, h7⟩, ⟨d, d1, d2, d3⟩, n, n1, n2, n3⟩ := h
  have i0 : I' a = I a := hI 0 (by omega)
  have i1 := hI 1 (by omega)
  have i2 := hI 2 (by omega)
  have i3 := hI 3 (by omega)
  have i4 := hI 4 (by omega)
  have i5 := hI 5 (by omega)
  have i6 := hI 6 (by omega)
  refine ⟨⟨?_, ?_, ?_, ?_, ?_, ?_, ?_⟩, ⟨d, d1, ?_, fun k hk => ⟨?_, ?_⟩⟩, n, n1, ?_, fun k hk => ⟨?_, ?_, ?_⟩⟩
  · rw [i0, hf _ (by omega) (by omega)]; exact h1
  · rw [i0, hf _ (by omega) (by omega)]; exact h2
  · rw [i0, hf _ (by omega) (by omega)]; exact h3
  · rw [i0, hf _ (by omega) (by omega)]; exact h4
  · rw [i0, hf _ (by omega) (by omega)]; exact h5
  · rw [i3, hf _ (by omega) (by omega)]; exact h6
  · rw [i3, hf _ (by omega) (by omega)]; exact h7
  · rw [hf _ (by omega) (by omega)]; exact d2
  · rw [i1, hf _ (by omega) (by omega)]; exact (d3 k hk).1
  · rw [i2, hf _ (by omega) (by omega)]; exact (d3 k hk).2
  · rw [hf _ (by omega) (by omega)]; exact n2
  · rw [i4, hf _ (by omega) (by omega)]; exact (n3 k hk).1
  · rw [i5, hf _ (by omega) (by omega)]; exact (n3 k hk).2.1
  · rw [i6, hf _ (by omega) (by omega)]; exact (n3 k hk).2.2
