/-! the class: leave, second half -/
theorem uf_id (f : Nat → Int32) (i : Nat) : uf f i (f i) = f := by
  funext k; unfold uf; by_cases q : k = i
  · rw [if_pos q, q]
  · rw [if_neg q]
/-- whether a probe is on, off, dying or gone -/
theorem RS.is {I : am_I} {R : am_R} {K : am_K} {f : Nat → Int32} (h : RS I R K 14 f) {p s : Nat} (hp : p < 6) (h3 : ¬ f (70 + 208 * p) = nI 3) (hs : s ≤ 3) : RS (st I (32 + p) (uf (I (32 + p)) 1 (nI s))) R K 14 (uf f (70 + 208 * p) (nI s)) := by
  obtain ⟨s1, s2, s3, s4⟩ := h
  have fn : FN I (st I (32 + p) (uf (I (32 + p)) 1 (nI s))) := FN.st I _ (by omega) (by omega)
  refine ⟨fun k hk => ?_, s2.cg (fun j hj => st_ne _ _ (by omega)) (fun j _ _ => uf_ne _ _ (by omega)), s3.cg (fun j hj => st_ne _ _ (by omega)) (fun j _ _ => uf_ne _ _ (by omega)), fun q hq => ?_⟩
  · rw [st_ne _ _ (by omega), uf_ne _ _ (by omega)]; exact s1 k hk
  · by_cases e : q = p
    · subst e
      obtain ⟨p1, p2, p3, p4⟩ := s4 q hq
      obtain ⟨⟨a1, a2, a3, a4, a5, a6⟩, a7⟩ := p4 h3
      have e14 : 14 + 18 + q = 32 + q := by omega
      rw [e14] at *
      refine ⟨by first | assumption | (simp (disch := omega) only [st_eq, st_ne, uf_eq, uf_ne]; done) | (simp (disch := omega) only [st_eq, st_ne, uf_eq, uf_ne]; assumption), by first | assumption | (simp (disch := omega) only [st_eq, st_ne, uf_eq, uf_ne]; done) | (simp (disch := omega) only [st_eq, st_ne, uf_eq, uf_ne]; assumption), ⟨s, hs, uf_eq _ _ _⟩, fun _ => ⟨⟨by first | assumption | (simp (disch := omega) only [st_eq, st_ne, uf_eq, uf_ne]; done) | (simp (disch := omega) only [st_eq, st_ne, uf_eq, uf_ne]; assumption), by first | assumption | (simp (disch := omega) only [st_eq, st_ne, uf_eq, uf_ne]; done) | (simp (disch := omega) only [st_eq, st_ne, uf_eq, uf_ne]; assumption), by first | assumption | (simp (disch := omega) only [st_eq, st_ne, uf_eq, uf_ne]; done) | (simp (disch := omega) only [st_eq, st_ne, uf_eq, uf_ne]; assumption), by first | assumption | (simp (disch := omega) only [st_eq, st_ne, uf_eq, uf_ne]; done) | (simp (disch := omega) only [st_eq, st_ne, uf_eq, uf_ne]; assumption), by first | assumption | (simp (disch := omega) only [st_eq, st_ne, uf_eq, uf_ne]; done) | (simp (disch := omega) only [st_eq, st_ne, uf_eq, uf_ne]; assumption), by first | assumption | (simp (disch := omega) only [st_eq, st_ne, uf_eq, uf_ne]; done) | (simp (disch := omega) only [st_eq, st_ne, uf_eq, uf_ne]; assumption)⟩, a7.fr rfl (XE.rf R K) (fn.dy K) (fun j j1 j2 => uf_ne _ _ (by omega))⟩⟩
    · exact (s4 q hq).fr (st_ne _ _ (by omega)) rfl (XE.rf R K) (fn.dy K) (fun j _ _ => uf_ne _ _ (by omega))
