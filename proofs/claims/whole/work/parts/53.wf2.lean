/-! what holds of the numbers, behind a step -/
theorem WF.hd {f : Nat → Int32} {e : Nat → Nat} (h : WF f e) {c d : Nat} (hc : c < 2) (hd : f (8 + 31 * c + 2) = nI d) (hd6 : d < 2 ^ 31) : d ≤ 6 := by
  obtain ⟨d', h1, h2, -⟩ := (h.2.1 c hc).2.2.2.1
  rw [hd, nI_eq (by omega) (by omega)] at h2
  omega
/-- a holder at k<d -/
theorem WF.hl {f : Nat → Int32} {e : Nat → Nat} (h : WF f e) {c d k : Nat} (hc : c < 2) (hd : f (8 + 31 * c + 2) = nI d) (hd6 : d ≤ 6) (hk : k < d) : (∃ q, q < 1000 ∧ f (8 + 31 * c + 3 + k) = nI q) ∧ ∃ q, q ≤ 6 ∧ f (8 + 31 * c + 9 + k) = nI q := by
  obtain ⟨d', h1, h2, h3⟩ := (h.2.1 c hc).2.2.2.1
  rw [hd, nI_eq (by omega) (by omega)] at h2
  subst h2
  exact h3 k hk
/-- who holds isn't gone, and is counted -/
theorem WF.held {f : Nat → Int32} {e : Nat → Nat} (h : WF f e) {c d k p : Nat} (hc : c < 2) (hd : f (8 + 31 * c + 2) = nI d) (hd6 : d ≤ 6) (hk : k < d) (hp : p < 6) (hf : f (8 + 31 * c + 9 + k) = nI (p + 1)) : ¬ f (70 + 208 * p) = nI 3 ∧ ∃ h, h ≤ 2 ∧ f (70 + 208 * p + 6) = nI (h + 1) := by
  obtain ⟨b1, b2, b3, b4, b5⟩ := h.2.2 p hp
  have h1 : 1 ≤ pcn f p c := by
    unfold pcn
    rw [hd, nt_nI (by omega)]
    exact hcp_pos hk hf
  rw [cnt_c hc] at b3 b4 b5
  refine ⟨fun z => by have := b5 z; omega, pcn f p c + pcn f p (1 - c) + e p - 1, by omega, ?_⟩
  rw [b3]
  congr 1
  omega
theorem WF.free {f : Nat → Int32} {h : Nat} (hw : WF f (ih1 h)) (hh : h ≤ 6) : WF (sFree f h) e0 := by
  unfold sFree
  by_cases z : h = 0
  · rw [if_pos z]
    subst z
    have : ih1 0 = e0 := by funext q; unfold ih1 e0; rw [if_neg (by omega)]
    rw [← this]; exact hw
  · rw [if_neg z]
    obtain ⟨p, rfl⟩ : ∃ p, h = p + 1 := ⟨h - 1, by omega⟩
    rw [show p + 1 - 1 = p by omega]
    dsimp only
    obtain ⟨⟨s, s1, s2⟩, b2, b3, b4, b5⟩ := hw.2.2 p (by omega)
    have ei : ih1 (p + 1) p = 1 := by unfold ih1; rw [if_pos rfl]
    rw [ei] at b3 b4 b5
    rw [b3, show nI (cnt f p + 1) - nI 1 = nI (cnt f p) from pk_sub (by omega)]
    have g0 : uf f (70 + 208 * p + 6) (nI (cnt f p)) (70 + 208 * p) = f (70 + 208 * p) := uf_ne _ _ (by omega)
    rw [g0, uf_eq]
    have n3 : ¬ f (70 + 208 * p) = nI 3 := fun z => by have := b5 z; omega
    refine hw.prb (p := p) (by omega) (fun j hj => by rw [uf_ne _ _ (by omega), uf_ne _ _ (by omega)]) ⟨?_, ?_, ?_, ?_, ?_⟩ (fun q hq hne => ?_)
    · rw [uf_eq]
      split
      · split
        · exact ⟨3, by omega, rfl⟩
        · exact ⟨s, s1, s2⟩
      · exact ⟨s, s1, s2⟩
    · rw [uf_ne _ _ (by omega), uf_ne _ _ (by omega)]; exact b2
    · rw [uf_ne _ _ (by omega), uf_eq]; rfl
    · show cnt f p + 0 ≤ 3
      omega
    · show _ → cnt f p + 0 = 0
      rw [uf_eq]
      intro y
      split at y
      · split at y
        · rename_i _ y2
          rw [nI_eq (by omega) (by omega)] at y2
          omega
        · exact absurd y n3
      · exact absurd y n3
    · unfold e0 ih1; rw [if_neg (by omega)]
theorem WF.meet {f : Nat → Int32} (h : WF f e0) {p c m n d : Nat} (hp : p < 6) (hc : c < 2) (hn : n ≤ 4) (hd : f (8 + 31 * c + 2) = nI d) (hd6 : d ≤ 6) (h0 : f (70 + 208 * p) = nI 0) : WF (sMeet f p c m n d) e0 := by
  unfold sMeet
  split
  · exact h.hit hp hc hn
  · split
    · exact h.sb hp (i := 5) (Or.inl (by omega)) _
    · rename_i _ q
      have d0 : d ≠ 0 := fun z => q (Or.inl z)
      have q1 : ¬ nI 0 < f (8 + 31 * c + 8 + d) := fun z => q (Or.inr (Or.inl z))
      have q2 : ¬ f (70 + 208 * p + 6) = nI 3 := fun z => q (Or.inr (Or.inr z))
      obtain ⟨-, w, w1, w2⟩ := h.hl hc hd hd6 (k := d - 1) (by omega)
      rw [show 8 + 31 * c + 9 + (d - 1) = 8 + 31 * c + 8 + d by omega] at w2
      have w0 : w = 0 := by
        rw [w2, nI_ltI (by omega) (by omega)] at q1; omega
      subst w0
      dsimp only
      rw [uf_ne _ _ (show 70 + 208 * p + 6 ≠ 8 + 31 * c + 8 + d by omega), uf_sw _ _ _ (show 8 + 31 * c + 8 + d ≠ 70 + 208 * p + 6 by omega)]
      obtain ⟨b1, b2, b3, b4, b5⟩ := h.2.2 p hp
      have hb3 : f (70 + 208 * p + 6) = nI (cnt f p) := b3
      have hb4 : cnt f p ≤ 3 := b4
      have c3 : cnt f p ≠ 3 := fun z => q2 (by rw [hb3, z])
      have ei : ih1 (p + 1) p = 1 := by unfold ih1; rw [if_pos rfl]
      have h1 : WF (uf f (70 + 208 * p + 6) (f (70 + 208 * p + 6) + nI 1)) (ih1 (p + 1)) := by
        refine h.prb (p := p) hp (fun j hj => uf_ne _ _ (by omega)) ⟨?_, ?_, ?_, ?_, ?_⟩ (fun q hq hne => ?_)
        · rw [uf_ne _ _ (by omega)]; exact b1
        · rw [uf_ne _ _ (by omega)]; exact b2
        · rw [uf_eq, hb3, nI_add, ei]
        · rw [ei]; omega
        · rw [uf_ne _ _ (by omega), h0]; intro z; exact absurd z (by decide)
        · unfold e0 ih1; rw [if_neg (by omega)]
      have hd' : uf f (70 + 208 * p + 6) (f (70 + 208 * p + 6) + nI 1) (8 + 31 * c + 2) = nI d := by rw [uf_ne _ _ (by omega)]; exact hd
      refine h1.pro hc (fun j hj => uf_ne _ _ (by omega)) ?_ (fun q hq => ?_)
      · have := (h1.2.1 c hc).hold (k := d - 1) (q := p + 1) (by omega) (by omega)
        rwa [show 8 + 31 * c + 9 + (d - 1) = 8 + 31 * c + 8 + d by omega] at this
      · have := pcn_hold (p := q) hd' hd6 (k := d - 1) (by omega) (nI (p + 1))
        rw [show 8 + 31 * c + 9 + (d - 1) = 8 + 31 * c + 8 + d by omega, uf_ne _ _ (show 8 + 31 * c + 8 + d ≠ 70 + 208 * p + 6 by omega), w2, ind_e (by omega) hq, ind_e (by omega) hq] at this
        have z0 : ih1 0 q = 0 := by unfold ih1; rw [if_neg (by omega)]
        have z1 : e0 q = 0 := rfl
        omega
theorem nb_dig {cd : Nat → Int32} {x a b : Nat} (ha : a ≤ 9) (hb : b ≤ 9) (ha2 : cd (x + 1) = nI (48 + a)) (hb2 : cd (x + 2) = nI (48 + b)) : ∃ q, q < 1000 ∧ dig2 cd x = nI q := ⟨10 * a + b, by omega, dig2_eq ha2 hb2⟩
theorem nb_add {x : Int32} (h : nb x) {k : Nat} (hk : k < 2000) : nb (md (x + nI k)) := by
  obtain ⟨v, h1, rfl⟩ := h
  rw [nI_add]; exact nb_md (by omega)
theorem nb_add2 {x y : Int32} (h : nb x) (h' : nb y) : nb (md (x + y)) := by
  obtain ⟨v, h1, rfl⟩ := h'
  exact nb_add h (by omega)
/-- an instruction: a return taken off leaves its holder with one more than is counted -/
theorem WF.insE {cd f : Nat → Int32} {e : Nat → Nat} {nc c d x : Nat} (h : WF f e) (hc : c < 2) (hW : WL cd nc x) (hx : x < nc) (hnc : nc ≤ 60) (hd : f (8 + 31 * c + 2) = nI d) (hd6 : d ≤ 6) : ∃ k, k ≤ 6 ∧ WF (uf (sI cd f (8 + 31 * c) d x).1 (8 + 31 * c + 1) (sI cd f (8 + 31 * c) d x).2) (fun q => e q + ih1 k q) ∧ (if cd x = nI 114 ∧ d ≠ 0 then f (8 + 31 * c + 8 + d) = nI k ∧ (sI cd f (8 + 31 * c) d x) = (uf f (8 + 31 * c + 2) (nI (d - 1)), f (8 + 31 * c + 2 + d)) else k = 0 ∧ ¬ (sI cd f (8 + 31 * c) d x).1 (8 + 31 * c + 2) < nI d) := by
  have acc := (h.2.1 c hc).1
  have i0 : (fun q => e q + ih1 0 q) = e := by funext q; unfold ih1; rw [if_neg (by omega)]; rfl
  have irr : ∀ a : Nat, a ≤ 7 → d ≤ a → ¬ nI a < nI d := fun a h1 h2 => nI_nlt h2 (by omega)
  have id0 := irr d (by omega) (Nat.le_refl _)
  have far : ∀ {g : Nat → Int32} {v : Int32}, WF g e → (∃ q, q < 1000 ∧ v = nI q) → WF (uf g (8 + 31 * c + 1) v) (fun q => e q + ih1 0 q) := fun hg hv => by
    rw [i0]; exact hg.own hc (Or.inr (Or.inl ⟨rfl, hv⟩))
  have hal : WF (uf f (8 + 31 * c + 15) (nI 1)) e := h.own hc (Or.inr (Or.inr (Or.inl ⟨rfl, Or.inr rfl⟩)))
  have ac : ∀ {v : Int32}, nb v → WF (uf f (8 + 31 * c) v) e := fun hv => h.own hc (i := 0) (Or.inl ⟨rfl, hv⟩)
  have d2 : ∀ {i : Nat} {v : Int32}, 8 + 31 * c + 2 ≠ i → ¬ uf f i v (8 + 31 * c + 2) < nI d := fun hne => by rw [uf_ne _ _ hne, hd]; exact id0
  rcases hW with (q | q | q | q) | ⟨q, hx1, kk, hk, hk2⟩ | ⟨q, hx2, a, b, ha, hb, ha2, hb2⟩
  · refine ⟨0, by omega, ?_, ?_⟩
    · rw [sI_105 q]; exact far (ac (nb_add acc (by omega))) ⟨x + 1, by omega, rfl⟩
    · rw [if_neg (by rw [q]; exact fun z => absurd z.1 (by decide)), sI_105 q]; exact ⟨rfl, d2 (by omega)⟩
  · refine ⟨0, by omega, ?_, ?_⟩
    · rw [sI_100 q]; exact far (ac (nb_add acc (by omega))) ⟨x + 1, by omega, rfl⟩
    · rw [if_neg (by rw [q]; exact fun z => absurd z.1 (by decide)), sI_100 q]; exact ⟨rfl, d2 (by omega)⟩
  · by_cases c4 : d = 0
    · refine ⟨0, by omega, ?_, ?_⟩
      · rw [sI_114 q, if_pos c4]; exact far hal ⟨x, by omega, rfl⟩
      · rw [if_neg (fun z => z.2 c4), sI_114 q, if_pos c4]; exact ⟨rfl, d2 (by omega)⟩
    · obtain ⟨⟨y, y1, y2⟩, k, k1, k2⟩ := h.hl hc hd hd6 (k := d - 1) (by omega)
      rw [show 8 + 31 * c + 9 + (d - 1) = 8 + 31 * c + 8 + d by omega] at k2
      rw [show 8 + 31 * c + 3 + (d - 1) = 8 + 31 * c + 2 + d by omega] at y2
      refine ⟨k, k1, ?_, by rw [if_pos ⟨q, c4⟩, sI_114 q, if_neg c4]; exact ⟨k2, rfl⟩⟩
      rw [sI_114 q, if_neg c4]
      dsimp only
      have h1 : WF (uf f (8 + 31 * c + 2) (nI (d - 1))) (fun q => e q + ih1 k q) := by
        refine h.pro hc (fun j hj => uf_ne _ _ (by omega)) ?_ (fun p hp => ?_)
        · obtain ⟨h1, h2, h3, ⟨d', d1', d2', d3'⟩, h5⟩ := h.2.1 c hc
          rw [hd, nI_eq (by omega) (by omega)] at d2'
          subst d2'
          refine ⟨by rw [uf_ne _ _ (by omega)]; exact h1, by rw [uf_ne _ _ (by omega)]; exact h2, by rw [uf_ne _ _ (by omega)]; exact h3, ⟨d - 1, by omega, uf_eq _ _ _, fun j hj => by rw [uf_ne _ _ (by omega), uf_ne _ _ (by omega)]; exact d3' j (by omega)⟩, by rw [uf_ne _ _ (by omega)]; exact h5⟩
        · have e1 : pcn (uf f (8 + 31 * c + 2) (nI (d - 1))) p c = hcp f (8 + 31 * c) p (d - 1) := by
            unfold pcn
            rw [uf_eq, nt_nI (by omega)]
            exact hcp_cg (fun j hj => uf_ne _ _ (by omega))
          have e2 : pcn f p c = hcp f (8 + 31 * c) p (d - 1) + ih1 k p := by
            unfold pcn
            rw [hd, nt_nI (by omega)]
            obtain ⟨d', rfl⟩ : ∃ d', d = d' + 1 := ⟨d - 1, by omega⟩
            show hcp f (8 + 31 * c) p d' + _ = _
            rw [show 8 + 31 * c + 9 + d' = 8 + 31 * c + 8 + (d' + 1) by omega, k2, ind_e k1 hp]
            rfl
          show _ + (e p + ih1 k p) = _
          omega
      exact h1.own hc (Or.inr (Or.inl ⟨rfl, y, y1, by rw [y2]⟩))
  · refine ⟨0, by omega, ?_, ?_⟩
    · rw [sI_104 q]; exact far hal ⟨x, by omega, rfl⟩
    · rw [if_neg (by rw [q]; exact fun z => absurd z.1 (by decide)), sI_104 q]; exact ⟨rfl, d2 (by omega)⟩
  · have e1 : dig1 cd x = kk := dig1_eq hk2 hk
    have mk := h.1 kk (by omega)
    rcases q with q | q | q
    · refine ⟨0, by omega, ?_, ?_⟩
      · rw [sI_108 q, e1]; exact far (ac mk) ⟨x + 2, by omega, rfl⟩
      · rw [if_neg (by rw [q]; exact fun z => absurd z.1 (by decide)), sI_108 q]; exact ⟨rfl, d2 (by omega)⟩
    · refine ⟨0, by omega, ?_, ?_⟩
      · rw [sI_115 q, e1]; exact far (h.mem (by omega) acc) ⟨x + 2, by omega, rfl⟩
      · rw [if_neg (by rw [q]; exact fun z => absurd z.1 (by decide)), sI_115 q, e1]; exact ⟨rfl, d2 (by omega)⟩
    · refine ⟨0, by omega, ?_, ?_⟩
      · rw [sI_112 q, e1]; exact far (ac (nb_add2 acc mk)) ⟨x + 2, by omega, rfl⟩
      · rw [if_neg (by rw [q]; exact fun z => absurd z.1 (by decide)), sI_112 q]; exact ⟨rfl, d2 (by omega)⟩
  · have dg := nb_dig ha hb ha2 hb2
    rcases q with q | q | q
    · refine ⟨0, by omega, ?_, ?_⟩
      · rw [sI_106 q]; exact far h dg
      · rw [if_neg (by rw [q]; exact fun z => absurd z.1 (by decide)), sI_106 q]; exact ⟨rfl, by dsimp only; rw [hd]; exact id0⟩
    · refine ⟨0, by omega, ?_, ?_⟩
      · rw [sI_122 q]
        refine far h ?_
        dsimp only
        split
        · exact dg
        · exact ⟨x + 3, by omega, rfl⟩
      · rw [if_neg (by rw [q]; exact fun z => absurd z.1 (by decide)), sI_122 q]; exact ⟨rfl, by dsimp only; rw [hd]; exact id0⟩
    · refine ⟨0, by omega, ?_, ?_⟩
      · rw [sI_99 q]
        by_cases c2 : d = 6
        · rw [if_pos c2]; exact far hal ⟨x, by omega, rfl⟩
        · rw [if_neg c2]
          refine far ?_ dg
          dsimp only
          refine h.pro hc (fun j hj => by rw [uf_ne _ _ (by omega), uf_ne _ _ (by omega), uf_ne _ _ (by omega)]) ?_ (fun p hp => ?_)
          · obtain ⟨h1, h2, h3, ⟨d', d1', d2', d3'⟩, h5⟩ := h.2.1 c hc
            rw [hd, nI_eq (by omega) (by omega)] at d2'
            subst d2'
            have o : ∀ j, j ≠ 8 + 31 * c + 2 → j ≠ 8 + 31 * c + 9 + d → j ≠ 8 + 31 * c + 3 + d → uf (uf (uf f (8 + 31 * c + 3 + d) (nI (x + 3))) (8 + 31 * c + 9 + d) (nI 0)) (8 + 31 * c + 2) (nI (d + 1)) j = f j := fun j z1 z2 z3 => by rw [uf_ne _ _ z1, uf_ne _ _ z2, uf_ne _ _ z3]
            refine ⟨by rw [o _ (by omega) (by omega) (by omega)]; exact h1, by rw [o _ (by omega) (by omega) (by omega)]; exact h2, by rw [o _ (by omega) (by omega) (by omega)]; exact h3, ⟨d + 1, by omega, uf_eq _ _ _, fun j hj => ?_⟩, by rw [o _ (by omega) (by omega) (by omega)]; exact h5⟩
            by_cases z : j = d
            · subst z
              exact ⟨⟨x + 3, by omega, by rw [uf_ne _ _ (by omega), uf_ne _ _ (by omega), uf_eq]⟩, 0, by omega, by rw [uf_ne _ _ (by omega), uf_eq]⟩
            · rw [o _ (by omega) (by omega) (by omega), o _ (by omega) (by omega) (by omega)]
              exact d3' j (by omega)
          · unfold pcn
            rw [uf_eq, hd, nt_nI (by omega), nt_nI (by omega)]
            show hcp _ _ p d + _ + _ = _
            rw [uf_ne _ _ (show 8 + 31 * c + 9 + d ≠ 8 + 31 * c + 2 by omega), uf_eq, if_neg (by rw [nI_eq (by omega) (by omega)]; omega), hcp_cg (f := f) (fun j hj => by rw [uf_ne _ _ (by omega), uf_ne _ _ (by omega), uf_ne _ _ (by omega)])]
            rfl
      · rw [if_neg (by rw [q]; exact fun z => absurd z.1 (by decide)), sI_99 q]
        refine ⟨rfl, ?_⟩
        by_cases c2 : d = 6
        · rw [if_pos c2]; exact d2 (by omega)
        · rw [if_neg c2]
          dsimp only
          rw [uf_eq]
          exact irr (d + 1) (by omega) (by omega)
theorem WF.ins {cd f : Nat → Int32} {nc c d x : Nat} (h : WF f e0) (hc : c < 2) (hW : WL cd nc x) (hx : x < nc) (hnc : nc ≤ 60) (hd : f (8 + 31 * c + 2) = nI d) (hd6 : d ≤ 6) : ∃ k, k ≤ 6 ∧ WF (uf (sI cd f (8 + 31 * c) d x).1 (8 + 31 * c + 1) (sI cd f (8 + 31 * c) d x).2) (ih1 k) ∧ (if cd x = nI 114 ∧ d ≠ 0 then f (8 + 31 * c + 8 + d) = nI k ∧ (sI cd f (8 + 31 * c) d x) = (uf f (8 + 31 * c + 2) (nI (d - 1)), f (8 + 31 * c + 2 + d)) else k = 0 ∧ ¬ (sI cd f (8 + 31 * c) d x).1 (8 + 31 * c + 2) < nI d) := by
  obtain ⟨k, k1, k2, k3⟩ := h.insE hc hW hx hnc hd hd6
  have e : (fun q => e0 q + ih1 k q) = ih1 k := by funext q; exact Nat.zero_add _
  rw [e] at k2
  exact ⟨k, k1, k2, k3⟩
