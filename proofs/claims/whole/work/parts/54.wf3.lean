/-! a step taken apart, and what holds behind it -/
theorem uf_uf (f : Nat → Int32) (i : Nat) (x y : Int32) : uf (uf f i x) i y = uf f i y := by
  funext k; unfold uf; by_cases q : k = i
  · rw [if_pos q, if_pos q]
  · rw [if_neg q, if_neg q, if_neg q]
theorem sHit_far {f : Nat → Int32} {p c m n j : Nat} (hc : c < 2) (hn : n ≤ 4) (h1 : j < 8 + 31 * c + 17 ∨ 8 + 31 * c + 30 < j) (h2 : j ≠ 70 + 208 * p + 3) (h3 : j ≠ 70 + 208 * p + 4) : sHit f p c m n j = f j := by
  unfold sHit
  split
  · rw [uf_ne _ _ h3, uf_ne _ _ h2]
  · rw [(sRing_eqs _ (8 + 31 * c) n (nI p) hn).1 j h1, uf_ne _ _ h2]
theorem sMeet_far {f : Nat → Int32} {p c m n d j : Nat} (hc : c < 2) (hn : n ≤ 4) (hd : d ≤ 6) (hj : j < 70) (h1 : j < 8 + 31 * c + 9 ∨ 8 + 31 * c + 15 ≤ j) (h2 : j < 8 + 31 * c + 17 ∨ 8 + 31 * c + 30 < j) : sMeet f p c m n d j = f j := by
  unfold sMeet
  split
  · exact sHit_far hc hn h2 (by omega) (by omega)
  · split
    · exact uf_ne _ _ (by omega)
    · rename_i _ q
      have d0 : d ≠ 0 := fun z => q (Or.inl z)
      dsimp only
      rw [uf_ne _ _ (by omega), uf_ne _ _ (by omega)]
/-- the numbers as the instruction is done: counted, and come by what lies there -/
def sCm (bg : Nat → Int32) (nc : Nat) (f : Nat → Int32) (c : Nat) : Nat → Int32 := match sBy bg nc f c with
  | none => uf f (8 + 31 * c + 16) (f (8 + 31 * c + 16) + nI 1)
  | some p =>
    let f1 := uf f (8 + 31 * c + 16) (f (8 + 31 * c + 16) + nI 1)
    sMeet f1 p c (nt (f1 (70 + 208 * p + 7))) (nt (f1 (8 + 31 * c + 17))) (nt (f1 (8 + 31 * c + 2)))
theorem sBy_of {bg f : Nat → Int32} {nc c p : Nat} (h : sBy bg nc f c = some p) : p < 6 ∧ f (70 + 208 * p) = nI 0 := by
  unfold sBy at h
  split at h
  · split at h
    · cases h
    · cases q2 : pOn f (f (8 + 31 * c + 1)) with
      | none => rw [q2] at h; cases h
      | some p' =>
        rw [q2] at h
        dsimp only at h
        split at h
        · cases h
          have := (fs_lt q2).2.1
          exact ⟨by omega, by assumption⟩
        · cases h
  · cases h
theorem WF.cm {f : Nat → Int32} (h : WF f e0) {bg : Nat → Int32} {nc c : Nat} (hc : c < 2) : WF (sCm bg nc f c) e0 ∧ ∀ j, j < 70 → (j < 8 + 31 * c + 9 ∨ j = 8 + 31 * c + 15) → sCm bg nc f c j = f j := by
  have h1 := h.sk hc (i := 16) (Or.inl rfl) (f (8 + 31 * c + 16) + nI 1)
  unfold sCm
  cases q : sBy bg nc f c with
  | none => exact ⟨h1, fun j _ hj => uf_ne _ _ (by omega)⟩
  | some p =>
    obtain ⟨hp, hp0⟩ := sBy_of q
    dsimp only
    obtain ⟨n, n1, n2⟩ := (h1.2.1 c hc).2.2.2.2
    obtain ⟨d, d1, d2, -⟩ := (h1.2.1 c hc).2.2.2.1
    rw [n2, d2, nt_nI (by omega), nt_nI (by omega)]
    refine ⟨h1.meet hp hc n1 d2 d1 (by rw [uf_ne _ _ (by omega)]; exact hp0), fun j j7 hj => ?_⟩
    rw [sMeet_far hc n1 d1 j7 (by omega) (by omega), uf_ne _ _ (by omega)]
theorem sCm_16 {f : Nat → Int32} (h : WF f e0) {bg : Nat → Int32} {nc c : Nat} (hc : c < 2) : sCm bg nc f c (8 + 31 * c + 16) = f (8 + 31 * c + 16) + nI 1 := by
  have h1 := h.sk hc (i := 16) (Or.inl rfl) (f (8 + 31 * c + 16) + nI 1)
  unfold sCm
  cases q : sBy bg nc f c with
  | none => exact uf_eq _ _ _
  | some p =>
    dsimp only
    obtain ⟨n, n1, n2⟩ := (h1.2.1 c hc).2.2.2.2
    obtain ⟨d, d1, d2, -⟩ := (h1.2.1 c hc).2.2.2.1
    rw [n2, d2, nt_nI (by omega), nt_nI (by omega), sMeet_far hc n1 d1 (by omega) (by omega) (by omega), uf_eq]
theorem n01 : ¬ nI 0 = nI 1 := by decide
theorem sDo_halt {cd bg f : Nat → Int32} {nc c : Nat} (h : WF f e0) (hc : c < 2) (h1 : f (8 + 31 * c + 15) = nI 1) : sDo cd bg nc f c = (false, f) := by
  obtain ⟨d, d1, d2, -⟩ := (h.2.1 c hc).2.2.2.1
  have e1 : sDo1 bg nc f c = f := by unfold sDo1 sBy; rw [h1, if_neg (fun z => n01 z.symm)]
  unfold sDo
  dsimp only
  rw [e1, d2, nt_nI (by omega)]
  unfold sGo
  rw [if_pos h1]
  dsimp only
  unfold sDo2
  rw [d2, if_neg (nI_nlt (Nat.le_refl _) (by omega))]
theorem sDo_out {cd bg f : Nat → Int32} {nc c : Nat} (h : WF f e0) (hc : c < 2) (h0 : f (8 + 31 * c + 15) = nI 0) (hB : isB bg nc (f (8 + 31 * c + 1)) = false) : sDo cd bg nc f c = (false, uf f (8 + 31 * c + 15) (nI 1)) := by
  obtain ⟨d, d1, d2, -⟩ := (h.2.1 c hc).2.2.2.1
  have e1 : sDo1 bg nc f c = f := by unfold sDo1 sBy; rw [if_pos h0, if_pos hB]
  unfold sDo
  dsimp only
  rw [e1, d2, nt_nI (by omega)]
  unfold sGo
  rw [h0, if_neg n01, if_pos hB]
  dsimp only
  unfold sDo2
  rw [uf_ne _ _ (by omega), d2, if_neg (nI_nlt (Nat.le_refl _) (by omega))]
theorem i32_back (v : Int32) : v - nI 1 + nI 1 = v := Int32.sub_add_cancel v (nI 1)
theorem sDo_in {cd bg f : Nat → Int32} {nc c x d : Nat} (h : WF f e0) (hc : c < 2) (h0 : f (8 + 31 * c + 15) = nI 0) (hB : isB bg nc (f (8 + 31 * c + 1)) = true) (hx : f (8 + 31 * c + 1) = nI x) (hx2 : x < 1000) (hd : f (8 + 31 * c + 2) = nI d) (hd6 : d ≤ 6) : sDo cd bg nc f c = (true, sDo2 (uf (sI cd (sCm bg nc f c) (8 + 31 * c) d x).1 (8 + 31 * c + 1) (sI cd (sCm bg nc f c) (8 + 31 * c) d x).2) c d) := by
  obtain ⟨w, wf⟩ := h.cm (bg := bg) (nc := nc) hc
  have hB' : ¬ isB bg nc (f (8 + 31 * c + 1)) = false := by rw [hB]; decide
  obtain ⟨f1, hf1⟩ : ∃ f1, f1 = sDo1 bg nc f c := ⟨_, rfl⟩
  have a1 : (∀ j, j < 70 → (j < 8 + 31 * c + 9 ∨ j = 8 + 31 * c + 15) → f1 j = f j) ∧ uf f1 (8 + 31 * c + 16) (f1 (8 + 31 * c + 16) + nI 1) = sCm bg nc f c := by
    rw [hf1]
    unfold sDo1 sCm
    cases q : sBy bg nc f c with
    | none => exact ⟨fun _ _ _ => rfl, rfl⟩
    | some p =>
      have e : sCm bg nc f c = sMeet (uf f (8 + 31 * c + 16) (f (8 + 31 * c + 16) + nI 1)) p c (nt (uf f (8 + 31 * c + 16) (f (8 + 31 * c + 16) + nI 1) (70 + 208 * p + 7))) (nt (uf f (8 + 31 * c + 16) (f (8 + 31 * c + 16) + nI 1) (8 + 31 * c + 17))) (nt (uf f (8 + 31 * c + 16) (f (8 + 31 * c + 16) + nI 1) (8 + 31 * c + 2))) := by
        unfold sCm; rw [q]
      dsimp only
      rw [← e]
      refine ⟨fun j j7 hj => by rw [uf_ne _ _ (by omega)]; exact wf j j7 hj, ?_⟩
      rw [uf_uf, uf_eq, i32_back, uf_id]
  obtain ⟨a1, a2⟩ := a1
  unfold sDo
  dsimp only
  rw [← hf1, a1 (8 + 31 * c + 2) (by omega) (by omega), hd, nt_nI (by omega)]
  unfold sGo
  rw [a1 (8 + 31 * c + 15) (by omega) (by omega), h0, if_neg n01, a1 (8 + 31 * c + 1) (by omega) (by omega), if_neg hB', a2, hx, nI_clamp (by omega)]
/-- a place of a holder beyond the returns isn't looked at -/
theorem WF.bey {f : Nat → Int32} {e : Nat → Nat} (h : WF f e) {c k d : Nat} (hc : c < 2) (hd : f (8 + 31 * c + 2) = nI d) (hk : d ≤ k) (hk6 : k < 6) (v : Int32) : WF (uf f (8 + 31 * c + 9 + k) v) e := by
  refine h.pro hc (fun j hj => uf_ne _ _ (by omega)) ?_ (fun p hp => ?_)
  · obtain ⟨h1, h2, h3, ⟨d', d1', d2', d3'⟩, h5⟩ := h.2.1 c hc
    rw [hd, nI_eq (by omega) (by omega)] at d2'
    subst d2'
    refine ⟨by rw [uf_ne _ _ (by omega)]; exact h1, by rw [uf_ne _ _ (by omega)]; exact h2, by rw [uf_ne _ _ (by omega)]; exact h3, ⟨d, d1', by rw [uf_ne _ _ (by omega)]; exact hd, fun j hj => by rw [uf_ne _ _ (by omega), uf_ne _ _ (by omega)]; exact d3' j hj⟩, by rw [uf_ne _ _ (by omega)]; exact h5⟩
  · unfold pcn
    rw [uf_ne _ _ (show 8 + 31 * c + 2 ≠ 8 + 31 * c + 9 + k by omega), hd, nt_nI (by omega), hcp_cg (fun j hj => uf_ne _ _ (by omega))]
theorem sDo2_no {g : Nat → Int32} {c d : Nat} (h : ¬ g (8 + 31 * c + 2) < nI d) : sDo2 g c d = g := by
  unfold sDo2; rw [if_neg h]
/-- what a return that is taken off brings with it -/
def sLv (g : Nat → Int32) (c k : Nat) : Nat → Int32 := sFree (if k ≠ 0 ∧ g (70 + 208 * (k - 1)) = nI 0 then sHit g (k - 1) c (nt (g (70 + 208 * (k - 1) + 7))) (nt (g (8 + 31 * c + 17))) else g) k
theorem sDo2_yes {g : Nat → Int32} {c d k : Nat} (h : g (8 + 31 * c + 2) < nI d) (hk : g (8 + 31 * c + 8 + d) = nI k) (hk6 : k ≤ 6) : sDo2 g c d = uf (sLv g c k) (8 + 31 * c + 8 + d) (nI 0) := by
  unfold sDo2 sLv
  rw [if_pos h, hk, nt_nI (by omega)]
theorem WF.lv {g : Nat → Int32} {c k : Nat} (h : WF g (ih1 k)) (hc : c < 2) (hk : k ≤ 6) : WF (sLv g c k) e0 ∧ ∀ j, j < 70 → (j < 8 + 31 * c + 17 ∨ 8 + 31 * c + 30 < j) → sLv g c k j = g j := by
  unfold sLv
  obtain ⟨n, n1, n2⟩ := (h.2.1 c hc).2.2.2.2
  rw [n2, nt_nI (by omega)]
  refine ⟨WF.free ?_ hk, fun j j7 hj => ?_⟩
  · split
    · exact h.hit (by omega) hc n1
    · exact h
  · rw [sFree_lo _ _ j7]
    split
    · exact sHit_far hc n1 hj (by omega) (by omega)
    · rfl
theorem WF.step {cd bg f : Nat → Int32} {nc c : Nat} (h : WF f e0) (hc : c < 2) (hW : WC cd bg nc) : WF (sDo cd bg nc f c).2 e0 ∧ (sDo cd bg nc f c).2 (8 + 31 * c + 16) = f (8 + 31 * c + 16) + (if (sDo cd bg nc f c).1 = true then nI 1 else nI 0) := by
  have z0 : f (8 + 31 * c + 16) + nI 0 = f (8 + 31 * c + 16) := Int32.add_zero _
  have w60 := hW.2.1
  rcases (h.2.1 c hc).2.2.1 with h0 | h0
  · by_cases hB : isB bg nc (f (8 + 31 * c + 1)) = true
    · obtain ⟨x, hx, hx2, hx3⟩ := isB_of hB hW.1 hW.2.1
      have hWL := hW.2.2 x hx hx3
      obtain ⟨d, d1, d2, -⟩ := (h.2.1 c hc).2.2.2.1
      rw [sDo_in h hc h0 hB hx2 (by omega) d2 d1]
      obtain ⟨w, wf⟩ := h.cm (bg := bg) (nc := nc) hc
      have d2' : sCm bg nc f c (8 + 31 * c + 2) = nI d := by rw [wf _ (by omega) (by omega)]; exact d2
      obtain ⟨k, k6, v1, v2⟩ := w.ins hc hWL hx hW.2.1 d2' d1
      have g16 : uf (sI cd (sCm bg nc f c) (8 + 31 * c) d x).1 (8 + 31 * c + 1) (sI cd (sCm bg nc f c) (8 + 31 * c) d x).2 (8 + 31 * c + 16) = f (8 + 31 * c + 16) + nI 1 := by
        rw [uf_ne _ _ (by omega), sI_far hWL (by omega) d1 (by omega) (by omega), sCm_16 h hc]
      obtain ⟨g, hg⟩ : ∃ g, g = uf (sI cd (sCm bg nc f c) (8 + 31 * c) d x).1 (8 + 31 * c + 1) (sI cd (sCm bg nc f c) (8 + 31 * c) d x).2 := ⟨_, rfl⟩
      rw [← hg] at v1 g16 ⊢
      dsimp only
      rw [if_pos rfl]
      split at v2
      · rename_i q
        obtain ⟨y1, y2⟩ := v2
        have g2 : g (8 + 31 * c + 2) = nI (d - 1) := by rw [hg, y2]; dsimp only; rw [uf_ne _ _ (by omega), uf_eq]
        have gd : g (8 + 31 * c + 8 + d) = nI k := by rw [hg, y2]; dsimp only; rw [uf_ne _ _ (by omega), uf_ne _ _ (by omega)]; exact y1
        rw [sDo2_yes (by rw [g2]; exact nI_lt (by omega) (by omega)) gd k6]
        obtain ⟨u1, u2⟩ := v1.lv hc k6
        have := u1.bey hc (k := d - 1) (d := d - 1) (by rw [u2 _ (by omega) (by omega)]; exact g2) (by omega) (by omega) (nI 0)
        rw [show 8 + 31 * c + 9 + (d - 1) = 8 + 31 * c + 8 + d by omega] at this
        exact ⟨this, by rw [uf_ne _ _ (by omega), u2 _ (by omega) (by omega)]; exact g16⟩
      · obtain ⟨y1, y2⟩ := v2
        have i0 : ih1 0 = e0 := by funext q; unfold ih1 e0; rw [if_neg (by omega)]
        rw [sDo2_no (by rw [hg, uf_ne _ _ (by omega)]; exact y2)]
        rw [y1, i0] at v1
        exact ⟨v1, g16⟩
    · have hB' : isB bg nc (f (8 + 31 * c + 1)) = false := by simpa using hB
      rw [sDo_out h hc h0 hB']
      dsimp only
      refine ⟨h.own hc (Or.inr (Or.inr (Or.inl ⟨rfl, Or.inr rfl⟩))), ?_⟩
      rw [uf_ne _ _ (by omega), if_neg (by decide), z0]
  · rw [sDo_halt h hc h0]
    refine ⟨h, ?_⟩
    dsimp only
    rw [if_neg (by decide), z0]
theorem WF.do1 {bg f : Nat → Int32} {nc c : Nat} (h : WF f e0) (hc : c < 2) : WF (sDo1 bg nc f c) e0 := by
  obtain ⟨w, -⟩ := h.cm (bg := bg) (nc := nc) hc
  unfold sDo1
  unfold sCm at w
  cases q : sBy bg nc f c with
  | none => exact h
  | some p =>
    rw [q] at w
    exact w.sk hc (i := 16) (Or.inl rfl) _
theorem WF.ps {cd bg : Nat → Int32} {nc : Nat} (hW : WC cd bg nc) : PS (fun f => WF f e0) cd bg nc := fun _ _ hc h => ⟨h.w0, (h.do1 hc).w0, (h.step hc hW).1⟩
theorem sSteps_halt {cd bg f : Nat → Int32} {nc c : Nat} (h : WF f e0) (hc : c < 2) (h1 : f (8 + 31 * c + 15) = nI 1) : ∀ (r : Nat) (s : Int32), sSteps cd bg nc c r s f = (s, f)
  | 0, _ => rfl
  | r + 1, s => by
    unfold sSteps
    rw [sDo_halt h hc h1]
    dsimp only
    rw [if_neg (by decide), show s + nI 0 = s from Int32.add_zero s]
    exact sSteps_halt h hc h1 r s
theorem i32_w (a b y s : Int32) : a + b + (y - (s + b)) = a + (y - s) := by grind
theorem sSteps_WF {cd bg : Nat → Int32} {nc c : Nat} (hc : c < 2) (hW : WC cd bg nc) : ∀ (r : Nat) (s : Int32) (f : Nat → Int32), WF f e0 → WF (sSteps cd bg nc c r s f).2 e0 ∧ (sSteps cd bg nc c r s f).2 (8 + 31 * c + 16) = f (8 + 31 * c + 16) + ((sSteps cd bg nc c r s f).1 - s)
  | 0, s, f, h => ⟨h, by show f _ = f _ + (s - s); rw [Int32.sub_self]; exact (Int32.add_zero _).symm⟩
  | r + 1, s, f, h => by
    obtain ⟨h1, h2⟩ := h.step (cd := cd) (bg := bg) (nc := nc) hc hW
    unfold sSteps
    obtain ⟨w1, w2⟩ := sSteps_WF hc hW r (s + (if (sDo cd bg nc f c).1 = true then nI 1 else nI 0)) _ h1
    refine ⟨w1, ?_⟩
    rw [w2, h2]
    exact i32_w _ _ _ _
