/-! what holds of the numbers ahead of and behind every call -/
/-- how many of d returns of a processor at t are held by p -/
def hcp (f : Nat → Int32) (t p : Nat) : Nat → Nat
  | 0 => 0
  | k + 1 => hcp f t p k + (if f (t + 9 + k) = nI (p + 1) then 1 else 0)
def pcn (f : Nat → Int32) (p c : Nat) : Nat := hcp f (8 + 31 * c) p (nt (f (8 + 31 * c + 2)))
def cnt (f : Nat → Int32) (p : Nat) : Nat := pcn f p 0 + pcn f p 1
def WFP (f : Nat → Int32) (c : Nat) : Prop := nb (f (8 + 31 * c)) ∧ (∃ x, x < 1000 ∧ f (8 + 31 * c + 1) = nI x) ∧ (f (8 + 31 * c + 15) = nI 0 ∨ f (8 + 31 * c + 15) = nI 1) ∧ (∃ d, d ≤ 6 ∧ f (8 + 31 * c + 2) = nI d ∧ ∀ k, k < d → (∃ q, q < 1000 ∧ f (8 + 31 * c + 3 + k) = nI q) ∧ ∃ q, q ≤ 6 ∧ f (8 + 31 * c + 9 + k) = nI q) ∧ ∃ n, n ≤ 4 ∧ f (8 + 31 * c + 17) = nI n
def WFB (f : Nat → Int32) (p e : Nat) : Prop := (∃ s, s ≤ 3 ∧ f (70 + 208 * p) = nI s) ∧ (∃ m, m ≤ 200 ∧ f (70 + 208 * p + 7) = nI m) ∧ f (70 + 208 * p + 6) = nI (cnt f p + e) ∧ cnt f p + e ≤ 3 ∧ (f (70 + 208 * p) = nI 3 → cnt f p + e = 0)
def WF (f : Nat → Int32) (e : Nat → Nat) : Prop := (∀ k, k < 8 → nb (f k)) ∧ (∀ c, c < 2 → WFP f c) ∧ ∀ p, p < 6 → WFB f p (e p)
def e0 : Nat → Nat := fun _ => 0
/-- a holder's number h says who has one more than is counted -/
def ih1 (h : Nat) : Nat → Nat := fun q => if q + 1 = h then 1 else 0
theorem hcp_cg {f f' : Nat → Int32} {t p : Nat} : ∀ {d : Nat}, (∀ k, k < d → f' (t + 9 + k) = f (t + 9 + k)) → hcp f' t p d = hcp f t p d
  | 0, _ => rfl
  | k + 1, h => by
    unfold hcp
    rw [hcp_cg (fun j hj => h j (by omega)), h k (by omega)]
theorem hcp_uf {f : Nat → Int32} {t p : Nat} (v : Int32) : ∀ {d k : Nat}, k < d → hcp (uf f (t + 9 + k) v) t p d + (if f (t + 9 + k) = nI (p + 1) then 1 else 0) = hcp f t p d + (if v = nI (p + 1) then 1 else 0)
  | 0, _, h => by omega
  | d + 1, k, h => by
    unfold hcp
    by_cases e : k = d
    · subst e
      rw [hcp_cg (f := f) (fun j hj => uf_ne _ _ (by omega)), uf_eq]
      omega
    · have := hcp_uf (f := f) (t := t) (p := p) v (d := d) (k := k) (by omega)
      rw [uf_ne _ _ (by omega)]
      omega
theorem hcp_0 {f : Nat → Int32} {t p : Nat} (hp : p < 6) : ∀ {d : Nat}, (∀ k, k < d → f (t + 9 + k) = nI 0) → hcp f t p d = 0
  | 0, _ => rfl
  | k + 1, h => by
    unfold hcp
    rw [hcp_0 hp (fun j hj => h j (by omega)), h k (by omega), if_neg (by rw [nI_eq (by omega) (by omega)]; omega)]
theorem hcp_pos {f : Nat → Int32} {t p : Nat} : ∀ {d k : Nat}, k < d → f (t + 9 + k) = nI (p + 1) → 1 ≤ hcp f t p d
  | 0, _, h, _ => by omega
  | d + 1, k, h, hf => by
    unfold hcp
    by_cases e : k = d
    · subst e; rw [if_pos hf]; omega
    · have := hcp_pos (f := f) (t := t) (p := p) (d := d) (k := k) (by omega) hf
      omega
theorem WFP.d {f : Nat → Int32} {c : Nat} (h : WFP f c) : nt (f (8 + 31 * c + 2)) ≤ 6 := by
  obtain ⟨-, -, -, ⟨d, h1, h2, -⟩, -⟩ := h
  rw [h2, nt_nI (by omega)]; exact h1
theorem WFP.cg {f f' : Nat → Int32} {c : Nat} (h : WFP f c) (hf : ∀ j, j ≤ 17 → j ≠ 16 → f' (8 + 31 * c + j) = f (8 + 31 * c + j)) : WFP f' c := by
  obtain ⟨h1, h2, h3, ⟨d, d1, d2, d3⟩, h5⟩ := h
  have g0 : f' (8 + 31 * c) = f (8 + 31 * c) := hf 0 (by omega) (by omega)
  refine ⟨by rw [g0]; exact h1, by rw [hf 1 (by omega) (by omega)]; exact h2, by rw [hf 15 (by omega) (by omega)]; exact h3, ⟨d, d1, by rw [hf 2 (by omega) (by omega)]; exact d2, fun k hk => ?_⟩, by rw [hf 17 (by omega) (by omega)]; exact h5⟩
  rw [show 8 + 31 * c + 3 + k = 8 + 31 * c + (3 + k) by omega, show 8 + 31 * c + 9 + k = 8 + 31 * c + (9 + k) by omega, hf _ (by omega) (by omega), hf _ (by omega) (by omega), show 8 + 31 * c + (3 + k) = 8 + 31 * c + 3 + k by omega, show 8 + 31 * c + (9 + k) = 8 + 31 * c + 9 + k by omega]
  exact d3 k hk
theorem pcn_cg {f f' : Nat → Int32} {p c : Nat} (h : WFP f c) (hf : ∀ j, j ≤ 17 → j ≠ 16 → f' (8 + 31 * c + j) = f (8 + 31 * c + j)) : pcn f' p c = pcn f p c := by
  have hd := h.d
  unfold pcn
  rw [hf 2 (by omega) (by omega)]
  exact hcp_cg (fun k hk => by rw [show 8 + 31 * c + 9 + k = 8 + 31 * c + (9 + k) by omega]; exact hf _ (by omega) (by omega))
theorem cnt_c {f : Nat → Int32} {p c : Nat} (hc : c < 2) : cnt f p = pcn f p c + pcn f p (1 - c) := by
  have : c = 0 ∨ c = 1 := by omega
  unfold cnt
  rcases this with rfl | rfl
  · rfl
  · exact Nat.add_comm _ _
theorem cnt_cg {f f' : Nat → Int32} {p : Nat} (h : ∀ c, c < 2 → WFP f c) (hf : ∀ c j, c < 2 → j ≤ 17 → j ≠ 16 → f' (8 + 31 * c + j) = f (8 + 31 * c + j)) : cnt f' p = cnt f p := by
  unfold cnt
  rw [pcn_cg (h 0 (by omega)) (fun j => hf 0 j (by omega)), pcn_cg (h 1 (by omega)) (fun j => hf 1 j (by omega))]
theorem WF.cg {f f' : Nat → Int32} {e : Nat → Nat} (h : WF f e) (h1 : ∀ j, j < 8 → f' j = f j) (h2 : ∀ c j, c < 2 → j ≤ 17 → j ≠ 16 → f' (8 + 31 * c + j) = f (8 + 31 * c + j)) (h3 : ∀ p, p < 6 → f' (70 + 208 * p) = f (70 + 208 * p) ∧ f' (70 + 208 * p + 6) = f (70 + 208 * p + 6) ∧ f' (70 + 208 * p + 7) = f (70 + 208 * p + 7)) : WF f' e := by
  obtain ⟨w1, w2, w3⟩ := h
  refine ⟨fun k hk => by rw [h1 k hk]; exact w1 k hk, fun c hc => (w2 c hc).cg (fun j => h2 c j hc), fun p hp => ?_⟩
  obtain ⟨y1, y2, y3⟩ := h3 p hp
  unfold WFB
  rw [y1, y2, y3, cnt_cg w2 h2]
  exact w3 p hp
/-- one processor's numbers change -/
theorem WF.pro {f f' : Nat → Int32} {e e' : Nat → Nat} {c : Nat} (h : WF f e) (hc : c < 2) (ho : ∀ j, (j < 8 + 31 * c ∨ 8 + 31 * c + 31 ≤ j) → f' j = f j) (hp : WFP f' c) (he : ∀ p, p < 6 → pcn f' p c + e' p = pcn f p c + e p) : WF f' e' := by
  obtain ⟨w1, w2, w3⟩ := h
  have oth : ∀ j, j ≤ 17 → j ≠ 16 → f' (8 + 31 * (1 - c) + j) = f (8 + 31 * (1 - c) + j) := fun j _ _ => ho _ (by omega)
  refine ⟨fun k hk => by rw [ho k (by omega)]; exact w1 k hk, fun c' hc' => ?_, fun p hp => ?_⟩
  · by_cases z : c' = c
    · rw [z]; exact hp
    · have : c' = 1 - c := by omega
      rw [this]
      exact (w2 _ (by omega)).cg oth
  · have ec : cnt f' p + e' p = cnt f p + e p := by
      rw [cnt_c hc, cnt_c hc, pcn_cg (w2 (1 - c) (by omega)) oth]
      have := he p hp
      omega
    obtain ⟨b1, b2, b3, b4, b5⟩ := w3 p hp
    unfold WFB
    rw [ec, ho _ (by omega), ho _ (by omega), ho _ (by omega)]
    exact ⟨b1, b2, b3, b4, b5⟩
/-- one probe's numbers change -/
theorem WF.prb {f f' : Nat → Int32} {e e' : Nat → Nat} {p : Nat} (h : WF f e) (hp : p < 6) (ho : ∀ j, (j < 70 + 208 * p ∨ 70 + 208 * p + 208 ≤ j) → f' j = f j) (hb : (∃ s, s ≤ 3 ∧ f' (70 + 208 * p) = nI s) ∧ (∃ m, m ≤ 200 ∧ f' (70 + 208 * p + 7) = nI m) ∧ f' (70 + 208 * p + 6) = nI (cnt f p + e' p) ∧ cnt f p + e' p ≤ 3 ∧ (f' (70 + 208 * p) = nI 3 → cnt f p + e' p = 0)) (he : ∀ q, q < 6 → q ≠ p → e' q = e q) : WF f' e' := by
  obtain ⟨w1, w2, w3⟩ := h
  have ec : ∀ q, cnt f' q = cnt f q := fun q => cnt_cg w2 (fun c j _ _ _ => ho _ (by omega))
  refine ⟨fun k hk => by rw [ho k (by omega)]; exact w1 k hk, fun c hc => (w2 c hc).cg (fun j _ _ => ho _ (by omega)), fun q hq => ?_⟩
  unfold WFB
  rw [ec]
  by_cases z : q = p
  · subst z; exact hb
  · rw [he q hq z, ho _ (by omega), ho _ (by omega), ho _ (by omega)]
    exact w3 q hq
theorem WF.w0 {f : Nat → Int32} {e : Nat → Nat} (h : WF f e) : WF0 f := ⟨fun p hp => (h.2.2 p hp).2.1, fun c hc => (h.2.1 c hc).2.2.2.2, fun c hc => (h.2.1 c hc).2.2.2.1⟩
theorem WF.wb {f : Nat → Int32} {e : Nat → Nat} (h : WF f e) : WB f := ⟨(h.2.1 0 (by omega)).2.2.1, (h.2.1 1 (by omega)).2.2.1⟩
/-- places that aren't looked at -/
theorem WF.sk {f : Nat → Int32} {e : Nat → Nat} (h : WF f e) {c i : Nat} (hc : c < 2) (hi : i = 16 ∨ (18 ≤ i ∧ i ≤ 30)) (v : Int32) : WF (uf f (8 + 31 * c + i) v) e :=
  h.cg (fun j hj => uf_ne _ _ (by omega)) (fun c' j h1 h2 h3 => uf_ne _ _ (by omega)) (fun p hp => ⟨uf_ne _ _ (by omega), uf_ne _ _ (by omega), uf_ne _ _ (by omega)⟩)
theorem WF.sb {f : Nat → Int32} {e : Nat → Nat} (h : WF f e) {p i : Nat} (hp : p < 6) (hi : (1 ≤ i ∧ i ≤ 5) ∨ (8 ≤ i ∧ i < 208)) (v : Int32) : WF (uf f (70 + 208 * p + i) v) e :=
  h.cg (fun j hj => uf_ne _ _ (by omega)) (fun c j h1 h2 h3 => uf_ne _ _ (by omega)) (fun q hq => ⟨uf_ne _ _ (by omega), uf_ne _ _ (by omega), uf_ne _ _ (by omega)⟩)
theorem WF.mem {f : Nat → Int32} {e : Nat → Nat} (h : WF f e) {k : Nat} (hk : k < 8) {v : Int32} (hv : nb v) : WF (uf f k v) e := by
  obtain ⟨w1, w2, w3⟩ := h
  have h2 : ∀ c j, c < 2 → j ≤ 17 → j ≠ 16 → uf f k v (8 + 31 * c + j) = f (8 + 31 * c + j) := fun c j _ _ _ => uf_ne _ _ (by omega)
  refine ⟨fun i hi => ?_, fun c hc => (w2 c hc).cg (fun j => h2 c j hc), fun p hp => ?_⟩
  · by_cases z : i = k
    · subst z; rw [uf_eq]; exact hv
    · rw [uf_ne _ _ z]; exact w1 i hi
  · unfold WFB
    rw [cnt_cg w2 h2, uf_ne _ _ (by omega), uf_ne _ _ (by omega), uf_ne _ _ (by omega)]
    exact w3 p hp
/-- a number of a processor that no count hangs on -/
theorem WF.own {f : Nat → Int32} {e : Nat → Nat} (h : WF f e) {c i : Nat} (hc : c < 2) {v : Int32} (hi : (i = 0 ∧ nb v) ∨ (i = 1 ∧ ∃ x, x < 1000 ∧ v = nI x) ∨ (i = 15 ∧ (v = nI 0 ∨ v = nI 1)) ∨ (i = 17 ∧ ∃ n, n ≤ 4 ∧ v = nI n)) : WF (uf f (8 + 31 * c + i) v) e := by
  have w := h.2.1 c hc
  refine h.pro hc (fun j hj => uf_ne _ _ (by omega)) ?_ (fun p hp => ?_)
  · obtain ⟨h1, h2, h3, ⟨d, d1, d2, d3⟩, h5⟩ := w
    refine ⟨?_, ?_, ?_, ⟨d, d1, by rw [uf_ne _ _ (by omega)]; exact d2, fun k hk => by rw [uf_ne _ _ (by omega), uf_ne _ _ (by omega)]; exact d3 k hk⟩, ?_⟩
    · rcases hi with ⟨rfl, z⟩ | ⟨rfl, z⟩ | ⟨rfl, z⟩ | ⟨rfl, z⟩
      · rw [Nat.add_zero, uf_eq]; exact z
      all_goals (rw [uf_ne _ _ (by omega)]; exact h1)
    · rcases hi with ⟨rfl, z⟩ | ⟨rfl, z⟩ | ⟨rfl, z⟩ | ⟨rfl, z⟩
      · rw [uf_ne _ _ (by omega)]; exact h2
      · rw [uf_eq]; exact z
      all_goals (rw [uf_ne _ _ (by omega)]; exact h2)
    · rcases hi with ⟨rfl, z⟩ | ⟨rfl, z⟩ | ⟨rfl, z⟩ | ⟨rfl, z⟩
      · rw [uf_ne _ _ (by omega)]; exact h3
      · rw [uf_ne _ _ (by omega)]; exact h3
      · rw [uf_eq]; exact z
      · rw [uf_ne _ _ (by omega)]; exact h3
    · rcases hi with ⟨rfl, z⟩ | ⟨rfl, z⟩ | ⟨rfl, z⟩ | ⟨rfl, z⟩
      · rw [uf_ne _ _ (by omega)]; exact h5
      · rw [uf_ne _ _ (by omega)]; exact h5
      · rw [uf_ne _ _ (by omega)]; exact h5
      · rw [uf_eq]; exact z
  · have hd := w.d
    unfold pcn
    rw [uf_ne f v (show 8 + 31 * c + 2 ≠ 8 + 31 * c + i by omega), hcp_cg (fun k hk => uf_ne _ _ (by omega))]
theorem WF.ring {f : Nat → Int32} {e : Nat → Nat} (h : WF f e) {c n : Nat} (hc : c < 2) (hn : n ≤ 4) (p : Int32) : WF (sRing f (8 + 31 * c) n p) e := by
  have q := sRing_eqs f (8 + 31 * c) n p hn
  have h1 : WF (uf f (8 + 31 * c + 17) (nI (rn1 n + 1))) e := h.own hc (Or.inr (Or.inr (Or.inr ⟨rfl, rn1 n + 1, by unfold rn1; split <;> omega, rfl⟩)))
  refine h1.cg (fun j hj => ?_) (fun c' j h1 h2 h3 => ?_) (fun p hp => ⟨?_, ?_, ?_⟩)
  · rw [q.1 _ (by omega), uf_ne _ _ (by omega)]
  · by_cases z : c' = c ∧ j = 17
    · obtain ⟨rfl, rfl⟩ := z
      rw [q.2.1, uf_eq]
    · rw [uf_ne _ _ (by omega), q.1 _ (by omega)]
  · rw [q.1 _ (by omega), uf_ne _ _ (by omega)]
  · rw [q.1 _ (by omega), uf_ne _ _ (by omega)]
  · rw [q.1 _ (by omega), uf_ne _ _ (by omega)]
theorem WF.hit {f : Nat → Int32} {e : Nat → Nat} (h : WF f e) {p c m n : Nat} (hp : p < 6) (hc : c < 2) (hn : n ≤ 4) : WF (sHit f p c m n) e := by
  unfold sHit
  have h1 := h.sb hp (i := 3) (Or.inl (by omega)) (f (70 + 208 * p + 3) + nI 1)
  dsimp only
  split
  · exact h1.sb hp (i := 4) (Or.inl (by omega)) _
  · exact h1.ring hc hn _
/-- a holder is set at the top or taken off -/
theorem WFP.hold {f : Nat → Int32} {c k q : Nat} (h : WFP f c) (hq : q ≤ 6) (hk : k < 6) : WFP (uf f (8 + 31 * c + 9 + k) (nI q)) c := by
  obtain ⟨h1, h2, h3, ⟨d, d1, d2, d3⟩, h5⟩ := h
  refine ⟨by rw [uf_ne _ _ (by omega)]; exact h1, by rw [uf_ne _ _ (by omega)]; exact h2, by rw [uf_ne _ _ (by omega)]; exact h3, ⟨d, d1, by rw [uf_ne _ _ (by omega)]; exact d2, fun j hj => ?_⟩, by rw [uf_ne _ _ (by omega)]; exact h5⟩
  refine ⟨by rw [uf_ne _ _ (by omega)]; exact (d3 j hj).1, ?_⟩
  by_cases z : j = k
  · subst z; rw [uf_eq]; exact ⟨q, hq, rfl⟩
  · rw [uf_ne _ _ (by omega)]; exact (d3 j hj).2
theorem pcn_hold {f : Nat → Int32} {c k p d : Nat} (hd : f (8 + 31 * c + 2) = nI d) (hd6 : d ≤ 6) (hk : k < d) (v : Int32) : pcn (uf f (8 + 31 * c + 9 + k) v) p c + (if f (8 + 31 * c + 9 + k) = nI (p + 1) then 1 else 0) = pcn f p c + (if v = nI (p + 1) then 1 else 0) := by
  unfold pcn
  rw [uf_ne _ _ (show 8 + 31 * c + 2 ≠ 8 + 31 * c + 9 + k by omega), hd, nt_nI (by omega)]
  exact hcp_uf v hk
theorem ind_e {h q : Nat} (hh : h ≤ 6) (hq : q < 6) : (if nI h = nI (q + 1) then 1 else 0) = ih1 h q := by
  unfold ih1
  by_cases z : q + 1 = h
  · rw [if_pos (by rw [z]), if_pos z]
  · rw [if_neg (by rw [nI_eq (by omega) (by omega)]; omega), if_neg z]
