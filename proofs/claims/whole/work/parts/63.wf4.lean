/-! what holds of the numbers behind each call -/
theorem WF.cgA {f f' : Nat → Int32} {e : Nat → Nat} (h : WF f e) (hf : ∀ j, j < 1318 → f' j = f j) : WF f' e :=
  h.cg (fun j hj => hf j (by omega)) (fun c j h1 h2 _ => hf _ (by omega)) (fun p hp => ⟨hf _ (by omega), hf _ (by omega), hf _ (by omega)⟩)
theorem WF.poke {f : Nat → Int32} (h : WF f e0) (k v : Int32) : WF (sf_poke f k v) e0 := by
  unfold sf_poke
  split
  · rename_i q
    unfold okPoke at q
    simp only [Bool.and_eq_true] at q
    obtain ⟨a, a1, a2, rfl⟩ := inR_of q.1.1 (by omega) (by omega)
    obtain ⟨b, b1, b2, rfl⟩ := inR_of q.1.2 (by omega) (by omega)
    rw [nI_clamp (show a < 2 ^ 31 by omega)]
    exact h.mem (by omega) (nb_nI (by omega))
  · exact h
theorem WF.is {f : Nat → Int32} (h : WF f e0) {p s : Nat} (hp : p < 6) (hs : s ≤ 3) (h3 : s = 3 → f (70 + 208 * p + 6) = nI 0) : WF (uf f (70 + 208 * p) (nI s)) e0 := by
  obtain ⟨b1, b2, b3, b4, b5⟩ := h.2.2 p hp
  refine h.prb hp (fun j hj => uf_ne _ _ (by omega)) ⟨⟨s, hs, uf_eq _ _ _⟩, by rw [uf_ne _ _ (by omega)]; exact b2, by rw [uf_ne _ _ (by omega)]; exact b3, b4, fun z => ?_⟩ (fun _ _ _ => rfl)
  rw [uf_eq, nI_eq (by omega) (by omega)] at z
  have := h3 z
  rw [b3, nI_eq (by omega) (by omega)] at this
  exact this
theorem WF.turn {f : Nat → Int32} (h : WF f e0) (p b : Int32) : WF (sf_turn f p b) e0 := by
  unfold sf_turn
  split
  · rename_i q
    unfold okTurn at q
    simp only [Bool.and_eq_true] at q
    obtain ⟨a, a1, a2, rfl⟩ := inR_of q.1.1.1.1 (by omega) (by omega)
    obtain ⟨z, z1, z2, rfl⟩ := inR_of q.1.1.2 (by omega) (by omega)
    rw [nI_clamp (show a < 2 ^ 31 by omega), pk_sub z2]
    exact h.is (by omega) (by omega) (by omega)
  · exact h
theorem WF.rem {f : Nat → Int32} (h : WF f e0) (p : Int32) : WF (sf_rem f p) e0 := by
  unfold sf_rem
  split
  · rename_i q
    unfold okRem at q
    simp only [Bool.and_eq_true] at q
    obtain ⟨a, a1, rfl, -, -⟩ := isPr_of q.1
    rw [nI_clamp (show a < 2 ^ 31 by omega)]
    split
    · rename_i z; exact h.is a1 (by omega) (fun _ => z)
    · exact h.is a1 (by omega) (by omega)
  · exact h
theorem WF.probe {bg f : Nat → Int32} {nc : Nat} (h : WF f e0) (kd x : Int32) : WF (sf_probe bg nc f kd x) e0 := by
  unfold sf_probe
  split
  · rename_i q
    unfold okProbe at q
    simp only [Bool.and_eq_true, Bool.not_eq_true', decide_eq_false_iff_not] at q
    obtain ⟨p, hp, hg⟩ := gone_of q.2
    rw [hg]
    show WF (sProbe f p kd x) e0
    have g3 : f (70 + 208 * p) = nI 3 := by
      have := (fs_lt hg).2.2
      simpa using this
    obtain ⟨b1, b2, b3, b4, b5⟩ := h.2.2 p hp
    have c0 := b5 g3
    have out : ∀ j, (j < 70 + 208 * p ∨ 70 + 208 * p + 208 ≤ j) → sProbe f p kd x j = f j := fun j hj => by
      unfold sProbe; rw [uf_ne _ _ (by omega), uf_ne _ _ (by omega), if_neg (by omega)]
    have ins : ∀ i, i < 208 → i ≠ 1 → i ≠ 2 → sProbe f p kd x (70 + 208 * p + i) = nI 0 := fun i h1 h2 h3 => by
      unfold sProbe; rw [uf_ne _ _ (by omega), uf_ne _ _ (by omega), if_pos (by omega)]
    have i0 : sProbe f p kd x (70 + 208 * p) = nI 0 := ins 0 (by omega) (by omega) (by omega)
    refine h.prb hp out ⟨⟨0, by omega, i0⟩, ⟨0, by omega, ins 7 (by omega) (by omega) (by omega)⟩, ?_, b4, fun z => c0⟩ (fun _ _ _ => rfl)
    rw [c0]
    exact ins 6 (by omega) (by omega) (by omega)
  · exact h
theorem WF.fil {f tx : Nat → Int32} {n : Nat} (h : WF f e0) (hn : n ≤ 200) (p : Int32) : WF (sf_filter f tx n p) e0 := by
  unfold sf_filter
  split
  · rename_i q
    unfold okFil at q
    simp only [Bool.and_eq_true] at q
    obtain ⟨a, a1, rfl, -, -⟩ := isPr_of q.1
    rw [nI_clamp (show a < 2 ^ 31 by omega)]
    have out : ∀ j, (j < 70 + 208 * a + 7 ∨ 70 + 208 * a + 208 ≤ j) → sFil f tx n a j = f j := fun j hj => by
      unfold sFil; rw [if_neg (by omega), uf_ne _ _ (by omega)]
    obtain ⟨b1, b2, b3, b4, b5⟩ := h.2.2 a a1
    exact h.prb a1 (fun j hj => out j (by omega)) ⟨by rw [out _ (by omega)]; exact b1, ⟨n, hn, by unfold sFil; rw [if_neg (by omega), uf_eq]⟩, by rw [out _ (by omega)]; exact b3, b4, by rw [out _ (by omega)]; exact b5⟩ (fun _ _ _ => rfl)
  · exact h
theorem WF.sta {bg f : Nat → Int32} {nc : Nat} (h : WF f e0) (h1 : 1 ≤ nc) (h2 : nc ≤ 60) (c x a : Int32) : WF (sf_start bg nc f c x a) e0 := by
  unfold sf_start
  split
  · rename_i q
    unfold okStart at q
    simp only [Bool.and_eq_true] at q
    obtain ⟨y, y1, y2, rfl⟩ := inR_of q.1.1.1 (by omega) (by omega)
    obtain ⟨z, z1, rfl⟩ := isC_of q.1.1.2 h1 h2
    obtain ⟨w, w1, w2, rfl⟩ := inR_of q.1.2 (by omega) (by omega)
    rw [nI_clamp (show y < 2 ^ 31 by omega)]
    obtain ⟨d, d1, d2, -⟩ := (h.2.1 y (by omega)).2.2.2.1
    rw [d2, nt_nI (by omega)]
    exact h.start (by omega) d2 d1 ⟨z, by omega, rfl⟩ (nb_nI (by omega))
  · exact h
theorem WF.stp {cd bg f : Nat → Int32} {nc : Nat} (h : WF f e0) (hW : WC cd bg nc) (c k : Int32) : WF (sf_step cd bg nc f c k) e0 := by
  unfold sf_step
  split
  · rename_i q
    unfold okStep at q
    simp only [Bool.and_eq_true] at q
    obtain ⟨y, y1, y2, rfl⟩ := inR_of q.1.1 (by omega) (by omega)
    rw [nI_clamp (show y < 2 ^ 31 by omega)]
    exact (sSteps_WF (by omega) hW _ _ f h).1
  · exact h
theorem WF.emp (f : Nat → Int32) : WF (sEmp f) e0 := by
  have lo : ∀ j, j < 70 → sEmp f j = nI 0 := fun j hj => sEmp_0 f hj
  have pc : ∀ p c, c < 2 → pcn (sEmp f) p c = 0 := fun p c hc => by
    unfold pcn
    rw [lo _ (by omega), nt_nI (by omega)]
    rfl
  have ct : ∀ p, cnt (sEmp f) p = 0 := fun p => by unfold cnt; rw [pc p 0 (by omega), pc p 1 (by omega)]
  have hi : ∀ p i, p < 6 → 1 ≤ i → i < 208 → sEmp f (70 + 208 * p + i) = nI 0 := fun p i hp h1 h2 => by
    unfold sEmp; rw [if_pos (by omega), if_neg (by omega)]
  refine ⟨fun k hk => by rw [lo _ (by omega)]; exact nb_nI (by omega), fun c hc => ⟨?_, ⟨0, by omega, lo _ (by omega)⟩, Or.inl (lo _ (by omega)), ⟨0, by omega, lo _ (by omega), fun k hk => by omega⟩, 0, by omega, lo _ (by omega)⟩, fun p hp => ⟨⟨3, by omega, sEmp_3 f hp⟩, ⟨0, by omega, hi p 7 hp (by omega) (by omega)⟩, ?_, ?_, fun _ => ?_⟩⟩
  · rw [lo _ (by omega)]; exact nb_nI (by omega)
  · rw [ct]; exact hi p 6 hp (by omega) (by omega)
  · rw [ct]; show 0 + 0 ≤ 3; omega
  · rw [ct]; rfl
/-- the kept rows -/
def WK (wz : Nat → Int32) (cs : Nat) : Prop := cs ≤ 4 ∧ ∀ j, j < cs → WF (fun k => wz (1318 * j + k)) e0
theorem WK.keep {wz f : Nat → Int32} {cs : Nat} (h : WK wz cs) (hw : WF f e0) : WK (sW wz f cs) (c3 cs + 1) := by
  obtain ⟨h1, h2⟩ := h
  have c3l : c3 cs ≤ 3 := by unfold c3; split <;> omega
  refine ⟨by omega, fun j hj => ?_⟩
  by_cases z : j = c3 cs
  · subst z
    refine hw.cgA (fun k hk => ?_)
    show sW wz f cs (1318 * c3 cs + k) = f k
    unfold sW
    rw [if_pos (by omega)]
    congr 1; omega
  · by_cases y : cs = 4
    · subst y
      have e3 : c3 4 = 3 := rfl
      refine (h2 (j + 1) (by omega)).cgA (fun k hk => ?_)
      show sW wz f 4 (1318 * j + k) = wz (1318 * (j + 1) + k)
      unfold sW sW1
      rw [if_neg (by omega), if_pos rfl]
      rw [if_pos (by omega)]
      congr 1; omega
    · have e3 : c3 cs = cs := by unfold c3; rw [if_neg y]
      refine (h2 j (by omega)).cgA (fun k hk => ?_)
      show sW wz f cs (1318 * j + k) = wz (1318 * j + k)
      unfold sW sW1
      rw [if_neg (by omega), if_neg y]
theorem WK.kp {wz f : Nat → Int32} {cs : Nat} (h : WK wz cs) (hw : WF f e0) (b : Bool) : WK (kpW b wz f cs) (kpC b cs) := by
  unfold kpW kpC
  cases b with
  | false => exact h
  | true => exact h.keep hw
/-- all that holds between two calls -/
def AL (I : am_I) (R : am_R) (K : am_K) : Prop := ∃ (n : Nat) (tx : Nat → Int32) (nc : Nat) (cd bg f : Nat → Int32) (cs : Nat) (wz : Nat → Int32), MK R K ∧ MR I n tx nc cd bg f cs wz ∧ CH I R K n tx nc cd bg f cs wz ∧ WC cd bg nc ∧ WF f e0 ∧ WK wz cs ∧ ∃ j, K.2.1 = 156 + 2 * j
/-- a call of the class and the same call of the reference -/
def PR (m9 m10 : Nat) (l9 l10 : am_L) (I : am_I) (R : am_R) (K : am_K) : Prop := ∃ (I1 I' : am_I) (R' : am_R) (K' : am_K) (v : Int32), ev m9 0 l9 [] (I, R, K) = some (some (.int v), (I1, R', K')) ∧ ev m10 0 l10 [] (I1, R', K') = some (some (.int v), (I', R', K')) ∧ AL I' R' K' ∧ I1 0 = I 0 ∧ I' 0 = I 0 ∧ XE R K R' K' ∧ KG K K'
/-- the class's call first: then the reference's, over a memory in which its own is as it was -/
theorem PR.of {m9 m10 : Nat} {l9 l10 : am_L} {I : am_I} {R : am_R} {K : am_K} {n nc cs n' nc' cs' : Nat} {tx cd bg f wz tx' cd' bg' f' wz' : Nat → Int32} (v : Int32) (hK : MK R K) (hR : MR I n tx nc cd bg f cs wz) (hj : ∃ j, K.2.1 = 156 + 2 * j)
    (h9 : ∃ I1 R' K', ev m9 0 l9 [] (I, R, K) = some (some (.int v), (I1, R', K')) ∧ CH I1 R' K' n' tx' nc' cd' bg' f' cs' wz' ∧ FC I I1 ∧ XE R K R' K' ∧ KG K K')
    (h10 : ∀ I1 R' K', MK R' K' → MR I1 n tx nc cd bg f cs wz → ∃ I', ev m10 0 l10 [] (I1, R', K') = some (some (.int v), (I', R', K')) ∧ MR I' n' tx' nc' cd' bg' f' cs' wz' ∧ FM I1 I')
    (hW : WC cd' bg' nc') (hw : WF f' e0) (hz : WK wz' cs') : PR m9 m10 l9 l10 I R K := by
  obtain ⟨I1, R', K', a1, a2, a3, a4, a5⟩ := h9
  have hK' := hK.xe a4
  obtain ⟨I', b1, b2, b3⟩ := h10 I1 R' K' hK' (hR.fc a3)
  obtain ⟨j, hj⟩ := hj
  refine ⟨I1, I', R', K', v, a1, b1, ⟨n', tx', nc', cd', bg', f', cs', wz', hK', b2, a2.fm b3, hW, hw, hz, ?_⟩, a3 0 (by omega) (by omega), ?_, a4, a5⟩
  · rcases a5.1 with z | z
    · exact ⟨j, by omega⟩
    · exact ⟨j + 1, by omega⟩
  · rw [b3 0 (by omega), a3 0 (by omega) (by omega)]
