/-! each call of the law: the class and the reference answer alike -/
section PA
variable {I : am_I} {R : am_R} {K : am_K}
/-- a call that leaves room as it is -/
theorem k_room {m : Nat} {l : am_L} {v : Int32} {P : am_I → am_R → Prop} (h : ∃ I' R', ev m 0 l [] (I, R, K) = some (some (.int v), (I', R', K)) ∧ P I' R' ∧ FC I I' ∧ XE R K R' K) : ∃ I' R' K', ev m 0 l [] (I, R, K) = some (some (.int v), (I', R', K')) ∧ (K' = K ∧ P I' R') ∧ FC I I' ∧ XE R K R' K' ∧ KG K K' := by
  obtain ⟨I', R', a, b, c, d⟩ := h
  exact ⟨I', R', K, a, ⟨rfl, b⟩, c, d, KG.rf K⟩
variable (h : AL I R K) (a b c : Int32)
theorem p_write (h : AL I R K) : PR 71 108 [some (.ref 3), some (.int a)] [some (.ref 147), some (.int a)] I R K := by
  obtain ⟨n, tx, nc, cd, bg, f, cs, wz, hK, hR, hC, hW, hw, hz, hj⟩ := h
  have hn := hC.2.1.2.2.2.2.2.1
  obtain ⟨I1, k1, k2, k3⟩ := k_write I R K n nc cs tx cd bg f wz hC a
  exact PR.of _ hK hR hj ⟨I1, R, K, k1, k2, k3, XE.rf R K, KG.rf K⟩ (fun J S L g1 g2 => m_write J S L n nc cs tx cd bg f wz g1 g2 hn a) hW hw hz
theorem p_wipe (h : AL I R K) : PR 72 109 [some (.ref 3), none] [some (.ref 147), none] I R K := by
  obtain ⟨n, tx, nc, cd, bg, f, cs, wz, hK, hR, hC, hW, hw, hz, hj⟩ := h
  obtain ⟨I1, k1, k2, k3⟩ := k_wipe I R K n nc cs tx cd bg f wz hC
  exact PR.of _ hK hR hj ⟨I1, R, K, k1, k2, k3, XE.rf R K, KG.rf K⟩ (fun J S L g1 g2 => m_wipe J S L n nc cs tx cd bg f wz g1 g2) hW hw hz
theorem p_fault (h : AL I R K) : PR 73 110 [some (.ref 3)] [some (.ref 147)] I R K := by
  obtain ⟨n, tx, nc, cd, bg, f, cs, wz, hK, hR, hC, hW, hw, hz, hj⟩ := h
  have hn := hC.2.1.2.2.2.2.2.1
  obtain ⟨I1, k1, k2, k3⟩ := k_fault I R K n nc cs tx cd bg f wz hC
  exact PR.of _ hK hR hj ⟨I1, R, K, k1, k2, k3, XE.rf R K, KG.rf K⟩ (fun J S L g1 g2 => m_fault J S L n nc cs tx cd bg f wz g1 g2 hn) hW hw hz
theorem p_lay (h : AL I R K) : PR 74 111 [some (.ref 3)] [some (.ref 147), none] I R K := by
  obtain ⟨n, tx, nc, cd, bg, f, cs, wz, hK, hR, hC, hW, hw, hz, hj⟩ := h
  have hn := hC.2.1.2.2.2.2.2.1
  obtain ⟨I1, k1, k2, k3⟩ := k_lay I R K n nc cs tx cd bg f wz hC
  cases q : okLay tx n with
  | true =>
    rw [q, if_pos rfl] at k2
    refine PR.of _ hK hR hj ⟨I1, R, K, k1, k2, k3, XE.rf R K, KG.rf K⟩ (fun J S L g1 g2 => ?_) (lay_WC q) (WF.emp f) ⟨by omega, fun j hj => by omega⟩
    obtain ⟨I', t1, t2, t3⟩ := m_lay J S L n nc cs tx cd bg f wz g1 g2 hn
    rw [q, if_pos rfl] at t2
    exact ⟨I', t1, t2, t3⟩
  | false =>
    rw [q, if_neg (by decide)] at k2
    refine PR.of _ hK hR hj ⟨I1, R, K, k1, k2, k3, XE.rf R K, KG.rf K⟩ (fun J S L g1 g2 => ?_) hW hw hz
    obtain ⟨I', t1, t2, t3⟩ := m_lay J S L n nc cs tx cd bg f wz g1 g2 hn
    rw [q, if_neg (by decide)] at t2
    exact ⟨I', t1, t2, t3⟩
theorem p_probe (h : AL I R K) : PR 75 126 [some (.ref 3), some (.int a), some (.int b), none] [some (.ref 147), some (.int a), some (.int b), none, none] I R K := by
  obtain ⟨n, tx, nc, cd, bg, f, cs, wz, hK, hR, hC, hW, hw, hz, hj⟩ := h
  obtain ⟨I1, R1, k1, k2, k3, k4⟩ := k_probe I R K n nc cs tx cd bg f wz hC hw hW a b
  exact PR.of _ hK hR hj ⟨I1, R1, K, k1, k2, k3, k4, KG.rf K⟩ (fun J S L g1 g2 => m_probe J S L n nc cs tx cd bg f wz g1 g2 hz.1 hW.1 hW.2.1 a b) hW (hw.probe a b) (hz.kp hw _)
theorem p_turn (h : AL I R K) : PR 76 127 [some (.ref 3), some (.int a), some (.int b), none, none] [some (.ref 147), some (.int a), some (.int b), none] I R K := by
  obtain ⟨n, tx, nc, cd, bg, f, cs, wz, hK, hR, hC, hW, hw, hz, hj⟩ := h
  obtain ⟨I1, R1, k1, k2, k3, k4⟩ := k_turn I R K n nc cs tx cd bg f wz hC hw a b
  exact PR.of _ hK hR hj ⟨I1, R1, K, k1, k2, k3, k4, KG.rf K⟩ (fun J S L g1 g2 => m_turn J S L n nc cs tx cd bg f wz g1 g2 hz.1 a b) hW (hw.turn a b) (hz.kp hw _)
theorem p_remove (h : AL I R K) : PR 77 128 [some (.ref 3), some (.int a), none] [some (.ref 147), some (.int a), none] I R K := by
  obtain ⟨n, tx, nc, cd, bg, f, cs, wz, hK, hR, hC, hW, hw, hz, hj⟩ := h
  obtain ⟨I1, R1, k1, k2, k3, k4⟩ := k_remove I R K n nc cs tx cd bg f wz hC hw a
  exact PR.of _ hK hR hj ⟨I1, R1, K, k1, k2, k3, k4, KG.rf K⟩ (fun J S L g1 g2 => m_remove J S L n nc cs tx cd bg f wz g1 g2 hz.1 a) hW (hw.rem a) (hz.kp hw _)
theorem p_filter (h : AL I R K) : PR 78 129 [some (.ref 3), some (.int a), none] [some (.ref 147), some (.int a), none, none] I R K := by
  obtain ⟨n, tx, nc, cd, bg, f, cs, wz, hK, hR, hC, hW, hw, hz, hj⟩ := h
  have hn := hC.2.1.2.2.2.2.2.1
  obtain ⟨j, ej⟩ := id hj
  exact PR.of _ hK hR hj (k_filter I R K n nc cs tx cd bg f wz hC hw j ej a) (fun J S L g1 g2 => m_filter J S L n nc cs tx cd bg f wz g1 g2 hz.1 hn a) hW (hw.fil hn a) (hz.kp hw _)
theorem p_start (h : AL I R K) : PR 79 140 [some (.ref 3), some (.int a), some (.int b), some (.int c), none, none] [some (.ref 147), some (.int a), some (.int b), some (.int c), none, none, none] I R K := by
  obtain ⟨n, tx, nc, cd, bg, f, cs, wz, hK, hR, hC, hW, hw, hz, hj⟩ := h
  obtain ⟨I1, R1, k1, k2, k3, k4⟩ := k_start I R K n nc cs tx cd bg f wz hC hw hW a b c
  exact PR.of _ hK hR hj ⟨I1, R1, K, k1, k2, k3, k4, KG.rf K⟩ (fun J S L g1 g2 => m_start J S L n nc cs tx cd bg f wz g1 g2 hz.1 hW hw.w0 a b c) hW (hw.sta hW.1 hW.2.1 a b c) (hz.kp hw _)
theorem p_step (h : AL I R K) : PR 80 139 [some (.ref 3), some (.int a), some (.int b), none, none, none] [some (.ref 147), some (.int a), some (.int b), none, none] I R K := by
  obtain ⟨n, tx, nc, cd, bg, f, cs, wz, hK, hR, hC, hW, hw, hz, hj⟩ := h
  obtain ⟨I1, R1, k1, k2, k3, k4⟩ := k_step I R K n nc cs tx cd bg f wz hC hw hW a b
  exact PR.of _ hK hR hj ⟨I1, R1, K, k1, k2, k3, k4, KG.rf K⟩ (fun J S L g1 g2 => m_step J S L n nc cs tx cd bg f wz g1 g2 hz.1 hW (fun f => WF f e0) (WF.ps hW) hw a b) hW (hw.stp hW a b) (hz.kp hw _)
theorem p_poke (h : AL I R K) : PR 81 141 [some (.ref 3), some (.int a), some (.int b), none] [some (.ref 147), some (.int a), some (.int b), none] I R K := by
  obtain ⟨n, tx, nc, cd, bg, f, cs, wz, hK, hR, hC, hW, hw, hz, hj⟩ := h
  obtain ⟨I1, R1, k1, k2, k3, k4⟩ := k_poke I R K n nc cs tx cd bg f wz hC hw a b
  exact PR.of _ hK hR hj ⟨I1, R1, K, k1, k2, k3, k4, KG.rf K⟩ (fun J S L g1 g2 => m_poke J S L n nc cs tx cd bg f wz g1 g2 hz.1 a b) hW (hw.poke a b) (hz.kp hw _)
theorem p_undo (h : AL I R K) : PR 82 118 [some (.ref 3)] [some (.ref 147), none] I R K := by
  obtain ⟨n, tx, nc, cd, bg, f, cs, wz, hK, hR, hC, hW, hw, hz, hj⟩ := h
  obtain ⟨I1, R1, k1, k2, k3, k4⟩ := k_undo I R K n nc cs tx cd bg f wz hC (fun z => hz.2 (cs - 1) (by omega))
  by_cases q : cs = 0
  · rw [if_pos q] at k1 k2
    refine PR.of _ hK hR hj ⟨I1, R1, K, k1, k2, k3, k4, KG.rf K⟩ (fun J S L g1 g2 => ?_) hW hw hz
    have := m_undo J S L g1 cs hz.1 g2.2.2.2.2.2.2.1
    rw [if_pos q] at this
    exact ⟨J, this, g2, FM.rf J⟩
  · rw [if_neg q] at k1 k2
    refine PR.of _ hK hR hj ⟨I1, R1, K, k1, k2, k3, k4, KG.rf K⟩ (fun J S L g1 g2 => ?_) hW ((hz.2 (cs - 1) (by omega)).cgA (fun k hk => by unfold sU; rw [if_pos hk])) ⟨by have := hz.1; omega, fun j hj => hz.2 j (by omega)⟩
    have := m_undo J S L g1 cs hz.1 g2.2.2.2.2.2.2.1
    rw [if_neg q] at this
    obtain ⟨r1, r2, r3, r4, r5, r6, r7, r8⟩ := g2
    refine ⟨_, this, ⟨?_, ?_, ?_, ?_, ?_, ?_, ?_, ?_⟩, (FM.st J _ (by omega) (by omega)).tr (FM.st _ _ (by omega) (by omega))⟩
    · rw [st_ne _ _ (by omega), st_eq, uf_ne _ _ (by omega)]; exact r1
    · rw [st_ne _ _ (by omega), st_ne _ _ (by omega)]; exact r2
    · rw [st_ne _ _ (by omega), st_eq, uf_ne _ _ (by omega)]; exact r3
    · rw [st_ne _ _ (by omega), st_ne _ _ (by omega)]; exact r4
    · rw [st_ne _ _ (by omega), st_ne _ _ (by omega)]; exact r5
    · rw [st_eq, r8, r6]
    · rw [st_ne _ _ (by omega), st_eq, uf_eq]
    · rw [st_ne _ _ (by omega), st_ne _ _ (by omega)]; exact r8
theorem p_code (h : AL I R K) : PR 83 142 [some (.ref 3), some (.int a), some (.int b), none] [some (.ref 147), some (.int a), some (.int b), none] I R K := by
  obtain ⟨n, tx, nc, cd, bg, f, cs, wz, hK, hR, hC, hW, hw, hz, hj⟩ := h
  exact PR.of _ hK hR hj ⟨I, R, K, k_code I R K n nc cs tx cd bg f wz hC hW a b, hC, FC.rf I, XE.rf R K, KG.rf K⟩ (fun J S L g1 g2 => ⟨J, m_code J S L n nc cs tx cd bg f wz g1 g2 hW.1 hW.2.1 a b, g2, FM.rf J⟩) hW hw hz
theorem p_memory (h : AL I R K) : PR 84 143 [some (.ref 3), some (.int a)] [some (.ref 147), some (.int a)] I R K := by
  obtain ⟨n, tx, nc, cd, bg, f, cs, wz, hK, hR, hC, hW, hw, hz, hj⟩ := h
  exact PR.of _ hK hR hj ⟨I, R, K, k_memory I R K n nc cs tx cd bg f wz hC a, hC, FC.rf I, XE.rf R K, KG.rf K⟩ (fun J S L g1 g2 => ⟨J, m_memory J S L n nc cs tx cd bg f wz g1 g2 a, g2, FM.rf J⟩) hW hw hz
theorem p_processor (h : AL I R K) : PR 85 144 [some (.ref 3), some (.int a), some (.int b), none] [some (.ref 147), some (.int a), some (.int b), none] I R K := by
  obtain ⟨n, tx, nc, cd, bg, f, cs, wz, hK, hR, hC, hW, hw, hz, hj⟩ := h
  exact PR.of _ hK hR hj ⟨I, R, K, k_processor I R K n nc cs tx cd bg f wz hC hw a b, hC, FC.rf I, XE.rf R K, KG.rf K⟩ (fun J S L g1 g2 => ⟨J, m_processor J S L n nc cs tx cd bg f wz g1 g2 a b, g2, FM.rf J⟩) hW hw hz
theorem p_returns (h : AL I R K) : PR 86 145 [some (.ref 3), some (.int a), some (.int b), some (.int c), none, none] [some (.ref 147), some (.int a), some (.int b), some (.int c), none] I R K := by
  obtain ⟨n, tx, nc, cd, bg, f, cs, wz, hK, hR, hC, hW, hw, hz, hj⟩ := h
  exact PR.of _ hK hR hj ⟨I, R, K, k_returns I R K n nc cs tx cd bg f wz hC hw a b c, hC, FC.rf I, XE.rf R K, KG.rf K⟩ (fun J S L g1 g2 => ⟨J, m_returns J S L n nc cs tx cd bg f wz g1 g2 (fun c hc => by
    obtain ⟨d, d1, d2, -⟩ := hw.dd hc
    exact ⟨d, d1, d2⟩) a b c, g2, FM.rf J⟩) hW hw hz
theorem p_ring (h : AL I R K) : PR 87 146 [some (.ref 3), some (.int a), some (.int b), some (.int c), none] [some (.ref 147), some (.int a), some (.int b), some (.int c), none] I R K := by
  obtain ⟨n, tx, nc, cd, bg, f, cs, wz, hK, hR, hC, hW, hw, hz, hj⟩ := h
  exact PR.of _ hK hR hj ⟨I, R, K, k_ring I R K n nc cs tx cd bg f wz hC hw a b c, hC, FC.rf I, XE.rf R K, KG.rf K⟩ (fun J S L g1 g2 => ⟨J, m_ring J S L n nc cs tx cd bg f wz g1 g2 (fun c hc => (hw.2.1 c hc).2.2.2.2) a b c, g2, FM.rf J⟩) hW hw hz
theorem p_look (h : AL I R K) : PR 88 147 [some (.ref 3), some (.int a), some (.int b), none] [some (.ref 147), some (.int a), some (.int b), none] I R K := by
  obtain ⟨n, tx, nc, cd, bg, f, cs, wz, hK, hR, hC, hW, hw, hz, hj⟩ := h
  exact PR.of _ hK hR hj ⟨I, R, K, k_look I R K n nc cs tx cd bg f wz hC a b, hC, FC.rf I, XE.rf R K, KG.rf K⟩ (fun J S L g1 g2 => ⟨J, m_look J S L n nc cs tx cd bg f wz g1 g2 a b, g2, FM.rf J⟩) hW hw hz
theorem p_asked (h : AL I R K) : PR 89 116 [some (.ref 3), some (.int a)] [some (.ref 147), some (.int a), none] I R K := by
  obtain ⟨n, tx, nc, cd, bg, f, cs, wz, hK, hR, hC, hW, hw, hz, hj⟩ := h
  have hn := hC.2.1.2.2.2.2.2.1
  obtain ⟨I1, k1, k2, k3⟩ := k_asked I R K n nc cs tx cd bg f wz hC hw a
  exact PR.of _ hK hR hj ⟨I1, R, K, k1, k2, k3, XE.rf R K, KG.rf K⟩ (fun J S L g1 g2 => m_asked J S L n nc cs tx cd bg f wz g1 g2 hn a) hW hw hz
theorem p_ever (h : AL I R K) : PR 90 148 [some (.ref 3), some (.int a), some (.int b), some (.int c), none, none] [some (.ref 147), some (.int a), some (.int b), some (.int c), none, none, none] I R K := by
  obtain ⟨n, tx, nc, cd, bg, f, cs, wz, hK, hR, hC, hW, hw, hz, hj⟩ := h
  obtain ⟨I1, k1, k2, k3⟩ := k_ever I R K n nc cs tx cd bg f wz hC hw hW a b c
  refine PR.of _ hK hR hj ⟨I1, R, K, k1, k2, k3, XE.rf R K, KG.rf K⟩ (fun J S L g1 g2 => ?_) hW hw hz
  obtain ⟨I', g, e1, e2, e3, e4⟩ := m_ever J S L n nc cs tx cd bg f wz g1 g2 hW (fun g => ∃ e, WF g e) (fun c hc => WF.qs hc hW) (fun g hg => ⟨e0, hw.cgA hg⟩) a b c
  rw [(ever_e (cd := cd) (bg := bg) (nc := nc) hW hw e1 a b c).1] at e2
  exact ⟨I', e2, e3, e4⟩
theorem p_count (h : AL I R K) : PR 91 150 [some (.ref 3), some (.int a)] [some (.ref 147), some (.int a), none, none] I R K := by
  obtain ⟨n, tx, nc, cd, bg, f, cs, wz, hK, hR, hC, hW, hw, hz, hj⟩ := h
  exact PR.of _ hK hR hj ⟨I, R, K, k_count I R K n nc cs tx cd bg f wz hC a, hC, FC.rf I, XE.rf R K, KG.rf K⟩ (fun J S L g1 g2 => ⟨J, m_count J S L n nc cs tx cd bg f wz g1 g2 hW.2.1 a, g2, FM.rf J⟩) hW hw hz
end PA
