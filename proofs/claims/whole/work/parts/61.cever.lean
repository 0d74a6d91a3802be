/-! the class: ever -/
/-- the same but for the steps -/
def AG (t : Nat) (f' f : Nat → Int32) : Prop := ∀ j, j < 70 → j ≠ t + 16 → f' j = f j
theorem AG.up {t : Nat} {f' f : Nat → Int32} (h : AG t f' f) (i : Nat) (v : Int32) : AG t (uf f' i v) (uf f i v) := fun j h1 h2 => by
  unfold uf
  split
  · rfl
  · exact h j h1 h2
theorem sI_ag {cd f f' : Nat → Int32} {t d x nc : Nat} (h : AG t f' f) (hW : WL cd nc x) (hd : d ≤ 6) (h8 : 8 ≤ t) (h39 : t ≤ 39) : AG t (sI cd f' t d x).1 (sI cd f t d x).1 ∧ (sI cd f' t d x).2 = (sI cd f t d x).2 := by
  have e0 : f' t = f t := h t (by omega) (by omega)
  rcases hW with (q | q | q | q) | ⟨q, hx1, kk, hk, hk2⟩ | ⟨q, hx2, a, b, ha, hb, ha2, hb2⟩
  · rw [sI_105 q, sI_105 q, e0]; exact ⟨h.up _ _, rfl⟩
  · rw [sI_100 q, sI_100 q, e0]; exact ⟨h.up _ _, rfl⟩
  · rw [sI_114 q, sI_114 q]
    split
    · exact ⟨h.up _ _, rfl⟩
    · exact ⟨h.up _ _, h _ (by omega) (by omega)⟩
  · rw [sI_104 q, sI_104 q]; exact ⟨h.up _ _, rfl⟩
  · have e1 : dig1 cd x = kk := dig1_eq hk2 hk
    have ek : f' kk = f kk := h _ (by omega) (by omega)
    rcases q with q | q | q
    · rw [sI_108 q, sI_108 q, e1, ek]; exact ⟨h.up _ _, rfl⟩
    · rw [sI_115 q, sI_115 q, e0]; exact ⟨h.up _ _, rfl⟩
    · rw [sI_112 q, sI_112 q, e1, ek, e0]; exact ⟨h.up _ _, rfl⟩
  · rcases q with q | q | q
    · rw [sI_106 q, sI_106 q]; exact ⟨h, rfl⟩
    · rw [sI_122 q, sI_122 q, e0]; exact ⟨h, rfl⟩
    · rw [sI_99 q, sI_99 q]
      split
      · exact ⟨h.up _ _, rfl⟩
      · exact ⟨((h.up _ _).up _ _).up _ _, rfl⟩
/-- as the class goes: steps aren't counted -/
def cGo (cd bg : Nat → Int32) (nc : Nat) (f : Nat → Int32) (t d : Nat) : Nat → Int32 :=
  if f (t + 15) = nI 1 then f else if isB bg nc (f (t + 1)) = false then uf f (t + 15) (nI 1) else
    uf (sI cd f t d (f (t + 1)).toNatClampNeg).1 (t + 1) (sI cd f t d (f (t + 1)).toNatClampNeg).2
def cGos (cd bg : Nat → Int32) (nc t : Nat) : Nat → (Nat → Int32) → (Nat → Int32)
  | 0, f => f
  | r + 1, f => cGos cd bg nc t r (cGo cd bg nc f t (nt (f (t + 2))))
theorem cGo_ag {cd bg f f' : Nat → Int32} {nc t d : Nat} (h : AG t f' f) (hW : WC cd bg nc) (hd : d ≤ 6) (h8 : 8 ≤ t) (h39 : t ≤ 39) : AG t (sGo cd bg nc f' t d).2 (cGo cd bg nc f t d) := by
  have w60 := hW.2.1
  unfold sGo cGo
  rw [h (t + 15) (by omega) (by omega), h (t + 1) (by omega) (by omega)]
  by_cases q0 : f (t + 15) = nI 1
  · rw [if_pos q0, if_pos q0]; exact h
  · rw [if_neg q0, if_neg q0]
    by_cases q1 : isB bg nc (f (t + 1)) = false
    · rw [if_pos q1, if_pos q1]; exact h.up _ _
    · rw [if_neg q1, if_neg q1]
      obtain ⟨x, hx, hx2, hx3⟩ := isB_of (nf q1) hW.1 hW.2.1
      rw [hx2, nI_clamp (show x < 2 ^ 31 by omega)]
      have h1 : AG t (uf f' (t + 16) (f' (t + 16) + nI 1)) f := fun j j1 j2 => by rw [uf_ne _ _ j2]; exact h j j1 j2
      obtain ⟨e1, e2⟩ := sI_ag h1 (hW.2.2 x hx hx3) hd h8 h39
      rw [e2]
      exact e1.up _ _
theorem WF.go {cd bg f : Nat → Int32} {nc c d : Nat} {e : Nat → Nat} (h : WF f e) (hc : c < 2) (hW : WC cd bg nc) (hd : f (8 + 31 * c + 2) = nI d) (hd6 : d ≤ 6) : (∃ e', WF (sGo cd bg nc f (8 + 31 * c) d).2 e') ∧ ∃ e', WF (cGo cd bg nc f (8 + 31 * c) d) e' := by
  have w60 := hW.2.1
  unfold sGo cGo
  by_cases q0 : f (8 + 31 * c + 15) = nI 1
  · rw [if_pos q0, if_pos q0]; exact ⟨⟨e, h⟩, e, h⟩
  · rw [if_neg q0, if_neg q0]
    by_cases q1 : isB bg nc (f (8 + 31 * c + 1)) = false
    · rw [if_pos q1, if_pos q1]
      have := h.own hc (i := 15) (v := nI 1) (Or.inr (Or.inr (Or.inl ⟨rfl, Or.inr rfl⟩)))
      exact ⟨⟨e, this⟩, e, this⟩
    · rw [if_neg q1, if_neg q1]
      obtain ⟨x, hx, hx2, hx3⟩ := isB_of (nf q1) hW.1 hW.2.1
      rw [hx2, nI_clamp (show x < 2 ^ 31 by omega)]
      obtain ⟨k, -, k1, -⟩ := (h.sk hc (i := 16) (Or.inl rfl) (f (8 + 31 * c + 16) + nI 1)).insE hc (hW.2.2 x hx hx3) hx hW.2.1 (by rw [uf_ne _ _ (by omega)]; exact hd) hd6
      obtain ⟨k', -, k2, -⟩ := h.insE hc (hW.2.2 x hx hx3) hx hW.2.1 hd hd6
      exact ⟨⟨_, k1⟩, _, k2⟩
theorem WF.dd {f : Nat → Int32} {e : Nat → Nat} (h : WF f e) {c : Nat} (hc : c < 2) : ∃ d, d ≤ 6 ∧ f (8 + 31 * c + 2) = nI d ∧ (d ≠ 0 → ∃ q, q < 1000 ∧ f (8 + 31 * c + 2 + d) = nI q) := by
  obtain ⟨d, d1, d2, d3⟩ := (h.2.1 c hc).2.2.2.1
  refine ⟨d, d1, d2, fun d0 => ?_⟩
  obtain ⟨⟨q, q1, q2⟩, -⟩ := d3 (d - 1) (by omega)
  exact ⟨q, q1, by rw [← q2]; congr 1; omega⟩
theorem WF.qs {cd bg : Nat → Int32} {nc c : Nat} (hc : c < 2) (hW : WC cd bg nc) : QS (fun g => ∃ e, WF g e) cd bg nc (8 + 31 * c) := fun g hg => by
  obtain ⟨e, h⟩ := hg
  obtain ⟨d, d1, d2, d3⟩ := h.dd hc
  refine ⟨⟨d, d1, d2, d3⟩, ?_⟩
  rw [d2, nt_nI (by omega)]
  exact (h.go hc hW d2 d1).1
theorem cGos_ag {cd bg : Nat → Int32} {nc c : Nat} (hc : c < 2) (hW : WC cd bg nc) : ∀ (r : Nat) (f' f : Nat → Int32) (e : Nat → Nat), AG (8 + 31 * c) f' f → WF f e → AG (8 + 31 * c) (sGos cd bg nc (8 + 31 * c) r f') (cGos cd bg nc (8 + 31 * c) r f)
  | 0, _, _, _, h, _ => h
  | r + 1, f', f, e, h, hw => by
    obtain ⟨d, d1, d2, d3⟩ := hw.dd hc
    unfold sGos cGos
    rw [h (8 + 31 * c + 2) (by omega) (by omega), d2, nt_nI (by omega)]
    obtain ⟨-, e', w⟩ := hw.go (cd := cd) (bg := bg) (nc := nc) hc hW d2 d1
    exact cGos_ag hc hW r _ _ e' (cGo_ag h hW d1 (by omega) (by omega)) w
theorem cu_cg {g g' : Nat → Int32} : ∀ {r p : Nat} {n : Int32}, (∀ k, p ≤ k → k < p + r → g' k = g k) → cu g' r p n = cu g r p n
  | 0, _, _, _ => rfl
  | r + 1, p, n, h => by
    unfold cu
    rw [h p (by omega) (by omega), cu_cg (fun k h1 h2 => h k (by omega) (by omega))]
theorem everV_ag {t : Nat} {g g' : Nat → Int32} (h : AG t g' g) (h8 : 8 ≤ t) (h39 : t ≤ 39) (w : Int32) : sp_everV g' t w = sp_everV g t w := by
  unfold sp_everV
  rw [h (t + 1) (by omega) (by omega), h t (by omega) (by omega), h (t + 2) (by omega) (by omega), h (t + 15) (by omega) (by omega), cu_cg (g := g) (fun k _ hk => h k (by omega) (by omega))]
theorem ever_e {cd bg f g : Nat → Int32} {nc : Nat} (hW : WC cd bg nc) (hw : WF f e0) (hg : ∀ j, j < 1318 → g j = f j) (c k w : Int32) : sp_ever cd bg nc g c k w = sp_ever cd bg nc f c k w ∧ (okEver c k w = true → sp_ever cd bg nc f c k w = sp_everV (cGos cd bg nc (8 + 31 * c.toNatClampNeg) k.toNatClampNeg f) (8 + 31 * c.toNatClampNeg) w) := by
  by_cases q : okEver c k w = true
  · have e1 : ∀ g, sp_ever cd bg nc g c k w = sp_everV (sGos cd bg nc (8 + 31 * c.toNatClampNeg) k.toNatClampNeg g) (8 + 31 * c.toNatClampNeg) w := fun g => by
      unfold sp_ever; rw [if_pos q]
    have c0 : inR c 0 1 = true := by
      unfold okEver at q
      simp only [Bool.and_eq_true] at q
      exact q.1.1
    obtain ⟨y, y1, y2, y3⟩ := inR_of c0 (by omega) (by omega)
    rw [e1, e1, y3, nI_clamp (show y < 2 ^ 31 by omega)]
    have a1 := cGos_ag (cd := cd) (bg := bg) (nc := nc) (c := y) (by omega) hW k.toNatClampNeg g f e0 (fun j h1 _ => hg j (by omega)) hw
    have a2 := cGos_ag (cd := cd) (bg := bg) (nc := nc) (c := y) (by omega) hW k.toNatClampNeg f f e0 (fun j _ _ => rfl) hw
    have b1 := everV_ag a1 (by omega) (by omega) w
    have b2 := everV_ag a2 (by omega) (by omega) w
    exact ⟨b1.trans b2.symm, fun _ => b2⟩
  · have e1 : ∀ g, sp_ever cd bg nc g c k w = -1 := fun g => by
      unfold sp_ever; rw [if_neg q]
    exact ⟨by rw [e1, e1], fun z => absurd z q⟩
theorem RQ.hal {I : am_I} {a t : Nat} {f : Nat → Int32} (h : RQ I a f t) (v : Int32) : RQ (st I a (uf (I a) 6 v)) a (uf f (t + 15) v) t := by
  obtain ⟨⟨g1, g2, g3, g4, g5, g6, g7⟩, ⟨d, d1, d2, d3⟩, n, n1, n2, n3⟩ := h
  have ne : ∀ (b k : Nat), b ≠ a → st I a (uf (I a) 6 v) b k = I b k := fun b k hb => by rw [st_ne _ _ hb]
  refine ⟨⟨by first | assumption | (simp (disch := omega) only [st_eq, st_ne, uf_eq, uf_ne]; done) | (simp (disch := omega) only [st_eq, st_ne, uf_eq, uf_ne]; assumption), by first | assumption | (simp (disch := omega) only [st_eq, st_ne, uf_eq, uf_ne]; done) | (simp (disch := omega) only [st_eq, st_ne, uf_eq, uf_ne]; assumption), by first | assumption | (simp (disch := omega) only [st_eq, st_ne, uf_eq, uf_ne]; done) | (simp (disch := omega) only [st_eq, st_ne, uf_eq, uf_ne]; assumption), by first | assumption | (simp (disch := omega) only [st_eq, st_ne, uf_eq, uf_ne]; done) | (simp (disch := omega) only [st_eq, st_ne, uf_eq, uf_ne]; assumption), by first | assumption | (simp (disch := omega) only [st_eq, st_ne, uf_eq, uf_ne]; done) | (simp (disch := omega) only [st_eq, st_ne, uf_eq, uf_ne]; assumption), by first | assumption | (simp (disch := omega) only [st_eq, st_ne, uf_eq, uf_ne]; done) | (simp (disch := omega) only [st_eq, st_ne, uf_eq, uf_ne]; assumption), by first | assumption | (simp (disch := omega) only [st_eq, st_ne, uf_eq, uf_ne]; done) | (simp (disch := omega) only [st_eq, st_ne, uf_eq, uf_ne]; assumption)⟩, ⟨d, d1, by rw [uf_ne _ _ (by omega)]; exact d2, fun k hk => by rw [ne _ _ (by omega), ne _ _ (by omega), uf_ne _ _ (by omega), uf_ne _ _ (by omega)]; exact d3 k hk⟩, n, n1, by rw [uf_ne _ _ (by omega)]; exact n2, fun k hk => by rw [ne _ _ (by omega), ne _ _ (by omega), ne _ _ (by omega), uf_ne _ _ (by omega), uf_ne _ _ (by omega), uf_ne _ _ (by omega)]; exact n3 k hk⟩
section DN
variable (R : am_R) (K : am_K)
theorem cGos_halt {cd bg f : Nat → Int32} {nc t : Nat} (h : f (t + 15) = nI 1) : ∀ r, cGos cd bg nc t r f = f
  | 0 => rfl
  | r + 1 => by
    unfold cGos
    have : cGo cd bg nc f t (nt (f (t + 2))) = f := by unfold cGo; rw [if_pos h]
    rw [this]
    exact cGos_halt h r
theorem k_egos (hX : XL R K) (hp : PL R K 138) (hm : ML R K 145) (nc q k : Nat) (cd bg : Nat → Int32) (b : Nat → Bool) (hbe : BE bg b) (hW : WC cd bg nc) (hq : q < 2) (hk : k ≤ 60) (l1 l3 l4 : Option Value) : ∀ (r i : Nat) (I : am_I) (g : Nat → Int32) (e : Nat → Nat), i + r = k → RC I R K 6 nc cd b → RQ I 138 g (8 + 31 * q) → (∀ j, j < 8 → I (145 + 1) j = g j) → WF g e → ∃ I' l5, ev 90 62 [some (.ref 3), l1, some (.int (nI k)), l3, l4, some (.int (nI i))] [] (I, R, K) = ev 90 113 [some (.ref 3), l1, some (.int (nI k)), l3, l4, l5] [] (I', R, K) ∧ RQ I' 138 (cGos cd bg nc (8 + 31 * q) r g) (8 + 31 * q) ∧ (∀ j, j < 8 → I' (145 + 1) j = cGos cd bg nc (8 + 31 * q) r g j) ∧ (∃ e', WF (cGos cd bg nc (8 + 31 * q) r g) e') ∧ (∀ a, (a < 138 ∨ 147 ≤ a) → I' a = I a) := by
  obtain ⟨x1, xt, xl, xd, xn, xh, xs, xp, xm⟩ := id hX
  have kp := hp.1.1
  have km := hm.1
  intro r
  induction r with
  | zero =>
    intro i I g e hi hC hQ hM hw
    have hi : i = k := by omega
    subst hi
    refine ⟨I, some (.int (nI i)), ?_, hQ, hM, ⟨e, hw⟩, fun _ _ => rfl⟩
    simp (disch := first | assumption | omega | exact ixN (by assumption) (by omega) (by omega) | exact ne_10 | exact ne_1000 | exact ne_4) only [s90_62, s90_64, s90_65, ↓reduceIte, eq_self, Option.bind_some, Option.bind_none, Option.toList_some, Option.toList_none, List.cons_append, List.nil_append, am_rf_s, am_rf_n, am_c1_i, am_c1_r, am_c1_n, List.all_cons, List.all_nil, Bool.and_self, Bool.and_true, Bool.true_and, List.length_cons, List.length_nil, Nat.reduceAdd, Nat.reduceSub, Nat.reduceMul, Nat.reduceLeDiff, Nat.reduceLT, Nat.zero_le, Nat.le_refl, ne_10, ne_1000, ne_4, not_false_eq_true, or_true, true_or, Nat.one_ne_zero, Nat.zero_ne_one, Nat.reduceEqDiff, Bool.true_eq_false, Bool.false_eq_true, n10, nI_leI]
  | succ r ih =>
    intro i I g e hi hC hQ hM hw
    have q0 : ¬ k ≤ i := by omega
    have kl := hC.1.1
    have w60 := hW.2.1
    have i6 : I 138 6 = g (8 + 31 * q + 15) := hQ.1.2.2.2.1
    have i4 : I 138 4 = g (8 + 31 * q + 1) := hQ.1.2.1
    rcases (hw.2.1 q hq).2.2.1 with h0 | h0
    · rw [h0] at i6
      obtain ⟨d, d1, d2, -⟩ := hw.dd hq
      have ia := c_isAt I R K 138 6 nc cd b hp hC i6
      rw [i4, ← isB_bA hbe hW.1 hW.2.1] at ia
      unfold cGos
      rw [d2, nt_nI (by omega)]
      by_cases hB : isB bg nc (g (8 + 31 * q + 1)) = true
      · have hB' : ¬ isB bg nc (g (8 + 31 * q + 1)) = false := by rw [hB]; decide
        rw [if_neg hB', hB] at ia
        obtain ⟨x, hx, hx2, hx3⟩ := isB_of hB hW.1 hW.2.1
        obtain ⟨I1, p1, p2, p3, p4⟩ := c_perform I R K 138 145 6 (8 + 31 * q) nc x d cd g b hp hm hC (by omega) (by omega) hQ hM hx2 hx (hW.2.2 x hx hx3) d2 d1 (by omega) (hw.2.1 q hq).1
        have ec : cGo cd bg nc g (8 + 31 * q) d = uf (sI cd g (8 + 31 * q) d x).1 (8 + 31 * q + 1) (sI cd g (8 + 31 * q) d x).2 := by
          unfold cGo
          rw [h0, if_neg n01, if_neg hB', hx2, nI_clamp (show x < 2 ^ 31 by omega)]
        rw [← ec] at p2 p3
        obtain ⟨e', we⟩ := (hw.go (cd := cd) (bg := bg) (nc := nc) hq hW d2 d1).2
        obtain ⟨I2, l5, w1, w2, w3, w4, w5⟩ := ih (i + 1) I1 _ e' (by omega) (hC.up (XE.rf R K) (p4 7 (by omega) (by omega) (by omega) (by omega)) (p4 8 (by omega) (by omega) (by omega) (by omega)) (p4 9 (by omega) (by omega) (by omega) (by omega))) p2 p3 we
        refine ⟨I2, l5, ?_, w2, w3, w4, fun a ha => by rw [w5 a ha, p4 a (by omega) (by omega) (by omega) (by omega)]⟩
        rw [s90_62]
        simp (disch := first | assumption | omega | exact ixN (by assumption) (by omega) (by omega) | exact ne_10 | exact ne_1000 | exact ne_4) only [s90_64, s90_65, s90_68, s90_68a, s90_69, s90_72, s90_75, s90_78, s90_78a, s90_79, s90_82, s90_82a, s90_83, s90_86, s90_89, s90_92, s90_92a, s90_93, s90_96, s90_96a, s90_97, s90_100, s90_100a, s90_101, s90_104, s90_107, s90_110, ↓reduceIte, eq_self, Option.bind_some, Option.bind_none, Option.toList_some, Option.toList_none, List.cons_append, List.nil_append, am_rf_s, am_rf_n, am_c1_i, am_c1_r, am_c1_n, List.all_cons, List.all_nil, Bool.and_self, Bool.and_true, Bool.true_and, List.length_cons, List.length_nil, Nat.reduceAdd, Nat.reduceSub, Nat.reduceMul, Nat.reduceLeDiff, Nat.reduceLT, Nat.zero_le, Nat.le_refl, ne_10, ne_1000, ne_4, not_false_eq_true, or_true, true_or, Nat.one_ne_zero, Nat.zero_ne_one, Nat.reduceEqDiff, Bool.true_eq_false, Bool.false_eq_true, n10, nI_leI, nI_add, q0, xp, xm, xl, i6, ia, bI_t, p1, w1]
      · have hB' : isB bg nc (g (8 + 31 * q + 1)) = false := by simpa using hB
        rw [if_pos hB', hB'] at ia
        have ec : cGo cd bg nc g (8 + 31 * q) d = uf g (8 + 31 * q + 15) (nI 1) := by
          unfold cGo
          rw [h0, if_neg n01, if_pos hB']
        rw [ec]
        obtain ⟨I2, l5, w1, w2, w3, w4, w5⟩ := ih (i + 1) (st I 138 (uf (I 138) 6 (nI 1))) (uf g (8 + 31 * q + 15) (nI 1)) e (by omega) (hC.up (XE.rf R K) (st_ne _ _ (by omega)) (st_ne _ _ (by omega)) (st_ne _ _ (by omega))) (hQ.hal (nI 1)) (fun j hj => by rw [st_ne _ _ (by omega), uf_ne _ _ (by omega)]; exact hM j hj) (hw.own hq (Or.inr (Or.inr (Or.inl ⟨rfl, Or.inr rfl⟩))))
        refine ⟨I2, l5, ?_, w2, w3, w4, fun a ha => by rw [w5 a ha, st_ne _ _ (by omega)]⟩
        rw [s90_62]
        simp (disch := first | assumption | omega | exact ixN (by assumption) (by omega) (by omega) | exact ne_10 | exact ne_1000 | exact ne_4) only [s90_64, s90_65, s90_68, s90_68a, s90_69, s90_72, s90_75, s90_78, s90_78a, s90_79, s90_82, s90_82a, s90_83, s90_86, s90_89, s90_92, s90_92a, s90_93, s90_96, s90_96a, s90_97, s90_100, s90_100a, s90_101, s90_104, s90_107, s90_110, ↓reduceIte, eq_self, Option.bind_some, Option.bind_none, Option.toList_some, Option.toList_none, List.cons_append, List.nil_append, am_rf_s, am_rf_n, am_c1_i, am_c1_r, am_c1_n, List.all_cons, List.all_nil, Bool.and_self, Bool.and_true, Bool.true_and, List.length_cons, List.length_nil, Nat.reduceAdd, Nat.reduceSub, Nat.reduceMul, Nat.reduceLeDiff, Nat.reduceLT, Nat.zero_le, Nat.le_refl, ne_10, ne_1000, ne_4, not_false_eq_true, or_true, true_or, Nat.one_ne_zero, Nat.zero_ne_one, Nat.reduceEqDiff, Bool.true_eq_false, Bool.false_eq_true, n10, nI_leI, nI_add, q0, xp, xl, i6, ia, bI_f, w1]
    · rw [h0] at i6
      rw [cGos_halt h0]
      refine ⟨I, some (.int (nI i)), ?_, hQ, hM, ⟨e, hw⟩, fun _ _ => rfl⟩
      simp (disch := first | assumption | omega | exact ixN (by assumption) (by omega) (by omega) | exact ne_10 | exact ne_1000 | exact ne_4) only [s90_62, s90_64, s90_65, s90_68, s90_68a, s90_69, s90_72, s90_75, ↓reduceIte, eq_self, Option.bind_some, Option.bind_none, Option.toList_some, Option.toList_none, List.cons_append, List.nil_append, am_rf_s, am_rf_n, am_c1_i, am_c1_r, am_c1_n, List.all_cons, List.all_nil, Bool.and_self, Bool.and_true, Bool.true_and, List.length_cons, List.length_nil, Nat.reduceAdd, Nat.reduceSub, Nat.reduceMul, Nat.reduceLeDiff, Nat.reduceLT, Nat.zero_le, Nat.le_refl, ne_10, ne_1000, ne_4, not_false_eq_true, or_true, true_or, Nat.one_ne_zero, Nat.zero_ne_one, Nat.reduceEqDiff, Bool.true_eq_false, Bool.false_eq_true, n10, nI_leI, q0, xp, i6]
end DN
section DO
variable (I : am_I) (R : am_R) (K : am_K) (n nc cs : Nat) (tx cd bg f wz : Nat → Int32)
theorem k_ever (h : CH I R K n tx nc cd bg f cs wz) (hw : WF f e0) (hW : WC cd bg nc) (c k w : Int32) : ∃ I', ev 90 0 [some (.ref 3), some (.int c), some (.int k), some (.int w), none, none] [] (I, R, K) = some (some (.int (sp_ever cd bg nc f c k w)), (I', R, K)) ∧ CH I' R K n tx nc cd bg f cs wz ∧ FC I I' := by
  obtain ⟨x1, xt, xl, xd, xn, xh, xs, xp, xm⟩ := id h.1.1
  have sb := h.1.2.2.2.1
  have kb := sb.1.1
  have p138 := h.1.2.2.2.2.2.2.1
  have m145 := h.1.2.2.2.2.2.2.2
  have kp := p138.1.1
  have km := m145.1
  have rm : R 14 0 = some 15 := sb.2.1.1
  by_cases c0 : inR c 0 1 = false
  · have pn := k_prn I R K n nc cs tx cd bg f wz h c c0
    have e : sp_ever cd bg nc f c k w = -1 := by unfold sp_ever okEver; rw [c0]; rfl
    rw [e]
    refine ⟨I, ?_, h, FC.rf I⟩
    simp (disch := first | assumption | omega | exact ixN (by assumption) (by omega) (by omega) | exact ne_10 | exact ne_1000 | exact ne_4) only [s90_0, s90_0a, s90_1, s90_4, s90_5, s90_8, s90_8a, s90_10, s90_10a, s90_12, s90_12a, s90_15, s90_16, s90_17, s90_19, s90_22, s90_25, s90_26, s90_27, s90_28, s90_31, s90_34, s90_35, s90_36, s90_36a, s90_37, s90_40, s90_40a, s90_42, s90_45, s90_45a, s90_46, s90_49, s90_49a, s90_50, s90_53, s90_56, s90_59, s90_60, s90_62, s90_64, s90_65, s90_68, s90_68a, s90_69, s90_72, s90_75, s90_78, s90_78a, s90_79, s90_82, s90_82a, s90_83, s90_86, s90_89, s90_92, s90_92a, s90_93, s90_96, s90_96a, s90_97, s90_100, s90_100a, s90_101, s90_104, s90_107, s90_110, s90_113, s90_114, s90_115, s90_118, s90_118a, s90_119, s90_122, s90_125, s90_128, s90_128a, s90_129, s90_132, s90_133, s90_136, ↓reduceIte, eq_self, Option.bind_some, Option.bind_none, Option.toList_some, Option.toList_none, List.cons_append, List.nil_append, am_rf_s, am_rf_n, am_c1_i, am_c1_r, am_c1_n, List.all_cons, List.all_nil, Bool.and_self, Bool.and_true, Bool.true_and, List.length_cons, List.length_nil, Nat.reduceAdd, Nat.reduceSub, Nat.reduceMul, Nat.reduceLeDiff, Nat.reduceLT, Nat.zero_le, Nat.le_refl, ne_10, ne_1000, ne_4, not_false_eq_true, or_true, true_or, Nat.one_ne_zero, Nat.zero_ne_one, Nat.reduceEqDiff, Bool.true_eq_false, Bool.false_eq_true, n10, xn, pn]
  · have c0' := nf c0
    obtain ⟨q, q1, q2, rfl⟩ := inR_of c0' (by omega) (by omega)
    have pn := k_pro I R K n nc cs tx cd bg f wz h q (by omega)
    have pl := sb.q (c := q) (by omega)
    have kq := pl.1.1
    by_cases c1 : inR k 0 60 = false
    · have e : sp_ever cd bg nc f (nI q) k w = -1 := by unfold sp_ever okEver; rw [c1]; simp
      rw [e]
      refine ⟨I, ?_, h, FC.rf I⟩
      simp (disch := first | assumption | omega | exact ixN (by assumption) (by omega) (by omega) | exact ne_10 | exact ne_1000 | exact ne_4) only [s90_0, s90_0a, s90_1, s90_4, s90_5, s90_8, s90_8a, s90_10, s90_10a, s90_12, s90_12a, s90_15, s90_16, s90_17, s90_19, s90_22, s90_25, s90_26, s90_27, s90_28, s90_31, s90_34, s90_35, s90_36, s90_36a, s90_37, s90_40, s90_40a, s90_42, s90_45, s90_45a, s90_46, s90_49, s90_49a, s90_50, s90_53, s90_56, s90_59, s90_60, s90_62, s90_64, s90_65, s90_68, s90_68a, s90_69, s90_72, s90_75, s90_78, s90_78a, s90_79, s90_82, s90_82a, s90_83, s90_86, s90_89, s90_92, s90_92a, s90_93, s90_96, s90_96a, s90_97, s90_100, s90_100a, s90_101, s90_104, s90_107, s90_110, s90_113, s90_114, s90_115, s90_118, s90_118a, s90_119, s90_122, s90_125, s90_128, s90_128a, s90_129, s90_132, s90_133, s90_136, ↓reduceIte, eq_self, Option.bind_some, Option.bind_none, Option.toList_some, Option.toList_none, List.cons_append, List.nil_append, am_rf_s, am_rf_n, am_c1_i, am_c1_r, am_c1_n, List.all_cons, List.all_nil, Bool.and_self, Bool.and_true, Bool.true_and, List.length_cons, List.length_nil, Nat.reduceAdd, Nat.reduceSub, Nat.reduceMul, Nat.reduceLeDiff, Nat.reduceLT, Nat.zero_le, Nat.le_refl, ne_10, ne_1000, ne_4, not_false_eq_true, or_true, true_or, Nat.one_ne_zero, Nat.zero_ne_one, Nat.reduceEqDiff, Bool.true_eq_false, Bool.false_eq_true, n10, xn, pn, c_within, inR_e, c1, bI_f]
    · have c1' := nf c1
      by_cases c2 : inR w 0 4 = false
      · have e : sp_ever cd bg nc f (nI q) k w = -1 := by unfold sp_ever okEver; rw [c2]; simp
        rw [e]
        refine ⟨I, ?_, h, FC.rf I⟩
        simp (disch := first | assumption | omega | exact ixN (by assumption) (by omega) (by omega) | exact ne_10 | exact ne_1000 | exact ne_4) only [s90_0, s90_0a, s90_1, s90_4, s90_5, s90_8, s90_8a, s90_10, s90_10a, s90_12, s90_12a, s90_15, s90_16, s90_17, s90_19, s90_22, s90_25, s90_26, s90_27, s90_28, s90_31, s90_34, s90_35, s90_36, s90_36a, s90_37, s90_40, s90_40a, s90_42, s90_45, s90_45a, s90_46, s90_49, s90_49a, s90_50, s90_53, s90_56, s90_59, s90_60, s90_62, s90_64, s90_65, s90_68, s90_68a, s90_69, s90_72, s90_75, s90_78, s90_78a, s90_79, s90_82, s90_82a, s90_83, s90_86, s90_89, s90_92, s90_92a, s90_93, s90_96, s90_96a, s90_97, s90_100, s90_100a, s90_101, s90_104, s90_107, s90_110, s90_113, s90_114, s90_115, s90_118, s90_118a, s90_119, s90_122, s90_125, s90_128, s90_128a, s90_129, s90_132, s90_133, s90_136, ↓reduceIte, eq_self, Option.bind_some, Option.bind_none, Option.toList_some, Option.toList_none, List.cons_append, List.nil_append, am_rf_s, am_rf_n, am_c1_i, am_c1_r, am_c1_n, List.all_cons, List.all_nil, Bool.and_self, Bool.and_true, Bool.true_and, List.length_cons, List.length_nil, Nat.reduceAdd, Nat.reduceSub, Nat.reduceMul, Nat.reduceLeDiff, Nat.reduceLT, Nat.zero_le, Nat.le_refl, ne_10, ne_1000, ne_4, not_false_eq_true, or_true, true_or, Nat.one_ne_zero, Nat.zero_ne_one, Nat.reduceEqDiff, Bool.true_eq_false, Bool.false_eq_true, n10, xn, pn, c_within, inR_e, c1', bI_t, c2, bI_f]
      · have c2' := nf c2
        have ok : okEver (nI q) k w = true := by unfold okEver; rw [c0', c1', c2']; rfl
        rw [(ever_e (cd := cd) (bg := bg) (nc := nc) hW hw (g := f) (fun _ _ => rfl) (nI q) k w).2 ok]
        obtain ⟨m, m1, m2, rfl⟩ := inR_of c1' (by omega) (by omega)
        obtain ⟨v, v1, v2, rfl⟩ := inR_of c2' (by omega) (by omega)
        rw [nI_clamp (show q < 2 ^ 31 by omega), nI_clamp (show m < 2 ^ 31 by omega)]
        have sq := h.2.2.2.2.1.q (c := q) (by omega)
        obtain ⟨J, j1, j2, j3, j4, j5, j6, j7⟩ := c_pcopy I R K 138 (17 + 7 * q) p138 pl (by omega) (by rw [sq.1.2.2.2.1]; exact (hw.2.1 q (by omega)).2.2.1)
        have rq := sq.copy j2 j3 j4 j5 j6
        have mc := c_mcopy K J R 145 15 m145 sb.2.2.1
        obtain ⟨J2, hJ2⟩ : ∃ J2, J2 = st J (145 + 1) (cpy 8 (J (15 + 1)) (J (145 + 1))) := ⟨_, rfl⟩
        rw [← hJ2] at mc
        have o2 : ∀ a, a ≠ 146 → J2 a = J a := fun a ha => by rw [hJ2, st_ne _ _ ha]
        have o3 : ∀ a, (a < 138 ∨ 147 ≤ a) → J2 a = I a := fun a ha => by rw [o2 a (by omega), j7 a (by omega)]
        have rq2 : RQ J2 138 f (8 + 31 * q) := rq.cg (fun j hj => o2 _ (by omega)) (fun _ _ _ => rfl)
        have mm : ∀ j, j < 8 → J2 (145 + 1) j = f j := fun j hj => by
          rw [hJ2, st_eq, cpy_lt hj, j7 (15 + 1) (by omega)]
          exact h.2.2.2.2.1.1 j hj
        obtain ⟨b, rc, be⟩ := h.2.2.1
        obtain ⟨J3, l5, w1, w2, w3, ⟨e', w4⟩, w5⟩ := k_egos R K h.1.1 p138 m145 nc q m cd bg b be hW (by omega) (by omega) (some (.int (nI q))) (some (.int (nI v))) (some (.ref (17 + 7 * q))) m 0 J2 f e0 (by omega) (rc.up (XE.rf R K) (o3 7 (by omega)) (o3 8 (by omega)) (o3 9 (by omega))) rq2 mm hw
        have o4 : ∀ a, (a < 138 ∨ 147 ≤ a) → J3 a = I a := fun a ha => by rw [w5 a ha, o3 a ha]
        obtain ⟨g, hg⟩ : ∃ g, g = cGos cd bg nc (8 + 31 * q) m f := ⟨_, rfl⟩
        rw [← hg] at w2 w3 w4 ⊢
        refine ⟨J3, ?_, h.sk (fun a ha => o4 a (by omega)), fun a z1 z2 => o4 a (by omega)⟩
        unfold sp_everV
        by_cases v4 : v = 4
        · subst v4
          have tg := c_together R K J3 145 m145
          rw [cu_cg (g := g) (fun k _ hk => w3 k (by omega))] at tg
          rw [if_neg (by decide), if_neg (by decide), if_neg (by decide), if_neg (by decide)]
          simp (disch := first | assumption | omega | exact ixN (by assumption) (by omega) (by omega) | exact ne_10 | exact ne_1000 | exact ne_4) only [s90_0, s90_0a, s90_1, s90_4, s90_5, s90_8, s90_8a, s90_10, s90_10a, s90_12, s90_12a, s90_15, s90_16, s90_17, s90_19, s90_22, s90_25, s90_26, s90_27, s90_28, s90_31, s90_34, s90_35, s90_36, s90_36a, s90_37, s90_40, s90_40a, s90_42, s90_45, s90_45a, s90_46, s90_49, s90_49a, s90_50, s90_53, s90_56, s90_59, s90_60, ↓reduceIte, eq_self, Option.bind_some, Option.bind_none, Option.toList_some, Option.toList_none, List.cons_append, List.nil_append, am_rf_s, am_rf_n, am_c1_i, am_c1_r, am_c1_n, List.all_cons, List.all_nil, Bool.and_self, Bool.and_true, Bool.true_and, List.length_cons, List.length_nil, Nat.reduceAdd, Nat.reduceSub, Nat.reduceMul, Nat.reduceLeDiff, Nat.reduceLT, Nat.zero_le, Nat.le_refl, ne_10, ne_1000, ne_4, not_false_eq_true, or_true, true_or, Nat.one_ne_zero, Nat.zero_ne_one, Nat.reduceEqDiff, Bool.true_eq_false, Bool.false_eq_true, n10, xn, xp, xm, rm, pn, c_within, inR_e, c1', bI_t, c2', j1, mc, w1]
          simp (disch := first | assumption | omega | exact ixN (by assumption) (by omega) (by omega) | exact ne_10 | exact ne_1000 | exact ne_4) only [s90_113, s90_114, s90_115, s90_118, s90_118a, s90_119, s90_122, s90_125, s90_128, s90_128a, s90_129, s90_132, s90_133, s90_136, ↓reduceIte, eq_self, Option.bind_some, Option.bind_none, Option.toList_some, Option.toList_none, List.cons_append, List.nil_append, am_rf_s, am_rf_n, am_c1_i, am_c1_r, am_c1_n, List.all_cons, List.all_nil, Bool.and_self, Bool.and_true, Bool.true_and, List.length_cons, List.length_nil, Nat.reduceAdd, Nat.reduceSub, Nat.reduceMul, Nat.reduceLeDiff, Nat.reduceLT, Nat.zero_le, Nat.le_refl, ne_10, ne_1000, ne_4, not_false_eq_true, or_true, true_or, Nat.one_ne_zero, Nat.zero_ne_one, Nat.reduceEqDiff, Bool.true_eq_false, Bool.false_eq_true, n10, nI_eq, xm, tg]
        · have pt := c_ptell J3 R K 138 p138 (nI v)
          have ep : ptl J3 138 (nI v) = (if nI v = nI 0 then g (8 + 31 * q + 1) else if nI v = nI 1 then g (8 + 31 * q) else if nI v = nI 2 then g (8 + 31 * q + 2) else if nI v = nI 3 then g (8 + 31 * q + 15) else cu g 8 0 (nI 0)) := by
            obtain ⟨⟨g1, g2, g3, g4, -⟩, -⟩ := w2
            unfold ptl
            rw [g1, g2, g3, g4]
            have n3 : v = 0 ∨ v = 1 ∨ v = 2 ∨ v = 3 := by omega
            rcases (w4.2.1 q (by omega)).2.2.1 with h0 | h0
            · rw [h0]
              rcases n3 with rfl | rfl | rfl | rfl <;> rfl
            · rw [h0]
              rcases n3 with rfl | rfl | rfl | rfl <;> rfl
          rw [ep] at pt
          simp (disch := first | assumption | omega | exact ixN (by assumption) (by omega) (by omega) | exact ne_10 | exact ne_1000 | exact ne_4) only [s90_0, s90_0a, s90_1, s90_4, s90_5, s90_8, s90_8a, s90_10, s90_10a, s90_12, s90_12a, s90_15, s90_16, s90_17, s90_19, s90_22, s90_25, s90_26, s90_27, s90_28, s90_31, s90_34, s90_35, s90_36, s90_36a, s90_37, s90_40, s90_40a, s90_42, s90_45, s90_45a, s90_46, s90_49, s90_49a, s90_50, s90_53, s90_56, s90_59, s90_60, ↓reduceIte, eq_self, Option.bind_some, Option.bind_none, Option.toList_some, Option.toList_none, List.cons_append, List.nil_append, am_rf_s, am_rf_n, am_c1_i, am_c1_r, am_c1_n, List.all_cons, List.all_nil, Bool.and_self, Bool.and_true, Bool.true_and, List.length_cons, List.length_nil, Nat.reduceAdd, Nat.reduceSub, Nat.reduceMul, Nat.reduceLeDiff, Nat.reduceLT, Nat.zero_le, Nat.le_refl, ne_10, ne_1000, ne_4, not_false_eq_true, or_true, true_or, Nat.one_ne_zero, Nat.zero_ne_one, Nat.reduceEqDiff, Bool.true_eq_false, Bool.false_eq_true, n10, xn, xp, xm, rm, pn, c_within, inR_e, c1', bI_t, c2', j1, mc, w1]
          obtain ⟨A, hA⟩ : ∃ A, A = (if nI v = nI 0 then g (8 + 31 * q + 1) else if nI v = nI 1 then g (8 + 31 * q) else if nI v = nI 2 then g (8 + 31 * q + 2) else if nI v = nI 3 then g (8 + 31 * q + 15) else cu g 8 0 (nI 0)) := ⟨_, rfl⟩
          rw [← hA] at pt ⊢
          simp (disch := first | assumption | omega | exact ixN (by assumption) (by omega) (by omega) | exact ne_10 | exact ne_1000 | exact ne_4) only [s90_113, s90_114, s90_115, s90_118, s90_118a, s90_119, s90_122, s90_125, s90_128, s90_128a, s90_129, s90_132, s90_133, s90_136, ↓reduceIte, eq_self, Option.bind_some, Option.bind_none, Option.toList_some, Option.toList_none, List.cons_append, List.nil_append, am_rf_s, am_rf_n, am_c1_i, am_c1_r, am_c1_n, List.all_cons, List.all_nil, Bool.and_self, Bool.and_true, Bool.true_and, List.length_cons, List.length_nil, Nat.reduceAdd, Nat.reduceSub, Nat.reduceMul, Nat.reduceLeDiff, Nat.reduceLT, Nat.zero_le, Nat.le_refl, ne_10, ne_1000, ne_4, not_false_eq_true, or_true, true_or, Nat.one_ne_zero, Nat.zero_ne_one, Nat.reduceEqDiff, Bool.true_eq_false, Bool.false_eq_true, n10, nI_eq, v4, xp, pt]
end DO
