section AMB
variable {p : Program} {l : Launch} {e : Env} {R : Room} {s : State} {m : MethodId} {args : Array Value} {below : List Frame} {meth : Method} {c : Code} {H : Heap} {locs : List Loc} {cells slots : Nat} {Q : State → Prop}
variable {cc : ByteArray} {pc pc' nL : Nat} {G : am_Gt} {L : Array Slot} {ls ls' : am_L} {st st' : List Value} {i : Instr} {n : Nat}
set_option maxHeartbeats 4000000 in
theorem am_s1 (hx : p.tables.exec = Jvm.exec) (hb : c.code = cc) (hV : (gV G).category = 1) (hd : decode cc pc = .ok (i, n)) (h : am_g1 pc ls st i n = some (pc', ls', st')) (hl : am_lr G L nL ls)
    (kk : ∀ L' : Array Slot, am_lr G L' nL ls' → W p l e R s m args below meth c H locs cells slots Q (F0 m pc' L' (st'.map (am_sh G)))) : W p l e R s m args below meth c H locs cells slots Q (F0 m pc L (st.map (am_sh G))) := by
  unfold am_g1 at h
  split at h
  · split at h
    · rename_i q; cases h
      exact lv_iload_n hx hb hd rfl (hl.at q) (kk L hl)
    · cases h
  · split at h
    · rename_i q; cases h
      exact lv_iload hx hb hd (hl.at q) (kk L hl)
    · cases h
  · split at h
    · rename_i q; cases h
      exact lv_aload_n hx hb hd rfl (hl.at q) (kk L hl)
    · rename_i q; cases h
      exact lv_aload_nN hx hb hd rfl (hl.at q) (kk L hl)
    · cases h
  · split at h
    · rename_i q; cases h
      exact lv_aload hx hb hd (hl.at q) (kk L hl)
    · rename_i q; cases h
      exact lv_aloadN hx hb hd (hl.at q) (kk L hl)
    · cases h
  · split at h
    · split at h
      · rename_i k _ x r q; cases h
        exact lv_istore_n hx hb hd rfl hl.2.2 (by rw [← hl.1]; exact q) rfl (fun L' h' => kk L' (hl.st hV (v := .int x) q rfl h'))
      · cases h
    · cases h
  · split at h
    · split at h
      · rename_i k _ x r q; cases h
        exact lv_istore hx hb hd hl.2.2 (by rw [← hl.1]; exact q) rfl (fun L' h' => kk L' (hl.st hV (v := .int x) q rfl h'))
      · cases h
    · cases h
  · split at h
    · split at h
      · rename_i k _ x r q; cases h
        exact lv_astore_n hx hb hd rfl hl.2.2 (by rw [← hl.1]; exact q) rfl (fun L' h' => kk L' (hl.st hV (v := .ref x) q rfl h'))
      · cases h
    · split at h
      · rename_i k _ r q; cases h
        exact lv_astore_nN hx hb hd rfl hl.2.2 (by rw [← hl.1]; exact q) rfl (fun L' h' => kk L' (hl.st hV (v := .null) q rfl h'))
      · cases h
    · cases h
  · split at h
    · split at h
      · rename_i k _ x r q; cases h
        exact lv_astore hx hb hd hl.2.2 (by rw [← hl.1]; exact q) rfl (fun L' h' => kk L' (hl.st hV (v := .ref x) q rfl h'))
      · cases h
    · split at h
      · rename_i k _ r q; cases h
        exact lv_astoreN hx hb hd hl.2.2 (by rw [← hl.1]; exact q) rfl (fun L' h' => kk L' (hl.st hV (v := .null) q rfl h'))
      · cases h
    · cases h
  · split at h
    · rename_i k n' _ x q; cases h
      have hk := (List.getElem?_eq_some_iff.mp q).1
      obtain ⟨w, hw⟩ := List.getElem?_of_mem (am_lv_in (G := G) q)
      exact lv_iinc hx hb hd hl.2.2 (k := w) hw rfl (by rw [← hl.1]; exact hk) rfl (fun L' h' => kk L' (hl.st hV (v := .int _) hk rfl h'))
    · cases h
  · cases h; exact lv_iconst hx hb hd rfl (kk L hl)
  · cases h; exact lv_bipush hx hb hd rfl (kk L hl)
  · cases h; exact lv_sipush hx hb hd rfl (kk L hl)
  · cases h; exact lv_null hx hb hd (kk L hl)
  · split at h
    · cases h; exact lv_iadd hx hb hd (kk L hl)
    · cases h
  · split at h
    · cases h; exact lv_isub hx hb hd (kk L hl)
    · cases h
  · split at h
    · cases h; exact lv_imul hx hb hd (kk L hl)
    · cases h
  · split at h
    · cases h; exact lv_iand hx hb hd (kk L hl)
    · cases h
  · split at h
    · cases h; exact lv_ixor hx hb hd (kk L hl)
    · cases h
  · split at h
    · cases h; exact lv_ishr hx hb hd (kk L hl)
    · cases h
  · split at h
    · split at h
      · cases h
      · rename_i q; cases h; exact lv_idiv hx hb hd q (kk L hl)
    · cases h
  · split at h
    · split at h
      · cases h
      · rename_i q; cases h; exact lv_irem hx hb hd q (kk L hl)
    · cases h
  · split at h
    · cases h; exact lv_i2c hx hb hd rfl (kk L hl)
    · cases h
  · split at h
    · split at h
      · rename_i q; cases h; exact lv_dup hx hb hd (am_cat hV q) (kk L hl)
      · cases h
    · cases h
  · split at h
    · split at h
      · rename_i q; cases h
        rw [Bool.and_eq_true] at q
        exact lv_dup2_11 hx hb hd (am_cat hV q.1) (am_cat hV q.2) (kk L hl)
      · cases h
    · cases h
  · split at h
    · split at h
      · rename_i q; cases h; exact lv_pop hx hb hd (am_cat hV q) (kk L hl)
      · cases h
    · cases h
  · cases h
theorem am_tg_some {o : Int} (h : am_tg pc o st = some (pc', st')) : (pc : Int) + o = (pc' : Int) ∧ st = st' := by
  unfold am_tg at h
  split at h
  · cases h; exact ⟨by omega, rfl⟩
  · cases h
theorem am_br_some {b : Bool} {o : Int} (h : am_br b pc o st = some (pc', st')) : ∃ tg : Nat, (pc : Int) + o = (tg : Int) ∧ st = st' ∧ pc' = if b then tg else pc + 3 := by
  unfold am_br at h
  split at h
  · cases h
  · rename_i t ht
    obtain ⟨tp, tst⟩ := t
    obtain ⟨h1, rfl⟩ := am_tg_some ht
    cases b
    · cases h; exact ⟨tp, h1, rfl, rfl⟩
    · cases h; exact ⟨_, h1, rfl, rfl⟩
set_option maxHeartbeats 4000000 in
theorem am_s2 (hx : p.tables.exec = Jvm.exec) (hb : c.code = cc) (hd : decode cc pc = .ok (i, n)) (h : am_g2 pc st i n = some (pc', st'))
    (kk : W p l e R s m args below meth c H locs cells slots Q (F0 m pc' L (st'.map (am_sh G)))) : W p l e R s m args below meth c H locs cells slots Q (F0 m pc L (st.map (am_sh G))) := by
  unfold am_g2 at h
  split at h
  · obtain ⟨h1, rfl⟩ := am_tg_some h
    exact lv_goto hx hb hd h1 kk
  · split at h
    · obtain ⟨tg, h1, rfl, rfl⟩ := am_br_some h
      exact lv_if_eq hx hb hd h1 (fun z => by simpa [z] using kk) (fun z => by simpa [z] using kk)
    · cases h
  · split at h
    · obtain ⟨tg, h1, rfl, rfl⟩ := am_br_some h
      exact lv_icmp_eq hx hb hd h1 (fun z => by simpa [z] using kk) (fun z => by simpa [z] using kk)
    · cases h
  · split at h
    · obtain ⟨tg, h1, rfl, rfl⟩ := am_br_some h
      exact lv_if_ne hx hb hd h1 (fun z => by simpa [z] using kk) (fun z => by simpa [z] using kk)
    · cases h
  · split at h
    · obtain ⟨tg, h1, rfl, rfl⟩ := am_br_some h
      exact lv_icmp_ne hx hb hd h1 (fun z => by simpa [z] using kk) (fun z => by simpa [z] using kk)
    · cases h
  · split at h
    · obtain ⟨tg, h1, rfl, rfl⟩ := am_br_some h
      exact lv_if_lt hx hb hd h1 (fun z => by simpa [z] using kk) (fun z => by simpa [z] using kk)
    · cases h
  · split at h
    · obtain ⟨tg, h1, rfl, rfl⟩ := am_br_some h
      exact lv_icmp_lt hx hb hd h1 (fun z => by simpa [z] using kk) (fun z => by simpa [z] using kk)
    · cases h
  · split at h
    · obtain ⟨tg, h1, rfl, rfl⟩ := am_br_some h
      exact lv_if_ge hx hb hd h1 (fun z => by simpa [z] using kk) (fun z => by simpa [z] using kk)
    · cases h
  · split at h
    · obtain ⟨tg, h1, rfl, rfl⟩ := am_br_some h
      exact lv_icmp_ge hx hb hd h1 (fun z => by simpa [z] using kk) (fun z => by simpa [z] using kk)
    · cases h
  · split at h
    · obtain ⟨tg, h1, rfl, rfl⟩ := am_br_some h
      exact lv_if_gt hx hb hd h1 (fun z => by simpa [z] using kk) (fun z => by simpa [z] using kk)
    · cases h
  · split at h
    · obtain ⟨tg, h1, rfl, rfl⟩ := am_br_some h
      exact lv_icmp_gt hx hb hd h1 (fun z => by simpa [z] using kk) (fun z => by simpa [z] using kk)
    · cases h
  · split at h
    · obtain ⟨tg, h1, rfl, rfl⟩ := am_br_some h
      exact lv_if_le hx hb hd h1 (fun z => by simpa [z] using kk) (fun z => by simpa [z] using kk)
    · cases h
  · split at h
    · obtain ⟨tg, h1, rfl, rfl⟩ := am_br_some h
      exact lv_icmp_le hx hb hd h1 (fun z => by simpa [z] using kk) (fun z => by simpa [z] using kk)
    · cases h
  · split at h
    · cases h; exact lv_ifnull hx hb hd kk
    · obtain ⟨h1, rfl⟩ := am_tg_some h
      exact lv_ifnullN hx hb hd h1 kk
    · cases h
  · split at h
    · obtain ⟨h1, rfl⟩ := am_tg_some h
      exact lv_ifnonnull hx hb hd h1 kk
    · cases h; exact lv_ifnonnullN hx hb hd kk
    · cases h
  · split at h
    · split at h
      · rename_i q; obtain ⟨h1, rfl⟩ := am_tg_some h
        exact lv_tableOut hx hb hd q h1 kk
      · split at h
        · rename_i q _ o ho; obtain ⟨h1, rfl⟩ := am_tg_some h
          exact lv_tableIn hx hb hd (fun z => q (Or.inl z)) (fun z => q (Or.inr z)) ho h1 kk
        · cases h
    · cases h
  · split at h
    · split at h
      · rename_i q; obtain ⟨h1, rfl⟩ := am_tg_some h
        exact lv_lookup hx hb hd q rfl h1 kk
      · cases h
    · cases h
  · cases h
end AMB
