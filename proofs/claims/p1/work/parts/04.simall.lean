/-! The pure machine's steps on a frame alone are the real machine's: all of them. -/
section XSM
variable {p : Program} {l : Launch} {e : Env} {R : Room} {s : State} {m : MethodId} {args : Array Value} {below : List Frame} {meth : Method} {c : Code} {H : Heap} {locs : List Loc} {cells slots : Nat} {Q : State → Prop}
variable {cc : ByteArray} {pc : Nat} {ls : Array Slot} {z b : Nat} {L L' : xLs} {st st' : List Value} {pc' : Nat}
theorem x_no {α : Type} {a : α} (h : (none : Option α) = some a) : False := by cases h
set_option maxHeartbeats 8000000 in
theorem x_sim_pure (hexec : p.tables.exec = Jvm.exec) (hb : c.code = cc) {ins : Instr} {len : Nat} (hdg : decode cc pc = .ok (ins, len)) (hlen : x_lok ins len = true) (h : x_pure ins len pc L st = some (pc', L', st')) (hl : x_LR z b L ls)
    (kk : ∀ ls' : Array Slot, x_LR z b L' ls' → W p l e R s m args below meth c H locs cells slots Q (F0 m pc' ls' (st'.map (x_cv z b)))) : W p l e R s m args below meth c H locs cells slots Q (F0 m pc ls (st.map (x_cv z b))) := by
  cases ins with
  | iconst n =>
    obtain rfl : len = 1 := by simpa [x_lok] using hlen
    cases h
    exact lv_iconst hexec hb hdg rfl (kk ls hl)
  | bipush n =>
    obtain rfl : len = 2 := by simpa [x_lok] using hlen
    cases h
    exact lv_bipush hexec hb hdg rfl (kk ls hl)
  | sipush n =>
    obtain rfl : len = 3 := by simpa [x_lok] using hlen
    cases h
    exact lv_sipush hexec hb hdg rfl (kk ls hl)
  | lconst n =>
    obtain rfl : len = 1 := by simpa [x_lok] using hlen
    cases h
    exact lv_lconst hexec hb hdg rfl (kk ls hl)
  | iload_n k =>
    obtain rfl : len = 1 := by simpa [x_lok] using hlen
    obtain ⟨x, hx, rfl, rfl, rfl⟩ := x_ldi_inv h
    exact lv_iload_n hexec hb hdg rfl (hl.ld hx) (kk ls hl)
  | iload i =>
    dsimp only [x_pure] at h
    split at h
    · next h2 =>
      subst h2
      obtain ⟨x, hx, rfl, rfl, rfl⟩ := x_ldi_inv h
      exact lv_iload hexec hb hdg (hl.ld hx) (kk ls hl)
    · cases h
  | lload_n k =>
    obtain rfl : len = 1 := by simpa [x_lok] using hlen
    obtain ⟨x, hx, rfl, rfl, rfl⟩ := x_ldl_inv h
    exact lv_lload_n hexec hb hdg rfl (hl.ld hx) (kk ls hl)
  | lload i =>
    dsimp only [x_pure] at h
    split at h
    · next h2 =>
      subst h2
      obtain ⟨x, hx, rfl, rfl, rfl⟩ := x_ldl_inv h
      exact lv_lload hexec hb hdg (hl.ld hx) (kk ls hl)
    · cases h
  | aload_n k =>
    obtain rfl : len = 1 := by simpa [x_lok] using hlen
    obtain ⟨v, hx, hv, rfl, rfl, rfl⟩ := x_lda_inv h
    rcases hv with ⟨a, rfl⟩ | rfl | ⟨a, rfl⟩
    · exact lv_aload_n hexec hb hdg rfl (hl.ld hx) (kk ls hl)
    · exact lv_aload_nN hexec hb hdg rfl (hl.ld hx) (kk ls hl)
    · exact lv_aload_n hexec hb hdg rfl (hl.ld hx) (kk ls hl)
  | aload i =>
    dsimp only [x_pure] at h
    split at h
    · next h2 =>
      subst h2
      obtain ⟨v, hx, hv, rfl, rfl, rfl⟩ := x_lda_inv h
      rcases hv with ⟨a, rfl⟩ | rfl | ⟨a, rfl⟩
      · exact lv_aload hexec hb hdg (hl.ld hx) (kk ls hl)
      · exact lv_aloadN hexec hb hdg (hl.ld hx) (kk ls hl)
      · exact lv_aload hexec hb hdg (hl.ld hx) (kk ls hl)
    · cases h
  | istore_n k =>
    obtain rfl : len = 1 := by simpa [x_lok] using hlen
    obtain ⟨x, r, rfl, hs, rfl, rfl⟩ := x_sti_inv h
    exact lv_istore_n hexec hb hdg rfl hl.has (x_st1_lt hs) rfl fun ls2 h2 => kk ls2 (x_keep1 hs h2)
  | istore i =>
    dsimp only [x_pure] at h
    split at h
    · next h2 =>
      subst h2
      obtain ⟨x, r, rfl, hs, rfl, rfl⟩ := x_sti_inv h
      exact lv_istore hexec hb hdg hl.has (x_st1_lt hs) rfl fun ls2 h2 => kk ls2 (x_keep1 hs h2)
    · cases h
  | lstore_n k =>
    obtain rfl : len = 1 := by simpa [x_lok] using hlen
    obtain ⟨x, r, rfl, hs, rfl, rfl⟩ := x_stl_inv h
    exact lv_lstore_n hexec hb hdg rfl hl.has (x_st2_lt hs) rfl fun ls2 h2 => kk ls2 (x_keep2 hs h2)
  | lstore i =>
    dsimp only [x_pure] at h
    split at h
    · next h2 =>
      subst h2
      obtain ⟨x, r, rfl, hs, rfl, rfl⟩ := x_stl_inv h
      exact lv_lstore hexec hb hdg hl.has (x_st2_lt hs) rfl fun ls2 h2 => kk ls2 (x_keep2 hs h2)
    · cases h
  | astore_n k =>
    obtain rfl : len = 1 := by simpa [x_lok] using hlen
    obtain ⟨v, r, rfl, hv, hs, rfl, rfl⟩ := x_sta_inv h
    rcases hv with ⟨a, rfl⟩ | rfl
    · exact lv_astore_n hexec hb hdg rfl hl.has (x_st1_lt hs) rfl fun ls2 h2 => kk ls2 (x_keep1 hs h2)
    · exact lv_astore_nN hexec hb hdg rfl hl.has (x_st1_lt hs) rfl fun ls2 h2 => kk ls2 (x_keep1 hs h2)
  | astore i =>
    dsimp only [x_pure] at h
    split at h
    · next h2 =>
      subst h2
      obtain ⟨v, r, rfl, hv, hs, rfl, rfl⟩ := x_sta_inv h
      rcases hv with ⟨a, rfl⟩ | rfl
      · exact lv_astore hexec hb hdg hl.has (x_st1_lt hs) rfl fun ls2 h2 => kk ls2 (x_keep1 hs h2)
      · exact lv_astoreN hexec hb hdg hl.has (x_st1_lt hs) rfl fun ls2 h2 => kk ls2 (x_keep1 hs h2)
    · cases h
  | iinc i n =>
    dsimp only [x_pure] at h
    split at h
    · next h2 =>
      subst h2
      split at h
      · next x hx =>
        cases hs : x_st1 L i (.int (x + Int32.ofInt n)) with
        | none => rw [hs] at h; cases h
        | some M =>
          rw [hs] at h
          cases h
          obtain ⟨k, hk⟩ := List.getElem?_of_mem (x_lv_mem (z := z) (b := b) (x_ld_some hx))
          exact lv_iinc hexec hb hdg hl.has hk rfl (x_st1_lt hs) rfl fun ls2 h2 => kk ls2 (x_keep1 hs h2)
      · cases h
    · cases h
  | iadd =>
    obtain rfl : len = 1 := by simpa [x_lok] using hlen
    obtain ⟨x, y, r, rfl, rfl, rfl, rfl⟩ := x_b2_inv h
    exact lv_iadd hexec hb hdg (kk ls hl)
  | isub =>
    obtain rfl : len = 1 := by simpa [x_lok] using hlen
    obtain ⟨x, y, r, rfl, rfl, rfl, rfl⟩ := x_b2_inv h
    exact lv_isub hexec hb hdg (kk ls hl)
  | imul =>
    obtain rfl : len = 1 := by simpa [x_lok] using hlen
    obtain ⟨x, y, r, rfl, rfl, rfl, rfl⟩ := x_b2_inv h
    exact lv_imul hexec hb hdg (kk ls hl)
  | iand =>
    obtain rfl : len = 1 := by simpa [x_lok] using hlen
    obtain ⟨x, y, r, rfl, rfl, rfl, rfl⟩ := x_b2_inv h
    exact lv_iand hexec hb hdg (kk ls hl)
  | ior =>
    obtain rfl : len = 1 := by simpa [x_lok] using hlen
    obtain ⟨x, y, r, rfl, rfl, rfl, rfl⟩ := x_b2_inv h
    exact lv_ior hexec hb hdg (kk ls hl)
  | ixor =>
    obtain rfl : len = 1 := by simpa [x_lok] using hlen
    obtain ⟨x, y, r, rfl, rfl, rfl, rfl⟩ := x_b2_inv h
    exact lv_ixor hexec hb hdg (kk ls hl)
  | ishl =>
    obtain rfl : len = 1 := by simpa [x_lok] using hlen
    obtain ⟨x, y, r, rfl, rfl, rfl, rfl⟩ := x_b2_inv h
    exact lv_ishl hexec hb hdg (kk ls hl)
  | ishr =>
    obtain rfl : len = 1 := by simpa [x_lok] using hlen
    obtain ⟨x, y, r, rfl, rfl, rfl, rfl⟩ := x_b2_inv h
    exact lv_ishr hexec hb hdg (kk ls hl)
  | iushr =>
    obtain rfl : len = 1 := by simpa [x_lok] using hlen
    obtain ⟨x, y, r, rfl, rfl, rfl, rfl⟩ := x_b2_inv h
    exact lv_iushr hexec hb hdg rfl (kk ls hl)
  | idiv =>
    obtain rfl : len = 1 := by simpa [x_lok] using hlen
    obtain ⟨x, y, r, rfl, hy, rfl, rfl, rfl⟩ := x_d2_inv h
    exact lv_idiv hexec hb hdg hy (kk ls hl)
  | irem =>
    obtain rfl : len = 1 := by simpa [x_lok] using hlen
    obtain ⟨x, y, r, rfl, hy, rfl, rfl, rfl⟩ := x_d2_inv h
    exact lv_irem hexec hb hdg hy (kk ls hl)
  | ineg =>
    obtain rfl : len = 1 := by simpa [x_lok] using hlen
    obtain ⟨x, r, rfl, rfl, rfl, rfl⟩ := x_i1_inv h
    exact lv_ineg hexec hb hdg (kk ls hl)
  | ladd =>
    obtain rfl : len = 1 := by simpa [x_lok] using hlen
    obtain ⟨x, y, r, rfl, rfl, rfl, rfl⟩ := x_l2_inv h
    exact lv_ladd hexec hb hdg (kk ls hl)
  | lsub =>
    obtain rfl : len = 1 := by simpa [x_lok] using hlen
    obtain ⟨x, y, r, rfl, rfl, rfl, rfl⟩ := x_l2_inv h
    exact lv_lsub hexec hb hdg (kk ls hl)
  | lmul =>
    obtain rfl : len = 1 := by simpa [x_lok] using hlen
    obtain ⟨x, y, r, rfl, rfl, rfl, rfl⟩ := x_l2_inv h
    exact lv_lmul hexec hb hdg (kk ls hl)
  | land =>
    obtain rfl : len = 1 := by simpa [x_lok] using hlen
    obtain ⟨x, y, r, rfl, rfl, rfl, rfl⟩ := x_l2_inv h
    exact lv_land hexec hb hdg (kk ls hl)
  | lor =>
    obtain rfl : len = 1 := by simpa [x_lok] using hlen
    obtain ⟨x, y, r, rfl, rfl, rfl, rfl⟩ := x_l2_inv h
    exact lv_lor hexec hb hdg (kk ls hl)
  | lxor =>
    obtain rfl : len = 1 := by simpa [x_lok] using hlen
    obtain ⟨x, y, r, rfl, rfl, rfl, rfl⟩ := x_l2_inv h
    exact lv_lxor hexec hb hdg (kk ls hl)
  | ldiv =>
    obtain rfl : len = 1 := by simpa [x_lok] using hlen
    obtain ⟨x, y, r, rfl, hy, rfl, rfl, rfl⟩ := x_m2_inv h
    exact lv_ldiv hexec hb hdg hy (kk ls hl)
  | lrem =>
    obtain rfl : len = 1 := by simpa [x_lok] using hlen
    obtain ⟨x, y, r, rfl, hy, rfl, rfl, rfl⟩ := x_m2_inv h
    exact lv_lrem hexec hb hdg hy (kk ls hl)
  | lneg =>
    obtain rfl : len = 1 := by simpa [x_lok] using hlen
    obtain ⟨x, r, rfl, rfl, rfl, rfl⟩ := x_j1_inv h
    exact lv_lneg hexec hb hdg (kk ls hl)
  | lcmp =>
    obtain rfl : len = 1 := by simpa [x_lok] using hlen
    obtain ⟨x, y, r, rfl, rfl, rfl, rfl⟩ := x_l2_inv h
    exact W.lcmp hexec hb hdg (kk ls hl)
  | lshl =>
    obtain rfl : len = 1 := by simpa [x_lok] using hlen
    obtain ⟨x, y, r, rfl, rfl, rfl, rfl⟩ := x_s2_inv h
    exact lv_lshl hexec hb hdg rfl (kk ls hl)
  | lshr =>
    obtain rfl : len = 1 := by simpa [x_lok] using hlen
    obtain ⟨x, y, r, rfl, rfl, rfl, rfl⟩ := x_s2_inv h
    exact lv_lshr hexec hb hdg rfl (kk ls hl)
  | lushr =>
    obtain rfl : len = 1 := by simpa [x_lok] using hlen
    obtain ⟨x, y, r, rfl, rfl, rfl, rfl⟩ := x_s2_inv h
    exact lv_lushr hexec hb hdg rfl (kk ls hl)
  | i2l =>
    obtain rfl : len = 1 := by simpa [x_lok] using hlen
    obtain ⟨x, r, rfl, rfl, rfl, rfl⟩ := x_i1_inv h
    exact lv_i2l hexec hb hdg rfl (kk ls hl)
  | i2b =>
    obtain rfl : len = 1 := by simpa [x_lok] using hlen
    obtain ⟨x, r, rfl, rfl, rfl, rfl⟩ := x_i1_inv h
    exact lv_i2b hexec hb hdg rfl (kk ls hl)
  | i2s =>
    obtain rfl : len = 1 := by simpa [x_lok] using hlen
    obtain ⟨x, r, rfl, rfl, rfl, rfl⟩ := x_i1_inv h
    exact lv_i2s hexec hb hdg rfl (kk ls hl)
  | l2i =>
    obtain rfl : len = 1 := by simpa [x_lok] using hlen
    obtain ⟨x, r, rfl, rfl, rfl, rfl⟩ := x_j1_inv h
    exact lv_l2i hexec hb hdg rfl (kk ls hl)
  | dup =>
    obtain rfl : len = 1 := by simpa [x_lok] using hlen
    dsimp only [x_pure] at h
    split at h
    · next v r =>
      split at h
      · next hv => cases h; exact lv_dup hexec hb hdg ((x_cv_cat z b v).trans hv) (kk ls hl)
      · cases h
    · cases h
  | pop =>
    obtain rfl : len = 1 := by simpa [x_lok] using hlen
    dsimp only [x_pure] at h
    split at h
    · next v r =>
      split at h
      · next hv => cases h; exact lv_pop hexec hb hdg ((x_cv_cat z b v).trans hv) (kk ls hl)
      · cases h
    · cases h
  | dup2 =>
    obtain rfl : len = 1 := by simpa [x_lok] using hlen
    dsimp only [x_pure] at h
    split at h
    · next v r =>
      split at h
      · next hv => cases h; exact lv_dup2_2 hexec hb hdg ((x_cv_cat z b v).trans hv) (kk ls hl)
      · split at h
        · next w r =>
          split at h
          · next hv => cases h; exact lv_dup2_11 hexec hb hdg ((x_cv_cat z b v).trans hv.1) ((x_cv_cat z b w).trans hv.2) (kk ls hl)
          · cases h
        · cases h
    · cases h
  | pop2 =>
    obtain rfl : len = 1 := by simpa [x_lok] using hlen
    dsimp only [x_pure] at h
    split at h
    · next v r =>
      split at h
      · next hv => cases h; exact lv_pop2_2 hexec hb hdg ((x_cv_cat z b v).trans hv) (kk ls hl)
      · cases h
    · cases h
  | goto off =>
    obtain rfl : len = 3 := by simpa [x_lok] using hlen
    obtain ⟨ht, rfl, rfl⟩ := x_jmp_inv h
    exact lv_goto hexec hb hdg ht (kk ls hl)
  | ifCond co off =>
    obtain rfl : len = 3 := by simpa [x_lok] using hlen
    exact x_sim_if hexec hb hdg h fun hL => kk ls (hL ▸ hl)
  | if_icmp co off =>
    obtain rfl : len = 3 := by simpa [x_lok] using hlen
    exact x_sim_ic hexec hb hdg h fun hL => kk ls (hL ▸ hl)
  | ifnonnull off =>
    obtain rfl : len = 3 := by simpa [x_lok] using hlen
    dsimp only [x_pure] at h
    split at h
    · next a r =>
      obtain ⟨ht, rfl, rfl⟩ := x_jmp_inv h
      exact lv_ifnonnull hexec hb hdg ht (kk ls hl)
    · next r => cases h; exact lv_ifnonnullN hexec hb hdg (kk ls hl)
    · cases h
  | tableswitch d lo hi offs =>
    dsimp only [x_pure] at h
    split at h
    · next x r =>
      split at h
      · next hx =>
        obtain ⟨ht, rfl, rfl⟩ := x_jmp_inv h
        exact lv_tableOut hexec hb hdg hx ht (kk ls hl)
      · next hx =>
        split at h
        · next o ho =>
          obtain ⟨ht, rfl, rfl⟩ := x_jmp_inv h
          exact lv_tableIn hexec hb hdg (fun q => hx (Or.inl q)) (fun q => hx (Or.inr q)) ho ht (kk ls hl)
        · cases h
    · cases h
  | lookupswitch d ps =>
    dsimp only [x_pure] at h
    split at h
    · next x r =>
      split at h
      · next hx =>
        obtain ⟨ht, rfl, rfl⟩ := x_jmp_inv h
        exact lv_lookup hexec hb hdg hx rfl ht (kk ls hl)
      · cases h
    · cases h
  | _ => exact (x_no (show (none : Option xP) = some (pc', L', st') from h)).elim
end XSM
