/-! Calls, returns, whole methods: the pure machine's runs are the real machine's. -/
theorem x_st1_len {L L' : xLs} {i : Nat} {v : Value} (h : x_st1 L i v = some L') : L'.length = L.length := by
  unfold x_st1 at h
  split at h
  · cases h; simp [x_cl_len]
  · cases h
theorem x_st2_len {L L' : xLs} {i : Nat} {v : Value} (h : x_st2 L i v = some L') : L'.length = L.length := by
  unfold x_st2 at h
  split at h
  · cases h; simp [x_cl_len]
  · cases h
theorem x_br_len {cd : Prop} {d : Decidable cd} {pc pc' : Nat} {off : Int} {L L' : xLs} {r st' : List Value} (h : x_br cd d pc off L r = some (pc', L', st')) : L'.length = L.length := by
  unfold x_br at h
  split at h
  · cases h; rfl
  · cases h
theorem x_if_len {co : ClassFile.Cond} {pc pc' : Nat} {off : Int} {L L' : xLs} {st st' : List Value} (h : x_if co pc off L st = some (pc', L', st')) : L'.length = L.length := by
  unfold x_if at h
  split at h
  · cases co <;> exact x_br_len h
  · cases h
theorem x_ic_len {co : ClassFile.Cond} {pc pc' : Nat} {off : Int} {L L' : xLs} {st st' : List Value} (h : x_ic co pc off L st = some (pc', L', st')) : L'.length = L.length := by
  unfold x_ic at h
  split at h
  · cases co <;> exact x_br_len h
  · cases h
set_option maxHeartbeats 4000000 in
theorem x_pure_len {ins : Instr} {len pc pc' : Nat} {L L' : xLs} {st st' : List Value} (h : x_pure ins len pc L st = some (pc', L', st')) : L'.length = L.length := by
  cases ins with
  | iconst n => cases h; rfl
  | bipush n => cases h; rfl
  | sipush n => cases h; rfl
  | lconst n => cases h; rfl
  | iload_n k => obtain ⟨x, hx, rfl, rfl, rfl⟩ := x_ldi_inv h; rfl
  | iload i => dsimp only [x_pure] at h; split at h; (obtain ⟨x, hx, rfl, rfl, rfl⟩ := x_ldi_inv h; rfl); cases h
  | lload_n k => obtain ⟨x, hx, rfl, rfl, rfl⟩ := x_ldl_inv h; rfl
  | lload i => dsimp only [x_pure] at h; split at h; (obtain ⟨x, hx, rfl, rfl, rfl⟩ := x_ldl_inv h; rfl); cases h
  | aload_n k => obtain ⟨v, hx, hv, rfl, rfl, rfl⟩ := x_lda_inv h; rfl
  | aload i => dsimp only [x_pure] at h; split at h; (obtain ⟨v, hx, hv, rfl, rfl, rfl⟩ := x_lda_inv h; rfl); cases h
  | istore_n k => obtain ⟨x, r, rfl, hs, rfl, rfl⟩ := x_sti_inv h; exact x_st1_len hs
  | istore i => dsimp only [x_pure] at h; split at h; (obtain ⟨x, r, rfl, hs, rfl, rfl⟩ := x_sti_inv h; exact x_st1_len hs); cases h
  | lstore_n k => obtain ⟨x, r, rfl, hs, rfl, rfl⟩ := x_stl_inv h; exact x_st2_len hs
  | lstore i => dsimp only [x_pure] at h; split at h; (obtain ⟨x, r, rfl, hs, rfl, rfl⟩ := x_stl_inv h; exact x_st2_len hs); cases h
  | astore_n k => obtain ⟨v, r, rfl, hv, hs, rfl, rfl⟩ := x_sta_inv h; exact x_st1_len hs
  | astore i => dsimp only [x_pure] at h; split at h; (obtain ⟨v, r, rfl, hv, hs, rfl, rfl⟩ := x_sta_inv h; exact x_st1_len hs); cases h
  | iinc i n =>
    dsimp only [x_pure] at h
    split at h
    · split at h
      · next x hx =>
        cases hs : x_st1 L i (.int (x + Int32.ofInt n)) with
        | none => rw [hs] at h; cases h
        | some M => rw [hs] at h; cases h; exact x_st1_len hs
      · cases h
    · cases h
  | iadd => obtain ⟨x, y, r, rfl, rfl, rfl, rfl⟩ := x_b2_inv h; rfl
  | isub => obtain ⟨x, y, r, rfl, rfl, rfl, rfl⟩ := x_b2_inv h; rfl
  | imul => obtain ⟨x, y, r, rfl, rfl, rfl, rfl⟩ := x_b2_inv h; rfl
  | iand => obtain ⟨x, y, r, rfl, rfl, rfl, rfl⟩ := x_b2_inv h; rfl
  | ior => obtain ⟨x, y, r, rfl, rfl, rfl, rfl⟩ := x_b2_inv h; rfl
  | ixor => obtain ⟨x, y, r, rfl, rfl, rfl, rfl⟩ := x_b2_inv h; rfl
  | ishl => obtain ⟨x, y, r, rfl, rfl, rfl, rfl⟩ := x_b2_inv h; rfl
  | ishr => obtain ⟨x, y, r, rfl, rfl, rfl, rfl⟩ := x_b2_inv h; rfl
  | iushr => obtain ⟨x, y, r, rfl, rfl, rfl, rfl⟩ := x_b2_inv h; rfl
  | idiv => obtain ⟨x, y, r, rfl, hy, rfl, rfl, rfl⟩ := x_d2_inv h; rfl
  | irem => obtain ⟨x, y, r, rfl, hy, rfl, rfl, rfl⟩ := x_d2_inv h; rfl
  | ladd => obtain ⟨x, y, r, rfl, rfl, rfl, rfl⟩ := x_l2_inv h; rfl
  | lsub => obtain ⟨x, y, r, rfl, rfl, rfl, rfl⟩ := x_l2_inv h; rfl
  | lmul => obtain ⟨x, y, r, rfl, rfl, rfl, rfl⟩ := x_l2_inv h; rfl
  | land => obtain ⟨x, y, r, rfl, rfl, rfl, rfl⟩ := x_l2_inv h; rfl
  | lor => obtain ⟨x, y, r, rfl, rfl, rfl, rfl⟩ := x_l2_inv h; rfl
  | lxor => obtain ⟨x, y, r, rfl, rfl, rfl, rfl⟩ := x_l2_inv h; rfl
  | lcmp => obtain ⟨x, y, r, rfl, rfl, rfl, rfl⟩ := x_l2_inv h; rfl
  | ldiv => obtain ⟨x, y, r, rfl, hy, rfl, rfl, rfl⟩ := x_m2_inv h; rfl
  | lrem => obtain ⟨x, y, r, rfl, hy, rfl, rfl, rfl⟩ := x_m2_inv h; rfl
  | ineg => obtain ⟨x, r, rfl, rfl, rfl, rfl⟩ := x_i1_inv h; rfl
  | i2l => obtain ⟨x, r, rfl, rfl, rfl, rfl⟩ := x_i1_inv h; rfl
  | i2b => obtain ⟨x, r, rfl, rfl, rfl, rfl⟩ := x_i1_inv h; rfl
  | i2s => obtain ⟨x, r, rfl, rfl, rfl, rfl⟩ := x_i1_inv h; rfl
  | lneg => obtain ⟨x, r, rfl, rfl, rfl, rfl⟩ := x_j1_inv h; rfl
  | l2i => obtain ⟨x, r, rfl, rfl, rfl, rfl⟩ := x_j1_inv h; rfl
  | lshl => obtain ⟨x, y, r, rfl, rfl, rfl, rfl⟩ := x_s2_inv h; rfl
  | lshr => obtain ⟨x, y, r, rfl, rfl, rfl, rfl⟩ := x_s2_inv h; rfl
  | lushr => obtain ⟨x, y, r, rfl, rfl, rfl, rfl⟩ := x_s2_inv h; rfl
  | dup =>
    dsimp only [x_pure] at h
    split at h
    · split at h
      · cases h; rfl
      · cases h
    · cases h
  | pop =>
    dsimp only [x_pure] at h
    split at h
    · split at h
      · cases h; rfl
      · cases h
    · cases h
  | pop2 =>
    dsimp only [x_pure] at h
    split at h
    · split at h
      · cases h; rfl
      · cases h
    · cases h
  | dup2 =>
    dsimp only [x_pure] at h
    split at h
    · split at h
      · cases h; rfl
      · split at h
        · split at h
          · cases h; rfl
          · cases h
        · cases h
    · cases h
  | goto off => obtain ⟨ht, rfl, rfl⟩ := x_jmp_inv h; rfl
  | ifCond co off => exact x_if_len h
  | if_icmp co off => exact x_ic_len h
  | ifnonnull off =>
    dsimp only [x_pure] at h
    split at h
    · obtain ⟨ht, rfl, rfl⟩ := x_jmp_inv h; rfl
    · cases h; rfl
    · cases h
  | tableswitch d lo hi offs =>
    dsimp only [x_pure] at h
    split at h
    · split at h
      · obtain ⟨ht, rfl, rfl⟩ := x_jmp_inv h; rfl
      · split at h
        · obtain ⟨ht, rfl, rfl⟩ := x_jmp_inv h; rfl
        · cases h
    · cases h
  | lookupswitch d ps =>
    dsimp only [x_pure] at h
    split at h
    · split at h
      · obtain ⟨ht, rfl, rfl⟩ := x_jmp_inv h; rfl
      · cases h
    · cases h
  | _ => exact (x_no (show (none : Option xP) = some (pc', L', st') from h)).elim
