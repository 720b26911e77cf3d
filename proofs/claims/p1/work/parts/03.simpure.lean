/-! The pure machine's steps on a frame alone are the real machine's. -/
theorem x_cv_cat (z b : Nat) (v : Value) : (x_cv z b v).category = v.category := by cases v <;> rfl
theorem x_two_iff (v : Value) : x_two (some v) = true ↔ v.category = 2 := by cases v <;> simp [x_two, Value.category]
def x_LR (z b : Nat) (L : xLs) (ls : Array Slot) : Prop := ls.size = L.length ∧ lv_wf ls ∧ ∀ (i : Nat) (v : Value), L[i]? = some (some v) → ls[i]? = some (.val (x_cv z b v))
theorem x_ld_some {L : xLs} {i : Nat} {v : Value} (h : x_ld L i = some v) : L[i]? = some (some v) := by
  unfold x_ld at h
  split at h
  · next w hw => cases h; exact hw
  · cases h
theorem x_ld_of {L : xLs} {i : Nat} {v : Value} (h : L[i]? = some (some v)) : x_ld L i = some v := by
  unfold x_ld
  rw [h]
theorem x_LR.ld {z b : Nat} {L : xLs} {ls : Array Slot} (h : x_LR z b L ls) {i : Nat} {v : Value} (hv : x_ld L i = some v) : ls[i]? = some (.val (x_cv z b v)) := h.2.2 i v (x_ld_some hv)
def x_lv (z b : Nat) (L : xLs) : List (Nat × Value) := (List.range L.length).filterMap fun i => (x_ld L i).map fun v => (i, x_cv z b v)
theorem x_LR.has {z b : Nat} {L : xLs} {ls : Array Slot} (h : x_LR z b L ls) : lv_has ls L.length (x_lv z b L) := by
  refine ⟨h.1, h.2.1, fun q hq => ?_⟩
  obtain ⟨i, -, hi⟩ := List.mem_filterMap.mp hq
  cases hv : x_ld L i with
  | none => rw [hv] at hi; cases hi
  | some v => rw [hv] at hi; cases hi; exact h.ld hv
theorem x_lv_mem {z b : Nat} {L : xLs} {i : Nat} {v : Value} (h : L[i]? = some (some v)) : (i, x_cv z b v) ∈ x_lv z b L := by
  refine List.mem_filterMap.mpr ⟨i, List.mem_range.mpr ((List.getElem?_eq_some_iff.mp h).1), ?_⟩
  rw [x_ld_of h]
  rfl
theorem x_cl_len (L : xLs) (i : Nat) : (x_cl L i).length = L.length := by
  cases i with
  | zero => rfl
  | succ k => unfold x_cl; simp only; split <;> simp
theorem x_cl_get {L : xLs} {i j : Nat} {v : Value} (h : (x_cl L i)[j]? = some (some v)) : L[j]? = some (some v) ∧ ¬ (j + 1 = i ∧ v.category = 2) := by
  cases i with
  | zero => exact ⟨h, fun q => by omega⟩
  | succ k =>
    unfold x_cl at h
    simp only at h
    split at h
    · next ht =>
      by_cases hk : k = j
      · subst hk
        rw [List.getElem?_set] at h
        simp at h
      · rw [List.getElem?_set_ne hk] at h
        exact ⟨h, fun q => hk (by omega)⟩
    · next ht =>
      refine ⟨h, fun q => ht ?_⟩
      have hj : j = k := by omega
      subst hj
      rw [x_ld_of h]
      exact (x_two_iff v).mpr q.2
theorem x_keep1 {z b : Nat} {L L' : xLs} {ls' : Array Slot} {i : Nat} {v : Value} (hs : x_st1 L i v = some L') (h : lv_has ls' L.length ((i, x_cv z b v) :: (x_lv z b L).filter (fun q => !(q.1 == i) && !(q.1 + 1 == i && q.2.category == 2)))) : x_LR z b L' ls' := by
  unfold x_st1 at hs
  split at hs
  · next hi =>
    cases hs
    refine ⟨by rw [h.1]; simp [x_cl_len], h.2.1, fun j w hj => ?_⟩
    by_cases hji : i = j
    · subst hji
      rw [List.getElem?_set_self (by rw [x_cl_len]; exact hi)] at hj
      cases hj
      exact h.2.2 (i, x_cv z b v) List.mem_cons_self
    · rw [List.getElem?_set_ne hji] at hj
      obtain ⟨h1, h2⟩ := x_cl_get hj
      refine h.2.2 (j, x_cv z b w) (List.mem_cons_of_mem _ (List.mem_filter.mpr ⟨x_lv_mem h1, ?_⟩))
      simp only [Bool.and_eq_true, Bool.not_eq_true', beq_eq_false_iff_ne, Bool.and_eq_false_iff, x_cv_cat]
      refine ⟨fun q => hji q.symm, ?_⟩
      by_cases hq : j + 1 = i
      · exact Or.inr fun q => h2 ⟨hq, q⟩
      · exact Or.inl hq
  · cases hs
theorem x_keep2 {z b : Nat} {L L' : xLs} {ls' : Array Slot} {i : Nat} {v : Value} (hs : x_st2 L i v = some L') (h : lv_has ls' L.length ((i, x_cv z b v) :: (x_lv z b L).filter (fun q => !(q.1 == i) && (!(q.1 == i + 1) && !(q.1 + 1 == i && q.2.category == 2))))) : x_LR z b L' ls' := by
  unfold x_st2 at hs
  split at hs
  · next hi =>
    cases hs
    refine ⟨by rw [h.1]; simp [x_cl_len], h.2.1, fun j w hj => ?_⟩
    by_cases hji : i = j
    · subst hji
      rw [List.getElem?_set_self (by rw [List.length_set, x_cl_len]; omega)] at hj
      cases hj
      exact h.2.2 (i, x_cv z b v) List.mem_cons_self
    · rw [List.getElem?_set_ne hji] at hj
      by_cases hj2 : i + 1 = j
      · subst hj2
        rw [List.getElem?_set_self (by rw [x_cl_len]; exact hi)] at hj
        cases hj
      · rw [List.getElem?_set_ne hj2] at hj
        obtain ⟨h1, h2⟩ := x_cl_get hj
        refine h.2.2 (j, x_cv z b w) (List.mem_cons_of_mem _ (List.mem_filter.mpr ⟨x_lv_mem h1, ?_⟩))
        simp only [Bool.and_eq_true, Bool.not_eq_true', beq_eq_false_iff_ne, Bool.and_eq_false_iff, x_cv_cat]
        refine ⟨fun q => hji q.symm, fun q => hj2 q.symm, ?_⟩
        by_cases hq : j + 1 = i
        · exact Or.inr fun q => h2 ⟨hq, q⟩
        · exact Or.inl hq
  · cases hs
theorem x_st1_lt {L L' : xLs} {i : Nat} {v : Value} (h : x_st1 L i v = some L') : i < L.length := by
  unfold x_st1 at h
  split at h
  · assumption
  · cases h
theorem x_st2_lt {L L' : xLs} {i : Nat} {v : Value} (h : x_st2 L i v = some L') : i + 1 < L.length := by
  unfold x_st2 at h
  split at h
  · assumption
  · cases h
/-- how many bytes an instruction has, where one length alone is let through -/
def x_lok (ins : Instr) (len : Nat) : Bool := match ins with
  | .bipush _ | .newarray _ | .ldc _ => len == 2
  | .sipush _ | .goto _ | .ifCond .. | .if_icmp .. | .ifnonnull _ | .getfield _ | .putfield _ | .new _ | .anewarray _ | .invokevirtual _ | .invokespecial _ | .invokestatic _ | .ldc_w _ | .ldc2_w _ => len == 3
  | .iload _ | .lload _ | .aload _ | .istore _ | .lstore _ | .astore _ | .iinc .. | .tableswitch .. | .lookupswitch .. => true
  | _ => len == 1
section XSP
variable {p : Program} {l : Launch} {e : Env} {R : Room} {s : State} {m : MethodId} {args : Array Value} {below : List Frame} {meth : Method} {c : Code} {H : Heap} {locs : List Loc} {cells slots : Nat} {Q : State → Prop}
variable {cc : ByteArray} {pc : Nat} {ls : Array Slot} {z b : Nat} {L L' : xLs} {st st' : List Value} {pc' : Nat}
theorem x_jmp_inv {off : Int} {r : List Value} (h : x_jmp pc off L r = some (pc', L', st')) : (pc : Int) + off = (pc' : Int) ∧ L' = L ∧ st' = r := by
  unfold x_jmp at h
  split at h
  · next h0 => cases h; exact ⟨(Int.toNat_of_nonneg h0).symm, rfl, rfl⟩
  · cases h
theorem x_br_go {cd : Prop} {d : Decidable cd} {off : Int} {r : List Value} {G : Prop} (h : x_br cd d pc off L r = some (pc', L', st')) (kk : L' = L → W p l e R s m args below meth c H locs cells slots Q (F0 m pc' ls (st'.map (x_cv z b))))
    (rule : ∀ tgt : Nat, (pc : Int) + off = (tgt : Int) → (cd → W p l e R s m args below meth c H locs cells slots Q (F0 m tgt ls (r.map (x_cv z b)))) → (¬ cd → W p l e R s m args below meth c H locs cells slots Q (F0 m (pc + 3) ls (r.map (x_cv z b)))) → G) : G := by
  unfold x_br at h
  split at h
  · next h0 =>
    cases h
    refine rule _ (Int.toNat_of_nonneg h0).symm (fun q => ?_) (fun q => ?_)
    · have := kk rfl
      rw [if_pos q] at this
      exact this
    · have := kk rfl
      rw [if_neg q] at this
      exact this
  · cases h
set_option maxHeartbeats 4000000 in
theorem x_sim_if (hexec : p.tables.exec = Jvm.exec) (hb : c.code = cc) {co : ClassFile.Cond} {off : Int} (hdg : decode cc pc = .ok (.ifCond co off, 3)) (h : x_if co pc off L st = some (pc', L', st'))
    (kk : L' = L → W p l e R s m args below meth c H locs cells slots Q (F0 m pc' ls (st'.map (x_cv z b)))) : W p l e R s m args below meth c H locs cells slots Q (F0 m pc ls (st.map (x_cv z b))) := by
  unfold x_if at h
  split at h
  · next x r =>
    cases co with
    | eq => exact x_br_go h kk fun tgt ht k1 k2 => lv_if_eq hexec hb hdg ht k1 k2
    | ne => exact x_br_go h kk fun tgt ht k1 k2 => lv_if_ne hexec hb hdg ht k1 (fun q => k2 fun hn => hn q)
    | lt => exact x_br_go h kk fun tgt ht k1 k2 => lv_if_lt hexec hb hdg ht k1 k2
    | ge => exact x_br_go h kk fun tgt ht k1 k2 => lv_if_ge hexec hb hdg ht k1 k2
    | gt => exact x_br_go h kk fun tgt ht k1 k2 => lv_if_gt hexec hb hdg ht k1 k2
    | le => exact x_br_go h kk fun tgt ht k1 k2 => lv_if_le hexec hb hdg ht k1 k2
  · cases h
set_option maxHeartbeats 4000000 in
theorem x_sim_ic (hexec : p.tables.exec = Jvm.exec) (hb : c.code = cc) {co : ClassFile.Cond} {off : Int} (hdg : decode cc pc = .ok (.if_icmp co off, 3)) (h : x_ic co pc off L st = some (pc', L', st'))
    (kk : L' = L → W p l e R s m args below meth c H locs cells slots Q (F0 m pc' ls (st'.map (x_cv z b)))) : W p l e R s m args below meth c H locs cells slots Q (F0 m pc ls (st.map (x_cv z b))) := by
  unfold x_ic at h
  split at h
  · next y x r =>
    cases co with
    | eq => exact x_br_go h kk fun tgt ht k1 k2 => lv_icmp_eq hexec hb hdg ht k1 k2
    | ne => exact x_br_go h kk fun tgt ht k1 k2 => lv_icmp_ne hexec hb hdg ht k1 (fun q => k2 fun hn => hn q)
    | lt => exact x_br_go h kk fun tgt ht k1 k2 => lv_icmp_lt hexec hb hdg ht k1 k2
    | ge => exact x_br_go h kk fun tgt ht k1 k2 => lv_icmp_ge hexec hb hdg ht k1 k2
    | gt => exact x_br_go h kk fun tgt ht k1 k2 => lv_icmp_gt hexec hb hdg ht k1 k2
    | le => exact x_br_go h kk fun tgt ht k1 k2 => lv_icmp_le hexec hb hdg ht k1 k2
  · cases h
/-- one word for each shape of an instruction's arithmetic -/
theorem x_b2_inv {f : Int32 → Int32 → Value} (h : x_b2 pc L st f = some (pc', L', st')) : ∃ x y r, st = .int y :: .int x :: r ∧ pc' = pc + 1 ∧ L' = L ∧ st' = f x y :: r := by
  unfold x_b2 at h
  split at h
  · next y x r => cases h; exact ⟨x, y, r, rfl, rfl, rfl, rfl⟩
  · cases h
theorem x_d2_inv {f : Int32 → Int32 → Value} (h : x_d2 pc L st f = some (pc', L', st')) : ∃ x y r, st = .int y :: .int x :: r ∧ ¬ y = 0 ∧ pc' = pc + 1 ∧ L' = L ∧ st' = f x y :: r := by
  unfold x_d2 at h
  split at h
  · next y x r =>
    split at h
    · cases h
    · next hy => cases h; exact ⟨x, y, r, rfl, hy, rfl, rfl, rfl⟩
  · cases h
theorem x_l2_inv {f : Int64 → Int64 → Value} (h : x_l2 pc L st f = some (pc', L', st')) : ∃ x y r, st = .long y :: .long x :: r ∧ pc' = pc + 1 ∧ L' = L ∧ st' = f x y :: r := by
  unfold x_l2 at h
  split at h
  · next y x r => cases h; exact ⟨x, y, r, rfl, rfl, rfl, rfl⟩
  · cases h
theorem x_m2_inv {f : Int64 → Int64 → Value} (h : x_m2 pc L st f = some (pc', L', st')) : ∃ x y r, st = .long y :: .long x :: r ∧ ¬ y = 0 ∧ pc' = pc + 1 ∧ L' = L ∧ st' = f x y :: r := by
  unfold x_m2 at h
  split at h
  · next y x r =>
    split at h
    · cases h
    · next hy => cases h; exact ⟨x, y, r, rfl, hy, rfl, rfl, rfl⟩
  · cases h
theorem x_s2_inv {f : Int64 → Int32 → Value} (h : x_s2 pc L st f = some (pc', L', st')) : ∃ x y r, st = .int y :: .long x :: r ∧ pc' = pc + 1 ∧ L' = L ∧ st' = f x y :: r := by
  unfold x_s2 at h
  split at h
  · next y x r => cases h; exact ⟨x, y, r, rfl, rfl, rfl, rfl⟩
  · cases h
theorem x_i1_inv {f : Int32 → Value} (h : x_i1 pc L st f = some (pc', L', st')) : ∃ x r, st = .int x :: r ∧ pc' = pc + 1 ∧ L' = L ∧ st' = f x :: r := by
  unfold x_i1 at h
  split at h
  · next x r => cases h; exact ⟨x, r, rfl, rfl, rfl, rfl⟩
  · cases h
theorem x_j1_inv {f : Int64 → Value} (h : x_j1 pc L st f = some (pc', L', st')) : ∃ x r, st = .long x :: r ∧ pc' = pc + 1 ∧ L' = L ∧ st' = f x :: r := by
  unfold x_j1 at h
  split at h
  · next x r => cases h; exact ⟨x, r, rfl, rfl, rfl, rfl⟩
  · cases h
theorem x_ldi_inv {k i : Nat} (h : x_ldi pc k L st i = some (pc', L', st')) : ∃ x, x_ld L i = some (.int x) ∧ pc' = pc + k ∧ L' = L ∧ st' = .int x :: st := by
  unfold x_ldi at h
  split at h
  · next x hx => cases h; exact ⟨x, hx, rfl, rfl, rfl⟩
  · cases h
theorem x_ldl_inv {k i : Nat} (h : x_ldl pc k L st i = some (pc', L', st')) : ∃ x, x_ld L i = some (.long x) ∧ pc' = pc + k ∧ L' = L ∧ st' = .long x :: st := by
  unfold x_ldl at h
  split at h
  · next x hx => cases h; exact ⟨x, hx, rfl, rfl, rfl⟩
  · cases h
theorem x_lda_inv {k i : Nat} (h : x_lda pc k L st i = some (pc', L', st')) : ∃ v, x_ld L i = some v ∧ ((∃ a, v = .ref a) ∨ v = .null ∨ ∃ a, v = .retAddr a) ∧ pc' = pc + k ∧ L' = L ∧ st' = v :: st := by
  unfold x_lda at h
  split at h
  · next x hx => cases h; exact ⟨_, hx, Or.inl ⟨x, rfl⟩, rfl, rfl, rfl⟩
  · next hx => cases h; exact ⟨_, hx, Or.inr (Or.inl rfl), rfl, rfl, rfl⟩
  · next x hx => cases h; exact ⟨_, hx, Or.inr (Or.inr ⟨x, rfl⟩), rfl, rfl, rfl⟩
  · cases h
theorem x_sti_inv {k i : Nat} (h : x_sti pc k L st i = some (pc', L', st')) : ∃ x r, st = .int x :: r ∧ x_st1 L i (.int x) = some L' ∧ pc' = pc + k ∧ st' = r := by
  unfold x_sti at h
  split at h
  · next x r =>
    cases hs : x_st1 L i (.int x) with
    | none => rw [hs] at h; cases h
    | some M => rw [hs] at h; cases h; exact ⟨x, _, rfl, hs, rfl, rfl⟩
  · cases h
theorem x_stl_inv {k i : Nat} (h : x_stl pc k L st i = some (pc', L', st')) : ∃ x r, st = .long x :: r ∧ x_st2 L i (.long x) = some L' ∧ pc' = pc + k ∧ st' = r := by
  unfold x_stl at h
  split at h
  · next x r =>
    cases hs : x_st2 L i (.long x) with
    | none => rw [hs] at h; cases h
    | some M => rw [hs] at h; cases h; exact ⟨x, _, rfl, hs, rfl, rfl⟩
  · cases h
theorem x_sta_inv {k i : Nat} (h : x_sta pc k L st i = some (pc', L', st')) : ∃ v r, st = v :: r ∧ ((∃ a, v = .ref a) ∨ v = .null) ∧ x_st1 L i v = some L' ∧ pc' = pc + k ∧ st' = r := by
  unfold x_sta at h
  split at h
  · next x r =>
    cases hs : x_st1 L i (.ref x) with
    | none => rw [hs] at h; cases h
    | some M => rw [hs] at h; cases h; exact ⟨_, _, rfl, Or.inl ⟨x, rfl⟩, hs, rfl, rfl⟩
  · next r =>
    cases hs : x_st1 L i .null with
    | none => rw [hs] at h; cases h
    | some M => rw [hs] at h; cases h; exact ⟨_, _, rfl, Or.inr rfl, hs, rfl, rfl⟩
  · cases h
end XSP
