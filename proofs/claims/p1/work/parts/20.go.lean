/-! Runs said by what they end in: steps, branches, calls, returns. -/
def x_ev (d j : Nat) (as : List Value) (S : xS) (Q : Option Value → xS → Prop) : Prop := ∃ (m0 : Nat) (r : Option Value) (S' : xS), (∀ m, m0 ≤ m → x_do x_df x_MT m d j as S = some (r, S')) ∧ Q r S'
def x_go (d : Nat) (scr : Option (Nat × (Nat → Int32))) (M : xM) (pc : Nat) (L : xLs) (st : List Value) (S : xS) (Q : Option Value → xS → Prop) : Prop := ∃ (m0 n0 : Nat) (r : Option Value) (S' : xS), (∀ m n, m0 ≤ m → n0 ≤ n → x_run x_df scr (x_do x_df x_MT m d) M n pc L st S = some (r, S')) ∧ Q r S'
/-- a step that calls nothing -/
def x_st0 (scr : Option (Nat × (Nat → Int32))) (M : xM) (y : xY) : Option xY := match y with
  | (pc, L, st, S) => match x_row M pc with
    | none => none
    | some (ins, len) => if x_isRet ins = true then none else match x_pure ins len pc L st with
      | some (pc', L', st') => some (pc', L', st', S)
      | none => x_heap x_df scr M ins pc L st S
def x_stn (scr : Option (Nat × (Nat → Int32))) (M : xM) : Nat → xY → Option xY
  | 0, y => some y
  | k + 1, y => match x_st0 scr M y with
    | some y' => x_stn scr M k y'
    | none => none
section XGO
variable {d : Nat} {scr : Option (Nat × (Nat → Int32))} {M : xM} {pc pc' : Nat} {L L' : xLs} {st st' : List Value} {S S' : xS} {Q : Option Value → xS → Prop}
theorem x_st0_step (call : xO) (h : x_st0 scr M (pc, L, st, S) = some (pc', L', st', S')) : x_step x_df scr call M pc L st S = some (.inl (pc', L', st', S')) := by
  unfold x_st0 at h
  dsimp only at h
  unfold x_step
  split at h
  · cases h
  · next ins len hr =>
    split at h
    · cases h
    · next hret =>
      simp only [hr]
      rw [if_neg hret]
      split at h
      · next hp => cases h; simp only [hp]
      · next hp => simp only [hp, h]
theorem g_step {m1 : Nat} (h : ∀ m, m1 ≤ m → x_step x_df scr (x_do x_df x_MT m d) M pc L st S = some (.inl (pc', L', st', S'))) (kk : x_go d scr M pc' L' st' S' Q) : x_go d scr M pc L st S Q := by
  obtain ⟨m0, n0, r, SF, hr, hq⟩ := kk
  refine ⟨max m0 m1, n0 + 1, r, SF, fun m n hm hn => ?_, hq⟩
  obtain ⟨k, rfl⟩ : ∃ k, n = k + 1 := ⟨n - 1, by omega⟩
  unfold x_run
  rw [h m (by omega)]
  exact hr m k (by omega) (by omega)
theorem g_n (k : Nat) (h : x_stn scr M k (pc, L, st, S) = some (pc', L', st', S')) (kk : x_go d scr M pc' L' st' S' Q) : x_go d scr M pc L st S Q := by
  induction k generalizing pc L st S with
  | zero => cases h; exact kk
  | succ k ih =>
    unfold x_stn at h
    split at h
    · next y hy =>
      obtain ⟨pc1, L1, st1, S1⟩ := y
      exact g_step (m1 := 0) (fun m _ => x_st0_step _ hy) (ih h)
    · cases h
/-- a branch -/
theorem g_br {c : Prop} {dc : Decidable c} {t f : Nat} (h : x_st0 scr M (pc, L, st, S) = some (@ite _ c dc t f, L', st', S)) (kt : c → x_go d scr M t L' st' S Q) (kf : ¬ c → x_go d scr M f L' st' S Q) : x_go d scr M pc L st S Q := by
  refine g_n 1 (pc' := @ite _ c dc t f) (L' := L') (st' := st') (S' := S) (by unfold x_stn; rw [h]; rfl) ?_
  by_cases hc : c
  · rw [if_pos hc]; exact kt hc
  · rw [if_neg hc]; exact kf hc
theorem g_ret {ins : Instr} {len : Nat} {r : Option Value} (hr : x_row M pc = some (ins, len)) (h1 : x_isRet ins = true) (h : x_ret M ins st = some r) (hq : Q r S) : x_go d scr M pc L st S Q := by
  refine ⟨0, 1, r, S, fun m n _ hn => ?_, hq⟩
  obtain ⟨k, rfl⟩ : ∃ k, n = k + 1 := ⟨n - 1, by omega⟩
  unfold x_run x_step
  simp only [hr]
  rw [if_pos h1, h]
  rfl
theorem g_inv {ins : Instr} {len : Nat} (hr : x_row M pc = some (ins, len)) (h1 : x_isRet ins = false) (hp : x_pure ins len pc L st = none) (hh : x_heap x_df scr M ins pc L st S = none) {m1 : Nat} (hi : ∀ m, m1 ≤ m → x_inv (x_do x_df x_MT m d) M ins pc L st S = some (pc', L', st', S')) (kk : x_go d scr M pc' L' st' S' Q) : x_go d scr M pc L st S Q := by
  refine g_step (m1 := m1) (fun m hm => ?_) kk
  unfold x_step
  simp only [hr]
  rw [if_neg (by rw [h1]; decide)]
  simp only [hp, hh, hi m hm]
  rfl
/-- a call of a method -/
theorem g_call {ins : Instr} {len j : Nat} {as rest : List Value} (hr : x_row M pc = some (ins, len)) (h1 : x_isRet ins = false) (hp : x_pure ins len pc L st = none) (hh : x_heap x_df scr M ins pc L st S = none) (hi : ∀ call : xO, x_inv call M ins pc L st S = x_call call j as pc L rest S) (hw : Nat.ble (x_w rest) 8 = true) (he : x_ev d j as S fun r S1 => x_go d scr M (pc + 3) L (r.toList ++ rest) S1 Q) : x_go d scr M pc L st S Q := by
  obtain ⟨m1, r, S1, hm, kk⟩ := he
  refine g_inv (m1 := m1) (pc' := pc + 3) (L' := L) (st' := r.toList ++ rest) (S' := S1) hr h1 hp hh (fun m hm1 => ?_) kk
  rw [hi]
  unfold x_call
  rw [if_pos (Nat.le_of_ble_eq_true hw), hm m hm1]
/-- a primitive (Math.max, Math.min, Object's constructor) -/
theorem g_prim {ins : Instr} {len : Nat} (hr : x_row M pc = some (ins, len)) (h1 : x_isRet ins = false) (hp : x_pure ins len pc L st = none) (hh : x_heap x_df scr M ins pc L st S = none) (hi : ∀ call : xO, x_inv call M ins pc L st S = some (pc', L', st', S')) (kk : x_go d scr M pc' L' st' S' Q) : x_go d scr M pc L st S Q := g_inv (m1 := 0) hr h1 hp hh (fun _ _ => hi _) kk
theorem g_in {j : Nat} {as : List Value} (hM : x_MT[j]? = some M) (hL : x_entry M.2.2.1 as = some L) (kk : x_go d none M 0 L [] S Q) : x_ev (d + 1) j as S Q := by
  obtain ⟨m0, n0, r, SF, hr, hq⟩ := kk
  refine ⟨max m0 n0, r, SF, fun m hm => ?_, hq⟩
  simp only [x_do, hM, hL]
  exact hr m m (by omega) (by omega)
theorem x_ev.mono {j : Nat} {as : List Value} {P : Option Value → xS → Prop} (h : x_ev d j as S P) (k : ∀ r S', P r S' → Q r S') : x_ev d j as S Q := by
  obtain ⟨m0, r, S', h1, h2⟩ := h
  exact ⟨m0, r, S', h1, k r S' h2⟩
theorem x_go.mono {P : Option Value → xS → Prop} (h : x_go d scr M pc L st S P) (k : ∀ r S', P r S' → Q r S') : x_go d scr M pc L st S Q := by
  obtain ⟨m0, n0, r, S', h1, h2⟩ := h
  exact ⟨m0, n0, r, S', h1, k r S' h2⟩
end XGO
