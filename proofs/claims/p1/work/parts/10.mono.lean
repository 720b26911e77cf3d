/-! Worlds grow. -/
abbrev x_le (S S' : xS) : Prop := S.length ≤ S'.length ∧ x_slots S ≤ x_slots S'
theorem x_le_rf (S : xS) : x_le S S := ⟨Nat.le_refl _, Nat.le_refl _⟩
theorem x_le_tr {S S1 S2 : xS} (h : x_le S S1) (h2 : x_le S1 S2) : x_le S S2 := ⟨Nat.le_trans h.1 h2.1, Nat.le_trans h.2 h2.2⟩
theorem x_le_set {S : xS} {i : Nat} {e0 e : xE} (h : S[i]? = some e0) (he : x_sz e = x_sz e0) : x_le S (S.set i e) := ⟨by simp, by rw [x_slots_set h he]; exact Nat.le_refl _⟩
theorem x_le_app (S : xS) (e : xE) : x_le S (S ++ [e]) := ⟨by simp, by rw [x_slots_app]; exact Nat.le_add_right _ _⟩
section XMO
variable {df : List (List Value)} {scr : Option (Nat × (Nat → Int32))} {M : xM} {ins : Instr} {i k pc pc' : Nat} {L L' : xLs} {st st' : List Value} {S S' : xS}
abbrev x_mo (L L' : xLs) (S S' : xS) : Prop := L' = L ∧ x_le S S'
theorem x_get_mo (h : x_get M i pc L st S = some (pc', L', st', S')) : x_mo L L' S S' := by
  unfold x_get at h
  dsimp only at h
  repeat' split at h
  all_goals first | (cases h; done) | (cases h; exact ⟨rfl, x_le_rf _⟩)
theorem x_put_mo (h : x_put M i pc L st S = some (pc', L', st', S')) : x_mo L L' S S' := by
  unfold x_put at h
  dsimp only at h
  split at h
  · split at h
    · split at h
      · next ho =>
        split at h
        · next hc => cases h; exact ⟨rfl, x_le_set (x_obj_inv ho) (by simp [x_sz])⟩
        · cases h
      · cases h
    · cases h
  · cases h
theorem x_iald_mo (h : x_iald scr pc L st S = some (pc', L', st', S')) : x_mo L L' S S' := by
  unfold x_iald at h
  repeat' split at h
  all_goals first | (cases h; done) | (cases h; exact ⟨rfl, x_le_rf _⟩)
theorem x_bald_mo (h : x_bald pc L st S = some (pc', L', st', S')) : x_mo L L' S S' := by
  unfold x_bald at h
  repeat' split at h
  all_goals first | (cases h; done) | (cases h; exact ⟨rfl, x_le_rf _⟩)
theorem x_lald_mo (h : x_lald pc L st S = some (pc', L', st', S')) : x_mo L L' S S' := by
  unfold x_lald at h
  repeat' split at h
  all_goals first | (cases h; done) | (cases h; exact ⟨rfl, x_le_rf _⟩)
theorem x_aald_mo (h : x_aald pc L st S = some (pc', L', st', S')) : x_mo L L' S S' := by
  unfold x_aald at h
  repeat' split at h
  all_goals first | (cases h; done) | (cases h; exact ⟨rfl, x_le_rf _⟩)
theorem x_alen_mo (h : x_alen scr pc L st S = some (pc', L', st', S')) : x_mo L L' S S' := by
  unfold x_alen at h
  repeat' split at h
  all_goals first | (cases h; done) | (cases h; exact ⟨rfl, x_le_rf _⟩)
theorem x_iast_mo (h : x_iast pc L st S = some (pc', L', st', S')) : x_mo L L' S S' := by
  unfold x_iast at h
  split at h
  · split at h
    · next ha =>
      split at h
      · cases h; exact ⟨rfl, x_le_set (x_arr_inv ha) rfl⟩
      · cases h
    · cases h
  · cases h
theorem x_bast_mo (h : x_bast pc L st S = some (pc', L', st', S')) : x_mo L L' S S' := by
  unfold x_bast at h
  split at h
  · split at h
    · next ha =>
      split at h
      · cases h; exact ⟨rfl, x_le_set (x_arr_inv ha) rfl⟩
      · cases h
    · next ha =>
      split at h
      · cases h; exact ⟨rfl, x_le_set (x_arr_inv ha) rfl⟩
      · cases h
    · cases h
  · cases h
theorem x_last_mo (h : x_last pc L st S = some (pc', L', st', S')) : x_mo L L' S S' := by
  unfold x_last at h
  split at h
  · split at h
    · next ha =>
      split at h
      · cases h; exact ⟨rfl, x_le_set (x_arr_inv ha) rfl⟩
      · cases h
    · cases h
  · cases h
theorem x_aast_mo (h : x_aast pc L st S = some (pc', L', st', S')) : x_mo L L' S S' := by
  unfold x_aast at h
  split at h
  · split at h
    · next ha hv =>
      split at h
      · cases h; exact ⟨rfl, x_le_set (x_arr_inv ha) rfl⟩
      · cases h
    · cases h
  · cases h
theorem x_newa_mo {ty : ArrayType} (h : x_newa ty pc L st S = some (pc', L', st', S')) : x_mo L L' S S' := by
  unfold x_newa at h
  repeat' split at h
  all_goals first | (cases h; done) | (cases h; exact ⟨rfl, x_le_app _ _⟩)
theorem x_newq_mo (h : x_newq M i pc L st S = some (pc', L', st', S')) : x_mo L L' S S' := by
  unfold x_newq at h
  dsimp only at h
  repeat' split at h
  all_goals first | (cases h; done) | (cases h; exact ⟨rfl, x_le_app _ _⟩)
theorem x_new_mo (h : x_new df M i pc L st S = some (pc', L', st', S')) : x_mo L L' S S' := by
  unfold x_new at h
  dsimp only at h
  repeat' split at h
  all_goals first | (cases h; done) | (cases h; exact ⟨rfl, x_le_app _ _⟩)
theorem x_ldc_mo (h : x_ldc M i k pc L st S = some (pc', L', st', S')) : x_mo L L' S S' := by
  unfold x_ldc at h
  dsimp only at h
  repeat' split at h
  all_goals first | (cases h; done) | (cases h; exact ⟨rfl, x_le_rf _⟩)
theorem x_ldc2_mo (h : x_ldc2 M i pc L st S = some (pc', L', st', S')) : x_mo L L' S S' := by
  unfold x_ldc2 at h
  dsimp only at h
  repeat' split at h
  all_goals first | (cases h; done) | (cases h; exact ⟨rfl, x_le_rf _⟩)
theorem x_heap_mo (h : x_heap df scr M ins pc L st S = some (pc', L', st', S')) : x_mo L L' S S' := by
  cases ins with
  | getfield i => exact x_get_mo h
  | putfield i => exact x_put_mo h
  | iaload => exact x_iald_mo h
  | baload => exact x_bald_mo h
  | laload => exact x_lald_mo h
  | aaload => exact x_aald_mo h
  | iastore => exact x_iast_mo h
  | bastore => exact x_bast_mo h
  | lastore => exact x_last_mo h
  | aastore => exact x_aast_mo h
  | arraylength => exact x_alen_mo h
  | newarray ty => exact x_newa_mo h
  | anewarray i => exact x_newq_mo h
  | new i => exact x_new_mo h
  | ldc i => exact x_ldc_mo h
  | ldc_w i => exact x_ldc_mo h
  | ldc2_w i => exact x_ldc2_mo h
  | _ => exact (x_no (show (none : Option xY) = some (pc', L', st', S') from h)).elim
abbrev x_cmo (call : xO) : Prop := ∀ (j : Nat) (as : List Value) (S : xS) (r : Option Value) (S' : xS), call j as S = some (r, S') → x_le S S'
theorem x_call_mo {call : xO} (hc : x_cmo call) {j : Nat} {as : List Value} (h : x_call call j as pc L st S = some (pc', L', st', S')) : x_mo L L' S S' := by
  unfold x_call at h
  split at h
  · split at h
    · next v S1 hv => cases h; exact ⟨rfl, hc _ _ _ _ _ hv⟩
    · cases h
  · cases h
theorem x_inv_mo {call : xO} (hc : x_cmo call) (h : x_inv call M ins pc L st S = some (pc', L', st', S')) : x_mo L L' S S' := by
  cases ins with
  | invokevirtual i =>
    dsimp only [x_inv] at h
    repeat' split at h
    all_goals first | (cases h; done) | exact x_call_mo hc h
  | invokespecial i =>
    dsimp only [x_inv] at h
    repeat' split at h
    all_goals first | exact x_call_mo hc h | (cases h; exact ⟨rfl, x_le_rf _⟩) | (cases h; done)
  | invokestatic i =>
    dsimp only [x_inv] at h
    repeat' split at h
    all_goals first | exact x_call_mo hc h | (cases h; exact ⟨rfl, x_le_rf _⟩) | (cases h; done)
  | _ => exact (x_no (show (none : Option xY) = some (pc', L', st', S') from h)).elim
theorem x_step_mo {call : xO} (hc : x_cmo call) (h : x_step df scr call M pc L st S = some (.inl (pc', L', st', S'))) : L'.length = L.length ∧ x_le S S' := by
  unfold x_step at h
  split at h
  · cases h
  · split at h
    · cases hr : x_ret M _ st with
      | none => rw [hr] at h; cases h
      | some v => rw [hr] at h; cases h
    · split at h
      · next hp => cases h; exact ⟨x_pure_len hp, x_le_rf _⟩
      · split at h
        · next hy => cases h; have := x_heap_mo hy; exact ⟨by rw [this.1], this.2⟩
        · obtain ⟨y, hi, he⟩ := Option.map_eq_some_iff.mp h
          cases he
          have := x_inv_mo hc hi
          exact ⟨by rw [this.1], this.2⟩
theorem x_run_mo {call : xO} (hc : x_cmo call) : ∀ (n pc : Nat) (L : xLs) (st : List Value) (S : xS) (r : Option Value) (S' : xS), x_run df scr call M n pc L st S = some (r, S') → x_le S S' := by
  intro n
  induction n with
  | zero => intro pc L st S r S' h; cases h
  | succ n ih =>
    intro pc L st S r S' h
    unfold x_run at h
    split at h
    · cases h
    · next q hq =>
      cases h
      unfold x_step at hq
      split at hq
      · cases hq
      · split at hq
        · cases hr : x_ret M _ st with
          | none => rw [hr] at hq; cases hq
          | some v => rw [hr] at hq; cases hq; exact x_le_rf _
        · split at hq
          · cases hq
          · split at hq
            · cases hq
            · obtain ⟨y, hi, he⟩ := Option.map_eq_some_iff.mp hq
              cases he
    · next hq => exact x_le_tr (x_step_mo hc hq).2 (ih _ _ _ _ _ _ h)
theorem x_do_mo (df : List (List Value)) (MT : List xM) (n : Nat) : ∀ d, x_cmo (x_do df MT n d) := by
  intro d
  induction d with
  | zero => intro j as S r S' h; cases h
  | succ d ih =>
    intro j as S r S' h
    simp only [x_do] at h
    split at h
    · cases h
    · split at h
      · cases h
      · exact x_run_mo ih _ _ _ _ _ _ _ h
end XMO
