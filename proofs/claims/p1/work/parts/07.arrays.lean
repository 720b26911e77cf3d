/-! The pure machine's steps on arrays are the real machine's. -/
section XSA
variable {p : Program} {l : Launch} {e : Env} {R : Room} {s : State} {m : MethodId} {args : Array Value} {below : List Frame} {meth : Method} {c : Code} {H : Heap} {locs : List Loc} {cells slots : Nat} {Q : State → Prop}
variable {cc : ByteArray} {pc : Nat} {ls : Array Slot} {z b : Nat} {L L' : xLs} {st st' : List Value} {pc' : Nat} {S S' : xS} {D : va_G} {cl : List vw_C} {cA : Nat → ClassId} {MT : List xM} {df : List (List Value)} {Ts NX : List Jvm.Cond} {own : String} {M : xM} {i : Nat}
abbrev x_scrOk (b z : Nat) (scr : Option (Nat × (Nat → Int32))) (s : State) : Prop := ∀ (n : Nat) (f : Nat → Int32), scr = some (n, f) → va_X b n f s s.heap ∧ b < s.heap.size ∧ b < z
theorem x_sim_iald {scr : Option (Nat × (Nat → Int32))} (hexec : p.tables.exec = Jvm.exec) (hb : c.code = cc) (hK : va_K D cl (x_tys cA) s) (hX : x_scrOk b z scr s) (hdg : decode cc pc = .ok (.iaload, 1)) (hW : x_Wd D cl cA z b S H) (hS : va_S (fun q => z ≤ q) s.heap H locs)
    (h : x_iald scr pc L st S = some (pc', L', st', S')) (kk : L' = L → S' = S → W p l e R s m args below meth c H locs cells slots Q (F0 m pc' ls (st'.map (x_cv z b)))) : W p l e R s m args below meth c H locs cells slots Q (F0 m pc ls (st.map (x_cv z b))) := by
  unfold x_iald at h
  split at h
  · next j a r =>
    split at h
    · next n f ha =>
      split at h
      · next hin =>
        cases h
        exact va_iald hexec hb hK hW.2 a 0 (x_wl_get (cA := cA) (z := z) (b := b) (x_arr_inv ha)) (x_tys_get cA (t := 0) (by decide)) (x_in_vp hin) hdg (kk rfl rfl)
      · cases h
    · cases h
  · next j a r =>
    split at h
    · next n f =>
      split at h
      · next hin =>
        cases h
        obtain ⟨h1, h2, h3⟩ := hX n f rfl
        exact va_sld hexec hb h1 h2 (Nat.not_le.mpr h3) hS (x_in_vp hin) hdg (kk rfl rfl)
      · cases h
    · cases h
  · cases h
theorem x_sim_bald (hexec : p.tables.exec = Jvm.exec) (hb : c.code = cc) (hK : va_K D cl (x_tys cA) s) (hdg : decode cc pc = .ok (.baload, 1)) (hW : x_Wd D cl cA z b S H)
    (h : x_bald pc L st S = some (pc', L', st', S')) (kk : L' = L → S' = S → W p l e R s m args below meth c H locs cells slots Q (F0 m pc' ls (st'.map (x_cv z b)))) : W p l e R s m args below meth c H locs cells slots Q (F0 m pc ls (st.map (x_cv z b))) := by
  unfold x_bald at h
  split at h
  · next j a r =>
    split at h
    · next n f ha =>
      split at h
      · next hin =>
        cases h
        exact va_bald hexec hb hK hW.2 a 2 (x_wl_get (cA := cA) (z := z) (b := b) (x_arr_inv ha)) (x_tys_get cA (t := 2) (by decide)) (x_in_vp hin) hdg (kk rfl rfl)
      · cases h
    · next n f ha =>
      split at h
      · next hin =>
        cases h
        exact va_zald hexec hb hK hW.2 a 3 (x_wl_get (cA := cA) (z := z) (b := b) (x_arr_inv ha)) (x_tys_get cA (t := 3) (by decide)) (x_in_vp hin) hdg (kk rfl rfl)
      · cases h
    · cases h
  · cases h
theorem x_sim_lald (hexec : p.tables.exec = Jvm.exec) (hb : c.code = cc) (hK : va_K D cl (x_tys cA) s) (hdg : decode cc pc = .ok (.laload, 1)) (hW : x_Wd D cl cA z b S H)
    (h : x_lald pc L st S = some (pc', L', st', S')) (kk : L' = L → S' = S → W p l e R s m args below meth c H locs cells slots Q (F0 m pc' ls (st'.map (x_cv z b)))) : W p l e R s m args below meth c H locs cells slots Q (F0 m pc ls (st.map (x_cv z b))) := by
  unfold x_lald at h
  split at h
  · next j a r =>
    split at h
    · next n f ha =>
      split at h
      · next hin =>
        cases h
        exact va_lald hexec hb hK hW.2 a 1 (x_wl_get (cA := cA) (z := z) (b := b) (x_arr_inv ha)) (x_tys_get cA (t := 1) (by decide)) (x_in_vp hin) hdg (kk rfl rfl)
      · cases h
    · cases h
  · cases h
theorem x_ty_obj {t : Nat} (h : 4 ≤ t) : ∃ C, x_ty t = .object C := by
  match t, h with
  | 4, _ => exact ⟨_, rfl⟩
  | 5, _ => exact ⟨_, rfl⟩
  | k + 6, _ => exact ⟨_, rfl⟩
theorem x_sim_aald (hexec : p.tables.exec = Jvm.exec) (hb : c.code = cc) (hK : va_K D cl (x_tys cA) s) (hdg : decode cc pc = .ok (.aaload, 1)) (hW : x_Wd D cl cA z b S H)
    (h : x_aald pc L st S = some (pc', L', st', S')) (kk : L' = L → S' = S → W p l e R s m args below meth c H locs cells slots Q (F0 m pc' ls (st'.map (x_cv z b)))) : W p l e R s m args below meth c H locs cells slots Q (F0 m pc ls (st.map (x_cv z b))) := by
  unfold x_aald at h
  split at h
  · next j a r =>
    split at h
    · next t n f ha =>
      split at h
      · next hin =>
        cases h
        obtain ⟨C, hCt⟩ := x_ty_obj hin.1
        have ht := x_tys_get cA (t := t) (by omega)
        rw [hCt] at ht
        have k1 := kk rfl rfl
        rw [List.map_cons, ← x_rf_cv] at k1
        exact va_aldq hexec hb hK hW.2 a t (x_wl_get (cA := cA) (z := z) (b := b) (x_arr_inv ha)) ht (x_in_vp hin.2.2) hdg k1
      · cases h
    · cases h
  · cases h
theorem x_sim_alen {scr : Option (Nat × (Nat → Int32))} (hexec : p.tables.exec = Jvm.exec) (hb : c.code = cc) (hK : va_K D cl (x_tys cA) s) (hX : x_scrOk b z scr s) (hdg : decode cc pc = .ok (.arraylength, 1)) (hW : x_Wd D cl cA z b S H) (hS : va_S (fun q => z ≤ q) s.heap H locs)
    (h : x_alen scr pc L st S = some (pc', L', st', S')) (kk : L' = L → S' = S → W p l e R s m args below meth c H locs cells slots Q (F0 m pc' ls (st'.map (x_cv z b)))) : W p l e R s m args below meth c H locs cells slots Q (F0 m pc ls (st.map (x_cv z b))) := by
  unfold x_alen at h
  split at h
  · next a r =>
    split at h
    · next t n x ha =>
      split at h
      · next ht =>
        cases h
        refine va_alen hexec hb hK hW.2 a t (x_wl_get (cA := cA) (z := z) (b := b) (x_arr_inv ha)) (x_tys_get cA (t := t) (by omega)) ?_ hdg (kk rfl rfl)
        obtain f | f | f | f | f := x <;> rfl
      · cases h
    · cases h
  · next a r =>
    split at h
    · next n f =>
      cases h
      obtain ⟨h1, h2, h3⟩ := hX n f rfl
      exact va_slen hexec hb h1 h2 (Nat.not_le.mpr h3) hS hdg (kk rfl rfl)
    · cases h
  · cases h
abbrev x_KK (D : va_G) (cl : List vw_C) (cA : Nat → ClassId) (z b : Nat) (s : State) (L L' : xLs) (S S' : xS) (G : Heap → List Loc → Prop) : Prop := ∀ (H1 : Heap) (locs1 : List Loc), L' = L → S'.length = S.length → x_slots S' = x_slots S → x_Wd D cl cA z b S' H1 → va_S (fun q => z ≤ q) s.heap H1 locs1 → G H1 locs1
set_option maxHeartbeats 4000000 in
theorem x_sim_iast (hexec : p.tables.exec = Jvm.exec) (hb : c.code = cc) (hK : va_K D cl (x_tys cA) s) (hdg : decode cc pc = .ok (.iastore, 1)) (hW : x_Wd D cl cA z b S H) (hS : va_S (fun q => z ≤ q) s.heap H locs)
    (h : x_iast pc L st S = some (pc', L', st', S')) (kk : x_KK D cl cA z b s L L' S S' fun H1 locs1 => W p l e R s m args below meth c H1 locs1 cells slots Q (F0 m pc' ls (st'.map (x_cv z b)))) : W p l e R s m args below meth c H locs cells slots Q (F0 m pc ls (st.map (x_cv z b))) := by
  unfold x_iast at h
  split at h
  · next x j a r =>
    split at h
    · next n f ha =>
      split at h
      · next hin =>
        cases h
        have hS0 := x_arr_inv ha
        have hg : (x_wl cA z b S)[a]? = some (z + a, .inl (cA 0, n, .inl f)) := x_wl_get hS0
        have hin2 := x_in_vp hin
        refine W.iast hexec hb (hW.2 a _ hg) ((hK.2 0 _ (x_tys_get cA (t := 0) (by decide))).1 n (fun j => .int (f j))) (fun q => by cases q) (by show ¬ (j < 0 ∨ (arrV _ _ _).slots.size ≤ _); rw [arrV_size]; exact hin2) rfl rfl hdg fun H1 e z1 oq => ?_
        refine kk H1 _ rfl List.length_set (x_slots_set hS0 rfl) (hW.stored hS0 ?_ z1 oq) (hS.put z1 oq (Nat.le_add_right z a))
        show H1[z + a]? = some (vp_cell (cA 0) (n, .inl (upd f j.toNatClampNeg x)))
        rw [e]
        show some ((vp_cell (cA 0) (n, .inl f)).setSlot _ _) = _
        rw [vp_cell_i, vp_cell_i, arrV_store]
        congr 2
        funext q
        by_cases hq : q = j.toNatClampNeg
        · subst hq
          simp [updV, upd]
        · simp [updV, upd, hq]
      · cases h
    · cases h
  · cases h
set_option maxHeartbeats 4000000 in
theorem x_sim_bast (hexec : p.tables.exec = Jvm.exec) (hb : c.code = cc) (hK : va_K D cl (x_tys cA) s) (hdg : decode cc pc = .ok (.bastore, 1)) (hW : x_Wd D cl cA z b S H) (hS : va_S (fun q => z ≤ q) s.heap H locs)
    (h : x_bast pc L st S = some (pc', L', st', S')) (kk : x_KK D cl cA z b s L L' S S' fun H1 locs1 => W p l e R s m args below meth c H1 locs1 cells slots Q (F0 m pc' ls (st'.map (x_cv z b)))) : W p l e R s m args below meth c H locs cells slots Q (F0 m pc ls (st.map (x_cv z b))) := by
  unfold x_bast at h
  split at h
  · next x j a r =>
    split at h
    · next n f ha =>
      split at h
      · next hin =>
        cases h
        have hS0 := x_arr_inv ha
        have hg : (x_wl cA z b S)[a]? = some (z + a, .inl (cA 2, n, .inl f)) := x_wl_get hS0
        have hin2 := x_in_vp hin
        refine W.bast hexec hb (hW.2 a _ hg) ((hK.2 2 _ (x_tys_get cA (t := 2) (by decide))).1 n (fun j => .int (f j))) (fun q => by cases q) (by show ¬ (j < 0 ∨ (arrV _ _ _).slots.size ≤ _); rw [arrV_size]; exact hin2) rfl rfl hdg fun H1 e z1 oq => ?_
        refine kk H1 _ rfl List.length_set (x_slots_set hS0 rfl) (hW.stored hS0 ?_ z1 oq) (hS.put z1 oq (Nat.le_add_right z a))
        show H1[z + a]? = some (vp_cell (cA 2) (n, .inl (upd f j.toNatClampNeg (vp_nar .byte x))))
        rw [e]
        show some ((vp_cell (cA 2) (n, .inl f)).setSlot _ _) = _
        rw [vp_cell_i, vp_cell_i, arrV_store]
        congr 2
        funext q
        by_cases hq : q = j.toNatClampNeg
        · subst hq
          simp [updV, upd, vp_nar, narrow]
        · simp [updV, upd, hq]
      · cases h
    · next n f ha =>
      split at h
      · next hin =>
        cases h
        have hS0 := x_arr_inv ha
        have hg : (x_wl cA z b S)[a]? = some (z + a, .inl (cA 3, n, .inl f)) := x_wl_get hS0
        have hin2 := x_in_vp hin
        refine W.zast hexec hb (hW.2 a _ hg) ((hK.2 3 _ (x_tys_get cA (t := 3) (by decide))).1 n (fun j => .int (f j))) (fun q => by cases q) (by show ¬ (j < 0 ∨ (arrV _ _ _).slots.size ≤ _); rw [arrV_size]; exact hin2) rfl rfl hdg fun H1 e z1 oq => ?_
        refine kk H1 _ rfl List.length_set (x_slots_set hS0 rfl) (hW.stored hS0 ?_ z1 oq) (hS.put z1 oq (Nat.le_add_right z a))
        show H1[z + a]? = some (vp_cell (cA 3) (n, .inl (upd f j.toNatClampNeg (vp_nar .boolean x))))
        rw [e]
        show some ((vp_cell (cA 3) (n, .inl f)).setSlot _ _) = _
        rw [vp_cell_i, vp_cell_i, arrV_store]
        congr 2
        funext q
        by_cases hq : q = j.toNatClampNeg
        · subst hq
          simp [updV, upd, vp_nar, narrow]
        · simp [updV, upd, hq]
      · cases h
    · cases h
  · cases h
set_option maxHeartbeats 4000000 in
theorem x_sim_last (hexec : p.tables.exec = Jvm.exec) (hb : c.code = cc) (hK : va_K D cl (x_tys cA) s) (hdg : decode cc pc = .ok (.lastore, 1)) (hW : x_Wd D cl cA z b S H) (hS : va_S (fun q => z ≤ q) s.heap H locs)
    (h : x_last pc L st S = some (pc', L', st', S')) (kk : x_KK D cl cA z b s L L' S S' fun H1 locs1 => W p l e R s m args below meth c H1 locs1 cells slots Q (F0 m pc' ls (st'.map (x_cv z b)))) : W p l e R s m args below meth c H locs cells slots Q (F0 m pc ls (st.map (x_cv z b))) := by
  unfold x_last at h
  split at h
  · next x j a r =>
    split at h
    · next n f ha =>
      split at h
      · next hin =>
        cases h
        have hS0 := x_arr_inv ha
        have hg : (x_wl cA z b S)[a]? = some (z + a, .inl (cA 1, n, .inr (.inl f))) := x_wl_get hS0
        have hin2 := x_in_vp hin
        refine W.last hexec hb (hW.2 a _ hg) ((hK.2 1 _ (x_tys_get cA (t := 1) (by decide))).1 n (fun j => .long (f j))) (fun q => by cases q) (by show ¬ (j < 0 ∨ (arrV _ _ _).slots.size ≤ _); rw [arrV_size]; exact hin2) rfl rfl hdg fun H1 e z1 oq => ?_
        refine kk H1 _ rfl List.length_set (x_slots_set hS0 rfl) (hW.stored hS0 ?_ z1 oq) (hS.put z1 oq (Nat.le_add_right z a))
        show H1[z + a]? = some (vp_cell (cA 1) (n, .inr (.inl (vp_updL f j.toNatClampNeg x))))
        rw [e]
        show some ((vp_cell (cA 1) (n, .inr (.inl f))).setSlot _ _) = _
        rw [vp_cell_l, vp_cell_l, arrV_store]
        congr 2
        funext q
        by_cases hq : q = j.toNatClampNeg
        · subst hq
          simp [updV, vp_updL]
        · simp [updV, vp_updL, hq]
      · cases h
    · cases h
  · cases h
end XSA
