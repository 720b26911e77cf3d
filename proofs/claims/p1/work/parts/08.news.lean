/-! The pure machine's making, storing of references, constants. -/
section XSN
variable {p : Program} {l : Launch} {e : Env} {R : Room} {s : State} {m : MethodId} {args : Array Value} {below : List Frame} {meth : Method} {c : Code} {H : Heap} {locs : List Loc} {cells slots : Nat} {Q : State → Prop}
variable {cc : ByteArray} {pc : Nat} {ls : Array Slot} {z b : Nat} {L L' : xLs} {st st' : List Value} {pc' : Nat} {S S' : xS} {D : va_G} {cl : List vw_C} {cA : Nat → ClassId} {MT : List xM} {df : List (List Value)} {Ts NX : List Jvm.Cond} {own : String} {M : xM} {i : Nat}
/-- array classes: their words, the classes of what they hold -/
def x_okZ (cl : List vw_C) (Ts : List Jvm.Cond) : Prop := (∀ t, t < 4 → Cond.arrayClass (x_ty t) ∈ Ts) ∧ ∀ t, 4 ≤ t → t ≤ 6 → ∃ r : vw_C, cl[x_tc t]? = some r ∧ x_ty t = .object r.1
set_option maxHeartbeats 4000000 in
theorem x_sim_aast (hexec : p.tables.exec = Jvm.exec) (hb : c.code = cc) (hK : va_K D cl (x_tys cA) s) (hZ : x_okZ cl Ts) (hdg : decode cc pc = .ok (.aastore, 1)) (hW : x_Wd D cl cA z b S H) (hS : va_S (fun q => z ≤ q) s.heap H locs)
    (h : x_aast pc L st S = some (pc', L', st', S')) (kk : x_KK D cl cA z b s L L' S S' fun H1 locs1 => W p l e R s m args below meth c H1 locs1 cells slots Q (F0 m pc' ls (st'.map (x_cv z b)))) : W p l e R s m args below meth c H locs cells slots Q (F0 m pc ls (st.map (x_cv z b))) := by
  unfold x_aast at h
  split at h
  · next v j a r =>
    split at h
    · next t n f ci fs ha hv =>
      split at h
      · next hin =>
        obtain ⟨h4, h6, rfl, hin1⟩ := hin
        cases h
        obtain ⟨r, hc, hty⟩ := hZ.2 t h4 h6
        have hS0 := x_arr_inv ha
        have hg : (x_wl cA z b S)[a]? = some (z + a, .inl (cA t, n, .inr (.inr (.inr (.inr fun i => (f i).map fun q => z + q))))) := x_wl_get hS0
        have hgv := x_wl_get (cA := cA) (z := z) (b := b) (x_obj_inv hv)
        have hin2 := x_in_vp hin1
        have hlt : j.toNatClampNeg < n := Nat.not_le.mp fun q => hin2 (Or.inr q)
        have h0 : ¬ j < 0 := fun q => hin2 (Or.inl q)
        have ht := x_tys_get cA (t := t) (by omega)
        rw [hty] at ht
        obtain ⟨r', hr', cellV, g1, g2, g3, -⟩ := hW.2 v _ hgv
        have hcls := (hK.1 _ r hc).2
        obtain ⟨kA, comp, k1, k2, k3, -⟩ := (hK.2 t _ ht).2
        have hcomp : comp = D.1 (x_tc t) := Option.some.inj (k3.symm.trans hcls.1)
        subst hcomp
        obtain ⟨kC, hkC, -⟩ := hcls.2
        refine W.aast hexec hb (hW.2 a _ hg) (fun q h => by cases h) (fun h => by cases h) k1 k2 rfl hkC ⟨h0, by show _ < (arrV _ _ _).slots.size; rw [arrV_size]; exact hlt⟩ g1 (fun q h => by rw [g3] at h; cases h) (by rw [g2]; exact hkC) (by rw [g2]; exact va_assign hcls) rfl rfl hdg fun H1 e z1 oq => ?_
        refine kk H1 _ rfl List.length_set (x_slots_set hS0 rfl) (hW.stored hS0 ?_ z1 oq) (hS.put z1 oq (Nat.le_add_right z a))
        show H1[z + a]? = some (vp_cell (cA t) (n, .inr (.inr (.inr (.inr fun i => (va_up f j.toNatClampNeg (some v) i).map fun q => z + q)))))
        rw [e]
        show some ((vp_cell (cA t) (n, .inr (.inr (.inr (.inr fun i => (f i).map fun q => z + q))))).setSlot _ _) = _
        rw [vp_cell_q, vp_cell_q, arrV_store]
        congr 2
        funext q
        by_cases hq : q = j.toNatClampNeg
        · subst hq
          simp [updV, va_up, va_rf]
        · simp [updV, va_up, hq]
      · cases h
    · cases h
  · cases h
abbrev x_KN (D : va_G) (cl : List vw_C) (cA : Nat → ClassId) (z b : Nat) (s : State) (L L' : xLs) (S S' : xS) (locs : List Loc) (cells slots : Nat) (G : Heap → Nat → Nat → Prop) : Prop := ∀ (H1 : Heap) (c1 s1 : Nat), L' = L → c1 + S.length = cells + S'.length → s1 + x_slots S = slots + x_slots S' → x_Wd D cl cA z b S' H1 → va_S (fun q => z ≤ q) s.heap H1 locs → G H1 c1 s1
theorem x_S_new {z : Nat} {H0 H H1 : Heap} {locs : List Loc} (hS : va_S (fun q => z ≤ q) H0 H locs) (z1 : H1.size = H.size + 1) (o1 : ∀ q, q < H.size → H1[q]? = H[q]?) : va_S (fun q => z ≤ q) H0 H1 locs := ⟨Nat.le_trans hS.1 (by omega), fun x h1 h2 => (o1 x (Nat.lt_of_lt_of_le h1 hS.1)).trans (hS.2.1 x h1 h2), hS.2.2⟩
theorem x_nm_of {U : State} {c1 : ClassId} {ty : FieldType} (h : va_RA U c1 ty) : U.vm.findClass ("[" ++ ty.toString) = some c1 := by
  cases ty <;> first | exact h | (obtain ⟨_, _, _, _, _, h⟩ := h; exact h)
set_option maxHeartbeats 4000000 in
theorem x_sim_newa (hexec : p.tables.exec = Jvm.exec) (hb : c.code = cc) (hts : ∀ w ∈ Ts, w.before args s = true) (hK : va_K D cl (x_tys cA) s) (hZ : x_okZ cl Ts) {ty : ArrayType} (hdg : decode cc pc = .ok (.newarray ty, 2)) (hW : x_Wd D cl cA z b S H) (hS : va_S (fun q => z ≤ q) s.heap H locs)
    (h : x_newa ty pc L st S = some (pc', L', st', S')) (hr1 : cells + S'.length ≤ R.cells + S.length) (hr2 : slots + x_slots S' ≤ R.slots + x_slots S)
    (kk : x_KN D cl cA z b s L L' S S' locs cells slots fun H1 c1 s1 => W p l e R s m args below meth c H1 locs c1 s1 Q (F0 m pc' ls (st'.map (x_cv z b)))) : W p l e R s m args below meth c H locs cells slots Q (F0 m pc ls (st.map (x_cv z b))) := by
  unfold x_newa at h
  split at h
  · next n r =>
    split at h
    · next hn =>
      have go : ∀ (t : Nat) (a0 : vp_A), t < 4 → newarray.typeOf ty = x_ty t → componentBytes (x_ty t) ≤ 8 → a0.1 = n.toNatClampNeg → (∀ c1 : ClassId, vp_cell c1 (x_ca z a0) = arrV c1 n.toNatClampNeg (fun _ => defaultValue (x_ty t))) →
          some (pc + 2, L, Value.ref S.length :: r, S ++ [Sum.inr (t, a0)]) = some (pc', L', st', S') → W p l e R s m args below meth c H locs cells slots Q (F0 m pc ls ((Value.int n :: r).map (x_cv z b))) := by
        intro t a0 ht hty hcb ha1 ha h
        cases h
        rw [List.length_append, List.length_singleton] at hr1
        rw [x_slots_app] at hr2
        have hsz : x_sz (.inr (t, a0)) = n.toNatClampNeg := ha1
        rw [hsz] at hr2
        have harr := hts _ (hZ.1 t ht)
        rw [← hty] at harr hcb
        have hbt : n.toNatClampNeg * componentBytes (newarray.typeOf ty) ≤ 536870912 := Nat.le_trans (Nat.mul_le_mul hn.2 hcb) (by decide)
        refine va_newaK (N := n.toNatClampNeg) hexec hb harr rfl hdg rfl (Int32.not_lt.mpr hn.1) rfl hbt (by omega) (by omega) hW.1 fun H1 c1 e1 z1 o1 hAr hNm => ?_
        rw [← hW.1] at z1 o1
        have hc : c1 = cA t := by
          have := (hK.2 t _ (x_tys_get cA (t := t) (by omega))).2
          have := x_nm_of this
          rw [hty] at hNm
          exact Option.some.inj (hNm.symm.trans this)
        subst hc
        refine kk H1 _ _ rfl (by rw [List.length_append, List.length_singleton]; omega) (by rw [x_slots_app, hsz]; omega) (hW.pushed ?_ z1 o1) (x_S_new hS z1 o1)
        show H1[z + S.length]? = some (vp_cell (cA t) (x_ca z a0))
        rw [ha, ← hty]
        exact e1
      cases ty with
      | int => exact go 0 (n.toNatClampNeg, .inl fun _ => 0) (by decide) rfl (by decide) rfl (fun c1 => rfl) h
      | long => exact go 1 (n.toNatClampNeg, .inr (.inl fun _ => 0)) (by decide) rfl (by decide) rfl (fun c1 => rfl) h
      | byte => exact go 2 (n.toNatClampNeg, .inl fun _ => 0) (by decide) rfl (by decide) rfl (fun c1 => rfl) h
      | boolean => exact go 3 (n.toNatClampNeg, .inl fun _ => 0) (by decide) rfl (by decide) rfl (fun c1 => rfl) h
      | _ => cases h
    · cases h
  · cases h
set_option maxHeartbeats 4000000 in
theorem x_sim_newq (hexec : p.tables.exec = Jvm.exec) (hb : c.code = cc) (hts : ∀ w ∈ Ts, w.before args s = true) (hown : s.vm.findClass own = some m.cls) (hK : va_K D cl (x_tys cA) s) (hN : x_Nx NX s) (hq : x_okL cl MT Ts NX own i (x_pool M i)) (hdg : decode cc pc = .ok (.anewarray i, 3)) (hW : x_Wd D cl cA z b S H) (hS : va_S (fun q => z ≤ q) s.heap H locs)
    (h : x_newq M i pc L st S = some (pc', L', st', S')) (hr1 : cells + S'.length ≤ R.cells + S.length) (hr2 : slots + x_slots S' ≤ R.slots + x_slots S)
    (kk : x_KN D cl cA z b s L L' S S' locs cells slots fun H1 c1 s1 => W p l e R s m args below meth c H1 locs c1 s1 Q (F0 m pc' ls (st'.map (x_cv z b)))) : W p l e R s m args below meth c H locs cells slots Q (F0 m pc ls (st.map (x_cv z b))) := by
  rcases hp : x_pool M i with ⟨kd, w1, t, w2⟩
  rw [hp] at hq
  unfold x_newq at h
  rw [hp] at h
  dsimp only at h
  split at h
  · next hkd =>
    obtain ⟨rfl, h4⟩ := hkd
    split at h
    · next n r =>
      split at h
      · next hn =>
        cases h
        obtain ⟨C, T, N, -, hcl, hov⟩ := hq
        obtain ⟨h7, hCt, hov⟩ := hov h4
        dsimp only at h7 hCt
        rw [List.length_append, List.length_singleton] at hr1
        rw [x_slots_app] at hr2
        have hsz : x_sz (.inr (t, n.toNatClampNeg, .inr (.inr (.inr (.inr fun _ => none))))) = n.toNatClampNeg := rfl
        rw [hsz] at hr2
        refine W.anew hexec hb hown (hts _ hcl) (va_AO.use (hN _ hov)) rfl hdg rfl (Int32.not_lt.mpr hn.1) (Nat.le_trans (Nat.mul_le_mul_right 4 hn.2) (by decide)) (by omega) (by omega) fun c1 kA comp f1 f2 f3 f4 => ?_
        generalize hH1 : H.push ({ cls := c1, slots := Array.replicate n.toNatClampNeg .null, vm := .none } : Cell) = H1
        have z1 : H1.size = H.size + 1 := by rw [← hH1, Array.size_push]
        have e1 : H1[H.size]? = some (arrV c1 n.toNatClampNeg (fun _ => .null)) := by rw [← hH1, Array.getElem?_push_size, ← arrV_new]
        have o1 : ∀ q : Nat, q < H.size → H1[q]? = H[q]? := fun q hq => by rw [← hH1, Array.getElem?_push, if_neg (Nat.ne_of_lt hq)]
        have hc : c1 = cA t := by
          have := (hK.2 t _ (x_tys_get cA (t := t) h7)).2
          have := x_nm_of this
          rw [hCt] at this
          exact Option.some.inj (f1.symm.trans this)
        subst hc
        have k1 := kk H1 (cells + 1) (slots + n.toNatClampNeg) rfl (by rw [List.length_append, List.length_singleton]; omega) (by rw [x_slots_app, hsz]; omega) (hW.pushed (by
          show H1[z + S.length]? = some (vp_cell (cA t) (n.toNatClampNeg, .inr (.inr (.inr (.inr fun _ => none)))))
          rw [vp_cell_q, ← hW.1]
          exact e1) z1 o1) (x_S_new hS z1 o1)
        rw [hW.1]
        exact k1
      · cases h
    · cases h
  · cases h
set_option maxHeartbeats 4000000 in
theorem x_sim_new (hexec : p.tables.exec = Jvm.exec) (hb : c.code = cc) (hts : ∀ w ∈ Ts, w.before args s = true) (hown : s.vm.findClass own = some m.cls) (hK : va_K D cl (x_tys cA) s) (hC : x_okC cl df Ts) (hq : x_okL cl MT Ts NX own i (x_pool M i)) (hdg : decode cc pc = .ok (.new i, 3)) (hW : x_Wd D cl cA z b S H) (hS : va_S (fun q => z ≤ q) s.heap H locs)
    (h : x_new df M i pc L st S = some (pc', L', st', S')) (hr1 : cells + S'.length ≤ R.cells + S.length) (hr2 : slots + x_slots S' ≤ R.slots + x_slots S)
    (kk : x_KN D cl cA z b s L L' S S' locs cells slots fun H1 c1 s1 => W p l e R s m args below meth c H1 locs c1 s1 Q (F0 m pc' ls (st'.map (x_cv z b)))) : W p l e R s m args below meth c H locs cells slots Q (F0 m pc ls (st.map (x_cv z b))) := by
  rcases hp : x_pool M i with ⟨kd, ci, w1, w2⟩
  rw [hp] at hq
  unfold x_new at h
  rw [hp] at h
  dsimp only at h
  split at h
  · next hkd =>
    subst hkd
    split at h
    · next fs hfs =>
      cases h
      obtain ⟨C, T, N, hc, hcl, -⟩ := hq
      dsimp only at hc
      obtain ⟨hin, ⟨ty, hty, fs', hfs', hlen, hcv, hdv⟩, -, hinst, hini⟩ := hC _ _ _ _ hc
      have : fs' = fs := Option.some.inj (hfs'.symm.trans hfs)
      subst this
      rw [List.length_append, List.length_singleton] at hr1
      rw [x_slots_app] at hr2
      have hsz : x_sz (.inl (ci, fs')) = N := hlen
      rw [hsz] at hr2
      have hKn := hK.1 ci _ hc
      refine W.newcK hexec hb hown (hts _ hcl) (hts _ hinst) (hts _ hini) rfl hdg (by omega) (by omega) hKn.2.1 hW.1 fun H1 kC hkC e1 z1 o1 => ?_
      rw [← hW.1] at z1 o1
      refine kk H1 _ _ rfl (by rw [List.length_append, List.length_singleton]; omega) (by rw [x_slots_app, hsz]; omega) (hW.pushed ?_ z1 o1) (x_S_new hS z1 o1)
      refine ⟨_, hc, (u_born ty hts hin hKn hkC e1 hty).to fun j hj => ?_⟩
      show defaultValue (ty j) = vp_V (fs'.map (x_cv z b)) j
      rw [hdv j hj, show fs'.map (x_cv z b) = fs' from by
        conv => rhs; rw [← List.map_id fs']
        exact List.map_congr_left fun v hv => hcv v hv z b]
    · cases h
  · cases h
theorem x_sim_ldc (hexec : p.tables.exec = Jvm.exec) (hb : c.code = cc) (hts : ∀ w ∈ Ts, w.before args s = true) (hown : s.vm.findClass own = some m.cls) (hq : x_okL cl MT Ts NX own i (x_pool M i)) (hdg : decode cc pc = .ok (.ldc i, 2))
    (h : x_ldc M i 2 pc L st S = some (pc', L', st', S')) (kk : L' = L → S' = S → W p l e R s m args below meth c H locs cells slots Q (F0 m pc' ls (st'.map (x_cv z b)))) : W p l e R s m args below meth c H locs cells slots Q (F0 m pc ls (st.map (x_cv z b))) := by
  rcases hp : x_pool M i with ⟨kd, ci, w1, w2⟩
  rw [hp] at hq
  unfold x_ldc at h
  rw [hp] at h
  dsimp only at h
  split at h
  · next hkd =>
    subst hkd
    cases h
    exact lv_ldc hexec hb hown (hts _ hq) hdg (kk rfl rfl)
  · cases h
theorem x_sim_ldcw (hexec : p.tables.exec = Jvm.exec) (hb : c.code = cc) (hts : ∀ w ∈ Ts, w.before args s = true) (hown : s.vm.findClass own = some m.cls) (hq : x_okL cl MT Ts NX own i (x_pool M i)) (hdg : decode cc pc = .ok (.ldc_w i, 3))
    (h : x_ldc M i 3 pc L st S = some (pc', L', st', S')) (kk : L' = L → S' = S → W p l e R s m args below meth c H locs cells slots Q (F0 m pc' ls (st'.map (x_cv z b)))) : W p l e R s m args below meth c H locs cells slots Q (F0 m pc ls (st.map (x_cv z b))) := by
  rcases hp : x_pool M i with ⟨kd, ci, w1, w2⟩
  rw [hp] at hq
  unfold x_ldc at h
  rw [hp] at h
  dsimp only at h
  split at h
  · next hkd =>
    subst hkd
    cases h
    exact lv_ldcw hexec hb hown (hts _ hq) hdg (kk rfl rfl)
  · cases h
theorem x_sim_ldc2 (hexec : p.tables.exec = Jvm.exec) (hb : c.code = cc) (hts : ∀ w ∈ Ts, w.before args s = true) (hown : s.vm.findClass own = some m.cls) (hq : x_okL cl MT Ts NX own i (x_pool M i)) (hdg : decode cc pc = .ok (.ldc2_w i, 3))
    (h : x_ldc2 M i pc L st S = some (pc', L', st', S')) (kk : L' = L → S' = S → W p l e R s m args below meth c H locs cells slots Q (F0 m pc' ls (st'.map (x_cv z b)))) : W p l e R s m args below meth c H locs cells slots Q (F0 m pc ls (st.map (x_cv z b))) := by
  rcases hp : x_pool M i with ⟨kd, ci, w1, w2⟩
  rw [hp] at hq
  unfold x_ldc2 at h
  rw [hp] at h
  dsimp only at h
  split at h
  · next hkd =>
    subst hkd
    cases h
    exact lv_ldc2 hexec hb hown (hts _ hq) hdg (kk rfl rfl)
  · cases h
end XSN
