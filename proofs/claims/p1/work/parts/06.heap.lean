/-! The pure machine's steps on the heap are the real machine's. -/
section XSH
variable {p : Program} {l : Launch} {e : Env} {R : Room} {s : State} {m : MethodId} {args : Array Value} {below : List Frame} {meth : Method} {c : Code} {H : Heap} {locs : List Loc} {cells slots : Nat} {Q : State → Prop}
variable {cc : ByteArray} {pc : Nat} {ls : Array Slot} {z b : Nat} {L L' : xLs} {st st' : List Value} {pc' : Nat} {S S' : xS} {D : va_G} {cl : List vw_C} {cA : Nat → ClassId} {MT : List xM} {df : List (List Value)} {Ts NX : List Jvm.Cond} {own : String} {M : xM} {i : Nat}
theorem x_rf_cv (z b : Nat) (o : Option Nat) : va_rf (o.map fun q => z + q) = x_cv z b (va_rf o) := by cases o <;> rfl
theorem x_map_get {z b : Nat} {fs : List Value} {k : Nat} {v : Value} (h : fs[k]? = some v) : (fs.map (x_cv z b))[k]? = some (x_cv z b v) := by rw [List.getElem?_map, h]; rfl
set_option maxHeartbeats 4000000 in
theorem x_sim_get (hexec : p.tables.exec = Jvm.exec) (hb : c.code = cc) (hts : ∀ w ∈ Ts, w.before args s = true) (hown : s.vm.findClass own = some m.cls) (hK : va_K D cl (x_tys cA) s) (hC : x_okC cl df Ts) (hN : x_Nx NX s) (hq : x_okL cl MT Ts NX own i (x_pool M i)) (hdg : decode cc pc = .ok (.getfield i, 3)) (hW : x_Wd D cl cA z b S H)
    (h : x_get M i pc L st S = some (pc', L', st', S')) (kk : L' = L → S' = S → W p l e R s m args below meth c H locs cells slots Q (F0 m pc' ls (st'.map (x_cv z b)))) : W p l e R s m args below meth c H locs cells slots Q (F0 m pc ls (st.map (x_cv z b))) := by
  rcases hp : x_pool M i with ⟨kd, ci, k, tc⟩
  rw [hp] at hq
  unfold x_get at h
  rw [hp] at h
  dsimp only at h
  split at h
  · next hkd =>
    split at h
    · next a r =>
      split at h
      · next cj fs ho =>
        split at h
        · next hci =>
          subst hci
          split at h
          · next v hv =>
            cases h
            have hg := x_wl_get (cA := cA) (z := z) (b := b) (x_obj_inv ho)
            have fin : x_okF cl Ts own i (cj, k, tc) false ∨ x_okF cl Ts own i (cj, k, tc) true ∨ x_okFN cl NX own i (cj, k, tc) := by
              rcases hkd with hkd | rfl
              · rcases (show kd = 0 ∨ kd = 1 ∨ kd = 2 by omega) with rfl | rfl | rfl
                · exact Or.inl hq
                · exact Or.inr (Or.inl hq.1)
                · exact Or.inr (Or.inr hq)
              · exact Or.inr (Or.inl hq)
            rcases fin with ⟨C, T, N, h1, h2, h3, h4, -⟩ | ⟨C, T, N, h1, h2, h3, h4, -⟩ | ⟨C, host, T, N, h1, h2, h3, h4⟩
            · exact va_get (C := C) (T := T) (N := N) hexec hb hts (hC _ _ _ _ h1).1 hown hK hW.2 a hg h1 k h2 (hts _ h3) (fun x hx => by rw [h4] at hx; exact hx) (x_map_get hv) hdg (kk rfl rfl)
            · exact va_get (C := C) (T := T) (N := N) hexec hb hts (hC _ _ _ _ h1).1 hown hK hW.2 a hg h1 k h2 (hts _ h3) (fun x hx => by rw [h4] at hx; exact hx) (x_map_get hv) hdg (kk rfl rfl)
            · exact va_getN (C := C) (T := T) (N := N) (host := host) hexec hb hts (hC _ _ _ _ h1).1 hown hK hW.2 a hg h1 k h2 (va_Nw.use rfl (hN _ h3)) (fun x hx => by rw [h4] at hx; exact hx) (x_map_get hv) hdg (kk rfl rfl)
          · cases h
        · cases h
      · cases h
    · cases h
  · cases h
set_option maxHeartbeats 4000000 in
theorem x_sim_put (hexec : p.tables.exec = Jvm.exec) (hb : c.code = cc) (hts : ∀ w ∈ Ts, w.before args s = true) (hown : s.vm.findClass own = some m.cls) (hK : va_K D cl (x_tys cA) s) (hC : x_okC cl df Ts) (hq : x_okL cl MT Ts NX own i (x_pool M i)) (hini : M.2.2.2.2.1 = 2 → meth.name = "<init>") (hdg : decode cc pc = .ok (.putfield i, 3)) (hW : x_Wd D cl cA z b S H) (hS : va_S (fun q => z ≤ q) s.heap H locs)
    (h : x_put M i pc L st S = some (pc', L', st', S')) (kk : ∀ (H1 : Heap) (locs1 : List Loc), L' = L → S'.length = S.length → x_slots S' = x_slots S → x_Wd D cl cA z b S' H1 → va_S (fun q => z ≤ q) s.heap H1 locs1 → W p l e R s m args below meth c H1 locs1 cells slots Q (F0 m pc' ls (st'.map (x_cv z b)))) : W p l e R s m args below meth c H locs cells slots Q (F0 m pc ls (st.map (x_cv z b))) := by
  rcases hp : x_pool M i with ⟨kd, ci, k, tc⟩
  rw [hp] at hq
  unfold x_put at h
  rw [hp] at h
  dsimp only at h
  split at h
  · next hkd =>
    split at h
    · next v a r =>
      split at h
      · next cj fs ho =>
        split at h
        · next hci =>
          obtain ⟨rfl, hkl, hfit⟩ := hci
          cases h
          have hS0 := x_obj_inv ho
          have hg := x_wl_get (cA := cA) (z := z) (b := b) hS0
          have fin : (x_okF cl Ts own i (cj, k, tc) false) ∨ (x_okF cl Ts own i (cj, k, tc) true ∧ meth.name = "<init>" ∧ ∃ (C : String) (T : u_T) (N : Nat), cl[cj]? = some (C, T, N) ∧ C = own) := by
            rcases hkd with rfl | ⟨rfl, hM⟩
            · exact Or.inl hq
            · exact Or.inr ⟨hq.1, hini hM, hq.2⟩
          have goal : ∀ {C : String} {T : u_T} {N : Nat}, cl[cj]? = some (C, T, N) → k < N → ∀ (cell : Cell) (f : Field), (∀ x y, x < N → y < N → x ≠ y → (D.2 cj) x ≠ (D.2 cj) y) → cell.cls = D.1 cj → cell.vm = .none → (∀ j, j < N → cell.slots[D.2 cj j]? = some (vp_V (fs.map (x_cv z b)) j)) → f.slot = D.2 cj k →
              ∀ H' : Heap, H'[z + a]? = some (cell.setSlot f.slot (x_cv z b v)) → H'.size = H.size → (∀ q, q ≠ z + a → H'[q]? = H[q]?) → W p l e R s m args below meth c H' (locs ++ [⟨z + a, f.slot⟩]) cells slots Q (F0 m (pc + 3) ls (List.map (x_cv z b) st')) := by
            intro C T N h1 h2 cell f hap q2 q3 q4 hsl H' e1 e2 e3
            rw [hsl] at e1
            refine kk H' _ rfl List.length_set (x_slots_set hS0 (by simp [x_sz])) (hW.stored hS0 ?_ e2 e3) (hS.put e2 e3 (Nat.le_add_right z a))
            refine ⟨_, h1, ?_⟩
            rw [show (fs.set k v).map (x_cv z b) = (fs.map (x_cv z b)).set k (x_cv z b v) by rw [List.map_set]]
            exact t_OB.to (V := updV (vp_V (fs.map (x_cv z b))) k (x_cv z b v)) ⟨_, e1, q2, q3, t_set q4 hap h2 _⟩ (fun j _ => vp_updV_set (by rw [List.length_map]; exact hkl) _ j)
          rcases fin with ⟨C, T, N, h1, h2, h3, h4, h5, h6⟩ | ⟨⟨C, T, N, h1, h2, h3, h4, h5, h6⟩, hin2, C', T', N', h1', hCo⟩
          · obtain ⟨hin, ⟨ty0, hty, -⟩, hnm, -, -⟩ := hC _ _ _ _ h1
            obtain ⟨ty, hd, hn, hft⟩ := x_fit_ok h6 hfit z b
            have hap := va_apart (own := own) hts hin ty0 hty hnm hK h1
            obtain ⟨r', hr1, cell, q1, q2, q3, q4⟩ := hW.2 a _ hg
            have hr : r' = (C, T, N) := Option.some.inj (hr1.symm.trans h1)
            subst hr
            obtain ⟨hSl, hfc, kC, hkC, hkind⟩ := hK.1 cj _ h1
            obtain ⟨cf, kf, fi, f, hi, hsl⟩ := hSl k h2
            have hlay := hts _ (hin _ (u_in_lay h2))
            unfold u_lay at hlay
            rw [if_neg (by rw [h5]; decide)] at hlay
            have hst := (u_facts hfc hkC (u_lays hts hin h2) hi).1
            have h7 := u_store hfc hkC hkind hlay hi hd hn hft
            exact W.putK hexec hb (f := f) ⟨hown, hts _ h3, ⟨_, _, _, by rw [h4] at hi; exact hi⟩, hst⟩ (by rw [q2]; exact h7) q1 q3 (by rw [hsl]; exact k2_hasslot (q4 k h2)) rfl rfl hdg (goal h1 h2 cell f hap q2 q3 q4 hsl)
          · obtain ⟨hin, ⟨ty0, hty, -⟩, hnm, -, -⟩ := hC _ _ _ _ h1
            obtain ⟨ty, hd, hn, hft⟩ := x_fit_ok h6 hfit z b
            have hap := va_apart (own := own) hts hin ty0 hty hnm hK h1
            obtain ⟨r', hr1, cell, q1, q2, q3, q4⟩ := hW.2 a _ hg
            have hr : r' = (C, T, N) := Option.some.inj (hr1.symm.trans h1)
            subst hr
            have hCC : C = own := by
              have := h1.symm.trans h1'
              cases this
              exact hCo
            obtain ⟨hSl, hfc, kC, hkC, hkind⟩ := hK.1 cj _ h1
            obtain ⟨cf, kf, fi, f, hi, hsl⟩ := hSl k h2
            have hlay := hts _ (hin _ (u_in_lay h2))
            unfold u_lay at hlay
            rw [if_pos h5] at hlay
            have hst := (u_facts hfc hkC (u_lays hts hin h2) hi).1
            have hcf : m.cls = cf := by
              obtain ⟨_, _, c', _, _, _, -, -, hf', -, -, -, hown2, -⟩ := Cond.laysFinal_spec hlay
              have e1 : c' = cf := by have := hi.symm.trans hf'; simp at this; exact this.1.symm
              rw [h4, hCC] at hown2
              rw [← e1]; exact Option.some.inj (hown.symm.trans hown2)
            have h7 := u_fits hfc hkC hkind (Or.inr hlay) hi hd hn hft
            exact W.putFinK hexec hb hown (hts _ h3) (by rw [h4] at hi; exact hi) hst hcf hin2 (by rw [q2]; exact h7) q1 q3 (by rw [hsl]; exact k2_hasslot (q4 k h2)) rfl rfl hdg (goal h1 h2 cell f hap q2 q3 q4 hsl)
        · cases h
      · cases h
    · cases h
  · cases h
end XSH
