/-! Runs: a frame's, a method's. -/
section XSR
variable {p : Program} {l : Launch} {e : Env} {R : Room} {s : State} {m : MethodId} {args : Array Value} {below : List Frame} {meth : Method} {c : Code} {H : Heap} {locs : List Loc} {cells slots : Nat} {Q : State → Prop}
variable {cc : ByteArray} {pc : Nat} {ls : Array Slot} {z b : Nat} {L L' : xLs} {st st' : List Value} {pc' : Nat} {S S' : xS} {D : va_G} {cl : List vw_C} {cA : Nat → ClassId} {MT : List xM} {df : List (List Value)} {Ts NX : List Jvm.Cond} {own : String} {M : xM} {i : Nat}
set_option maxHeartbeats 8000000 in
theorem x_sim_heap {scr : Option (Nat × (Nat → Int32))} {ins : Instr} {len : Nat} (hexec : p.tables.exec = Jvm.exec) (hb : c.code = cc) (hts : ∀ w ∈ Ts, w.before args s = true) (hown : s.vm.findClass own = some m.cls) (hK : va_K D cl (x_tys cA) s) (hC : x_okC cl df Ts) (hZ : x_okZ cl Ts) (hX : x_scrOk b z scr s) (hN : x_Nx NX s) (hq : ∀ i, x_okL cl MT Ts NX own i (x_pool M i)) (hini : M.2.2.2.2.1 = 2 → meth.name = "<init>")
    (hdg : decode cc pc = .ok (ins, len)) (hlen : x_lok ins len = true) (hW : x_Wd D cl cA z b S H) (hS : va_S (fun q => z ≤ q) s.heap H locs)
    (h : x_heap df scr M ins pc L st S = some (pc', L', st', S')) (hr1 : cells + S'.length ≤ R.cells + S.length) (hr2 : slots + x_slots S' ≤ R.slots + x_slots S)
    (kk : ∀ (H1 : Heap) (locs1 : List Loc) (c1 s1 : Nat), L' = L → c1 + S.length = cells + S'.length → s1 + x_slots S = slots + x_slots S' → x_Wd D cl cA z b S' H1 → va_S (fun q => z ≤ q) s.heap H1 locs1 → W p l e R s m args below meth c H1 locs1 c1 s1 Q (F0 m pc' ls (st'.map (x_cv z b)))) : W p l e R s m args below meth c H locs cells slots Q (F0 m pc ls (st.map (x_cv z b))) := by
  have k0 : L' = L → S' = S → W p l e R s m args below meth c H locs cells slots Q (F0 m pc' ls (st'.map (x_cv z b))) := fun h1 h2 => kk H locs cells slots h1 (by rw [h2]) (by rw [h2]) (by rw [h2]; exact hW) hS
  have k1 : x_KK D cl cA z b s L L' S S' fun H1 locs1 => W p l e R s m args below meth c H1 locs1 cells slots Q (F0 m pc' ls (st'.map (x_cv z b))) := fun H1 locs1 h1 h2 h3 h4 h5 => kk H1 locs1 cells slots h1 (by rw [h2]) (by rw [h3]) h4 h5
  have k2 : x_KN D cl cA z b s L L' S S' locs cells slots fun H1 c1 s1 => W p l e R s m args below meth c H1 locs c1 s1 Q (F0 m pc' ls (st'.map (x_cv z b))) := fun H1 c1 s1 h1 h2 h3 h4 h5 => kk H1 locs c1 s1 h1 h2 h3 h4 h5
  cases ins with
  | getfield i =>
    obtain rfl : len = 3 := by simpa [x_lok] using hlen
    exact x_sim_get hexec hb hts hown hK hC hN (hq i) hdg hW h k0
  | putfield i =>
    obtain rfl : len = 3 := by simpa [x_lok] using hlen
    exact x_sim_put hexec hb hts hown hK hC (hq i) hini hdg hW hS h k1
  | iaload =>
    obtain rfl : len = 1 := by simpa [x_lok] using hlen
    exact x_sim_iald hexec hb hK hX hdg hW hS h k0
  | baload =>
    obtain rfl : len = 1 := by simpa [x_lok] using hlen
    exact x_sim_bald hexec hb hK hdg hW h k0
  | laload =>
    obtain rfl : len = 1 := by simpa [x_lok] using hlen
    exact x_sim_lald hexec hb hK hdg hW h k0
  | aaload =>
    obtain rfl : len = 1 := by simpa [x_lok] using hlen
    exact x_sim_aald hexec hb hK hdg hW h k0
  | iastore =>
    obtain rfl : len = 1 := by simpa [x_lok] using hlen
    exact x_sim_iast hexec hb hK hdg hW hS h k1
  | bastore =>
    obtain rfl : len = 1 := by simpa [x_lok] using hlen
    exact x_sim_bast hexec hb hK hdg hW hS h k1
  | lastore =>
    obtain rfl : len = 1 := by simpa [x_lok] using hlen
    exact x_sim_last hexec hb hK hdg hW hS h k1
  | aastore =>
    obtain rfl : len = 1 := by simpa [x_lok] using hlen
    exact x_sim_aast hexec hb hK hZ hdg hW hS h k1
  | arraylength =>
    obtain rfl : len = 1 := by simpa [x_lok] using hlen
    exact x_sim_alen hexec hb hK hX hdg hW hS h k0
  | newarray ty =>
    obtain rfl : len = 2 := by simpa [x_lok] using hlen
    exact x_sim_newa hexec hb hts hK hZ hdg hW hS h hr1 hr2 k2
  | anewarray i =>
    obtain rfl : len = 3 := by simpa [x_lok] using hlen
    exact x_sim_newq hexec hb hts hown hK hN (hq i) hdg hW hS h hr1 hr2 k2
  | new i =>
    obtain rfl : len = 3 := by simpa [x_lok] using hlen
    exact x_sim_new hexec hb hts hown hK hC (hq i) hdg hW hS h hr1 hr2 k2
  | ldc i =>
    obtain rfl : len = 2 := by simpa [x_lok] using hlen
    exact x_sim_ldc hexec hb hts hown (hq i) hdg h k0
  | ldc_w i =>
    obtain rfl : len = 3 := by simpa [x_lok] using hlen
    exact x_sim_ldcw hexec hb hts hown (hq i) hdg h k0
  | ldc2_w i =>
    obtain rfl : len = 3 := by simpa [x_lok] using hlen
    exact x_sim_ldc2 hexec hb hts hown (hq i) hdg h k0
  | _ => exact (x_no (show (none : Option xY) = some (pc', L', st', S') from h)).elim
set_option maxHeartbeats 8000000 in
theorem x_sim_run {scr : Option (Nat × (Nat → Int32))} {d n0 z0 : Nat} {call : xO} {r : Option Value} {SF : xS} (hexec : p.tables.exec = Jvm.exec) (hb : c.code = M.2.1) (hts : ∀ w ∈ Ts, w.before args s = true) (hG : GoodIn Ts Ts) (hown : s.vm.findClass M.1.cls = some m.cls) (hK : va_K D cl (x_tys cA) s) (hC : x_okC cl df Ts) (hZ : x_okZ cl Ts) (hT : x_okT cl MT Ts NX) (hMo : x_okR M) (hn : ∀ w ∈ NX, x_isNx w = true) (hN : x_Nx NX s) (hX : x_scrOk b z scr s) (hq : ∀ q ∈ M.2.2.2.2.2.2.flatten, x_okL cl MT Ts NX M.1.cls q.1 q.2) (hini : M.2.2.2.2.1 = 2 → meth.name = "<init>")
    (hspec : x_spec l D cl cA z b MT Ts NX d call) (hmo : x_cmo call) (hR : d + 1 ≤ R.frames ∧ 64 * (d + 1) ≤ R.locals) (hr1 : SF.length ≤ R.cells + n0) (hr2 : x_slots SF ≤ R.slots + z0)
    (hret : ∀ (pc : Nat) (ls : Array Slot) (st : List Value) (ins : Instr) (len : Nat) (H : Heap) (locs : List Loc) (cells slots : Nat), decode M.2.1 pc = .ok (ins, len) → x_lok ins len = true → x_ret M ins st = some r → x_Wd D cl cA z b SF H → va_S (fun q => z ≤ q) s.heap H locs → cells + n0 = SF.length → slots + z0 = x_slots SF → W p l e R s m args below meth c H locs cells slots Q (F0 m pc ls (st.map (x_cv z b)))) :
    ∀ (n pc : Nat) (L : xLs) (st : List Value) (S : xS) (H : Heap) (locs : List Loc) (cells slots : Nat) (ls : Array Slot), x_run df scr call M n pc L st S = some (r, SF) → c.maxLocals = L.length → x_LR z b L ls → x_Wd D cl cA z b S H → va_S (fun q => z ≤ q) s.heap H locs → cells + n0 = S.length → slots + z0 = x_slots S → W p l e R s m args below meth c H locs cells slots Q (F0 m pc ls (st.map (x_cv z b))) := by
  intro n
  induction n with
  | zero => intro pc L st S H locs cells slots ls h; cases h
  | succ n ih =>
    intro pc L st S H locs cells slots ls h hml hl hW hS hc1 hs1
    unfold x_run at h
    split at h
    · cases h
    · next q hstep =>
      cases h
      unfold x_step at hstep
      split at hstep
      · cases hstep
      · next ins len hrow =>
        obtain ⟨hdg, hlen⟩ := x_row_ok hMo hrow
        split at hstep
        · obtain ⟨v, hv, he⟩ := Option.map_eq_some_iff.mp hstep
          cases he
          exact hret pc ls st ins len H locs cells slots hdg hlen hv hW hS hc1 hs1
        · split at hstep
          · cases hstep
          · split at hstep
            · cases hstep
            · obtain ⟨y, hi, he⟩ := Option.map_eq_some_iff.mp hstep
              cases he
    · next pc1 L1 st1 S1 hstep =>
      have hmono := x_run_mo (df := df) (scr := scr) (M := M) hmo n pc1 L1 st1 S1 r SF h
      have hs2 := x_step_mo hmo hstep
      unfold x_step at hstep
      split at hstep
      · cases hstep
      · next ins len hrow =>
        obtain ⟨hdg, hlen⟩ := x_row_ok hMo hrow
        split at hstep
        · obtain ⟨v, hv, he⟩ := Option.map_eq_some_iff.mp hstep
          cases he
        · split at hstep
          · next hp =>
            cases hstep
            exact x_sim_pure hexec hb hdg hlen hp hl fun ls2 hl2 => ih _ _ _ _ H locs cells slots ls2 h (by rw [hml, hs2.1]) hl2 hW hS hc1 hs1
          · split at hstep
            · next hy =>
              cases hstep
              exact x_sim_heap hexec hb hts hown hK hC hZ hX hN (x_pool_ok hq) hini hdg hlen hW hS hy (by have := hmono.1; omega) (by have := hmono.2; omega) fun H1 locs1 c1 s1 g1 g2 g3 g4 g5 => ih _ _ _ _ H1 locs1 c1 s1 ls h (by rw [hml, g1]) (by rw [g1]; exact hl) g4 g5 (by omega) (by omega)
            · obtain ⟨y, hi, he⟩ := Option.map_eq_some_iff.mp hstep
              cases he
              exact x_sim_inv hexec hb hml hts hG hown hK hn hN hT (x_pool_ok hq) hspec hmo hR hdg hlen hW hS hl hi (by have := hmono.1; omega) (by have := hmono.2; omega) fun H1 locs1 c1 s1 g1 g2 g3 g4 g5 => ih _ _ _ _ H1 locs1 c1 s1 ls h (by rw [hml, g1]) (by rw [g1]; exact hl) g4 g5 (by omega) (by omega)
end XSR
theorem x_sl_get {z b : Nat} (vs : List Value) : ∀ (i : Nat) (v : Value), (x_sl vs)[i]? = some (some v) → (lg_sl (vs.map (x_cv z b)))[i]? = some (.val (x_cv z b v)) := by
  induction vs with
  | nil => intro i v h; cases h
  | cons a t ih =>
    intro i v h
    simp only [x_sl, List.flatMap_cons] at h
    simp only [lg_sl, List.map_cons, List.flatMap_cons, x_cv_cat]
    by_cases ha : a.category = 2
    · rw [if_pos ha] at h ⊢
      match i, h with
      | 0, h => cases h; rfl
      | 1, h => cases h
      | k + 2, h => exact ih k v h
    · rw [if_neg ha] at h ⊢
      match i, h with
      | 0, h => cases h; rfl
      | k + 1, h => exact ih k v h
theorem x_sl_len {z b : Nat} (vs : List Value) : (lg_sl (vs.map (x_cv z b))).length = (x_sl vs).length := by
  induction vs with
  | nil => rfl
  | cons a t ih =>
    simp only [lg_sl, x_sl, List.map_cons, List.flatMap_cons, List.length_append, x_cv_cat] at ih ⊢
    rw [ih]
    by_cases ha : a.category = 2
    · rw [if_pos ha, if_pos ha]; rfl
    · rw [if_neg ha, if_neg ha]; rfl
theorem x_entry_ok {z b n : Nat} {vs : List Value} {L : xLs} (h : x_entry n vs = some L) : L.length = n ∧ x_LR z b L ((lg_sl (vs.map (x_cv z b)) ++ List.replicate (n - (lg_sl (vs.map (x_cv z b))).length) Slot.unset).toArray) := by
  unfold x_entry at h
  split at h
  · next hle =>
    cases h
    have h1 := lv_entry (vs.map (x_cv z b)) (n := n) (by rw [x_sl_len]; exact hle)
    refine ⟨by simp; omega, by simp [x_sl_len], h1.2.1, fun i v hi => ?_⟩
    by_cases hl : i < (x_sl vs).length
    · rw [List.getElem?_append_left hl] at hi
      have := x_sl_get (z := z) (b := b) vs i v hi
      show ((lg_sl (vs.map (x_cv z b)) ++ _).toArray)[i]? = _
      rw [List.getElem?_toArray, List.getElem?_append_left (by rw [x_sl_len]; exact hl)]
      exact this
    · rw [List.getElem?_append_right (by omega)] at hi
      have := List.getElem?_eq_some_iff.mp hi
      obtain ⟨h2, h3⟩ := this
      rw [List.getElem_replicate] at h3
      cases h3
  · cases h
