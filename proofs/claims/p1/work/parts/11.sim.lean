/-! Calls. -/
def x_ws (Ts : List Jvm.Cond) (M : xM) : List Jvm.Cond := Cond.code M.1 M.2.1 M.2.2.1 M.2.2.2.1 :: Ts
def x_rm (d mc ms : Nat) : Room := { frames := d, cells := mc, slots := ms, locals := 64 * d }
def x_Pc (D : va_G) (cl : List vw_C) (cA : Nat → ClassId) (NX : List Jvm.Cond) (z b : Nat) (as : List Value) (S : xS) : Array Value → State → Prop := va_Pc (as.map (x_cv z b)) fun U => x_Wd D cl cA z b S U.heap ∧ va_K D cl (x_tys cA) U ∧ x_Nx NX U
def x_Qc (D : va_G) (cl : List vw_C) (cA : Nat → ClassId) (z b : Nat) (r : Option Value) (S' : xS) : Array Value → State → Outcome → State → Prop := fun _ st o t => o = .returned (r.map (x_cv z b)) ∧ x_Wd D cl cA z b S' t.heap ∧ va_K D cl (x_tys cA) t ∧ va_F (fun q => z ≤ q) st t
abbrev x_spec (l : Launch) (D : va_G) (cl : List vw_C) (cA : Nat → ClassId) (z b : Nat) (MT : List xM) (Ts NX : List Jvm.Cond) (d : Nat) (call : xO) : Prop := ∀ (j : Nat) (as : List Value) (S : xS) (r : Option Value) (S' : xS) (M : xM), MT[j]? = some M → call j as S = some (r, S') →
  Met l M.1 (x_ws Ts M) (x_rm d (S'.length - S.length) (x_slots S' - x_slots S)) (x_Pc D cl cA NX z b as S) (x_Qc D cl cA z b r S') (S'.length - S.length) (x_slots S' - x_slots S) (fun q => z ≤ q)
theorem x_blind (D : va_G) (cl : List vw_C) (cA : Nat → ClassId) {NX : List Jvm.Cond} (hnx : ∀ w ∈ NX, x_isNx w = true) (z b : Nat) (as : List Value) (S : xS) : FrameBlind (x_Pc D cl cA NX z b as S) := fun a U g mk ⟨q0, q1, q2, q3⟩ => ⟨q0, q1, va_K.moved (u := U) (U := U.calling g mk a) (Vm.Alike.refl U.vm) q2, x_Nx.same (s := U) (U := U.calling g mk a) hnx rfl q3⟩
section XSC
variable {p : Program} {l : Launch} {e : Env} {R : Room} {s : State} {m : MethodId} {args : Array Value} {below : List Frame} {meth : Method} {c : Code} {H : Heap} {locs : List Loc} {cells slots : Nat} {Q : State → Prop}
variable {cc : ByteArray} {pc : Nat} {ls : Array Slot} {z b : Nat} {L L' : xLs} {st st' : List Value} {pc' : Nat} {S S' : xS} {D : va_G} {cl : List vw_C} {cA : Nat → ClassId} {MT : List xM} {df : List (List Value)} {Ts NX : List Jvm.Cond} {own : String} {M : xM} {i : Nat}
theorem x_after {st0 rest : List Value} {r : Option Value} {a : Array Value} {mc ms : Nat} (hr : va_Run p l e R s m args below meth c H locs cells slots mc ms (F0 m pc ls st0) rest (x_Qc D cl cA z b r S' a) (fun q => z ≤ q)) (hS : va_S (fun q => z ≤ q) s.heap H locs)
    (kk : ∀ (H1 : Heap) (locs1 : List Loc), x_Wd D cl cA z b S' H1 → va_S (fun q => z ≤ q) s.heap H1 locs1 → W p l e R s m args below meth c H1 locs1 (cells + mc) (slots + ms) Q (F0 m (pc + 3) ls ((r.map (x_cv z b)).toList ++ rest))) : W p l e R s m args below meth c H locs cells slots Q (F0 m pc ls st0) := by
  intro T hT X
  obtain ⟨v, st₀, t, T', Lo, h0, X', hL, e1, e2, ⟨hv, hw, hk, hz, hkp⟩, stp⟩ := hr T hT X
  cases hv
  rw [h0] at hz hkp
  obtain ⟨t2, a1, b1⟩ := kk T'.heap (locs ++ Lo) (by rw [e1]; exact hw)
    ⟨Nat.le_trans hS.1 (by rw [e1]; exact hz), fun q h1 h2 => by rw [e1, hkp q (Nat.lt_of_lt_of_le h1 hS.1) h2]; exact hS.2.1 q h1 h2, fun q hq => by
      rcases List.mem_append.mp hq with h | h
      · exact hS.2.2 q h
      · exact hL q h⟩ T' rfl X'
  exact ⟨t2, stp t2 a1, b1⟩
theorem x_goodM (hG : GoodIn Ts Ts) {M' : xM} (h : x_okM Ts M') : GoodIn Ts (x_ws Ts M') := fun w hw => by
  rcases List.mem_cons.mp hw with rfl | hw
  · exact hG _ h.1
  · exact hG _ hw
theorem x_toL (r : Option Value) (z b : Nat) (rest : List Value) : (r.map (x_cv z b)).toList ++ rest.map (x_cv z b) = (r.toList ++ rest).map (x_cv z b) := by cases r <;> rfl
theorem x_wsum (z b : Nat) (rest : List Value) : ((rest.map (x_cv z b)).map fun v => v.category).sum = x_w rest := by
  unfold x_w
  rw [List.map_map]
  congr 1
  exact List.map_congr_left fun v _ => x_cv_cat z b v
theorem x_stk {np : Nat} {a : Nat} {rest : List Value} (h : st.drop np = .ref a :: rest) : st.map (x_cv z b) = ((st.take np).reverse.map (x_cv z b)).reverse ++ .ref (z + a) :: rest.map (x_cv z b) := by
  conv => lhs; rw [← List.take_append_drop np st, h]
  rw [List.map_append, List.map_reverse, List.reverse_reverse]
  rfl
theorem x_stkS (np : Nat) : st.map (x_cv z b) = ((st.take np).reverse.map (x_cv z b)).reverse ++ (st.drop np).map (x_cv z b) := by
  conv => lhs; rw [← List.take_append_drop np st]
  rw [List.map_append, List.map_reverse, List.reverse_reverse]
/-- what a call needs of the caller's room -/
theorem x_room {d : Nat} (hR : d + 1 ≤ R.frames ∧ 64 * (d + 1) ≤ R.locals) {M' : xM} (h : M'.2.2.1 ≤ 45) (mc ms : Nat) : (x_rm d mc ms).frames + 1 ≤ R.frames ∧ 8 + (M'.2.2.1 + 11) + (x_rm d mc ms).locals ≤ R.locals := ⟨hR.1, by
  show 8 + (M'.2.2.1 + 11) + 64 * d ≤ R.locals
  omega⟩
set_option maxHeartbeats 8000000 in
theorem x_sim_inv {ins : Instr} {len d : Nat} {call : xO} (hexec : p.tables.exec = Jvm.exec) (hb : c.code = cc) (hml : c.maxLocals = L.length) (hts : ∀ w ∈ Ts, w.before args s = true) (hG : GoodIn Ts Ts) (hown : s.vm.findClass own = some m.cls) (hK : va_K D cl (x_tys cA) s) (hnx : ∀ w ∈ NX, x_isNx w = true) (hN : x_Nx NX s) (hT : x_okT cl MT Ts NX) (hq : ∀ i, x_okL cl MT Ts NX own i (x_pool M i)) (hspec : x_spec l D cl cA z b MT Ts NX d call) (hmo : x_cmo call)
    (hR : d + 1 ≤ R.frames ∧ 64 * (d + 1) ≤ R.locals) (hdg : decode cc pc = .ok (ins, len)) (hlen : x_lok ins len = true) (hW : x_Wd D cl cA z b S H) (hS : va_S (fun q => z ≤ q) s.heap H locs) (hl : x_LR z b L ls)
    (h : x_inv call M ins pc L st S = some (pc', L', st', S')) (hr1 : cells + S'.length ≤ R.cells + S.length) (hr2 : slots + x_slots S' ≤ R.slots + x_slots S)
    (kk : ∀ (H1 : Heap) (locs1 : List Loc) (c1 s1 : Nat), L' = L → c1 + S.length = cells + S'.length → s1 + x_slots S = slots + x_slots S' → x_Wd D cl cA z b S' H1 → va_S (fun q => z ≤ q) s.heap H1 locs1 → W p l e R s m args below meth c H1 locs1 c1 s1 Q (F0 m pc' ls (st'.map (x_cv z b)))) : W p l e R s m args below meth c H locs cells slots Q (F0 m pc ls (st.map (x_cv z b))) := by
  have hfix : CallFix p m c cc L.length s args Ts own := ⟨hexec, hb, hml, hown, hts⟩
  have hmo2 := x_inv_mo hmo h
  have hsize : ls.size = L.length := hl.1
  cases ins with
  | invokevirtual i =>
    obtain rfl : len = 3 := by simpa [x_lok] using hlen
    have hq := hq i
    dsimp only [x_inv] at h
    rcases hp : x_pool M i with ⟨kd, j, np, ci⟩
    rw [hp] at h hq
    dsimp only at h
    split at h
    · next hkd =>
      split at h
      · next a rest hdrop =>
        split at h
        · next cj fs ho =>
          split at h
          · next hci =>
            unfold x_call at h
            split at h
            · next hw =>
              split at h
              · next v S1 hv =>
                cases h
                have hg := x_wl_get (cA := cA) (z := z) (b := b) (x_obj_inv ho)
                have hn : ((st.take np).reverse.map (x_cv z b)).length = np := by simp; omega
                have hpre : ∀ U : State, U.heap = H → s.WarmedH U.vm → x_Pc D cl cA NX z b (.ref a :: (st.take np).reverse) S (Value.ref (z + a) :: (st.take np).reverse.map (x_cv z b)).toArray U := fun U hU hWm => ⟨rfl, by rw [hU]; exact hW, va_K.moved hWm.alike hK, x_Nx.moved hnx hWm hN⟩
                have hrm := hmo2.2
                have fin : ∀ {a0 : Array Value}, va_Run p l e R s m args below meth c H locs cells slots (S'.length - S.length) (x_slots S' - x_slots S) (F0 m pc ls (st.map (x_cv z b))) (rest.map (x_cv z b)) (x_Qc D cl cA z b v S' a0) (fun q => z ≤ q) → W p l e R s m args below meth c H locs cells slots Q (F0 m pc ls (st.map (x_cv z b))) := fun hr => x_after hr hS fun H1 locs1 h1 h2 => by
                  rw [x_toL]
                  exact kk H1 locs1 _ _ rfl (by omega) (by omega) h1 h2
                rcases hkd.1 with rfl | rfl
                · obtain ⟨M', ci', C, T, N, h1, h2, h3, h4, h5, h6, h7, h8, h9⟩ := hq
                  dsimp only at h1 h2 h5
                  have hcc : cj = ci' := by omega
                  subst hcc
                  subst h4
                  have hM' := (hT _ _ h1).1
                  refine fin (va_runV (ws := x_ws Ts M') (rm := x_rm d (S'.length - S.length) (x_slots S' - x_slots S)) hfix (hspec _ _ _ _ _ _ h1 hv) ⟨callB_of np hts (x_goodM hG hM') rfl rfl rfl (hts _ h9) (hts _ h6) ⟨hM'.2.2.1.1, hM'.2.2.1.2, h5⟩ (x_room hR hM'.2.2.2.2.1 _ _), hts _ h7, hts _ h8⟩ ⟨x_blind D cl cA hnx z b _ S, va_recv hK hW.2 h3 hg, hpre⟩ rfl hn hsize (x_stk hdrop) (by rw [x_wsum]; show 2 * 0 + _ ≤ 8; omega) hdg ⟨by omega, by omega⟩)
                · obtain ⟨M', ci', C, host, T, N, h1, h2, h3, h4, h5, h6, h7, h8, h9⟩ := hq
                  dsimp only at h1 h2 h5
                  have hcc : cj = ci' := by omega
                  subst hcc
                  subst h4
                  have hM' := (hT _ _ h1).1
                  refine fin (va_runVN (ws := x_ws Ts M') (rm := x_rm d (S'.length - S.length) (x_slots S' - x_slots S)) hfix (hspec _ _ _ _ _ _ h1 hv) ⟨va_cnB np hts (x_goodM hG hM') rfl rfl rfl (hN _ h6) (hts _ h9) ⟨hM'.2.2.1.1, hM'.2.2.1.2, h5⟩ (x_room hR hM'.2.2.2.2.1 _ _), hts _ h7, hts _ h8⟩ ⟨x_blind D cl cA hnx z b _ S, va_recv hK hW.2 h3 hg, hpre⟩ rfl hn hsize (x_stk hdrop) (by rw [x_wsum]; show 2 * 0 + _ ≤ 8; omega) hdg ⟨by omega, by omega⟩)
              · cases h
            · cases h
          · cases h
        · cases h
      · cases h
    · cases h
  | invokespecial i =>
    obtain rfl : len = 3 := by simpa [x_lok] using hlen
    have hq := hq i
    dsimp only [x_inv] at h
    rcases hp : x_pool M i with ⟨kd, j, np, ci⟩
    rw [hp] at h hq
    dsimp only at h
    split at h
    · next hkd =>
      subst hkd
      obtain ⟨h1, h2, h3⟩ := hq
      split at h
      · next a rest =>
        split at h
        · next hw =>
          cases h
          refine W.objInit hexec hb hown (hts _ h1) (hts _ h2) (hts _ h3) rfl (hsize.trans hml.symm) rfl hdg (by omega) (by
            show 2 * 0 + ((st'.map (x_cv z b)).map fun v => v.category).sum + 12 ≤ R.locals
            rw [x_wsum]
            omega) ?_
          exact kk H locs cells slots rfl rfl rfl hW hS
        · cases h
      · cases h
    · split at h
      · next hkd =>
        split at h
        · next a rest hdrop =>
          unfold x_call at h
          split at h
          · next hw =>
            split at h
            · next v S1 hv =>
              cases h
              have hn : ((st.take np).reverse.map (x_cv z b)).length = np := by simp; omega
              have hpre : ∀ U : State, U.heap = H → s.WarmedH U.vm → x_Pc D cl cA NX z b (.ref a :: (st.take np).reverse) S (Value.ref (z + a) :: (st.take np).reverse.map (x_cv z b)).toArray U := fun U hU hWm => ⟨rfl, by rw [hU]; exact hW, va_K.moved hWm.alike hK, x_Nx.moved hnx hWm hN⟩
              have hrm := hmo2.2
              have fin : ∀ {a0 : Array Value}, va_Run p l e R s m args below meth c H locs cells slots (S'.length - S.length) (x_slots S' - x_slots S) (F0 m pc ls (st.map (x_cv z b))) (rest.map (x_cv z b)) (x_Qc D cl cA z b v S' a0) (fun q => z ≤ q) → W p l e R s m args below meth c H locs cells slots Q (F0 m pc ls (st.map (x_cv z b))) := fun hr => x_after hr hS fun H1 locs1 h1 h2 => by
                rw [x_toL]
                exact kk H1 locs1 _ _ rfl (by omega) (by omega) h1 h2
              rcases hkd.1 with rfl | rfl
              · obtain ⟨M', h1, h5, h6, h7, h8, h9, h10⟩ := hq
                dsimp only at h1 h5
                have hM' := (hT _ _ h1).1
                refine fin (va_runI (ws := x_ws Ts M') (rm := x_rm d (S'.length - S.length) (x_slots S' - x_slots S)) hfix (hspec _ _ _ _ _ _ h1 hv) ⟨callB_of np hts (x_goodM hG hM') (by unfold x_ws; rw [h7]) rfl rfl (hts _ h10) (hts _ h8) ⟨hM'.2.2.1.1, hM'.2.2.1.2, h5⟩ (x_room hR hM'.2.2.2.2.1 _ _), h6, hts _ h9⟩ ⟨x_blind D cl cA hnx z b _ S, hpre⟩ rfl hn hsize (x_stk hdrop) (by rw [x_wsum]; show 2 * 0 + _ ≤ 8; omega) hdg ⟨by omega, by omega⟩)
              · obtain ⟨M', host, h1, h5, h6, h7, h8, h9, h10⟩ := hq
                dsimp only at h1 h5
                have hM' := (hT _ _ h1).1
                refine fin (va_runIN (ws := x_ws Ts M') (rm := x_rm d (S'.length - S.length) (x_slots S' - x_slots S)) hfix (hspec _ _ _ _ _ _ h1 hv) ⟨va_cnB np hts (x_goodM hG hM') (by unfold x_ws; rw [h7]) rfl rfl (hN _ h8) (hts _ h10) ⟨hM'.2.2.1.1, hM'.2.2.1.2, h5⟩ (x_room hR hM'.2.2.2.2.1 _ _), h6, hts _ h9⟩ ⟨x_blind D cl cA hnx z b _ S, hpre⟩ rfl hn hsize (x_stk hdrop) (by rw [x_wsum]; show 2 * 0 + _ ≤ 8; omega) hdg ⟨by omega, by omega⟩)
            · cases h
          · cases h
        · cases h
      · cases h
  | invokestatic i =>
    obtain rfl : len = 3 := by simpa [x_lok] using hlen
    have hq := hq i
    dsimp only [x_inv] at h
    rcases hp : x_pool M i with ⟨kd, j, np, ci⟩
    rw [hp] at h hq
    dsimp only at h
    split at h
    · next hkd =>
      subst hkd
      obtain ⟨h1, h2, h3, h4⟩ := hq
      split at h
      · next y x rest =>
        split at h
        · next hw =>
          cases h
          exact va_mmax hexec hb (hml.trans hsize.symm) hown (hts _ h1) (hts _ h2) (hts _ h3) (hts _ h4) (by omega) (by rw [x_wsum]; omega) (by omega) (by omega) hdg (kk H locs cells slots rfl rfl rfl hW hS)
        · cases h
      · cases h
    · split at h
      · next hkd =>
        subst hkd
        obtain ⟨h1, h2, h3, h4⟩ := hq
        split at h
        · next y x rest =>
          split at h
          · next hw =>
            cases h
            exact va_mmin hexec hb (hml.trans hsize.symm) hown (hts _ h1) (hts _ h2) (hts _ h3) (hts _ h4) (by omega) (by rw [x_wsum]; omega) (by omega) (by omega) hdg (kk H locs cells slots rfl rfl rfl hW hS)
          · cases h
        · cases h
      · split at h
        · next hkd =>
          unfold x_call at h
          split at h
          · next hw =>
            split at h
            · next v S1 hv =>
              cases h
              have hn : ((st.take np).reverse.map (x_cv z b)).length = np := by simp; omega
              have hpre : ∀ U : State, U.heap = H → s.WarmedH U.vm → x_Pc D cl cA NX z b (st.take np).reverse S ((st.take np).reverse.map (x_cv z b)).toArray U := fun U hU hWm => ⟨rfl, by rw [hU]; exact hW, va_K.moved hWm.alike hK, x_Nx.moved hnx hWm hN⟩
              have hrm := hmo2.2
              have fin : ∀ {a0 : Array Value}, va_Run p l e R s m args below meth c H locs cells slots (S'.length - S.length) (x_slots S' - x_slots S) (F0 m pc ls (st.map (x_cv z b))) ((st.drop np).map (x_cv z b)) (x_Qc D cl cA z b v S' a0) (fun q => z ≤ q) → W p l e R s m args below meth c H locs cells slots Q (F0 m pc ls (st.map (x_cv z b))) := fun hr => x_after hr hS fun H1 locs1 h1 h2 => by
                rw [x_toL]
                exact kk H1 locs1 _ _ rfl (by omega) (by omega) h1 h2
              rcases hkd.1 with rfl | rfl
              · obtain ⟨M', h1, h5, h6, h7, h8⟩ := hq
                dsimp only at h1 h5
                have hM' := (hT _ _ h1).1
                refine fin (va_runS (ws := x_ws Ts M') (rm := x_rm d (S'.length - S.length) (x_slots S' - x_slots S)) hfix (hspec _ _ _ _ _ _ h1 hv) ⟨callB_of np hts (x_goodM hG hM') rfl rfl rfl (hts _ h8) (hts _ h6) ⟨hM'.2.2.1.1, hM'.2.2.1.2, h5⟩ (x_room hR hM'.2.2.2.2.1 _ _), hts _ h7⟩ ⟨x_blind D cl cA hnx z b _ S, hpre⟩ rfl hn hsize (x_stkS np) (by rw [x_wsum]; show 2 * 0 + _ ≤ 8; omega) hdg ⟨by omega, by omega⟩)
              · obtain ⟨M', host, h1, h5, h6, h7, h8⟩ := hq
                dsimp only at h1 h5
                have hM' := (hT _ _ h1).1
                refine fin (va_runSN (ws := x_ws Ts M') (rm := x_rm d (S'.length - S.length) (x_slots S' - x_slots S)) hfix (hspec _ _ _ _ _ _ h1 hv) ⟨va_cnB np hts (x_goodM hG hM') rfl rfl rfl (hN _ h6) (hts _ h8) ⟨hM'.2.2.1.1, hM'.2.2.1.2, h5⟩ (x_room hR hM'.2.2.2.2.1 _ _), hts _ h7, trivial⟩ ⟨x_blind D cl cA hnx z b _ S, hpre⟩ rfl hn hsize (x_stkS np) (by rw [x_wsum]; show 2 * 0 + _ ≤ 8; omega) hdg ⟨by omega, by omega⟩)
            · cases h
          · cases h
        · cases h
  | _ => exact (x_no (show (none : Option xY) = some (pc', L', st', S') from h)).elim
end XSC
