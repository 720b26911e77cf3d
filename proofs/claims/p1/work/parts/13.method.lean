/-! Whole methods: what x_do says of a method is its contract. -/
section XME
variable {p : Program} {l : Launch} {e : Env} {R : Room} {s : State} {m : MethodId} {args : Array Value} {below : List Frame} {meth : Method} {c : Code} {H : Heap} {locs : List Loc} {cells slots : Nat}
variable {pc : Nat} {ls : Array Slot} {z b : Nat} {st : List Value} {SF : xS} {D : va_G} {cl : List vw_C} {cA : Nat → ClassId} {MT : List xM} {df : List (List Value)} {Ts NX : List Jvm.Cond} {M : xM}
set_option maxHeartbeats 4000000 in
theorem x_end {r : Option Value} {ins : Instr} {len mc ms : Nat} (hexec : p.tables.exec = Jvm.exec) (hb : c.code = M.2.1) (hr : meth.sig.returnType = M.2.2.2.1) (hlocks : meth.locks = false) (hK : va_K D cl (x_tys cA) s) (hdg : decode M.2.1 pc = .ok (ins, len)) (hlen : x_lok ins len = true) (h : x_ret M ins st = some r) (hW : x_Wd D cl cA z b SF H) (hS : va_S (fun q => z ≤ q) s.heap H locs) (h1 : cells = mc) (h2 : slots = ms) :
    W p l e R s m args below meth c H locs cells slots (MQ below (x_Qc D cl cA z b r SF) args s mc ms (fun q => z ≤ q)) (F0 m pc ls (st.map (x_cv z b))) := by
  subst h1
  subst h2
  have q : ∀ t : State, t.heap = H → s.WarmedH t.vm → x_Qc D cl cA z b r SF args s (.returned (r.map (x_cv z b))) t := fun t ht hWm => ⟨rfl, by rw [ht]; exact hW, va_K.moved hWm.alike hK, hS.F ht⟩
  unfold x_ret at h
  split at h
  · next hty =>
    cases h
    obtain rfl : len = 1 := by simpa [x_lok] using hlen
    exact W.vret hexec hb (hr.trans hty) q hS.2.2 hdg hlocks
  · next v hty =>
    cases h
    obtain rfl : len = 1 := by simpa [x_lok] using hlen
    exact W.iret hexec hb (hr.trans hty) q hS.2.2 hdg hlocks
  · next v hty =>
    split at h
    · next hv =>
      cases h
      obtain rfl : len = 1 := by simpa [x_lok] using hlen
      exact W.zret hexec hb (hr.trans hty) (by rcases hv with rfl | rfl <;> decide) q hS.2.2 hdg hlocks
    · cases h
  · next v hty =>
    cases h
    obtain rfl : len = 1 := by simpa [x_lok] using hlen
    exact W.lret hexec hb (hr.trans hty) q hS.2.2 hdg hlocks
  · next n a hty =>
    cases h
    obtain rfl : len = 1 := by simpa [x_lok] using hlen
    exact W.aret (v := .ref (z + a)) hexec hb (hr.trans hty) (Or.inl ⟨_, rfl⟩) (Or.inr ⟨_, rfl⟩) q hS.2.2 hdg hlocks
  · next n hty =>
    cases h
    obtain rfl : len = 1 := by simpa [x_lok] using hlen
    exact W.aret (v := .null) hexec hb (hr.trans hty) (Or.inl ⟨_, rfl⟩) (Or.inl rfl) q hS.2.2 hdg hlocks
  · cases h
end XME
set_option maxHeartbeats 4000000 in
/-- the contracts of all methods -/
theorem x_met (l : Launch) (D : va_G) (cl : List vw_C) (cA : Nat → ClassId) (z b : Nat) (MT : List xM) (df : List (List Value)) (Ts NX : List Jvm.Cond) (hn : ∀ w ∈ NX, x_isNx w = true) (n : Nat) (hG : GoodIn Ts Ts) (hC : x_okC cl df Ts) (hZ : x_okZ cl Ts) (hT : x_okT cl MT Ts NX) : ∀ d, x_spec l D cl cA z b MT Ts NX d (x_do df MT n d) := by
  intro d
  induction d with
  | zero => intro j as S r S' M hM h; cases h
  | succ d ih =>
    intro j as S r S' M hM h
    have hmo := x_do_mo df MT n (d + 1) j as S r S' h
    simp only [x_do, hM] at h
    split at h
    · cases h
    · next L hL =>
      obtain ⟨hMo, hq⟩ := hT j M hM
      refine Met.ofW (cc := M.2.1) (maxL := M.2.2.1) (ret := M.2.2.2.1) hMo.2.1 rfl ?_
      intro p e s m args below meth c s₁ B hml hv
      obtain ⟨rfl, hW, hK, hN⟩ := hv
      have hts : ∀ w ∈ Ts, w.before (as.map (x_cv z b)).toArray s = true := fun w hw => atoms_spec (ws := x_ws Ts M) B.pre w (List.mem_cons_of_mem _ hw)
      obtain ⟨hlen, hLR⟩ := x_entry_ok (z := z) (b := b) hL
      rw [lg_entry_eq]
      exact x_sim_run (M := M) (n0 := S.length) (z0 := x_slots S) (scr := none) (d := d) (R := (headSpec (x_ws Ts M) (x_rm (d + 1) (S'.length - S.length) (x_slots S' - x_slots S))).room) B.exec B.bytes hts hG (findClass_of_methodNamed B.named) hK hC hZ hT hMo.2.2.2.2.2 hn hN (fun _ _ h => by cases h) hq (fun h2 => (name_of_methodNamed B.named B.method).1.trans (hMo.2.2.2.1 h2)) ih (x_do_mo df MT n d) ⟨Nat.le_refl _, Nat.le_refl _⟩
        (by show S'.length ≤ (S'.length - S.length) + S.length; have := hmo.1; omega) (by show x_slots S' ≤ (x_slots S' - x_slots S) + x_slots S; have := hmo.2; omega)
        (fun pc ls st ins len H locs cells slots h1 h2 h3 h4 h5 h6 h7 => x_end B.exec B.bytes B.returns B.notSynchronized hK h1 h2 h3 h4 h5 (by omega) (by omega))
        n 0 L [] S s.heap [] 0 0 _ h (by rw [hml, hlen]) hLR hW va_S.rf (by omega) (by omega)
