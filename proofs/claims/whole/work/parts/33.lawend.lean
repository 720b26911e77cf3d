/-! The law out of a run of the pure machine (the first rows are the printed skeleton's). -/
def R_law : String := "WireHouseLaw"
def lw_P (b : Addr) (xs : List Int32) (args : Array Value) (s : State) : Prop := args = #[.ref b] ∧ s.IntsAt b xs ∧ xs.length ≤ 3072 ∧ (Jvm.Cond.and given_1 narrow_1).before args s = true
def lw_Q (_ : Array Value) (s : State) (o : Outcome) (t : State) : Prop := o = .returned (some (.int 1)) ∧ Framed s o t [] 600000 7302250
def lw_Z (below : List Frame) (a : Array Value) (s : State) : State → Prop := fun t => ∃ o, t.status = .running ∧ Ended t below o ∧ lw_Q a s o t
/-- the law's own end, with 1 on the stack, nothing written that was there before, its room as the claim has it -/
theorem lw_ret {p : Program} {l : Launch} {e : Env} {s : State} {m : MethodId} {below : List Frame} {meth : Method} {c : Code} {b : Nat} (hx : p.tables.exec = Jvm.exec) (hb : c.code = code) (hr : meth.sig.returnType = ret) (hlocks : meth.locks = false) {pc : Nat} {H : Heap} {ls : Array Slot} (hdg : decode code pc = .ok (.ireturn, 1)) : W p l e room_1 s m #[Value.ref b] below meth c H [] 600000 7302250 (lw_Z below #[Value.ref b] s) (F0 m pc ls [.int 1]) := by
  intro T hT X
  obtain ⟨fs, hret, hrun, hended, hW, hframe⟩ := X.leave (v := some (.int 1)) (hlocks := hlocks) (fun h => by rw [hr] at h; cases h)
  have hmeth' : T.vm.method? m = some meth := X.method'
  refine ⟨T.setFrames fs, ?_, .returned (some (.int 1)), hrun, hended, rfl, ⟨_, rfl⟩, hW, hframe⟩
  jvm_step X.here [X.here.top, hx, hb, hdg, hmeth', hr, ret, narrow_b1]
  (try refine ⟨rfl, ?_⟩); (try refine ⟨rfl, ?_⟩)
  first | (intro acts; rw [hret _ acts rfl rfl rfl]) | rw [hret _ _ rfl rfl rfl]
  exact Steps.refl _
/-- what holds at the law's entry: the machine, the code, the tables' words (any of lw_tbl by 'hts w (by decide +kernel)'), the script of L ints xs at the cell b, what the Statement gives of the start (any of its parts by flat_of_before) -/
def lw_At (p : Program) (s : State) (m : MethodId) (meth : Method) (c : Code) (b L : Nat) (xs : Nat → Int32) : Prop :=
  p.tables.exec = Jvm.exec ∧ c.code = code ∧ meth.sig.returnType = ret ∧ c.maxLocals = 4 ∧ s.vm.findClass R_law = some m.cls ∧ (∀ w ∈ lw_tbl, w.before #[Value.ref b] s = true) ∧ va_X b L xs s s.heap ∧ b < s.heap.size ∧ meth.locks = false ∧ (Jvm.Cond.and given_1 narrow_1).before #[Value.ref b] s = true
theorem x_arrP {s : State} {args : Array Value} {ty : FieldType} (hn : ∀ C, ty ≠ .object C) (h : (Cond.arrayClass ty).before args s = true) : ∃ cA : ClassId, ArrOfT s cA ty ∧ va_RA s cA ty := by
  obtain ⟨c, k, comp, h1, h2, h3⟩ := Cond.arrayClass_spec h
  refine ⟨c, fun n z => ⟨fun k h => (by cases h), k, h2, comp, h3⟩, ?_⟩
  cases ty <;> first | exact h1 | exact absurd rfl (hn _)
theorem x_arrO {s : State} {C : String} (h : va_AO C s) : ∃ cA : ClassId, ArrOfT s cA (.object C) ∧ va_RA s cA (.object C) := by
  obtain ⟨comp, c, k, h1, -, h3, h4, h5⟩ := Cond.arrayOver_spec h
  exact ⟨c, fun n z => ⟨fun k h => (by cases h), k, h3, comp, h4⟩, k, comp, h3, h4, h1, h5⟩
set_option maxHeartbeats 4000000 in
/-- a run of the pure machine over the law's body that ends with 1 within the room is the law's walk -/
theorem x_whole {p : Program} {e : Env} {s : State} {m : MethodId} {below : List Frame} {meth : Method} {c : Code} (l : Launch) {b L : Nat} {xs : Nat → Int32} (C0 : lw_At p s m meth c b L xs) (n d : Nat) (hd : d + 1 ≤ 2048 ∧ 64 * (d + 1) ≤ 84000) {SF : xS}
    (hrun : x_run x_df (some (L, xs)) (x_do x_df x_MT n d) x_ML n 0 [some (.retAddr 0), none, none, none] [] [] = some (some (.int 1), SF)) (h1 : SF.length ≤ 600000) (h2 : x_slots SF ≤ 7302250) :
    W p l e room_1 s m #[Value.ref b] below meth c s.heap [] 0 0 (lw_Z below #[Value.ref b] s) (entryFrame m ([Value.ref b] : List Value).toArray 4) := by
  obtain ⟨hx, hb, hr, hml, hown, hts, hX, hbl, hlocks, hgv⟩ := C0
  have hts2 : ∀ w ∈ x_big, w.before #[Value.ref b] s = true := fun w hw => hts w (List.mem_filter.mp hw).1
  have hN : x_Nx x_nx s := by
    intro w hw
    have h3 := hts w (List.mem_filter.mp hw).1
    have h4 := x_nx_ok w hw
    unfold x_isNx at h4
    split at h4
    · exact va_Nw.of rfl h3
    · exact va_Nw.of rfl h3
    · exact va_AO.of h3
    · cases h4
  have hk : ∀ ci : Nat, ∃ (cC : ClassId) (iS : Nat → Nat), ∀ q : vw_C, x_cls[ci]? = some q → u_Kn s q.1 q.2.1 q.2.2 cC iS := by
    intro ci
    cases h : x_cls[ci]? with
    | none => exact ⟨m.cls, fun _ => 0, fun q hq => by cases hq⟩
    | some q =>
      obtain ⟨C, T, N⟩ := q
      obtain ⟨hin, -, -, hinst, -⟩ := x_okC_all _ _ _ _ h
      obtain ⟨cC, iS, hK⟩ := u_known hts2 hin (hts2 _ hinst)
      exact ⟨cC, iS, fun q hq => by cases hq; exact hK⟩
  have ha : ∀ t : Nat, ∃ cA : ClassId, t < 7 → ArrOfT s cA (x_ty t) ∧ va_RA s cA (x_ty t) := by
    intro t
    by_cases h4 : t < 4
    · have hw := hts2 _ (x_okZ_all.1 t h4)
      obtain ⟨cA, g1, g2⟩ := x_arrP (fun C h => by rcases (show t = 0 ∨ t = 1 ∨ t = 2 ∨ t = 3 by omega) with rfl | rfl | rfl | rfl <;> cases h) hw
      exact ⟨cA, fun _ => ⟨g1, g2⟩⟩
    · by_cases h7 : t < 7
      · have : ∃ C, x_ty t = .object C ∧ Cond.arrayOver (.object C) ∈ x_nx := by
          rcases (show t = 4 ∨ t = 5 ∨ t = 6 by omega) with rfl | rfl | rfl
          · exact ⟨_, rfl, x_hasN_ok x_cn_ok (i := 31030) (by decide +kernel)⟩
          · exact ⟨_, rfl, x_hasN_ok x_cn_ok (i := 31032) (by decide +kernel)⟩
          · exact ⟨_, rfl, x_hasN_ok x_cn_ok (i := 31034) (by decide +kernel)⟩
        obtain ⟨C, g0, g1⟩ := this
        obtain ⟨cA, g2, g3⟩ := x_arrO (s := s) (C := C) (hN _ g1)
        rw [g0]
        exact ⟨cA, fun _ => ⟨g2, g3⟩⟩
      · exact ⟨m.cls, fun h => absurd h h7⟩
  have hK : va_K (fun ci => Classical.choose (hk ci), fun ci => Classical.choose (Classical.choose_spec (hk ci))) x_cls (x_tys fun t => Classical.choose (ha t)) s := by
    refine ⟨fun ci q hq => Classical.choose_spec (Classical.choose_spec (hk ci)) q hq, fun k q hq => ?_⟩
    have hk7 : k < 7 := by
      have := (List.getElem?_eq_some_iff.mp hq).1
      simpa [x_tys] using this
    rw [x_tys_get _ hk7] at hq
    cases hq
    exact Classical.choose_spec (ha k) hk7
  have hLR := (x_entry_ok (z := s.heap.size) (b := b) (n := 4) (vs := [.retAddr 0]) (L := [some (.retAddr 0), none, none, none]) rfl).2
  rw [lg_entry_eq]
  exact x_sim_run (M := x_ML) (n0 := 0) (z0 := 0) (scr := some (L, xs)) (d := d) (R := room_1) (z := s.heap.size) (b := b) (r := some (.int 1)) (SF := SF) hx hb hts2 x_good hown hK x_okC_all x_okZ_all x_okT_all x_okRL x_nx_ok hN
    (fun n f h => by cases h; exact ⟨hX, hbl, hbl⟩) x_okAL (fun h => by cases h) (x_met l _ x_cls _ s.heap.size b x_MT x_df x_big x_nx x_nx_ok n x_good x_okC_all x_okZ_all x_okT_all d) (x_do_mo x_df x_MT n d) hd
    (by show SF.length ≤ 600000 + 0; omega) (by show x_slots SF ≤ 7302250 + 0; omega)
    (fun pc ls st ins len H locs cells slots g1 g2 g3 g4 g5 g6 g7 => by
      unfold x_ret at g3
      split at g3
      · cases g3
      · next hty => cases hty
      · next v hty =>
        split at g3
        · cases g3
          obtain rfl : len = 1 := by simpa [x_lok] using g2
          exact va_forget g5.2.2 (W.widen (by omega) (by omega) (lw_ret hx hb hr hlocks g1))
        · cases g3
      · cases g3
      · cases g3
      · cases g3
      · cases g3)
    n 0 [some (.retAddr 0), none, none, none] [] [] s.heap [] 0 0 _ hrun hml hLR ⟨by simp, fun k q hq => by simp [x_wl] at hq⟩ va_S.rf rfl rfl
