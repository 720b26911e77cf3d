/-! The pure world and the heap. -/
theorem x_wl_get {cA : Nat → ClassId} {z b : Nat} {S : xS} {i : Nat} {e : xE} (h : S[i]? = some e) : (x_wl cA z b S)[i]? = some (z + i, x_ce cA z b e) := by
  unfold x_wl
  rw [List.getElem?_mapIdx, h]
  rfl
theorem x_wl_len (cA : Nat → ClassId) (z b : Nat) (S : xS) : (x_wl cA z b S).length = S.length := by
  unfold x_wl
  exact List.length_mapIdx
theorem x_wl_inv {cA : Nat → ClassId} {z b : Nat} {S : xS} {i : Nat} {q : Nat × va_E} (h : (x_wl cA z b S)[i]? = some q) : ∃ e, S[i]? = some e ∧ q = (z + i, x_ce cA z b e) := by
  unfold x_wl at h
  rw [List.getElem?_mapIdx] at h
  cases he : S[i]? with
  | none => rw [he] at h; cases h
  | some e => rw [he] at h; cases h; exact ⟨e, rfl, rfl⟩
theorem x_wl_set (cA : Nat → ClassId) (z b : Nat) (S : xS) (i : Nat) (e : xE) : (x_wl cA z b S).set i (z + i, x_ce cA z b e) = x_wl cA z b (S.set i e) := by
  apply List.ext_getElem?
  intro j
  by_cases hij : i = j
  · subst hij
    by_cases hl : i < S.length
    · rw [List.getElem?_set_self (by rw [x_wl_len]; exact hl), x_wl_get (List.getElem?_set_self hl)]
    · rw [List.getElem?_eq_none (by rw [List.length_set, x_wl_len]; omega), List.getElem?_eq_none (by rw [x_wl_len, List.length_set]; omega)]
  · rw [List.getElem?_set_ne hij]
    unfold x_wl
    rw [List.getElem?_mapIdx, List.getElem?_mapIdx, List.getElem?_set_ne hij]
theorem x_wl_app (cA : Nat → ClassId) (z b : Nat) (S : xS) (e : xE) : x_wl cA z b (S ++ [e]) = x_wl cA z b S ++ [(z + S.length, x_ce cA z b e)] := by
  unfold x_wl
  rw [List.mapIdx_append]
  simp
theorem x_wl_D (cA : Nat → ClassId) (z b : Nat) (S : xS) : va_D (fun q => z ≤ q) (x_wl cA z b S) := by
  refine ⟨fun i j p q hi hj hpq => ?_, fun k q hk => ?_⟩
  · obtain ⟨e1, -, rfl⟩ := x_wl_inv hi
    obtain ⟨e2, -, rfl⟩ := x_wl_inv hj
    simp only at hpq
    omega
  · obtain ⟨e, -, rfl⟩ := x_wl_inv hk
    exact Nat.le_add_right _ _
/-- the heap's cells from z on are the world's -/
def x_Wd (D : va_G) (cl : List vw_C) (cA : Nat → ClassId) (z b : Nat) (S : xS) (H : Heap) : Prop := H.size = z + S.length ∧ va_P D cl (x_wl cA z b S) H
def x_sz (e : xE) : Nat := match e with
  | .inl (_, fs) => fs.length
  | .inr (_, n, _) => n
def x_slots (S : xS) : Nat := (S.map x_sz).sum
theorem x_slots_app (S : xS) (e : xE) : x_slots (S ++ [e]) = x_slots S + x_sz e := by simp [x_slots]
theorem x_slots_set {S : xS} {i : Nat} {e0 e : xE} (h : S[i]? = some e0) (he : x_sz e = x_sz e0) : x_slots (S.set i e) = x_slots S := by
  induction S generalizing i with
  | nil => rfl
  | cons a t ih =>
    cases i with
    | zero =>
      simp only [List.getElem?_cons_zero, Option.some.injEq] at h
      subst h
      simp [x_slots, he]
    | succ k =>
      simp only [List.getElem?_cons_succ] at h
      have := ih h
      simp only [x_slots] at this ⊢
      simp only [List.set_cons_succ, List.map_cons, List.sum_cons, this]
theorem x_Wd.stored {D : va_G} {cl : List vw_C} {cA : Nat → ClassId} {z b : Nat} {S : xS} {H H1 : Heap} {i : Nat} {e0 e : xE} (h : x_Wd D cl cA z b S H) (hi : S[i]? = some e0) (he : va_at D cl (z + i, x_ce cA z b e) H1) (hz : H1.size = H.size) (oq : ∀ q : Nat, q ≠ z + i → H1[q]? = H[q]?) : x_Wd D cl cA z b (S.set i e) H1 := by
  refine ⟨by rw [hz, h.1, List.length_set], ?_⟩
  rw [← x_wl_set]
  exact h.2.set (x_wl_D cA z b S) (x_wl_get hi) he oq
theorem x_Wd.pushed {D : va_G} {cl : List vw_C} {cA : Nat → ClassId} {z b : Nat} {S : xS} {H H1 : Heap} {e : xE} (h : x_Wd D cl cA z b S H) (he : va_at D cl (z + S.length, x_ce cA z b e) H1) (hz : H1.size = H.size + 1) (oq : ∀ q : Nat, q < H.size → H1[q]? = H[q]?) : x_Wd D cl cA z b (S ++ [e]) H1 := by
  refine ⟨by rw [hz, h.1, List.length_append]; simp; omega, ?_⟩
  rw [x_wl_app]
  refine (h.2.kept fun k q hk => oq q.1 (h.2 k q hk).lt).app fun k q hk => ?_
  have hz : k < 1 := (List.getElem?_eq_some_iff.mp hk).1
  rw [show k = 0 by omega] at hk
  cases hk
  exact he
theorem x_obj_inv {S : xS} {a : Nat} {q : Nat × List Value} (h : x_obj S a = some q) : S[a]? = some (.inl q) := by
  unfold x_obj at h
  split at h
  · next hq => cases h; exact hq
  · cases h
theorem x_arr_inv {S : xS} {a : Nat} {q : Nat × vp_A} (h : x_arr S a = some q) : S[a]? = some (.inr q) := by
  unfold x_arr at h
  split at h
  · next hq => cases h; exact hq
  · cases h
/-- the sorts of arrays -/
def x_ty (t : Nat) : FieldType := match t with
  | 0 => .int
  | 1 => .long
  | 2 => .byte
  | 3 => .boolean
  | 4 => .object "WireHouse$Bytes"
  | 5 => .object "WireHouse$Schema"
  | _ => .object "WireHouse$Tree"
def x_tys (cA : Nat → ClassId) : List (ClassId × FieldType) := (List.range 7).map fun t => (cA t, x_ty t)
theorem x_tys_get (cA : Nat → ClassId) {t : Nat} (h : t < 7) : (x_tys cA)[t]? = some (cA t, x_ty t) := by
  unfold x_tys
  rw [List.getElem?_map, List.getElem?_range h]
  rfl
theorem x_in_vp {i : Int32} {n : Nat} (h : x_in i n) : vp_in i n := fun q => by
  rcases q with q | q
  · exact Int32.not_lt.mpr h.1 q
  · exact Nat.not_le.mpr h.2 q
/-- what is asked of a descriptor's sort -/
def x_tyOk (d : String) (tc : Int) : Prop := ∃ ty, parseFieldDescriptor d = some ty ∧ ((tc = 0 ∧ ty = .int) ∨ (tc = 1 ∧ ty = .long) ∨ (tc = 2 ∧ ty = .boolean) ∨ (tc = 3 ∧ ((∃ n, ty = .object n) ∨ ∃ t, ty = .array t)))
theorem x_fit_ok {d : String} {tc : Int} {v : Value} (h : x_tyOk d tc) (hf : x_fit tc v = true) (z b : Nat) : ∃ ty, parseFieldDescriptor d = some ty ∧ narrow ty (x_cv z b v) = x_cv z b v ∧ fits ty (x_cv z b v) = true := by
  obtain ⟨ty, hp, h⟩ := h
  refine ⟨ty, hp, ?_⟩
  rcases h with ⟨rfl, rfl⟩ | ⟨rfl, rfl⟩ | ⟨rfl, rfl⟩ | ⟨rfl, ⟨n, rfl⟩ | ⟨t, rfl⟩⟩ <;> cases v <;> simp [x_fit, x_cv, narrow, fits] at hf ⊢
  · rcases hf with rfl | rfl <;> decide
/-- classes of the world: their words are there, their fields' types, their values at birth -/
def x_okC (cl : List vw_C) (df : List (List Value)) (Ts : List Jvm.Cond) : Prop := ∀ (ci : Nat) (C : String) (T : u_T) (N : Nat), cl[ci]? = some (C, T, N) → (∀ w ∈ u_ws C T N, w ∈ Ts) ∧
  (∃ ty : Nat → FieldType, (∀ k, k < N → parseFieldDescriptor (T k).2.2.1 = some (ty k)) ∧ ∃ fs, df[ci]? = some fs ∧ fs.length = N ∧ (∀ v ∈ fs, ∀ z b, x_cv z b v = v) ∧ ∀ j, j < N → defaultValue (ty j) = vp_V fs j) ∧
  (∀ a, a < N → ∀ b, b < N → a ≠ b → (T a).2.1 ≠ (T b).2.1) ∧ Cond.instantiable C N ∈ Ts ∧ Cond.initialized C ∈ Ts
/-- a field's link: a plain one, or one to a nest mate's -/
def x_okF (cl : List vw_C) (Ts : List Jvm.Cond) (own : String) (i : Nat) (q : Nat × Nat × Int) (fin : Bool) : Prop := ∃ (C : String) (T : u_T) (N : Nat), cl[q.1]? = some (C, T, N) ∧ q.2.1 < N ∧ Cond.fieldLink own i C (T q.2.1).2.1 (T q.2.1).2.2.1 ∈ Ts ∧ (T q.2.1).1 = C ∧ (T q.2.1).2.2.2 = fin ∧ x_tyOk (T q.2.1).2.2.1 q.2.2
def x_okFN (cl : List vw_C) (Ts : List Jvm.Cond) (own : String) (i : Nat) (q : Nat × Nat × Int) : Prop := ∃ (C host : String) (T : u_T) (N : Nat), cl[q.1]? = some (C, T, N) ∧ q.2.1 < N ∧ Cond.fieldLinkNest own i C (T q.2.1).2.1 (T q.2.1).2.2.1 host ∈ Ts ∧ (T q.2.1).1 = C
/-- links between nest mates and classes of arrays over classes: words that hold at a state, and stay -/
def x_Nx (NX : List Jvm.Cond) (s : State) : Prop := ∀ w ∈ NX, va_Nw w s
def x_isNx (w : Jvm.Cond) : Bool := match w with
  | .fieldLinkNest .. => true
  | .methodLinkNest .. => true
  | .arrayOver (.object _) => true
  | _ => false
theorem x_Nx.moved {NX : List Jvm.Cond} (hn : ∀ w ∈ NX, x_isNx w = true) {s U : State} (hW : s.WarmedH U.vm) (h : x_Nx NX s) : x_Nx NX U := by
  intro w hw
  have h1 := hn w hw
  have h2 := h w hw
  unfold x_isNx at h1
  split at h1
  · exact h2.warmF hW
  · exact h2.warmM hW
  · exact va_AO.moved hW.alike h2
  · cases h1
theorem x_Nx.same {NX : List Jvm.Cond} (hn : ∀ w ∈ NX, x_isNx w = true) {s U : State} (hv : s.vm = U.vm) (h : x_Nx NX s) : x_Nx NX U := by
  intro w hw
  have h1 := hn w hw
  have h2 := h w hw
  unfold x_isNx at h1
  split at h1
  · exact h2.same rfl hv
  · exact h2.same rfl hv
  · exact va_AO.moved (by rw [hv]; exact Vm.Alike.refl _) h2
  · cases h1
/-- rows are what the code decodes to -/
def x_okR (M : xM) : Prop := ∀ q ∈ M.2.2.2.2.2.1.flatten, decode M.2.1 q.1 = .ok (q.2.1, q.2.2) ∧ x_lok q.2.1 q.2.2 = true
/-- a method is what the tables say: its word, its rows -/
def x_okM (Ts : List Jvm.Cond) (M : xM) : Prop := Cond.code M.1 M.2.1 M.2.2.1 M.2.2.2.1 ∈ Ts ∧ plainName M.1.cls = true ∧ (M.1.cls ≠ "java/lang/invoke/MethodHandle" ∧ M.1.cls ≠ "java/lang/invoke/VarHandle") ∧ (M.2.2.2.2.1 = 2 → M.1.name = "<init>") ∧ M.2.2.1 ≤ 45 ∧
  x_okR M
def x_np (M : xM) (n : Nat) : Prop := (parseMethodDescriptor M.1.desc).map (fun d => d.parameters.length) = some n
/-- a pool entry is what the tables say -/
def x_okL (cl : List vw_C) (MT : List xM) (Ts NX : List Jvm.Cond) (own : String) (i : Nat) (q : xL) : Prop := match q.1 with
  | 0 => x_okF cl Ts own i q.2 false
  | 1 => x_okF cl Ts own i q.2 true ∧ ∃ (C : String) (T : u_T) (N : Nat), cl[q.2.1]? = some (C, T, N) ∧ C = own
  | 2 => x_okFN cl NX own i q.2
  | 16 => x_okF cl Ts own i q.2 true
  | 3 => ∃ (M : xM) (ci : Nat) (C : String) (T : u_T) (N : Nat), MT[q.2.1]? = some M ∧ q.2.2.2 = (ci : Int) ∧ cl[ci]? = some (C, T, N) ∧ M.1.cls = C ∧ x_np M q.2.2.1 ∧ Cond.methodLink own i M.1 ∈ Ts ∧ Cond.instanceMethod M.1 ∈ Ts ∧ Cond.selects C M.1 M.1 ∈ Ts ∧ Cond.initialized C ∈ Ts
  | 4 => ∃ (M : xM) (ci : Nat) (C host : String) (T : u_T) (N : Nat), MT[q.2.1]? = some M ∧ q.2.2.2 = (ci : Int) ∧ cl[ci]? = some (C, T, N) ∧ M.1.cls = C ∧ x_np M q.2.2.1 ∧ Cond.methodLinkNest own i M.1 host ∈ NX ∧ Cond.instanceMethod M.1 ∈ Ts ∧ Cond.selects C M.1 M.1 ∈ Ts ∧ Cond.initialized C ∈ Ts
  | 5 => ∃ M : xM, MT[q.2.1]? = some M ∧ x_np M q.2.2.1 ∧ Cond.methodLink own i M.1 ∈ Ts ∧ Cond.static M.1 ∈ Ts ∧ Cond.initialized M.1.cls ∈ Ts
  | 6 => ∃ (M : xM) (host : String), MT[q.2.1]? = some M ∧ x_np M q.2.2.1 ∧ Cond.methodLinkNest own i M.1 host ∈ NX ∧ Cond.static M.1 ∈ Ts ∧ Cond.initialized M.1.cls ∈ Ts
  | 7 => ∃ M : xM, MT[q.2.1]? = some M ∧ x_np M q.2.2.1 ∧ M.1.name = "<init>" ∧ M.2.2.2.1 = none ∧ Cond.methodLink own i M.1 ∈ Ts ∧ Cond.instanceMethod M.1 ∈ Ts ∧ Cond.initialized M.1.cls ∈ Ts
  | 8 => ∃ (M : xM) (host : String), MT[q.2.1]? = some M ∧ x_np M q.2.2.1 ∧ M.1.name = "<init>" ∧ M.2.2.2.1 = none ∧ Cond.methodLinkNest own i M.1 host ∈ NX ∧ Cond.instanceMethod M.1 ∈ Ts ∧ Cond.initialized M.1.cls ∈ Ts
  | 9 => Cond.methodLink own i objectInit ∈ Ts ∧ Cond.instanceMethod objectInit ∈ Ts ∧ Cond.code objectInit ⟨#[0xb1]⟩ 1 none ∈ Ts
  | 10 => Cond.methodLink own i Lib.Math.max.name ∈ Ts ∧ Cond.static Lib.Math.max.name ∈ Ts ∧ Cond.initialized "java/lang/Math" ∈ Ts ∧ Cond.code Lib.Math.max.name Lib.Math.max.code 2 (some .int) ∈ Ts
  | 11 => Cond.methodLink own i Lib.Math.min.name ∈ Ts ∧ Cond.static Lib.Math.min.name ∈ Ts ∧ Cond.initialized "java/lang/Math" ∈ Ts ∧ Cond.code Lib.Math.min.name Lib.Math.min.code 2 (some .int) ∈ Ts
  | 12 => ∃ (C : String) (T : u_T) (N : Nat), cl[q.2.1]? = some (C, T, N) ∧ Cond.classLink own i C ∈ Ts ∧ (4 ≤ q.2.2.1 → q.2.2.1 < 7 ∧ x_ty q.2.2.1 = .object C ∧ Cond.arrayOver (.object C) ∈ NX)
  | 14 => Cond.constant own i (Int32.ofInt q.2.2.2) ∈ Ts
  | 15 => Cond.constantLong own i (Int64.ofInt q.2.2.2) ∈ Ts
  | 99 => True
  | _ => False
/-- a method table is what the tables say -/
def x_okT (cl : List vw_C) (MT : List xM) (Ts NX : List Jvm.Cond) : Prop := ∀ (j : Nat) (M : xM), MT[j]? = some M → x_okM Ts M ∧ ∀ q ∈ M.2.2.2.2.2.2.flatten, x_okL cl MT Ts NX M.1.cls q.1 q.2
theorem x_lookup {α : Type} (l : List (Nat × α)) (i : Nat) (v : α) (h : l.lookup i = some v) : (i, v) ∈ l := by
  induction l with
  | nil => cases h
  | cons a t ih =>
    obtain ⟨k, w⟩ := a
    simp only [List.lookup] at h
    split at h
    · next he =>
      have hk : i = k := by simpa using he
      have hv : w = v := Option.some.inj h
      rw [hk, hv]
      exact List.mem_cons_self
    · exact List.mem_cons_of_mem _ (ih h)
theorem x_find_in {α : Type} {l : List (List (Nat × α))} {i : Nat} {v : α} (h : x_find l i = some v) : (i, v) ∈ l.flatten := by
  unfold x_find at h
  split at h
  · next d hd => exact List.mem_flatten.mpr ⟨d, List.mem_of_getElem? hd, x_lookup _ _ _ h⟩
  · cases h
theorem x_pool_ok {cl : List vw_C} {MT : List xM} {Ts NX : List Jvm.Cond} {M : xM} (h : ∀ q ∈ M.2.2.2.2.2.2.flatten, x_okL cl MT Ts NX M.1.cls q.1 q.2) (i : Nat) : x_okL cl MT Ts NX M.1.cls i (x_pool M i) := by
  unfold x_pool
  split
  · next q hq => exact h (i, q) (x_find_in hq)
  · trivial
theorem x_row_ok {M : xM} (h : x_okR M) {pc : Nat} {ins : Instr} {len : Nat} (hr : x_row M pc = some (ins, len)) : decode M.2.1 pc = .ok (ins, len) ∧ x_lok ins len = true :=
  h (pc, ins, len) (x_find_in hr)
