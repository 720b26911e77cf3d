/-! What is asked of classes, methods and pools, as programs that answer true. -/
def x_has (Ch : Nat → List Jvm.Cond) (i : Nat) (w : Jvm.Cond) : Bool := decide ((Ch (i / 1000))[i % 1000]? = some w) && goodWord w
/-- the chunks' words are among the tables' good ones -/
def x_chs (Ch : Nat → List Jvm.Cond) (Ts : List Jvm.Cond) : Prop := ∀ (c : Nat) (w : Jvm.Cond), w ∈ Ch c → goodWord w = true → w ∈ Ts
theorem x_has_ok {Ch : Nat → List Jvm.Cond} {Ts : List Jvm.Cond} (hch : x_chs Ch Ts) {i : Nat} {w : Jvm.Cond} (h : x_has Ch i w = true) : w ∈ Ts := by
  unfold x_has at h
  simp only [Bool.and_eq_true, decide_eq_true_eq] at h
  exact hch _ w (List.mem_of_getElem? h.1) h.2
def x_hasN (Ch : Nat → List Jvm.Cond) (i : Nat) (w : Jvm.Cond) : Bool := decide ((Ch (i / 1000))[i % 1000]? = some w) && x_isNx w
def x_chn (Ch : Nat → List Jvm.Cond) (NX : List Jvm.Cond) : Prop := ∀ (c : Nat) (w : Jvm.Cond), w ∈ Ch c → x_isNx w = true → w ∈ NX
theorem x_hasN_ok {Ch : Nat → List Jvm.Cond} {NX : List Jvm.Cond} (hcn : x_chn Ch NX) {i : Nat} {w : Jvm.Cond} (h : x_hasN Ch i w = true) : w ∈ NX := by
  unfold x_hasN at h
  simp only [Bool.and_eq_true, decide_eq_true_eq] at h
  exact hcn _ w (List.mem_of_getElem? h.1) h.2
def x_ckT (d : String) (tc : Int) : Bool := match parseFieldDescriptor d with
  | some .int => decide (tc = 0)
  | some .long => decide (tc = 1)
  | some .boolean => decide (tc = 2)
  | some (.object _) => decide (tc = 3)
  | some (.array _) => decide (tc = 3)
  | _ => false
theorem x_ckT_ok {d : String} {tc : Int} (h : x_ckT d tc = true) : x_tyOk d tc := by
  unfold x_ckT at h
  split at h
  · next hp => exact ⟨_, hp, Or.inl ⟨of_decide_eq_true h, rfl⟩⟩
  · next hp => exact ⟨_, hp, Or.inr (Or.inl ⟨of_decide_eq_true h, rfl⟩)⟩
  · next hp => exact ⟨_, hp, Or.inr (Or.inr (Or.inl ⟨of_decide_eq_true h, rfl⟩))⟩
  · next hp => exact ⟨_, hp, Or.inr (Or.inr (Or.inr ⟨of_decide_eq_true h, Or.inl ⟨_, rfl⟩⟩))⟩
  · next hp => exact ⟨_, hp, Or.inr (Or.inr (Or.inr ⟨of_decide_eq_true h, Or.inr ⟨_, rfl⟩⟩))⟩
  · cases h
def x_ckF (cl : List vw_C) (Ts : Nat → List Jvm.Cond) (own : String) (i : Nat) (q : Nat × Nat × Int) (fin : Bool) (ix : Nat) : Bool := match cl[q.1]? with
  | some (C, T, N) => decide (q.2.1 < N) && (x_has Ts ix (.fieldLink own i C (T q.2.1).2.1 (T q.2.1).2.2.1) && (decide ((T q.2.1).1 = C) && (decide ((T q.2.1).2.2.2 = fin) && x_ckT (T q.2.1).2.2.1 q.2.2)))
  | none => false
theorem x_ckF_ok {cl : List vw_C} {Ch : Nat → List Jvm.Cond} {Ts : List Jvm.Cond} (hch : x_chs Ch Ts) {own : String} {i : Nat} {q : Nat × Nat × Int} {fin : Bool} {ix : Nat} (h : x_ckF cl Ch own i q fin ix = true) : x_okF cl Ts own i q fin := by
  unfold x_ckF at h
  split at h
  · next C T N hc =>
    simp only [Bool.and_eq_true, decide_eq_true_eq] at h
    exact ⟨C, T, N, hc, h.1, x_has_ok hch h.2.1, h.2.2.1, h.2.2.2.1, x_ckT_ok h.2.2.2.2⟩
  · cases h
def x_ckNp (M : xM) (n : Nat) : Bool := decide ((parseMethodDescriptor M.1.desc).map (fun d => d.parameters.length) = some n)
theorem x_npOk {M : xM} {n : Nat} (h : x_ckNp M n = true) : x_np M n := of_decide_eq_true (p := (parseMethodDescriptor M.1.desc).map (fun d => d.parameters.length) = some n) h
def x_ckO (cl : List vw_C) (ci : Nat) (own : String) : Bool := match cl[ci]? with
  | some (C, _, _) => decide (C = own)
  | none => false
/-- a pool entry, with the places of its words -/
def x_ckL (cl : List vw_C) (MT : List xM) (Ts : Nat → List Jvm.Cond) (own : String) (i : Nat) (q : xL) (ix : List Nat) (host : String) : Bool := match q.1 with
  | 0 => x_ckF cl Ts own i q.2 false (ix.getD 0 0)
  | 1 => x_ckF cl Ts own i q.2 true (ix.getD 0 0) && x_ckO cl q.2.1 own
  | 2 => (match cl[q.2.1]? with
    | some (C, T, N) => decide (q.2.2.1 < N) && (x_hasN Ts (ix.getD 0 0) (.fieldLinkNest own i C (T q.2.2.1).2.1 (T q.2.2.1).2.2.1 host) && decide ((T q.2.2.1).1 = C))
    | none => false)
  | 16 => x_ckF cl Ts own i q.2 true (ix.getD 0 0)
  | 3 => (match MT[q.2.1]?, cl[q.2.2.2.toNat]? with
    | some M, some (C, _, _) => decide (0 ≤ q.2.2.2) && (decide (M.1.cls = C) && (x_ckNp M q.2.2.1 && (x_has Ts (ix.getD 0 0) (.methodLink own i M.1) && (x_has Ts (ix.getD 1 0) (.instanceMethod M.1) && (x_has Ts (ix.getD 2 0) (.selects C M.1 M.1) && x_has Ts (ix.getD 3 0) (.initialized C))))))
    | _, _ => false)
  | 4 => (match MT[q.2.1]?, cl[q.2.2.2.toNat]? with
    | some M, some (C, _, _) => decide (0 ≤ q.2.2.2) && (decide (M.1.cls = C) && (x_ckNp M q.2.2.1 && (x_hasN Ts (ix.getD 0 0) (.methodLinkNest own i M.1 host) && (x_has Ts (ix.getD 1 0) (.instanceMethod M.1) && (x_has Ts (ix.getD 2 0) (.selects C M.1 M.1) && x_has Ts (ix.getD 3 0) (.initialized C))))))
    | _, _ => false)
  | 5 => (match MT[q.2.1]? with
    | some M => x_ckNp M q.2.2.1 && (x_has Ts (ix.getD 0 0) (.methodLink own i M.1) && (x_has Ts (ix.getD 1 0) (.static M.1) && x_has Ts (ix.getD 2 0) (.initialized M.1.cls)))
    | _ => false)
  | 6 => (match MT[q.2.1]? with
    | some M => x_ckNp M q.2.2.1 && (x_hasN Ts (ix.getD 0 0) (.methodLinkNest own i M.1 host) && (x_has Ts (ix.getD 1 0) (.static M.1) && x_has Ts (ix.getD 2 0) (.initialized M.1.cls)))
    | _ => false)
  | 7 => (match MT[q.2.1]? with
    | some M => x_ckNp M q.2.2.1 && (decide (M.1.name = "<init>") && (decide (M.2.2.2.1 = none) && (x_has Ts (ix.getD 0 0) (.methodLink own i M.1) && (x_has Ts (ix.getD 1 0) (.instanceMethod M.1) && x_has Ts (ix.getD 2 0) (.initialized M.1.cls)))))
    | _ => false)
  | 8 => (match MT[q.2.1]? with
    | some M => x_ckNp M q.2.2.1 && (decide (M.1.name = "<init>") && (decide (M.2.2.2.1 = none) && (x_hasN Ts (ix.getD 0 0) (.methodLinkNest own i M.1 host) && (x_has Ts (ix.getD 1 0) (.instanceMethod M.1) && x_has Ts (ix.getD 2 0) (.initialized M.1.cls)))))
    | _ => false)
  | 9 => x_has Ts (ix.getD 0 0) (.methodLink own i objectInit) && (x_has Ts (ix.getD 1 0) (.instanceMethod objectInit) && x_has Ts (ix.getD 2 0) (.code objectInit ⟨#[0xb1]⟩ 1 none))
  | 10 => x_has Ts (ix.getD 0 0) (.methodLink own i Lib.Math.max.name) && (x_has Ts (ix.getD 1 0) (.static Lib.Math.max.name) && (x_has Ts (ix.getD 2 0) (.initialized "java/lang/Math") && x_has Ts (ix.getD 3 0) (.code Lib.Math.max.name Lib.Math.max.code 2 (some .int))))
  | 11 => x_has Ts (ix.getD 0 0) (.methodLink own i Lib.Math.min.name) && (x_has Ts (ix.getD 1 0) (.static Lib.Math.min.name) && (x_has Ts (ix.getD 2 0) (.initialized "java/lang/Math") && x_has Ts (ix.getD 3 0) (.code Lib.Math.min.name Lib.Math.min.code 2 (some .int))))
  | 12 => (match cl[q.2.1]? with
    | some (C, _, _) => x_has Ts (ix.getD 0 0) (.classLink own i C) && (decide (q.2.2.1 < 4) || (decide (q.2.2.1 < 7) && (decide (x_ty q.2.2.1 = .object C) && x_hasN Ts (ix.getD 1 0) (.arrayOver (.object C)))))
    | none => false)
  | 14 => x_has Ts (ix.getD 0 0) (.constant own i (Int32.ofInt q.2.2.2))
  | 15 => x_has Ts (ix.getD 0 0) (.constantLong own i (Int64.ofInt q.2.2.2))
  | 99 => true
  | _ => false
set_option maxHeartbeats 4000000 in
theorem x_ckL_ok {cl : List vw_C} {MT : List xM} {Ch : Nat → List Jvm.Cond} {Ts NX : List Jvm.Cond} (hch : x_chs Ch Ts) (hcn : x_chn Ch NX) {own : String} {i : Nat} {q : xL} {ix : List Nat} {host : String} (h : x_ckL cl MT Ch own i q ix host = true) : x_okL cl MT Ts NX own i q := by
  unfold x_ckL at h
  unfold x_okL
  split at h
  · next hk => rw [hk]; exact x_ckF_ok hch h
  · next hk =>
    rw [hk]
    simp only [Bool.and_eq_true] at h
    refine ⟨x_ckF_ok hch h.1, ?_⟩
    have h2 := h.2
    unfold x_ckO at h2
    split at h2
    · next C T N hc => exact ⟨C, T, N, hc, of_decide_eq_true h2⟩
    · cases h2
  · next hk =>
    rw [hk]
    split at h
    · next C T N hc =>
      simp only [Bool.and_eq_true, decide_eq_true_eq] at h
      exact ⟨C, host, T, N, hc, h.1, x_hasN_ok hcn h.2.1, h.2.2⟩
    · cases h
  · next hk => rw [hk]; exact x_ckF_ok hch h
  · next hk =>
    rw [hk]
    split at h
    · next M C T N hM hc =>
      simp only [Bool.and_eq_true, decide_eq_true_eq] at h
      obtain ⟨h0, h1, h2, h3, h4, h5, h6⟩ := h
      exact ⟨M, q.2.2.2.toNat, C, T, N, hM, (Int.toNat_of_nonneg h0).symm, hc, h1, x_npOk h2, x_has_ok hch h3, x_has_ok hch h4, x_has_ok hch h5, x_has_ok hch h6⟩
    · cases h
  · next hk =>
    rw [hk]
    split at h
    · next M C T N hM hc =>
      simp only [Bool.and_eq_true, decide_eq_true_eq] at h
      obtain ⟨h0, h1, h2, h3, h4, h5, h6⟩ := h
      exact ⟨M, q.2.2.2.toNat, C, host, T, N, hM, (Int.toNat_of_nonneg h0).symm, hc, h1, x_npOk h2, x_hasN_ok hcn h3, x_has_ok hch h4, x_has_ok hch h5, x_has_ok hch h6⟩
    · cases h
  · next hk =>
    rw [hk]
    split at h
    · next M hM =>
      simp only [Bool.and_eq_true, decide_eq_true_eq] at h
      obtain ⟨h2, h3, h4, h5⟩ := h
      exact ⟨M, hM, x_npOk h2, x_has_ok hch h3, x_has_ok hch h4, x_has_ok hch h5⟩
    · cases h
  · next hk =>
    rw [hk]
    split at h
    · next M hM =>
      simp only [Bool.and_eq_true, decide_eq_true_eq] at h
      obtain ⟨h2, h3, h4, h5⟩ := h
      exact ⟨M, host, hM, x_npOk h2, x_hasN_ok hcn h3, x_has_ok hch h4, x_has_ok hch h5⟩
    · cases h
  · next hk =>
    rw [hk]
    split at h
    · next M hM =>
      simp only [Bool.and_eq_true, decide_eq_true_eq] at h
      obtain ⟨h2, h0, h1, h3, h4, h5⟩ := h
      exact ⟨M, hM, x_npOk h2, h0, h1, x_has_ok hch h3, x_has_ok hch h4, x_has_ok hch h5⟩
    · cases h
  · next hk =>
    rw [hk]
    split at h
    · next M hM =>
      simp only [Bool.and_eq_true, decide_eq_true_eq] at h
      obtain ⟨h2, h0, h1, h3, h4, h5⟩ := h
      exact ⟨M, host, hM, x_npOk h2, h0, h1, x_hasN_ok hcn h3, x_has_ok hch h4, x_has_ok hch h5⟩
    · cases h
  · next hk =>
    rw [hk]
    simp only [Bool.and_eq_true] at h
    exact ⟨x_has_ok hch h.1, x_has_ok hch h.2.1, x_has_ok hch h.2.2⟩
  · next hk =>
    rw [hk]
    simp only [Bool.and_eq_true] at h
    exact ⟨x_has_ok hch h.1, x_has_ok hch h.2.1, x_has_ok hch h.2.2.1, x_has_ok hch h.2.2.2⟩
  · next hk =>
    rw [hk]
    simp only [Bool.and_eq_true] at h
    exact ⟨x_has_ok hch h.1, x_has_ok hch h.2.1, x_has_ok hch h.2.2.1, x_has_ok hch h.2.2.2⟩
  · next hk =>
    rw [hk]
    split at h
    · next C T N hc =>
      simp only [Bool.and_eq_true, Bool.or_eq_true, decide_eq_true_eq] at h
      refine ⟨C, T, N, hc, x_has_ok hch h.1, fun h4 => ?_⟩
      rcases h.2 with h2 | h2
      · omega
      · exact ⟨h2.1, h2.2.1, x_hasN_ok hcn h2.2.2⟩
    · cases h
  · next hk => rw [hk]; exact x_has_ok hch h
  · next hk => rw [hk]; exact x_has_ok hch h
  · next hk => rw [hk]; trivial
  · cases h
def x_ckM (Ts : Nat → List Jvm.Cond) (M : xM) (ix : Nat) : Bool := x_has Ts ix (.code M.1 M.2.1 M.2.2.1 M.2.2.2.1) && (plainName M.1.cls && (decide (M.1.cls ≠ "java/lang/invoke/MethodHandle") && (decide (M.1.cls ≠ "java/lang/invoke/VarHandle") && (decide (M.2.2.2.2.1 = 2 → M.1.name = "<init>") && (decide (M.2.2.1 ≤ 45) && M.2.2.2.2.2.1.flatten.all fun q => decide (decode M.2.1 q.1 = .ok (q.2.1, q.2.2)) && x_lok q.2.1 q.2.2)))))
theorem x_ckM_ok {Ch : Nat → List Jvm.Cond} {Ts : List Jvm.Cond} (hch : x_chs Ch Ts) {M : xM} {ix : Nat} (h : x_ckM Ch M ix = true) : x_okM Ts M := by
  unfold x_ckM at h
  simp only [Bool.and_eq_true] at h
  obtain ⟨h1, h2, h3, h4, h5, h6, h7⟩ := h
  refine ⟨x_has_ok hch h1, h2, ⟨of_decide_eq_true h3, of_decide_eq_true h4⟩, of_decide_eq_true h5, of_decide_eq_true h6, fun q hq => ?_⟩
  have := List.all_eq_true.mp h7 q hq
  simp only [Bool.and_eq_true] at this
  exact ⟨of_decide_eq_true this.1, this.2⟩
/-- a pool with the places of the words -/
abbrev xA : Type := List (List (Nat × xL × List Nat × String))
def x_plain (A : xA) : List (List (Nat × xL)) := A.map fun d => d.map fun q => (q.1, q.2.1)
def x_ckA (cl : List vw_C) (MT : List xM) (Ts : Nat → List Jvm.Cond) (own : String) (A : xA) : Bool := A.flatten.all fun q => x_ckL cl MT Ts own q.1 q.2.1 q.2.2.1 q.2.2.2
theorem x_ckA_ok {cl : List vw_C} {MT : List xM} {Ch : Nat → List Jvm.Cond} {Ts NX : List Jvm.Cond} (hch : x_chs Ch Ts) (hcn : x_chn Ch NX) {own : String} {A : xA} (h : x_ckA cl MT Ch own A = true) : ∀ q ∈ (x_plain A).flatten, x_okL cl MT Ts NX own q.1 q.2 := by
  intro q hq
  obtain ⟨d, hd, hqd⟩ := List.mem_flatten.mp hq
  obtain ⟨d0, hd0, rfl⟩ := List.mem_map.mp hd
  obtain ⟨a, ha, rfl⟩ := List.mem_map.mp hqd
  exact x_ckL_ok hch hcn (List.all_eq_true.mp h a (List.mem_flatten.mpr ⟨d0, hd0, ha⟩))
def x_ckC (Ts : Nat → List Jvm.Cond) (C : String) (T : u_T) (N : Nat) (ixs : List Nat) (ii ij : Nat) : Bool := decide (ixs.length = N) && (((List.range N).all fun k => x_has Ts (ixs.getD k 0) (u_lay C T k)) && (x_has Ts ii (.instantiable C N) && x_has Ts ij (.initialized C)))
theorem x_ckC_ok {Ch : Nat → List Jvm.Cond} {Ts : List Jvm.Cond} (hch : x_chs Ch Ts) {C : String} {T : u_T} {N : Nat} {ixs : List Nat} {ii ij : Nat} (h : x_ckC Ch C T N ixs ii ij = true) : (∀ w ∈ u_ws C T N, w ∈ Ts) ∧ Cond.instantiable C N ∈ Ts ∧ Cond.initialized C ∈ Ts := by
  unfold x_ckC at h
  simp only [Bool.and_eq_true] at h
  obtain ⟨-, h1, h2, h3⟩ := h
  refine ⟨fun w hw => ?_, x_has_ok hch h2, x_has_ok hch h3⟩
  obtain ⟨k, hk, rfl⟩ := List.mem_map.mp hw
  exact x_has_ok hch (List.all_eq_true.mp h1 k hk)
