/-! More steps and calls don't change what a run comes to; runs of steps that call; the shape of a world. -/
abbrev x_ext (c c' : xO) : Prop := ∀ (j : Nat) (as : List Value) (S : xS) (r : Option Value × xS), c j as S = some r → c' j as S = some r
section XFU
variable {df : List (List Value)} {scr : Option (Nat × (Nat → Int32))} {M : xM} {ins : Instr} {i k pc pc' : Nat} {L L' : xLs} {st st' : List Value} {S S' : xS} {c c' : xO}
theorem x_call_ext (hc : x_ext c c') {j : Nat} {as : List Value} {y : xY} (h : x_call c j as pc L st S = some y) : x_call c' j as pc L st S = some y := by
  unfold x_call at h ⊢
  by_cases hw : x_w st ≤ 8
  · rw [if_pos hw] at h ⊢
    cases hv : c j as S with
    | none => rw [hv] at h; cases h
    | some r =>
      rw [hv] at h
      rw [hc _ _ _ _ hv]
      exact h
  · rw [if_neg hw] at h; cases h
theorem x_inv_ext (hc : x_ext c c') {y : xY} (h : x_inv c M ins pc L st S = some y) : x_inv c' M ins pc L st S = some y := by
  cases ins with
  | invokevirtual i =>
    dsimp only [x_inv] at h ⊢
    generalize x_pool M i = q at h ⊢
    obtain ⟨kd, j, np, ci⟩ := q
    dsimp only at h ⊢
    by_cases h1 : (kd = 3 ∨ kd = 4) ∧ np ≤ st.length
    · rw [if_pos h1] at h ⊢
      generalize st.drop np = l at h ⊢
      cases l with
      | nil => cases h
      | cons v rest =>
        cases v with
        | ref a =>
          dsimp only at h ⊢
          generalize x_obj S a = o at h ⊢
          cases o with
          | none => cases h
          | some q =>
            obtain ⟨cj, fs⟩ := q
            dsimp only at h ⊢
            by_cases h2 : (cj : Int) = ci
            · rw [if_pos h2] at h ⊢; exact x_call_ext hc h
            · rw [if_neg h2] at h; cases h
        | _ => cases h
    · rw [if_neg h1] at h; cases h
  | invokespecial i =>
    dsimp only [x_inv] at h ⊢
    generalize x_pool M i = q at h ⊢
    obtain ⟨kd, j, np, ci⟩ := q
    dsimp only at h ⊢
    by_cases h0 : kd = 9
    · rw [if_pos h0] at h ⊢; exact h
    · rw [if_neg h0] at h ⊢
      by_cases h1 : (kd = 7 ∨ kd = 8) ∧ np ≤ st.length
      · rw [if_pos h1] at h ⊢
        generalize st.drop np = l at h ⊢
        cases l with
        | nil => cases h
        | cons v rest =>
          cases v with
          | ref a => exact x_call_ext hc h
          | _ => cases h
      · rw [if_neg h1] at h; cases h
  | invokestatic i =>
    dsimp only [x_inv] at h ⊢
    generalize x_pool M i = q at h ⊢
    obtain ⟨kd, j, np, ci⟩ := q
    dsimp only at h ⊢
    by_cases h0 : kd = 10
    · rw [if_pos h0] at h ⊢; exact h
    · rw [if_neg h0] at h ⊢
      by_cases h00 : kd = 11
      · rw [if_pos h00] at h ⊢; exact h
      · rw [if_neg h00] at h ⊢
        by_cases h1 : (kd = 5 ∨ kd = 6) ∧ np ≤ st.length
        · rw [if_pos h1] at h ⊢; exact x_call_ext hc h
        · rw [if_neg h1] at h; cases h
  | _ => exact (x_no (show (none : Option xY) = some y from h)).elim
theorem x_step_ext (hc : x_ext c c') {r : xY ⊕ (Option Value × xS)} (h : x_step df scr c M pc L st S = some r) : x_step df scr c' M pc L st S = some r := by
  unfold x_step at h ⊢
  cases hr : x_row M pc with
  | none => simp only [hr] at h; cases h
  | some q =>
    obtain ⟨ins, len⟩ := q
    simp only [hr] at h ⊢
    by_cases h1 : x_isRet ins = true
    · rw [if_pos h1] at h ⊢; exact h
    · rw [if_neg h1] at h ⊢
      cases hp : x_pure ins len pc L st with
      | some y => simp only [hp] at h ⊢; exact h
      | none =>
        simp only [hp] at h ⊢
        cases hh : x_heap df scr M ins pc L st S with
        | some y => simp only [hh] at h ⊢; exact h
        | none =>
          simp only [hh] at h ⊢
          obtain ⟨y, hi, he⟩ := Option.map_eq_some_iff.mp h
          rw [x_inv_ext hc hi]
          exact congrArg some he
theorem x_run_ext (hc : x_ext c c') : ∀ (n n' pc : Nat) (L : xLs) (st : List Value) (S : xS) (r : Option Value × xS), n ≤ n' → x_run df scr c M n pc L st S = some r → x_run df scr c' M n' pc L st S = some r := by
  intro n
  induction n with
  | zero => intro n' pc L st S r _ h; cases h
  | succ n ih =>
    intro n' pc L st S r hn h
    obtain ⟨k, rfl⟩ : ∃ k, n' = k + 1 := ⟨n' - 1, by omega⟩
    unfold x_run at h ⊢
    cases hs : x_step df scr c M pc L st S with
    | none => rw [hs] at h; cases h
    | some q =>
      rw [hs] at h
      rw [x_step_ext hc hs]
      cases q with
      | inr r' => exact h
      | inl y =>
        obtain ⟨pc1, L1, st1, S1⟩ := y
        exact ih _ _ _ _ _ _ (by omega) h
theorem x_do_ext {MT : List xM} {m m' : Nat} (hm : m ≤ m') : ∀ d, x_ext (x_do df MT m d) (x_do df MT m' d) := by
  intro d
  induction d with
  | zero => intro j as S r h; cases h
  | succ d ih =>
    intro j as S r h
    simp only [x_do] at h ⊢
    cases hM : MT[j]? with
    | none => rw [hM] at h; cases h
    | some M =>
      simp only [hM] at h ⊢
      cases hL : x_entry M.2.2.1 as with
      | none => rw [hL] at h; cases h
      | some L =>
        simp only [hL] at h ⊢
        exact x_run_ext ih _ _ _ _ _ _ _ hm h
/-- steps, some of them calls -/
def x_its (df : List (List Value)) (scr : Option (Nat × (Nat → Int32))) (call : xO) (M : xM) : Nat → xY → Option xY
  | 0, y => some y
  | k + 1, (pc, L, st, S) => match x_step df scr call M pc L st S with
    | some (.inl y) => x_its df scr call M k y
    | _ => none
theorem g_its {d m1 : Nat} {Q : Option Value → xS → Prop} (k : Nat) (h : x_its x_df scr (x_do x_df x_MT m1 d) M k (pc, L, st, S) = some (pc', L', st', S')) (kk : x_go d scr M pc' L' st' S' Q) : x_go d scr M pc L st S Q := by
  induction k generalizing pc L st S with
  | zero => cases h; exact kk
  | succ k ih =>
    unfold x_its at h
    cases hs : x_step x_df scr (x_do x_df x_MT m1 d) M pc L st S with
    | none => rw [hs] at h; cases h
    | some q =>
      rw [hs] at h
      cases q with
      | inr r => cases h
      | inl y =>
        obtain ⟨pc1, L1, st1, S1⟩ := y
        exact g_step (m1 := m1) (fun m hm => x_step_ext (x_do_ext hm d) hs) (ih h)
end XFU
abbrev xSh : Type := (Nat × List Value) ⊕ (Nat × Nat × Nat)
def x_shp (e : xE) : xSh := match e with
  | .inl q => .inl q
  | .inr (t, n, .inl _) => .inr (t, n, 0)
  | .inr (t, n, .inr (.inl _)) => .inr (t, n, 1)
  | .inr (t, n, .inr (.inr (.inr (.inr _)))) => .inr (t, n, 2)
  | .inr (t, n, _) => .inr (t, n, 3)
def x_mk (s : xSh) (fi : Nat → Int32) (fl : Nat → Int64) (fr : Nat → Option Nat) : xE := match s with
  | .inl q => .inl q
  | .inr (t, n, 0) => .inr (t, n, .inl fi)
  | .inr (t, n, 1) => .inr (t, n, .inr (.inl fl))
  | .inr (t, n, _) => .inr (t, n, .inr (.inr (.inr (.inr fr))))
def x_ei (e : Option xE) : Nat → Int32 := match e with
  | some (.inr (_, _, .inl f)) => f
  | _ => fun _ => 0
def x_el (e : Option xE) : Nat → Int64 := match e with
  | some (.inr (_, _, .inr (.inl f))) => f
  | _ => fun _ => 0
def x_er (e : Option xE) : Nat → Option Nat := match e with
  | some (.inr (_, _, .inr (.inr (.inr (.inr f))))) => f
  | _ => fun _ => none
def x_k3 (s : xSh) : Bool := match s with
  | .inl _ => true
  | .inr (_, _, k) => Nat.ble k 2
theorem x_mk_shp (e : xE) (h : x_k3 (x_shp e) = true) : x_mk (x_shp e) (x_ei (some e)) (x_el (some e)) (x_er (some e)) = e := by
  match e, h with
  | .inl q, _ => rfl
  | .inr (t, n, .inl f), _ => rfl
  | .inr (t, n, .inr (.inl f)), _ => rfl
  | .inr (t, n, .inr (.inr (.inl f))), h => cases h
  | .inr (t, n, .inr (.inr (.inr (.inl f)))), h => cases h
  | .inr (t, n, .inr (.inr (.inr (.inr f)))), _ => rfl
def x_fil (fi : Nat → Nat → Int32) (fl : Nat → Nat → Int64) (fr : Nat → Nat → Option Nat) : Nat → List xSh → xS
  | _, [] => []
  | k, s :: t => x_mk s (fi k) (fl k) (fr k) :: x_fil fi fl fr (k + 1) t
theorem x_fil_eq (S : xS) : ∀ (T : xS) (k : Nat), (∀ i, S[k + i]? = T[i]?) → (T.map x_shp).all x_k3 = true → x_fil (fun k => x_ei S[k]?) (fun k => x_el S[k]?) (fun k => x_er S[k]?) k (T.map x_shp) = T := by
  intro T
  induction T with
  | nil => intro k _ _; rfl
  | cons e t ih =>
    intro k h h3
    simp only [List.map_cons, List.all_cons, Bool.and_eq_true] at h3
    simp only [List.map_cons, x_fil]
    have h0 : S[k]? = some e := h 0
    rw [ih (k + 1) (fun i => by have := h (i + 1); rw [show k + 1 + i = k + (i + 1) by omega, this]; rfl) h3.2]
    simp only [h0]
    rw [x_mk_shp e h3.1]
/-- a world is its shape and what its arrays hold -/
theorem x_fill {S : xS} {sh : List xSh} (h : S.map x_shp = sh) (h3 : sh.all x_k3 = true) : S = x_fil (fun k => x_ei S[k]?) (fun k => x_el S[k]?) (fun k => x_er S[k]?) 0 sh := by
  subst h
  exact (x_fil_eq S S 0 (fun i => by rw [Nat.zero_add]) h3).symm
def x_wo (r : Option xY) : xS := match r with
  | some (_, _, _, S) => S
  | none => []
def x_wc (r : Option xY) (pc : Nat) (L : xLs) (st : List Value) : Bool := match r with
  | some (pc', L', st', _) => Nat.beq pc' pc && decide (L' = L) && decide (st' = st)
  | none => false
theorem x_wc_ok {r : Option xY} {pc : Nat} {L : xLs} {st : List Value} (h : x_wc r pc L st = true) : r = some (pc, L, st, x_wo r) := by
  unfold x_wc at h
  split at h
  · next pc' L' st' S' =>
    simp only [Bool.and_eq_true] at h
    obtain ⟨⟨h1, h2⟩, h3⟩ := h
    rw [Nat.eq_of_beq_eq_true h1, of_decide_eq_true h2, of_decide_eq_true h3]
    rfl
  · cases h
