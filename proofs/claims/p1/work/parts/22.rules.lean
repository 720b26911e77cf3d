/-! Rules for runs with unknown numbers. -/
section XRU
variable {d : Nat} {scr : Option (Nat × (Nat → Int32))} {M : xM} {pc pc' : Nat} {L L' : xLs} {st st' : List Value} {S S' : xS} {Q : Option Value → xS → Prop}
theorem g_brT {c : Prop} {dc : Decidable c} {t f : Nat} (h : x_st0 scr M (pc, L, st, S) = some (@ite _ c dc t f, L', st', S)) (hc : c) (kk : x_go d scr M t L' st' S Q) : x_go d scr M pc L st S Q := g_br h (fun _ => kk) (fun q => absurd hc q)
theorem g_brF {c : Prop} {dc : Decidable c} {t f : Nat} (h : x_st0 scr M (pc, L, st, S) = some (@ite _ c dc t f, L', st', S)) (hc : ¬ c) (kk : x_go d scr M f L' st' S Q) : x_go d scr M pc L st S Q := g_br h (fun q => absurd q hc) (fun _ => kk)
theorem g_s0 (h : x_st0 scr M (pc, L, st, S) = some (pc', L', st', S')) (kk : x_go d scr M pc' L' st' S' Q) : x_go d scr M pc L st S Q := g_step (m1 := 0) (fun _ _ => x_st0_step _ h) kk
theorem x_st0_heap {ins : Instr} {len : Nat} (hr : x_row M pc = some (ins, len)) (h1 : x_isRet ins = false) (hp : x_pure ins len pc L st = none) : x_st0 scr M (pc, L, st, S) = x_heap x_df scr M ins pc L st S := by
  unfold x_st0
  simp only [hr]
  rw [if_neg (by rw [h1]; decide)]
  simp only [hp]
/-- a field -/
theorem g_get {i kd ci k a : Nat} {tc : Int} {fs : List Value} {v : Value} (hr : x_row M pc = some (.getfield i, 3)) (hp : x_pool M i = (kd, ci, k, tc)) (hk : kd ≤ 2 ∨ kd = 16) (ho : x_obj S a = some (ci, fs)) (hv : fs[k]? = some v) (kk : x_go d scr M (pc + 3) L (v :: st) S Q) : x_go d scr M pc L (.ref a :: st) S Q := by
  refine g_s0 (pc' := pc + 3) (L' := L) (st' := v :: st) (S' := S) ?_ kk
  rw [x_st0_heap hr rfl rfl]
  show x_get M i pc L (.ref a :: st) S = _
  unfold x_get
  simp only [hp, ho, hv]
  rw [if_pos hk, if_pos trivial]
theorem g_put {i kd ci k a : Nat} {tc : Int} {fs : List Value} {v : Value} (hr : x_row M pc = some (.putfield i, 3)) (hp : x_pool M i = (kd, ci, k, tc)) (hk : kd = 0 ∨ (kd = 1 ∧ M.2.2.2.2.1 = 2)) (ho : x_obj S a = some (ci, fs)) (hl : k < fs.length) (hv : x_fit tc v = true) (kk : x_go d scr M (pc + 3) L st (S.set a (.inl (ci, fs.set k v))) Q) : x_go d scr M pc L (v :: .ref a :: st) S Q := by
  refine g_s0 (pc' := pc + 3) (L' := L) (st' := st) (S' := S.set a (.inl (ci, fs.set k v))) ?_ kk
  rw [x_st0_heap hr rfl rfl]
  show x_put M i pc L (v :: .ref a :: st) S = _
  unfold x_put
  simp only [hp, ho]
  rw [if_pos hk, if_pos ⟨trivial, hl, hv⟩]
theorem g_len {a t n : Nat} {c : (Nat → Int32) ⊕ (Nat → Int64) ⊕ (Nat → UInt32) ⊕ (Nat → UInt64) ⊕ (Nat → Option Nat)} (hr : x_row M pc = some (.arraylength, 1)) (ha : x_arr S a = some (t, n, c)) (ht : t ≤ 6) (kk : x_go d scr M (pc + 1) L (.int (Int32.ofNat n) :: st) S Q) : x_go d scr M pc L (.ref a :: st) S Q := by
  refine g_s0 (pc' := pc + 1) (L' := L) (st' := .int (Int32.ofNat n) :: st) (S' := S) ?_ kk
  rw [x_st0_heap hr rfl rfl]
  show x_alen scr pc L (.ref a :: st) S = _
  unfold x_alen
  simp only [ha]
  rw [if_pos ht]
theorem g_ia {a n : Nat} {i v : Int32} {f : Nat → Int32} (hr : x_row M pc = some (.iaload, 1)) (ha : x_arr S a = some (0, n, .inl f)) (hi : x_in i n) (hv : f i.toNatClampNeg = v) (kk : x_go d scr M (pc + 1) L (.int v :: st) S Q) : x_go d scr M pc L (.int i :: .ref a :: st) S Q := by
  refine g_s0 (pc' := pc + 1) (L' := L) (st' := .int v :: st) (S' := S) ?_ kk
  rw [x_st0_heap hr rfl rfl]
  show x_iald scr pc L (.int i :: .ref a :: st) S = _
  unfold x_iald
  simp only [ha]
  rw [if_pos hi, hv]
theorem g_ba {a n : Nat} {i v : Int32} {f : Nat → Int32} (hr : x_row M pc = some (.baload, 1)) (ha : x_arr S a = some (2, n, .inl f)) (hi : x_in i n) (hv : f i.toNatClampNeg = v) (kk : x_go d scr M (pc + 1) L (.int v :: st) S Q) : x_go d scr M pc L (.int i :: .ref a :: st) S Q := by
  refine g_s0 (pc' := pc + 1) (L' := L) (st' := .int v :: st) (S' := S) ?_ kk
  rw [x_st0_heap hr rfl rfl]
  show x_bald pc L (.int i :: .ref a :: st) S = _
  unfold x_bald
  simp only [ha]
  rw [if_pos hi, hv]
theorem g_la {a n : Nat} {i : Int32} {v : Int64} {f : Nat → Int64} (hr : x_row M pc = some (.laload, 1)) (ha : x_arr S a = some (1, n, .inr (.inl f))) (hi : x_in i n) (hv : f i.toNatClampNeg = v) (kk : x_go d scr M (pc + 1) L (.long v :: st) S Q) : x_go d scr M pc L (.int i :: .ref a :: st) S Q := by
  refine g_s0 (pc' := pc + 1) (L' := L) (st' := .long v :: st) (S' := S) ?_ kk
  rw [x_st0_heap hr rfl rfl]
  show x_lald pc L (.int i :: .ref a :: st) S = _
  unfold x_lald
  simp only [ha]
  rw [if_pos hi, hv]
theorem g_aa {t a n v : Nat} {i : Int32} {f : Nat → Option Nat} (hr : x_row M pc = some (.aaload, 1)) (ha : x_arr S a = some (t, n, .inr (.inr (.inr (.inr f))))) (hi : 4 ≤ t ∧ t ≤ 6 ∧ x_in i n) (hv : f i.toNatClampNeg = some v) (kk : x_go d scr M (pc + 1) L (.ref v :: st) S Q) : x_go d scr M pc L (.int i :: .ref a :: st) S Q := by
  refine g_s0 (pc' := pc + 1) (L' := L) (st' := .ref v :: st) (S' := S) ?_ kk
  rw [x_st0_heap hr rfl rfl]
  show x_aald pc L (.int i :: .ref a :: st) S = _
  unfold x_aald
  simp only [ha]
  rw [if_pos hi, hv]
  rfl
theorem g_ls {a n : Nat} {i : Int32} {x : Int64} {f : Nat → Int64} (hr : x_row M pc = some (.lastore, 1)) (ha : x_arr S a = some (1, n, .inr (.inl f))) (hi : x_in i n) (kk : x_go d scr M (pc + 1) L st (S.set a (.inr (1, n, .inr (.inl (vp_updL f i.toNatClampNeg x))))) Q) : x_go d scr M pc L (.long x :: .int i :: .ref a :: st) S Q := by
  refine g_s0 (pc' := pc + 1) (L' := L) (st' := st) (S' := S.set a (.inr (1, n, .inr (.inl (vp_updL f i.toNatClampNeg x))))) ?_ kk
  rw [x_st0_heap hr rfl rfl]
  show x_last pc L (.long x :: .int i :: .ref a :: st) S = _
  unfold x_last
  simp only [ha]
  rw [if_pos hi]
theorem g_bs {a n : Nat} {i x : Int32} {f : Nat → Int32} (hr : x_row M pc = some (.bastore, 1)) (ha : x_arr S a = some (2, n, .inl f)) (hi : x_in i n) (kk : x_go d scr M (pc + 1) L st (S.set a (.inr (2, n, .inl (upd f i.toNatClampNeg (vp_nar .byte x))))) Q) : x_go d scr M pc L (.int x :: .int i :: .ref a :: st) S Q := by
  refine g_s0 (pc' := pc + 1) (L' := L) (st' := st) (S' := S.set a (.inr (2, n, .inl (upd f i.toNatClampNeg (vp_nar .byte x))))) ?_ kk
  rw [x_st0_heap hr rfl rfl]
  show x_bast pc L (.int x :: .int i :: .ref a :: st) S = _
  unfold x_bast
  simp only [ha]
  rw [if_pos hi]
theorem g_swd {dd lo hi : Int} {offs : Array Int} {len : Nat} {x : Int32} (hr : x_row M pc = some (.tableswitch dd lo hi offs, len)) (h : x.toInt < lo ∨ hi < x.toInt) (hp : (pc : Int) + dd = (pc' : Int)) (kk : x_go d scr M pc' L st S Q) : x_go d scr M pc L (.int x :: st) S Q := by
  refine g_s0 (pc' := pc') (L' := L) (st' := st) (S' := S) ?_ kk
  unfold x_st0
  simp only [hr]
  rw [if_neg (by show ¬ (false = true); decide)]
  have : x_pure (.tableswitch dd lo hi offs) len pc L (.int x :: st) = some (pc', L, st) := by
    dsimp only [x_pure]
    rw [if_pos h]
    unfold x_jmp
    rw [hp, if_pos (Int.natCast_nonneg _)]
    rfl
  simp only [this]
end XRU
section XIV
variable {A B k : Int32} {u l u' l' : Int}
theorem x_nlt (h : ¬ A < B) : B ≤ A := Int32.not_lt.mp h
theorem x_nle (h : ¬ A ≤ B) : B < A := Int32.not_le.mp h
theorem x_up_lt (h : A < B) (hB : B.toInt = u + 1) : A.toInt ≤ u := by have := Int32.lt_iff_toInt_lt.mp h; omega
theorem x_up_le (h : A ≤ B) (hB : B.toInt = u) : A.toInt ≤ u := by have := Int32.le_iff_toInt_le.mp h; omega
theorem x_lo_lt (h : A < B) (hA : A.toInt + 1 = l) : l ≤ B.toInt := by have := Int32.lt_iff_toInt_lt.mp h; omega
theorem x_lo_le (h : A ≤ B) (hA : A.toInt = l) : l ≤ B.toInt := by have := Int32.le_iff_toInt_le.mp h; omega
theorem x_lo_ne (h : ¬ A = k) (h1 : l ≤ A.toInt) (hk : k.toInt = l ∧ l' = l + 1) : l' ≤ A.toInt := by
  have : A.toInt ≠ k.toInt := fun q => h (Int32.toInt_inj.mp q)
  omega
theorem x_up_ne (h : ¬ A = k) (h1 : A.toInt ≤ u) (hk : k.toInt = u ∧ u' = u - 1) : A.toInt ≤ u' := by
  have : A.toInt ≠ k.toInt := fun q => h (Int32.toInt_inj.mp q)
  omega
theorem x_sing (h1 : l ≤ A.toInt) (h2 : A.toInt ≤ u) (hk : k.toInt = l ∧ k.toInt = u) : A = k := Int32.toInt_inj.mp (by omega)
theorem x_Tlt (h : A.toInt ≤ u) (h2 : l ≤ B.toInt) (h3 : u < l) : A < B := Int32.lt_iff_toInt_lt.mpr (by omega)
theorem x_Flt (h : l ≤ A.toInt) (h2 : B.toInt ≤ u) (h3 : u ≤ l) : ¬ A < B := fun q => by have := Int32.lt_iff_toInt_lt.mp q; omega
theorem x_Tle (h : A.toInt ≤ u) (h2 : l ≤ B.toInt) (h3 : u ≤ l) : A ≤ B := Int32.le_iff_toInt_le.mpr (by omega)
theorem x_Fle (h : l ≤ A.toInt) (h2 : B.toInt ≤ u) (h3 : u < l) : ¬ A ≤ B := fun q => by have := Int32.le_iff_toInt_le.mp q; omega
theorem x_Ne1 (h : A.toInt ≤ u) (h2 : l ≤ B.toInt) (h3 : u < l) : ¬ A = B := fun q => by subst q; omega
theorem x_Ne2 (h : l ≤ A.toInt) (h2 : B.toInt ≤ u) (h3 : u < l) : ¬ A = B := fun q => by subst q; omega
end XIV
theorem x_at {α : Type} {f : Nat → α} {n : Nat} {l : List α} (h : (List.range n).map f = l) {k : Nat} {v : α} (hv : l[k]? = some v) : f k = v := by
  subst h
  rw [List.getElem?_map] at hv
  cases hk : (List.range n)[k]? with
  | none => rw [hk] at hv; cases hv
  | some q =>
    rw [hk] at hv
    have hq : q = k := by
      have := List.getElem?_eq_some_iff.mp hk
      obtain ⟨h1, h2⟩ := this
      rw [← h2, List.getElem_range]
    subst hq
    exact Option.some.inj hv
/-- the same length, the same room -/
abbrev x_sv (S S' : xS) : Prop := S'.length = S.length ∧ x_slots S' = x_slots S
theorem x_sv_rf (S : xS) : x_sv S S := ⟨rfl, rfl⟩
theorem x_sv_set {W S : xS} {a : Nat} {e0 e : xE} (h : x_sv W S) (hi : S[a]? = some e0) (he : x_sz e = x_sz e0) : x_sv W (S.set a e) := ⟨by rw [List.length_set, h.1], by rw [x_slots_set hi he, h.2]⟩
abbrev x_finI (S0 : xS) (r r2 : Option Value) (S2 : xS) : Prop := ∃ v : Int32, r = some (.int v) ∧ r2 = some (.int v) ∧ x_sv S0 S2
abbrev x_finL (S0 : xS) (r r2 : Option Value) (S2 : xS) : Prop := ∃ v : Int64, r = some (.long v) ∧ r2 = some (.long v) ∧ x_sv S0 S2
theorem x_set_self {S : xS} {a : Nat} {e : xE} (h : S[a]? = some e) : S.set a e = S := by
  apply List.ext_getElem?
  intro k
  by_cases hk : a = k
  · subst hk
    rw [List.getElem?_set_self (List.getElem?_eq_some_iff.mp h).1, h]
  · rw [List.getElem?_set_ne hk]
theorem x_obj_ne {S : xS} {a c : Nat} {e : xE} (h : a ≠ c) : x_obj (S.set c e) a = x_obj S a := by
  unfold x_obj
  rw [List.getElem?_set_ne (fun q => h q.symm)]
theorem x_arr_ne {S : xS} {a c : Nat} {e : xE} (h : a ≠ c) : x_arr (S.set c e) a = x_arr S a := by
  unfold x_arr
  rw [List.getElem?_set_ne (fun q => h q.symm)]
theorem x_arr_at {S : xS} {c : Nat} {q q' : Nat × vp_A} (h : x_arr S c = some q) : x_arr (S.set c (.inr q')) c = some q' := by
  unfold x_arr
  rw [List.getElem?_set_self (List.getElem?_eq_some_iff.mp (x_arr_inv h)).1]
theorem x_obj_at {S : xS} {c : Nat} {q q' : Nat × List Value} (h : x_obj S c = some q) : x_obj (S.set c (.inl q')) c = some q' := by
  unfold x_obj
  rw [List.getElem?_set_self (List.getElem?_eq_some_iff.mp (x_obj_inv h)).1]
theorem x_oa_ne {S : xS} {a c : Nat} {q : Nat × List Value} {q' : Nat × vp_A} (h : x_obj S a = some q) (h2 : x_arr S c = some q') : a ≠ c := by
  intro e
  subst e
  have := x_obj_inv h
  rw [x_arr_inv h2] at this
  cases this
theorem x_i32 {n : Nat} (h : n < 2147483648) : (Int32.ofNat n).toInt = n := Int32.toInt_ofNat_of_lt (by omega)
theorem x_inN {n i : Nat} (hn : n < 2147483648) (h : i < n) : x_in (Int32.ofNat i) n := by
  refine ⟨Int32.le_iff_toInt_le.mpr ?_, ?_⟩
  · rw [x_i32 (by omega)]
    exact Int.natCast_nonneg _
  · unfold Int32.toNatClampNeg
    rw [x_i32 (by omega)]
    exact h
theorem x_ltN {i n : Nat} (hi : i < 2147483648) (hn : n < 2147483648) : (Int32.ofNat i < Int32.ofNat n) ↔ i < n := by
  rw [Int32.lt_iff_toInt_lt, x_i32 hi, x_i32 hn]
  omega
theorem x_leN {i n : Nat} (hi : i < 2147483648) (hn : n < 2147483648) : (Int32.ofNat i ≤ Int32.ofNat n) ↔ i ≤ n := by
  rw [Int32.le_iff_toInt_le, x_i32 hi, x_i32 hn]
  omega
theorem x_addN (i k : Nat) : Int32.ofNat i + Int32.ofNat k = Int32.ofNat (i + k) := (Int32.ofNat_add i k).symm
section XVC
variable {d : Nat} {scr : Option (Nat × (Nat → Int32))} {M : xM} {pc pc' : Nat} {L L' : xLs} {st st' : List Value} {S S' : xS} {Q : Option Value → xS → Prop}
/-- a call of an object's method -/
theorem g_vcall {i kd j np cj a : Nat} {ci : Int} {fs as rest : List Value} (hr : x_row M pc = some (.invokevirtual i, 3)) (hp : x_pool M i = (kd, j, np, ci)) (hk : kd = 3 ∨ kd = 4) (hl : np ≤ st.length) (hd : st.drop np = .ref a :: rest) (has : .ref a :: (st.take np).reverse = as) (ho : x_obj S a = some (cj, fs)) (hc : (cj : Int) = ci) (hw : Nat.ble (x_w rest) 8 = true) (he : x_ev d j as S fun r S1 => x_go d scr M (pc + 3) L (r.toList ++ rest) S1 Q) : x_go d scr M pc L st S Q := by
  subst has
  refine g_call (ins := .invokevirtual i) (len := 3) hr rfl rfl rfl (fun call => ?_) hw he
  dsimp only [x_inv]
  simp only [hp]
  rw [if_pos ⟨hk, hl⟩]
  simp only [hd, ho]
  rw [if_pos hc]
/-- a constructor's row that makes an array and keeps it in a field -/
theorem g_nf {n0 m m' pc3 i k : Nat} {fs : List Value} {S0 A : xS} {e : xE} {lv : List Value} (hl : S0.length = n0) (hA : A.length = m) (hf : fs.length = 311)
    (h1 : ∀ S : xS, x_stn none M 3 (pc, [some (.ref n0)], [], S) = some (pc3, [some (.ref n0)], [.ref S.length, .ref n0], S ++ [e]))
    (hr : x_row M pc3 = some (.putfield i, 3)) (hp : x_pool M i = (1, 12, k, 3)) (hk : M.2.2.2.2.1 = 2) (hlt : k < 311) (hm : m' = n0 + 1 + m)
    (kk : ∀ fs', fs' = fs.set k (.ref m') → fs'.length = 311 → (A ++ [e]).length = m + 1 → x_go d none M (pc3 + 3) [some (.ref n0)] [] (S0 ++ .inl (12, fs') :: (A ++ [e])) Q) : x_go d none M pc [some (.ref n0)] [] (S0 ++ .inl (12, fs) :: A) Q := by
  refine g_n 3 (h1 _) ?_
  have e1 : (S0 ++ .inl (12, fs) :: A : xS).length = m' := by simp [hl, hA, hm]; omega
  have e2 : (S0 ++ .inl (12, fs) :: A : xS) ++ [e] = S0 ++ .inl (12, fs) :: (A ++ [e]) := by simp
  rw [e1, e2]
  have e3 : x_obj (S0 ++ .inl (12, fs) :: (A ++ [e])) n0 = some (12, fs) := by
    unfold x_obj
    rw [List.getElem?_append_right (by omega), hl, Nat.sub_self]
    rfl
  refine g_put hr hp (Or.inr ⟨rfl, hk⟩) e3 (by omega) rfl ?_
  have e4 : (S0 ++ .inl (12, fs) :: (A ++ [e]) : xS).set n0 (.inl (12, fs.set k (.ref m'))) = S0 ++ .inl (12, fs.set k (.ref m')) :: (A ++ [e]) := by
    rw [List.set_append_right _ _ (by omega), hl, Nat.sub_self]
    rfl
  rw [e4]
  exact kk _ rfl (by rw [List.length_set, hf]) (by simp [hA])
end XVC
theorem x_omid {S0 A : xS} {q : Nat × List Value} {n0 : Nat} (h : S0.length = n0) : x_obj (S0 ++ .inl q :: A) n0 = some q := by
  unfold x_obj
  rw [List.getElem?_append_right (by omega), h, Nat.sub_self]
  rfl
theorem x_smid {S0 A : xS} {q : Nat × List Value} {e : xE} {n0 : Nat} (h : S0.length = n0) : (S0 ++ .inl q :: A : xS).set n0 e = S0 ++ e :: A := by
  rw [List.set_append_right _ _ (by omega), h, Nat.sub_self]
  rfl
